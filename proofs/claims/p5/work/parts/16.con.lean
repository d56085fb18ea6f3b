/-! Runs of the list machine are runs of the machine -/
noncomputable def am_ret (rt : Nat) (raw : Instr) (r : Option Value) : Prop := (rt = 0 ∧ raw = .return_ ∧ r = none) ∨ ∃ v, r = some v ∧ am_rok rt v = true ∧ ((raw = .ireturn ∧ (rt = 1 ∨ rt = 2 ∨ rt = 5 ∨ rt = 6)) ∨ (raw = .lreturn ∧ rt = 3) ∨ (raw = .areturn ∧ rt = 4))
theorem am_pc0 : ((List.range 240).all fun k => (am_pcs k).getD 0 0 == 0) = true := by decide +kernel
set_option maxHeartbeats 4000000 in
theorem am_step_mono {cst : List am_E} {op : Instr} {ls ls' : am_L} {st st' : List Value} {mem mem' : List am_E} {j : Option Nat} (h : am_step am_ft cst op ls st mem = some (j, ls', st', mem')) : mem.length ≤ mem'.length ∧ am_sz mem ≤ am_sz mem' := by
  cases op
  case iastore =>
    simp only [am_step] at h
    (repeat' split at h) <;> first | (cases h; done) | skip
    rename_i x ix k r xs hk hin
    simp only [Option.some.injEq, Prod.mk.injEq] at h
    obtain ⟨-, -, -, rfl⟩ := h
    rw [List.length_set, am_sz_set hk (by simp [am_ez])]
    exact ⟨Nat.le_refl _, Nat.le_refl _⟩
  case bastore =>
    simp only [am_step] at h
    (repeat' split at h) <;> first | (cases h; done) | skip
    rename_i x ix k r t xs hk hin
    simp only [Option.some.injEq, Prod.mk.injEq] at h
    obtain ⟨-, -, -, rfl⟩ := h
    rw [List.length_set, am_sz_set hk (by simp [am_ez])]
    exact ⟨Nat.le_refl _, Nat.le_refl _⟩
  case aastore =>
    simp only [am_step] at h
    (repeat' split at h) <;> first | (cases h; done) | skip
    rename_i v ix k r rs fs hk hv hin
    simp only [Option.some.injEq, Prod.mk.injEq] at h
    obtain ⟨-, -, -, rfl⟩ := h
    rw [List.length_set, am_sz_set hk (by simp [am_ez])]
    exact ⟨Nat.le_refl _, Nat.le_refl _⟩
  case putfield f =>
    simp only [am_step] at h
    (repeat' split at h) <;> first | (cases h; done) | skip
    rename_i v k r ci fs ty fin dv hk hft hq
    simp only [Option.some.injEq, Prod.mk.injEq] at h
    obtain ⟨-, -, -, rfl⟩ := h
    rw [List.length_set, am_sz_set hk (by simp [am_ez])]
    exact ⟨Nat.le_refl _, Nat.le_refl _⟩
  case invokedynamic =>
    simp only [am_step] at h
    (repeat' split at h) <;> first | (cases h; done) | skip
    rename_i n dp d sp a r fl gl ha hd hq
    simp only [Option.some.injEq, Prod.mk.injEq] at h
    obtain ⟨-, -, -, rfl⟩ := h
    rw [List.length_set, am_sz_set hd (by simp only [am_ez]; exact am_cpyl_len hq.2.2.2.1 hq.2.2.2.2.1)]
    exact ⟨Nat.le_refl _, Nat.le_refl _⟩
  case new ci =>
    simp only [am_step] at h
    (repeat' split at h) <;> first | (cases h; done) | skip
    simp only [Option.some.injEq, Prod.mk.injEq] at h
    obtain ⟨-, -, -, rfl⟩ := h
    rw [List.length_append, am_sz_app]
    omega
  case newarray a =>
    simp only [am_step] at h
    (repeat' split at h) <;> first | (cases h; done) | skip
    simp only [Option.some.injEq, Prod.mk.injEq] at h
    obtain ⟨-, -, -, rfl⟩ := h
    rw [List.length_append, am_sz_app]
    omega
  case anewarray a =>
    simp only [am_step] at h
    (repeat' split at h) <;> first | (cases h; done) | skip
    simp only [Option.some.injEq, Prod.mk.injEq] at h
    obtain ⟨-, -, -, rfl⟩ := h
    rw [List.length_append, am_sz_app]
    omega
  case multianewarray a b =>
    simp only [am_step] at h
    (repeat' split at h) <;> first | (cases h; done) | skip
    simp only [Option.some.injEq, Prod.mk.injEq] at h
    obtain ⟨-, -, -, rfl⟩ := h
    rw [List.length_append, am_sz_app]
    omega
  all_goals
    simp only [am_step] at h
    (repeat' split at h) <;> first
      | (cases h; done)
      | (simp only [Option.some.injEq, Prod.mk.injEq] at h; obtain ⟨-, -, -, rfl⟩ := h; exact ⟨Nat.le_refl _, Nat.le_refl _⟩)
      | (obtain ⟨st2, -, h2⟩ := Option.map_eq_some_iff.mp h; simp only [Prod.mk.injEq] at h2; obtain ⟨-, -, -, rfl⟩ := h2; exact ⟨Nat.le_refl _, Nat.le_refl _⟩)
theorem am_exec_mono {cst : List am_E} : ∀ {n d mid i : Nat} {ls : am_L} {st : List Value} {mem : List am_E} {r : Option Value} {mem' : List am_E}, am_exec am_ft am_P cst n d mid i ls st mem = some (r, mem') → mem.length ≤ mem'.length ∧ am_sz mem ≤ am_sz mem' := by
  intro n
  induction n with
  | zero => intro d mid i ls st mem r mem' h; cases h
  | succ n ih =>
    intro d mid i ls st mem r mem' h
    unfold am_exec at h
    split at h
    · cases h
    · split at h
      · cases h
      · split at h
        · (repeat' split at h) <;> first | (cases h; done) | (simp only [Option.some.injEq, Prod.mk.injEq] at h; obtain ⟨-, rfl⟩ := h; exact ⟨Nat.le_refl _, Nat.le_refl _⟩)
        · (repeat' split at h) <;> first | (cases h; done) | (simp only [Option.some.injEq, Prod.mk.injEq] at h; obtain ⟨-, rfl⟩ := h; exact ⟨Nat.le_refl _, Nat.le_refl _⟩)
        · split at h
          · split at h
            · split at h
              · rename_i h1
                have a1 := ih h1
                have a2 := ih h
                omega
              · cases h
            · cases h
          · cases h
        · split at h
          · rename_i h1
            have a1 := am_step_mono h1
            have a2 := ih h
            omega
          · cases h
section AMS
variable {p : Program} {l : Launch} {e : Env} {R : Room} {s : State} {m : MethodId} {args : Array Value} {below : List Frame} {meth : Method} {c : Code} {Q : State → Prop} {B : Nat} {ka : Nat → Nat} {D : va_G} {cst : List am_E} {mid n0 z0 : Nat}
set_option maxHeartbeats 4000000 in
theorem am_stepW (C : am_Cx B ka D cst mid n0 p s m args meth c) (hR : 3 ≤ R.frames ∧ 192 ≤ R.locals) (hmid : mid < 240) {i pc len rt : Nat} {op raw : Instr} (hop : op ∈ (am_mq mid).1) {ls ls' : am_L} {st st' : List Value} {mem : List am_E} {j : Option Nat} (hpc : (am_pcs mid).getD i 0 = pc)
    (hdec : decode (am_bytes mid) pc = .ok (raw, len)) (hchk : am_chk (am_on.getD mid 0) rt (am_pcs mid) i op raw pc len = true) (hn0 : n0 ≤ mem.length) (hz0 : z0 ≤ am_sz mem)
    {mem' : List am_E} (hr1 : mem'.length - n0 ≤ R.cells) (hr2 : am_sz mem' - z0 ≤ R.slots) (h : am_step am_ft cst op ls st mem = some (j, ls', st', mem')) (kk : am_G B ka D mid n0 z0 p l e R s m args below meth c Q (j.getD (i + 1)) ls' st' mem') : am_G B ka D mid n0 z0 p l e R s m args below meth c Q i ls st mem := by
  cases op
  case iaload => exact am_stepR C ⟨by omega, by omega⟩ hpc hdec hchk True.intro h kk
  case baload => exact am_stepR C ⟨by omega, by omega⟩ hpc hdec hchk True.intro h kk
  case aaload => exact am_stepR C ⟨by omega, by omega⟩ hpc hdec hchk True.intro h kk
  case arraylength => exact am_stepR C ⟨by omega, by omega⟩ hpc hdec hchk True.intro h kk
  case getfield => exact am_stepR C ⟨by omega, by omega⟩ hpc hdec hchk True.intro h kk
  case monitorenter => exact am_stepR C ⟨by omega, by omega⟩ hpc hdec hchk True.intro h kk
  case monitorexit => exact am_stepK C hR hpc hdec hchk hn0 hr1 hr2 h kk
  case iastore => exact am_stepS C ⟨by omega, by omega⟩ hmid hop hpc hdec hchk True.intro h kk
  case bastore => exact am_stepS C ⟨by omega, by omega⟩ hmid hop hpc hdec hchk True.intro h kk
  case aastore => exact am_stepS C ⟨by omega, by omega⟩ hmid hop hpc hdec hchk True.intro h kk
  case putfield => exact am_stepS C ⟨by omega, by omega⟩ hmid hop hpc hdec hchk True.intro h kk
  case invokedynamic => exact am_stepS C ⟨by omega, by omega⟩ hmid hop hpc hdec hchk True.intro h kk
  case new => exact am_stepN C hpc hdec hchk True.intro hn0 hz0 hr1 hr2 h kk
  case newarray => exact am_stepN C hpc hdec hchk True.intro hn0 hz0 hr1 hr2 h kk
  case anewarray => exact am_stepN C hpc hdec hchk True.intro hn0 hz0 hr1 hr2 h kk
  case multianewarray => exact am_stepN C hpc hdec hchk True.intro hn0 hz0 hr1 hr2 h kk
  case bipush => exact am_stepA C hpc hdec hchk True.intro h kk
  case sipush => exact am_stepA C hpc hdec hchk True.intro h kk
  case ldc => exact am_stepA C hpc hdec hchk True.intro h kk
  case getstatic => exact am_stepA C hpc hdec hchk True.intro h kk
  case iload => exact am_stepA C hpc hdec hchk True.intro h kk
  case lload => exact am_stepA C hpc hdec hchk True.intro h kk
  case aload => exact am_stepA C hpc hdec hchk True.intro h kk
  case istore => exact am_stepA C hpc hdec hchk True.intro h kk
  case lstore => exact am_stepA C hpc hdec hchk True.intro h kk
  case astore => exact am_stepA C hpc hdec hchk True.intro h kk
  case iinc => exact am_stepA C hpc hdec hchk True.intro h kk
  case ifCond => exact am_stepA C hpc hdec hchk True.intro h kk
  case if_icmp => exact am_stepA C hpc hdec hchk True.intro h kk
  case goto => exact am_stepA C hpc hdec hchk True.intro h kk
  case tableswitch => exact am_stepA C hpc hdec hchk True.intro h kk
  case lookupswitch => exact am_stepA C hpc hdec hchk True.intro h kk
  all_goals first
    | exact am_stepA C hpc hdec hchk rfl h kk
    | (exfalso; simp [am_step, am_sop] at h; done)
set_option maxHeartbeats 4000000 in
theorem am_execW (C : am_Cx B ka D cst mid n0 p s m args meth c) (hmid : mid < 240) {r : Option Value} {mem' : List am_E} (hr1 : mem'.length - n0 ≤ R.cells) (hr2 : am_sz mem' - z0 ≤ R.slots)
    (kret : ∀ (i : Nat) (ls : am_L) (raw : Instr), decode (am_bytes mid) ((am_pcs mid).getD i 0) = .ok (raw, 1) → am_ret (am_mq mid).2.2.2.2 raw r → am_G B ka D mid n0 z0 p l e R s m args below meth c Q i ls r.toList mem') :
    ∀ (n d i : Nat) (ls : am_L) (st : List Value) (mem : List am_E), (d + 3 ≤ R.frames ∧ 64 * (d + 3) ≤ R.locals) → (∀ d', d = d' + 1 → am_Con l B ka D cst d') → n0 ≤ mem.length → z0 ≤ am_sz mem → am_exec am_ft am_P cst n d mid i ls st mem = some (r, mem') → am_G B ka D mid n0 z0 p l e R s m args below meth c Q i ls st mem := by
  intro n
  induction n with
  | zero => intro d i ls st mem _ _ _ _ h; cases h
  | succ n ih =>
    intro d i ls st mem hR hCon hn0 hz0 h
    unfold am_exec at h
    split at h
    · cases h
    · rename_i M hM
      obtain ⟨-, rfl⟩ := am_P_get hM
      split at h
      · cases h
      · rename_i op hop
        obtain ⟨raw, pc, len, hpc, hdec, hchk⟩ := am_site hmid hop
        split at h
        · split at h
          · split at h
            · rename_i v hrok
              simp only [Option.some.injEq, Prod.mk.injEq] at h
              obtain ⟨rfl, rfl⟩ := h
              simp only [am_chk] at hchk
              have hq : len = 1 ∧ ((raw = .ireturn ∧ ((am_mq mid).2.2.2.2 = 1 ∨ (am_mq mid).2.2.2.2 = 2 ∨ (am_mq mid).2.2.2.2 = 5 ∨ (am_mq mid).2.2.2.2 = 6)) ∨ (raw = .lreturn ∧ (am_mq mid).2.2.2.2 = 3) ∨ (raw = .areturn ∧ (am_mq mid).2.2.2.2 = 4)) := by
                cases raw with
                | ireturn => simp only [Bool.and_eq_true, beq_iff_eq, Bool.or_eq_true] at hchk; exact ⟨hchk.1, Or.inl ⟨rfl, by have := hchk.2; omega⟩⟩
                | lreturn => simp only [Bool.and_eq_true, beq_iff_eq] at hchk; exact ⟨hchk.1, Or.inr (Or.inl ⟨rfl, hchk.2⟩)⟩
                | areturn => simp only [Bool.and_eq_true, beq_iff_eq] at hchk; exact ⟨hchk.1, Or.inr (Or.inr ⟨rfl, hchk.2⟩)⟩
                | _ => cases hchk
              obtain ⟨rfl, hq⟩ := hq
              exact kret i ls raw (by rw [hpc]; exact hdec) (Or.inr ⟨v, rfl, hrok, hq⟩)
            · cases h
          · cases h
        · split at h
          · split at h
            · rename_i h0
              simp only [Option.some.injEq, Prod.mk.injEq] at h
              obtain ⟨rfl, rfl⟩ := h
              simp only [am_chk] at hchk
              have hq : len = 1 ∧ raw = .return_ := by
                cases raw with
                | return_ => simp only [Bool.and_eq_true, beq_iff_eq] at hchk; exact ⟨hchk.1, rfl⟩
                | _ => cases hchk
              obtain ⟨rfl, rfl⟩ := hq
              exact kret i ls _ (by rw [hpc]; exact hdec) (Or.inl ⟨h0, rfl, rfl⟩)
            · cases h
          · cases h
        · rename_i k
          split at h
          · rename_i d' Cq hPk
            obtain ⟨-, rfl⟩ := am_P_get hPk
            split at h
            · rename_i hq
              obtain ⟨q1, q2, q3, q4⟩ := hq
              split at h
              · rename_i r1 mem1 hex
                have mo1 := am_exec_mono hex
                have mo2 := am_exec_mono h
                intro lsA H locs hl hSt
                rw [hpc]
                obtain ⟨cA, hP, hWK, hS⟩ := hSt
                intro T hT X
                have hh := X.heapSize
                have hsz : s.heap.size = B + n0 := C.2.2.2.2.2.2.2.1
                rw [hT, hsz] at hh
                have hlow : B + mem.length ≤ H.size := by
                  rcases Nat.eq_zero_or_pos mem.length with h0 | h0
                  · have := hS.1
                    omega
                  · have := (hP (mem.length - 1) _ (am_ws_at (List.getElem?_eq_getElem (show mem.length - 1 < mem.length by omega)))).lt
                    simp only at this
                    omega
                have hHs : H.size = B + mem.length := by omega
                obtain ⟨rfl, hrun⟩ := am_run (l := l) (e := e) (below := below) (cells := mem.length - n0) (slots := am_sz mem - z0) C (d := d') (by omega) (hCon d' rfl) hdec hchk q1 q2 q3 q4 hex hl.1 hP hWK hS hHs (by omega)
                obtain ⟨v, st₀, t, T', L, h0, X', hL, e1, e2, ⟨hv, ⟨cA2, hP2, hWK2⟩, hF⟩, step⟩ := hrun T hT X
                injection hv with hv
                subst hv
                have hcy : s.vm.Alike t.vm := by rw [← e2]; exact X'.warmed.alike
                have hS2 : va_S (am_A B) s.heap T'.heap (locs ++ L) := by
                  obtain ⟨g1, g2⟩ := hF
                  rw [h0] at g1 g2
                  refine ⟨by rw [e1]; exact Nat.le_trans hS.1 g1, fun q h1 h2 => by rw [e1, g2 q (Nat.lt_of_lt_of_le h1 hS.1) h2]; exact hS.2.1 q h1 h2, fun q hq => ?_⟩
                  rcases List.mem_append.mp hq with h | h
                  · exact hS.2.2 q h
                  · exact hL q h
                have kk := ih _ _ _ _ _ hR hCon (by omega) (by omega) h lsA T'.heap (locs ++ L) hl ⟨cA2, by rw [e1]; exact hP2, hWK2.moved hcy.symm, hS2⟩
                rw [show mem1.length - n0 = mem.length - n0 + (mem1.length - mem.length) by omega, show am_sz mem1 - z0 = am_sz mem - z0 + (am_sz mem1 - am_sz mem) by omega] at kk
                obtain ⟨t2, a1, b1⟩ := kk T' rfl X'
                refine ⟨t2, step t2 ?_, b1⟩
                simp only [am_chk, Bool.and_eq_true] at hchk
                rw [am_nx_ok hchk.1, List.map_append] at a1
                cases r1 <;> exact a1
              · cases h
            · cases h
          · cases h
        · split at h
          · rename_i j ls' st' mem2 hstep
            have mo1 := am_step_mono hstep
            have mo2 := am_exec_mono h
            exact am_stepW C (by omega) hmid (List.mem_of_getElem? hop) hpc hdec hchk hn0 hz0 (by omega) (by omega) hstep (ih _ _ _ _ _ hR hCon (by omega) (by omega) h)
          · cases h
end AMS
set_option maxHeartbeats 4000000 in
theorem am_con_of (l : Launch) (B : Nat) (ka : Nat → Nat) (D : va_G) (cst : List am_E) (d : Nat) (ih : ∀ d', d = d' + 1 → am_Con l B ka D cst d') : am_Con l B ka D cst d := by
  intro n k vs mem r mem' hk hpl hex
  obtain ⟨m1, m2, m3, m4, m5, m6, m7, m8⟩ := am_nm_get (show k < 240 by omega)
  refine va_MetF (cc := am_bytes k) (maxL := (am_mq k).2.1) (ret := (am_infq k).2) m1 rfl ?_
  intro p e s m args below meth c s₁ Bd hml hv
  obtain ⟨rfl, hsz, hKC, hCO, hNW, cA, hP, hWK⟩ := hv
  have hts := atoms_spec (ws := am_wsk k) Bd.pre
  have hown : s.vm.findClass (am_infq k).1.cls = some m.cls := findClass_of_methodNamed Bd.named
  have hnm := (name_of_methodNamed Bd.named Bd.method).1
  have hlocks := Bd.notSynchronized
  have hret := Bd.returns
  have C : am_Cx B ka D cst k mem.length p s m (vs.map (am_tv (am_phi B ka))).toArray meth c := ⟨Bd.exec, Bd.bytes, hml, by rw [m4]; exact hown, fun w hw => hts w (List.mem_cons_of_mem _ hw), hKC, hCO, hsz, fun h => hnm.trans h, hNW⟩
  have hl := am_LV.entry (am_phi B ka) hpl
  rw [lg_entry_eq]
  have hpc0 : (am_pcs k).getD 0 0 = 0 := beq_iff_eq.mp (List.all_eq_true.mp am_pc0 k (List.mem_range.mpr (by omega)))
  have main := am_execW (l := l) (e := e) (below := below) (R := (headSpec (am_wsk k) (am_rm d (mem'.length - mem.length) (am_sz mem' - am_sz mem))).room) (Q := MQ below (am_Qc B ka D mem' r) (vs.map (am_tv (am_phi B ka))).toArray s (mem'.length - mem.length) (am_sz mem' - am_sz mem) (am_A B)) (z0 := am_sz mem) C (by omega) (r := r) (mem' := mem') (Nat.le_refl _) (Nat.le_refl _) ?_ n d 0 _ [] mem ⟨Nat.le_refl _, Nat.le_refl _⟩ ih (Nat.le_refl _) (Nat.le_refl _) hex _ s.heap [] hl ⟨cA, hP, hWK, va_S.rf⟩
  · rw [Nat.sub_self, Nat.sub_self, hpc0] at main
    exact main
  · intro i ls raw hdec hr lsA H1 locs1 hl1 hSt
    obtain ⟨cA1, hP1, hWK1, hS1⟩ := hSt
    have hq : ∀ t : State, t.heap = H1 → s.WarmedH t.vm → am_Qc B ka D mem' r (vs.map (am_tv (am_phi B ka))).toArray s (.returned (r.map (am_tv (am_phi B ka)))) t := fun t ht hW => ⟨rfl, ⟨cA1, by rw [ht]; exact hP1, hWK1.moved hW.alike⟩, hS1.F ht⟩
    rcases hr with ⟨h0, rfl, rfl⟩ | ⟨v, rfl, hrok, hraw⟩
    · have hre : (am_infq k).2 = none := by
        rcases m8 with ⟨_, h⟩ | ⟨h, _⟩ | ⟨h, _⟩ | ⟨h, _⟩ | ⟨h, _⟩ | ⟨h, _⟩ | ⟨h, _⟩
        · exact h
        all_goals omega
      exact W.vret Bd.exec Bd.bytes (hret.trans hre) hq hS1.2.2 hdec hlocks
    · rcases m8 with ⟨h, _⟩ | ⟨h, hre⟩ | ⟨h, hre⟩ | ⟨h, hre⟩ | ⟨h, nn, hre⟩ | ⟨h, hre⟩ | ⟨h, hre⟩
      · rcases hraw with ⟨-, h1⟩ | ⟨-, h1⟩ | ⟨-, h1⟩ <;> omega
      · rcases hraw with ⟨rfl, -⟩ | ⟨-, h1⟩ | ⟨-, h1⟩
        · rw [h] at hrok
          cases v <;> first | exact W.iret Bd.exec Bd.bytes (hret.trans hre) hq hS1.2.2 hdec hlocks | cases hrok
        · omega
        · omega
      · rcases hraw with ⟨rfl, -⟩ | ⟨-, h1⟩ | ⟨-, h1⟩
        · rw [h] at hrok
          cases v with
          | int x =>
            simp only [am_rok, Bool.or_eq_true, decide_eq_true_eq] at hrok
            exact W.zret Bd.exec Bd.bytes (hret.trans hre) (by rcases hrok with rfl | rfl <;> rfl) hq hS1.2.2 hdec hlocks
          | _ => cases hrok
        · omega
        · omega
      · rcases hraw with ⟨-, h1⟩ | ⟨rfl, -⟩ | ⟨-, h1⟩
        · omega
        · rw [h] at hrok
          cases v <;> first | exact W.lret Bd.exec Bd.bytes (hret.trans hre) hq hS1.2.2 hdec hlocks | cases hrok
        · omega
      · rcases hraw with ⟨-, h1⟩ | ⟨-, h1⟩ | ⟨rfl, -⟩
        · omega
        · omega
        · rw [h] at hrok
          cases v <;> first | exact W.aret Bd.exec Bd.bytes (hret.trans hre) (Or.inl ⟨nn, rfl⟩) (Or.inr ⟨_, rfl⟩) hq hS1.2.2 hdec hlocks | cases hrok
      · rcases hraw with ⟨rfl, -⟩ | ⟨-, h1⟩ | ⟨-, h1⟩
        · rw [h] at hrok
          cases v with
          | int x =>
            simp only [am_rok, decide_eq_true_eq] at hrok
            exact W.zret Bd.exec Bd.bytes (hret.trans hre) hrok hq hS1.2.2 hdec hlocks
          | _ => cases hrok
        · omega
        · omega
      · rcases hraw with ⟨rfl, -⟩ | ⟨-, h1⟩ | ⟨-, h1⟩
        · rw [h] at hrok
          cases v with
          | int x =>
            simp only [am_rok, decide_eq_true_eq] at hrok
            exact W.zret Bd.exec Bd.bytes (hret.trans hre) hrok hq hS1.2.2 hdec hlocks
          | _ => cases hrok
        · omega
        · omega
set_option maxHeartbeats 4000000 in
theorem am_con (l : Launch) (B : Nat) (ka : Nat → Nat) (D : va_G) (cst : List am_E) : ∀ d, am_Con l B ka D cst d := by
  intro d
  induction d with
  | zero => exact am_con_of l B ka D cst 0 (fun d' h => by omega)
  | succ d ih => exact am_con_of l B ka D cst (d + 1) (fun d' h => by obtain rfl : d = d' := by omega
                                                                      exact ih)
