/-! A walk's ground at the list machine's state; instructions that leave the cells as they are -/
noncomputable def am_Cx (B : Nat) (ka : Nat → Nat) (D : va_G) (cst : List am_E) (mid n0 : Nat) (p : Program) (s : State) (m : MethodId) (args : Array Value) (meth : Method) (c : Code) : Prop :=
  p.tables.exec = Jvm.exec ∧ c.code = am_bytes mid ∧ c.maxLocals = (am_mq mid).2.1 ∧ s.vm.findClass (am_ownS (am_on.getD mid 0)) = some m.cls ∧ (∀ w ∈ am_big, w.before args s = true) ∧ am_KC D s ∧ am_CO B ka cst s s.heap ∧ s.heap.size = B + n0 ∧ ((am_infq mid).1.name = "<init>" → meth.name = "<init>") ∧ am_NW s
noncomputable def am_St (B : Nat) (ka : Nat → Nat) (D : va_G) (s : State) (mem : List am_E) (H : Heap) (locs : List Loc) : Prop :=
  ∃ cA : Nat → ClassId, va_P D am_cl (am_ws B ka cA mem) H ∧ am_WK cA mem s ∧ va_S (am_A B) s.heap H locs
noncomputable def am_G (B : Nat) (ka : Nat → Nat) (D : va_G) (mid n0 z0 : Nat) (p : Program) (l : Launch) (e : Env) (R : Room) (s : State) (m : MethodId) (args : Array Value) (below : List Frame) (meth : Method) (c : Code) (Q : State → Prop) (i : Nat) (ls : am_L) (st : List Value) (mem : List am_E) : Prop :=
  ∀ (lsA : Array Slot) (H : Heap) (locs : List Loc), am_LV (am_phi B ka) ls (am_mq mid).2.1 lsA → am_St B ka D s mem H locs → W p l e R s m args below meth c H locs (mem.length - n0) (am_sz mem - z0) Q (F0 m ((am_pcs mid).getD i 0) lsA (st.map (am_tv (am_phi B ka))))
theorem am_nx_ok {pcs : List Nat} {i pc len : Nat} (h : am_nx pcs i pc len = true) : pcs.getD (i + 1) 0 = pc + len := by
  rw [am_nx, beq_iff_eq] at h
  rw [List.getD_eq_getElem?_getD, h]
  rfl
theorem am_tg_ok {pcs : List Nat} {pc : Nat} {t off : Int} (h : am_tg pcs pc t off = true) : (pc : Int) + off = (pcs.getD t.toNat 0 : Nat) := by
  unfold am_tg at h
  split at h
  · rename_i q hq
    rw [List.getD_eq_getElem?_getD, hq]
    exact of_decide_eq_true h
  · cases h
theorem am_phi_lo {B : Nat} {ka : Nat → Nat} {k : Nat} (h : k < 1000) : am_phi B ka k = B + k := if_pos h
theorem am_phi_hi {B : Nat} {ka : Nat → Nat} {k : Nat} (h : ¬ k < 1000) : am_phi B ka k = ka (k - 1000) := if_neg h
theorem am_inb_ok {i : Int32} {n : Nat} (h : am_inb i n = true) : vp_in i n := by
  simp only [am_inb, Bool.and_eq_true, Bool.not_eq_true', decide_eq_false_iff_not, decide_eq_true_eq] at h
  intro q
  rcases q with q | q
  · exact h.1 q
  · omega
theorem am_inb_lt {i : Int32} {n : Nat} (h : am_inb i n = true) : i.toNatClampNeg < n := by
  simp only [am_inb, Bool.and_eq_true, decide_eq_true_eq] at h
  exact h.2
section AMS
variable {p : Program} {l : Launch} {e : Env} {R : Room} {s : State} {m : MethodId} {args : Array Value} {below : List Frame} {meth : Method} {c : Code} {Q : State → Prop} {B : Nat} {ka : Nat → Nat} {D : va_G} {cst : List am_E} {mid n0 z0 : Nat}
theorem am_ifW {cc : ByteArray} {pc : Nat} {ls : Array Slot} {rest : List Value} {H : Heap} {locs : List Loc} {cells slots : Nat} (hx : p.tables.exec = Jvm.exec) (hb : c.code = cc) {cd : Jvm.ClassFile.Cond} {x : Int32} {off : Int} {tgt : Nat} (hdg : decode cc pc = .ok (.ifCond cd off, 3)) (ht : (pc : Int) + off = (tgt : Int))
    (kt : am_cmp cd x 0 = true → W p l e R s m args below meth c H locs cells slots Q (F0 m tgt ls rest)) (kf : ¬ am_cmp cd x 0 = true → W p l e R s m args below meth c H locs cells slots Q (F0 m (pc + 3) ls rest)) : W p l e R s m args below meth c H locs cells slots Q (F0 m pc ls (.int x :: rest)) := by
  cases cd with
  | eq => exact lv_if_eq hx hb hdg ht (fun h => kt (by simp [am_cmp, h])) (fun h => kf (by simp [am_cmp, h]))
  | ne => exact lv_if_ne hx hb hdg ht (fun h => kt (by simp [am_cmp, h])) (fun h => kf (by simp [am_cmp, h]))
  | lt => exact lv_if_lt hx hb hdg ht (fun h => kt (by simp only [am_cmp, decide_eq_true_eq]; exact h)) (fun h => kf (by simp only [am_cmp, decide_eq_true_eq]; exact h))
  | ge => exact lv_if_ge hx hb hdg ht (fun h => kt (by simp only [am_cmp, decide_eq_true_eq]; exact h)) (fun h => kf (by simp only [am_cmp, decide_eq_true_eq]; exact h))
  | gt => exact lv_if_gt hx hb hdg ht (fun h => kt (by simp only [am_cmp, decide_eq_true_eq]; exact h)) (fun h => kf (by simp only [am_cmp, decide_eq_true_eq]; exact h))
  | le => exact lv_if_le hx hb hdg ht (fun h => kt (by simp only [am_cmp, decide_eq_true_eq]; exact h)) (fun h => kf (by simp only [am_cmp, decide_eq_true_eq]; exact h))
theorem am_icW {cc : ByteArray} {pc : Nat} {ls : Array Slot} {rest : List Value} {H : Heap} {locs : List Loc} {cells slots : Nat} (hx : p.tables.exec = Jvm.exec) (hb : c.code = cc) {cd : Jvm.ClassFile.Cond} {x y : Int32} {off : Int} {tgt : Nat} (hdg : decode cc pc = .ok (.if_icmp cd off, 3)) (ht : (pc : Int) + off = (tgt : Int))
    (kt : am_cmp cd x y = true → W p l e R s m args below meth c H locs cells slots Q (F0 m tgt ls rest)) (kf : ¬ am_cmp cd x y = true → W p l e R s m args below meth c H locs cells slots Q (F0 m (pc + 3) ls rest)) : W p l e R s m args below meth c H locs cells slots Q (F0 m pc ls (.int y :: .int x :: rest)) := by
  cases cd with
  | eq => exact lv_icmp_eq hx hb hdg ht (fun h => kt (by simp [am_cmp, h])) (fun h => kf (by simp [am_cmp, h]))
  | ne => exact lv_icmp_ne hx hb hdg ht (fun h => kt (by simp [am_cmp, h])) (fun h => kf (by simp [am_cmp, h]))
  | lt => exact lv_icmp_lt hx hb hdg ht (fun h => kt (by simp only [am_cmp, decide_eq_true_eq]; exact h)) (fun h => kf (by simp only [am_cmp, decide_eq_true_eq]; exact h))
  | ge => exact lv_icmp_ge hx hb hdg ht (fun h => kt (by simp only [am_cmp, decide_eq_true_eq]; exact h)) (fun h => kf (by simp only [am_cmp, decide_eq_true_eq]; exact h))
  | gt => exact lv_icmp_gt hx hb hdg ht (fun h => kt (by simp only [am_cmp, decide_eq_true_eq]; exact h)) (fun h => kf (by simp only [am_cmp, decide_eq_true_eq]; exact h))
  | le => exact lv_icmp_le hx hb hdg ht (fun h => kt (by simp only [am_cmp, decide_eq_true_eq]; exact h)) (fun h => kf (by simp only [am_cmp, decide_eq_true_eq]; exact h))
theorem am_tgs_ok {pcs : List Nat} {pc : Nat} : ∀ {ts os : List Int}, am_tgs pcs pc ts os = true → ∀ {k : Nat} {t : Int}, ts[k]? = some t → ∃ off, os[k]? = some off ∧ am_tg pcs pc t off = true
  | [], [], _, k, t, h => by simp at h
  | a :: r, b :: q, h, k, t, hk => by
    simp only [am_tgs, Bool.and_eq_true] at h
    match k, hk with
    | 0, hk => cases hk; exact ⟨b, rfl, h.1⟩
    | k + 1, hk => exact am_tgs_ok h.2 hk
  | [], _ :: _, h, _, _, _ => by cases h
  | _ :: _, [], h, _, _, _ => by cases h
theorem am_tgp_ok {pcs : List Nat} {pc : Nat} {d d' : Int} (hd : am_tg pcs pc d d' = true) (x : Int) : ∀ {ps os : List (Int × Int)}, am_tgp pcs pc ps os = true → am_tg pcs pc (am_lks ps d x) (Op.lookupswitch.offset os d' x) = true
  | [], [], _ => hd
  | (a, t) :: r, (b, o) :: q, h => by
    simp only [am_tgp, Bool.and_eq_true, decide_eq_true_eq] at h
    obtain ⟨⟨h1, h2⟩, h3⟩ := h
    subst h1
    have ih := am_tgp_ok hd x h3
    unfold am_lks
    by_cases hx : x = a
    · subst hx
      rw [if_pos rfl]
      simpa [Op.lookupswitch.offset] using h2
    · rw [if_neg hx]
      have e : Op.lookupswitch.offset ((a, o) :: q) d' x = Op.lookupswitch.offset q d' x := by
        have : ¬ a = x := fun h => hx h.symm
        simp [Op.lookupswitch.offset, this]
      rw [e]
      exact ih
  | [], _ :: _, h => by cases h
  | _ :: _, [], h => by cases h
set_option maxHeartbeats 4000000 in
/-- constants, locals, jumps, stack -/
theorem am_stepA (C : am_Cx B ka D cst mid n0 p s m args meth c) {i pc len rt : Nat} {op raw : Instr} {ls ls' : am_L} {st st' : List Value} {mem : List am_E} {j : Option Nat} (hpc : (am_pcs mid).getD i 0 = pc)
    (hdec : decode (am_bytes mid) pc = .ok (raw, len)) (hchk : am_chk (am_on.getD mid 0) rt (am_pcs mid) i op raw pc len = true)
    (hA : match op with | .bipush _ | .sipush _ | .ldc _ | .getstatic _ | .iload _ | .lload _ | .aload _ | .istore _ | .lstore _ | .astore _ | .iinc _ _ | .ifCond _ _ | .if_icmp _ _ | .goto _ | .tableswitch _ _ _ _ | .lookupswitch _ _ => True | o => am_isS o = true)
    {mem' : List am_E} (h : am_step am_ft cst op ls st mem = some (j, ls', st', mem')) (kk : am_G B ka D mid n0 z0 p l e R s m args below meth c Q (j.getD (i + 1)) ls' st' mem') : am_G B ka D mid n0 z0 p l e R s m args below meth c Q i ls st mem := by
  intro lsA H locs hl hSt
  obtain ⟨hx, hb, hml, hown, hts, hKC, hCO, hsz, hnm, -⟩ := C
  rw [hpc]
  cases op with
  | bipush n =>
    simp only [am_step, Option.some.injEq, Prod.mk.injEq] at h
    obtain ⟨rfl, rfl, rfl, rfl⟩ := h
    simp only [am_chk, Bool.and_eq_true] at hchk
    obtain ⟨hn, hr⟩ := hchk
    have kk := kk lsA H locs hl hSt
    rw [Option.getD_none, am_nx_ok hn] at kk
    split at hr
    · rename_i n; simp only [Bool.and_eq_true, beq_iff_eq, decide_eq_true_eq] at hr; obtain ⟨rfl, hr⟩ := hr; exact lv_iconst hx hb hdec hr kk
    · rename_i n; simp only [Bool.and_eq_true, beq_iff_eq, decide_eq_true_eq] at hr; obtain ⟨rfl, hr⟩ := hr; exact lv_bipush hx hb hdec hr kk
    · rename_i n; simp only [Bool.and_eq_true, beq_iff_eq, decide_eq_true_eq] at hr; obtain ⟨rfl, hr⟩ := hr; exact lv_sipush hx hb hdec hr kk
    · rename_i k; simp only [Bool.and_eq_true, beq_iff_eq] at hr; obtain ⟨rfl, hr⟩ := hr; exact lv_ldc hx hb hown (hts _ (am_lc_ok hr)) hdec kk
    · rename_i k; simp only [Bool.and_eq_true, beq_iff_eq] at hr; obtain ⟨rfl, hr⟩ := hr; exact lv_ldcw hx hb hown (hts _ (am_lc_ok hr)) hdec kk
    · cases hr
  | sipush n =>
    simp only [am_step, Option.some.injEq, Prod.mk.injEq] at h
    obtain ⟨rfl, rfl, rfl, rfl⟩ := h
    simp only [am_chk, Bool.and_eq_true] at hchk
    obtain ⟨hn, hr⟩ := hchk
    have kk := kk lsA H locs hl hSt
    rw [Option.getD_none, am_nx_ok hn] at kk
    split at hr
    · rename_i n; simp only [Bool.and_eq_true, beq_iff_eq, decide_eq_true_eq] at hr; obtain ⟨rfl, hr⟩ := hr; exact lv_lconst hx hb hdec hr kk
    · rename_i k; simp only [Bool.and_eq_true, beq_iff_eq] at hr; obtain ⟨rfl, hr⟩ := hr; exact lv_ldc2 hx hb hown (hts _ (am_ll_ok hr)) hdec kk
    · cases hr
  | ldc q =>
    simp only [am_step, Option.some.injEq, Prod.mk.injEq] at h
    obtain ⟨rfl, rfl, rfl, rfl⟩ := h
    simp only [am_chk, Bool.and_eq_true] at hchk
    obtain ⟨hn, hr⟩ := hchk
    have kk := kk lsA H locs hl hSt
    rw [Option.getD_none, am_nx_ok hn] at kk
    split at hr
    · rename_i k
      simp only [Bool.and_eq_true, beq_iff_eq] at hr
      obtain ⟨rfl, hr⟩ := hr
      obtain ⟨y, hy, he⟩ := List.any_eq_true.mp hr
      simp only [Bool.and_eq_true, beq_iff_eq] at he
      obtain ⟨⟨e1, rfl⟩, rfl⟩ := he
      exact va_ldcS hx hb hown (e1 ▸ hCO.2.2.2.1 y hy) hdec kk
    · cases hr
  | getstatic q =>
    simp only [am_step] at h
    split at h
    · rename_i v hv
      simp only [Option.some.injEq, Prod.mk.injEq] at h
      obtain ⟨rfl, rfl, rfl, rfl⟩ := h
      simp only [am_chk, Bool.and_eq_true] at hchk
      obtain ⟨hn, hr⟩ := hchk
      have kk := kk lsA H locs hl hSt
      rw [Option.getD_none, am_nx_ok hn] at kk
      obtain ⟨cA, hP, hWK, hS⟩ := hSt
      split at hr
      · rename_i k
        simp only [Bool.and_eq_true, beq_iff_eq] at hr
        obtain ⟨rfl, hr⟩ := hr
        exact va_gets hx hb (hCO.2.2.1 q v hv) hS hown (hts _ (am_lt_ok hr)) (fun x h => h) hdec kk
      · cases hr
    · cases h
  | iload q =>
    simp only [am_step] at h
    split at h
    · rename_i v hv
      simp only [Option.some.injEq, Prod.mk.injEq] at h
      obtain ⟨rfl, rfl, rfl, rfl⟩ := h
      simp only [am_chk, Bool.and_eq_true] at hchk
      obtain ⟨hn, hr⟩ := hchk
      have kk := kk lsA H locs hl hSt
      rw [Option.getD_none, am_nx_ok hn] at kk
      have hv' := hl.2.2.2 _ _ hv
      split at hr
      · rename_i k; simp only [Bool.and_eq_true, beq_iff_eq] at hr; obtain ⟨rfl, hr⟩ := hr; exact lv_iload_n hx hb hdec hr hv' kk
      · rename_i k; simp only [Bool.and_eq_true, beq_iff_eq] at hr; obtain ⟨rfl, rfl⟩ := hr; exact lv_iload hx hb hdec hv' kk
      · cases hr
    · cases h
  | lload q =>
    simp only [am_step] at h
    split at h
    · rename_i v hv
      simp only [Option.some.injEq, Prod.mk.injEq] at h
      obtain ⟨rfl, rfl, rfl, rfl⟩ := h
      simp only [am_chk, Bool.and_eq_true] at hchk
      obtain ⟨hn, hr⟩ := hchk
      have kk := kk lsA H locs hl hSt
      rw [Option.getD_none, am_nx_ok hn] at kk
      have hv' := hl.2.2.2 _ _ hv
      split at hr
      · rename_i k; simp only [Bool.and_eq_true, beq_iff_eq] at hr; obtain ⟨rfl, hr⟩ := hr; exact lv_lload_n hx hb hdec hr hv' kk
      · rename_i k; simp only [Bool.and_eq_true, beq_iff_eq] at hr; obtain ⟨rfl, rfl⟩ := hr; exact lv_lload hx hb hdec hv' kk
      · cases hr
    · cases h
  | aload q =>
    simp only [am_step] at h
    split at h
    · rename_i v hv
      simp only [Option.some.injEq, Prod.mk.injEq] at h
      obtain ⟨rfl, rfl, rfl, rfl⟩ := h
      simp only [am_chk, Bool.and_eq_true] at hchk
      obtain ⟨hn, hr⟩ := hchk
      have kk := kk lsA H locs hl hSt
      rw [Option.getD_none, am_nx_ok hn] at kk
      have hv' := hl.2.2.2 _ _ hv
      split at hr
      · rename_i k; simp only [Bool.and_eq_true, beq_iff_eq] at hr; obtain ⟨rfl, hr⟩ := hr; exact lv_aload_n hx hb hdec hr hv' kk
      · rename_i k; simp only [Bool.and_eq_true, beq_iff_eq] at hr; obtain ⟨rfl, rfl⟩ := hr; exact lv_aload hx hb hdec hv' kk
      · cases hr
    · cases h
  | istore q =>
    simp only [am_step] at h
    split at h
    · rename_i v r
      split at h
      · rename_i hq
        simp only [Option.some.injEq, Prod.mk.injEq] at h
        obtain ⟨rfl, rfl, rfl, rfl⟩ := h
        simp only [am_chk, Bool.and_eq_true] at hchk
        obtain ⟨hn, hr⟩ := hchk
        have hlt : q < (am_mq mid).2.1 := by have := hl.2.1; omega
        have kk := fun (lsB : Array Slot) (hB : lv_has lsB (am_mq mid).2.1 _) => kk lsB H locs (hl.st1 (v := .int v) hq.2 hB) hSt
        rw [Option.getD_none, am_nx_ok hn] at kk
        split at hr
        · rename_i k; simp only [Bool.and_eq_true, beq_iff_eq] at hr; obtain ⟨rfl, hr⟩ := hr; exact lv_istore_n hx hb hdec hr hl.has hlt rfl kk
        · rename_i k; simp only [Bool.and_eq_true, beq_iff_eq] at hr; obtain ⟨rfl, rfl⟩ := hr; exact lv_istore hx hb hdec hl.has hlt rfl kk
        · cases hr
      · cases h
    · cases h
  | astore q =>
    simp only [am_step] at h
    split at h
    · rename_i v r
      split at h
      · rename_i hq
        simp only [Option.some.injEq, Prod.mk.injEq] at h
        obtain ⟨rfl, rfl, rfl, rfl⟩ := h
        simp only [am_chk, Bool.and_eq_true] at hchk
        obtain ⟨hn, hr⟩ := hchk
        have hlt : q < (am_mq mid).2.1 := by have := hl.2.1; omega
        have kk := fun (lsB : Array Slot) (hB : lv_has lsB (am_mq mid).2.1 _) => kk lsB H locs (hl.st1 (v := .ref v) hq.2 hB) hSt
        rw [Option.getD_none, am_nx_ok hn] at kk
        split at hr
        · rename_i k; simp only [Bool.and_eq_true, beq_iff_eq] at hr; obtain ⟨rfl, hr⟩ := hr; exact lv_astore_n hx hb hdec hr hl.has hlt rfl kk
        · rename_i k; simp only [Bool.and_eq_true, beq_iff_eq] at hr; obtain ⟨rfl, rfl⟩ := hr; exact lv_astore hx hb hdec hl.has hlt rfl kk
        · cases hr
      · cases h
    · cases h
  | lstore q =>
    simp only [am_step] at h
    split at h
    · rename_i v r
      split at h
      · rename_i hq
        simp only [Option.some.injEq, Prod.mk.injEq] at h
        obtain ⟨rfl, rfl, rfl, rfl⟩ := h
        simp only [am_chk, Bool.and_eq_true] at hchk
        obtain ⟨hn, hr⟩ := hchk
        have hlt : q + 1 < (am_mq mid).2.1 := by have := hl.2.1; omega
        have kk := fun (lsB : Array Slot) (hB : lv_has lsB (am_mq mid).2.1 _) => kk lsB H locs (hl.st2 (v := .long v) hq.2 hB) hSt
        rw [Option.getD_none, am_nx_ok hn] at kk
        split at hr
        · rename_i k; simp only [Bool.and_eq_true, beq_iff_eq] at hr; obtain ⟨rfl, hr⟩ := hr; exact lv_lstore_n hx hb hdec hr hl.has hlt rfl kk
        · rename_i k; simp only [Bool.and_eq_true, beq_iff_eq] at hr; obtain ⟨rfl, rfl⟩ := hr; exact lv_lstore hx hb hdec hl.has hlt rfl kk
        · cases hr
      · cases h
    · cases h
  | iinc q n =>
    simp only [am_step] at h
    split at h
    · rename_i v hv
      split at h
      · rename_i hq
        simp only [Option.some.injEq, Prod.mk.injEq] at h
        obtain ⟨rfl, rfl, rfl, rfl⟩ := h
        simp only [am_chk, Bool.and_eq_true] at hchk
        obtain ⟨hn, hr⟩ := hchk
        have hlt : q < (am_mq mid).2.1 := by have := hl.2.1; have := (List.getElem?_eq_some_iff.mp hv).1; omega
        have kk := fun (lsB : Array Slot) (hB : lv_has lsB (am_mq mid).2.1 _) => kk lsB H locs (hl.st1 (v := .int (v + Int32.ofInt n)) hq hB) hSt
        rw [Option.getD_none, am_nx_ok hn] at kk
        split at hr
        · rename_i k n'
          simp only [Bool.and_eq_true, beq_iff_eq, decide_eq_true_eq] at hr
          obtain ⟨⟨rfl, rfl⟩, rfl⟩ := hr
          obtain ⟨t, ht⟩ := List.getElem?_of_mem ((am_asl_mem (f := am_phi B ka) (q := (k, .int v))).mpr ⟨.int v, hv, rfl⟩)
          exact lv_iinc hx hb hdec hl.has ht rfl hlt rfl kk
        · cases hr
      · cases h
    · cases h
  | ifCond cd t =>
    simp only [am_step] at h
    split at h
    · rename_i x r
      simp only [Option.some.injEq, Prod.mk.injEq] at h
      obtain ⟨rfl, rfl, rfl, rfl⟩ := h
      simp only [am_chk, Bool.and_eq_true] at hchk
      obtain ⟨hn, hr⟩ := hchk
      have kk := kk lsA H locs hl hSt
      split at hr
      · rename_i cd' off
        simp only [Bool.and_eq_true, beq_iff_eq, decide_eq_true_eq] at hr
        obtain ⟨⟨rfl, rfl⟩, hr⟩ := hr
        refine am_ifW hx hb hdec (am_tg_ok hr) (fun hc => ?_) (fun hc => ?_)
        · rw [if_pos hc] at kk
          exact kk
        · rw [if_neg hc, Option.getD_none, am_nx_ok hn] at kk
          exact kk
      · cases hr
    · cases h
  | if_icmp cd t =>
    simp only [am_step] at h
    split at h
    · rename_i y x r
      simp only [Option.some.injEq, Prod.mk.injEq] at h
      obtain ⟨rfl, rfl, rfl, rfl⟩ := h
      simp only [am_chk, Bool.and_eq_true] at hchk
      obtain ⟨hn, hr⟩ := hchk
      have kk := kk lsA H locs hl hSt
      split at hr
      · rename_i cd' off
        simp only [Bool.and_eq_true, beq_iff_eq, decide_eq_true_eq] at hr
        obtain ⟨⟨rfl, rfl⟩, hr⟩ := hr
        refine am_icW hx hb hdec (am_tg_ok hr) (fun hc => ?_) (fun hc => ?_)
        · rw [if_pos hc] at kk
          exact kk
        · rw [if_neg hc, Option.getD_none, am_nx_ok hn] at kk
          exact kk
      · cases hr
    · cases h
  | goto t =>
    simp only [am_step, Option.some.injEq, Prod.mk.injEq] at h
    obtain ⟨rfl, rfl, rfl, rfl⟩ := h
    simp only [am_chk] at hchk
    have kk := kk lsA H locs hl hSt
    split at hchk
    · rename_i off
      simp only [Bool.and_eq_true, beq_iff_eq] at hchk
      obtain ⟨rfl, hr⟩ := hchk
      exact lv_goto hx hb hdec (am_tg_ok hr) kk
    · cases hchk
  | tableswitch d lo hi ts =>
    simp only [am_step] at h
    split at h
    · rename_i x r
      simp only [am_chk] at hchk
      split at hchk
      · rename_i d' lo' hi' os
        simp only [Bool.and_eq_true, decide_eq_true_eq] at hchk
        obtain ⟨⟨⟨rfl, rfl⟩, hd⟩, ho⟩ := hchk
        split at h
        · rename_i hc
          simp only [Option.some.injEq, Prod.mk.injEq] at h
          obtain ⟨rfl, rfl, rfl, rfl⟩ := h
          have kk := kk lsA H locs hl hSt
          exact lv_tableOut hx hb hdec hc (am_tg_ok hd) kk
        · rename_i hc
          split at h
          · rename_i t ht
            simp only [Option.some.injEq, Prod.mk.injEq] at h
            obtain ⟨rfl, rfl, rfl, rfl⟩ := h
            have kk := kk lsA H locs hl hSt
            obtain ⟨off, h1, h2⟩ := am_tgs_ok ho (k := (x.toInt - lo').toNat) (t := t) (by rw [Array.getElem?_toList]; exact ht)
            exact lv_tableIn hx hb hdec (fun q => hc (Or.inl q)) (fun q => hc (Or.inr q)) (by rw [Array.getElem?_toList] at h1; exact h1) (am_tg_ok h2) kk
          · cases h
      · cases hchk
    · cases h
  | lookupswitch d ps =>
    simp only [am_step] at h
    split at h
    · rename_i x r
      simp only [Option.some.injEq, Prod.mk.injEq] at h
      obtain ⟨rfl, rfl, rfl, rfl⟩ := h
      simp only [am_chk] at hchk
      have kk := kk lsA H locs hl hSt
      split at hchk
      · rename_i d' os
        simp only [Bool.and_eq_true] at hchk
        obtain ⟨⟨hd, ho⟩, hs⟩ := hchk
        exact lv_lookup hx hb hdec hs rfl (am_tg_ok (am_tgp_ok hd x.toInt ho)) kk
      · cases hchk
    · cases h
  | _ =>
    first
    | (exfalso; revert hA; simp [am_isS]; done)
    | (simp only [am_step] at h
       obtain ⟨st2, h1, h2⟩ := Option.map_eq_some_iff.mp h
       simp only [Prod.mk.injEq] at h2
       obtain ⟨rfl, rfl, rfl, rfl⟩ := h2
       simp only [am_chk, am_isS, Bool.and_true, Bool.and_eq_true, decide_eq_true_eq, beq_iff_eq] at hchk
       obtain ⟨⟨hn, rfl⟩, rfl⟩ := hchk
       have kk := kk lsA H locs hl hSt
       rw [Option.getD_none, am_nx_ok hn] at kk
       exact am_sopW hx hb h1 hdec _ kk)
end AMS
