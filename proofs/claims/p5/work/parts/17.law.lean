/-! THE CLAIM OUT OF ONE WALK OF THE LAW'S BODY. Your part is whole_start (and what it stands on); all else here is the same for every law, but numbers. -/
noncomputable def R_law : String := "MoonReapersLaw"
noncomputable def lw_P (b : Addr) (xs : List Int32) (args : Array Value) (s : State) : Prop := args = #[.ref b] ∧ s.IntsAt b xs ∧ xs.length ≤ 320 ∧ (Jvm.Cond.and given_1 narrow_1).before args s = true
noncomputable def lw_Q (_ : Array Value) (s : State) (o : Outcome) (t : State) : Prop := o = .returned (some (.int 1)) ∧ Framed s o t [] 600000 7302250
noncomputable def lw_Z (below : List Frame) (a : Array Value) (s : State) : State → Prop := fun t => ∃ o, t.status = .running ∧ Ended t below o ∧ lw_Q a s o t
/-- the law's own end, with 1 on the stack, nothing written that was there before, its room as the claim has it -/
theorem lw_ret {p : Program} {l : Launch} {e : Env} {s : State} {m : MethodId} {below : List Frame} {meth : Method} {c : Code} {b : Nat} (hx : p.tables.exec = Jvm.exec) (hb : c.code = code) (hr : meth.sig.returnType = ret) (hlocks : meth.locks = false) {pc : Nat} {H : Heap} {ls : Array Slot} (hdg : decode code pc = .ok (.ireturn, 1)) : W p l e room_1 s m #[Value.ref b] below meth c H [] 600000 7302250 (lw_Z below #[Value.ref b] s) (F0 m pc ls [.int 1]) := by
  intro T hT X
  obtain ⟨fs, hret, hrun, hended, hW, hframe⟩ := X.leave (v := some (.int 1)) (hlocks := hlocks) (fun h => by rw [hr] at h; cases h)
  have hmeth' : T.vm.method? m = some meth := X.method'
  refine ⟨T.setFrames fs, ?_, .returned (some (.int 1)), hrun, hended, rfl, ⟨_, rfl⟩, hW, hframe⟩
  jvm_step X.here [X.here.top, hx, hb, hdg, hmeth', hr, ret, narrow_b1]
  (try refine ⟨rfl, ?_⟩); (try refine ⟨rfl, ?_⟩)
  first | (intro acts; rw [hret _ acts rfl rfl rfl]) | rw [hret _ _ rfl rfl rfl]
  exact Steps.refl _
/-- what holds at the law's entry: the machine, the code, the tables' words (any of lw_tbl by 'hts w (by decide +kernel)'), the script of L ints xs at the cell b, what the Statement gives of the start (any of its parts by flat_of_before) -/
noncomputable def lw_At (p : Program) (s : State) (m : MethodId) (meth : Method) (c : Code) (b L : Nat) (xs : Nat → Int32) : Prop :=
  p.tables.exec = Jvm.exec ∧ c.code = code ∧ meth.sig.returnType = ret ∧ c.maxLocals = 4 ∧ s.vm.findClass R_law = some m.cls ∧ (∀ w ∈ lw_tbl, w.before #[Value.ref b] s = true) ∧ va_X b L xs s s.heap ∧ b < s.heap.size ∧ meth.locks = false ∧ (Jvm.Cond.and given_1 narrow_1).before #[Value.ref b] s = true
/-! constants of the claim, and the law's own run -/
noncomputable def am_byt : List (List Int32) := [[110, 105, 103, 104, 116], [115, 116, 114, 105, 112], [114, 101, 97, 112, 101, 114], [99, 108, 111, 117, 100], [116, 104, 105, 115, 116, 108, 101]]
noncomputable def am_num : List Int32 := [1, 2, 3, 1, 1]
noncomputable def am_low : List Int32 := [1, 0, 0, 0, 0, 0, 1, 0, 0, 0, 0, 0, 0, 0, 0]
noncomputable def am_hig : List Int32 := [12, 0, 0, 40, 3, 0, 9, 9, 6, 11, 0, 0, 6, 0, 0]
noncomputable def am_cst (xl : List Int32) : List am_E := [.inr (.inl (20, [.ref 1001, .int 0])), .inl (1, am_byt.getD 0 []), .inr (.inl (20, [.ref 1003, .int 0])), .inl (1, am_byt.getD 1 []), .inr (.inl (20, [.ref 1005, .int 0])), .inl (1, am_byt.getD 2 []), .inr (.inl (20, [.ref 1007, .int 0])), .inl (1, am_byt.getD 3 []), .inr (.inl (20, [.ref 1009, .int 0])), .inl (1, am_byt.getD 4 []), .inl (0, am_num), .inl (0, am_low), .inl (0, am_hig), .inl (0, xl)]
noncomputable def am_tm (i : Nat) : Term := .string "MoonReapers$Reader" (139 + 2 * i)
noncomputable def am_prem : List Cond := flatC (Jvm.Cond.and given_1 narrow_1)
theorem am_pr1 : ∀ i, i < 5 → Cond.exactly (am_tm i) "java/lang/String" ∈ am_prem := by decide +kernel
theorem am_pr2 : ∀ i, i < 5 → Cond.eq (.field (am_tm i) "java/lang/String" "coder" "B") (.int 0) ∈ am_prem := by decide +kernel
theorem am_pr3 : ∀ i, i < 5 → Cond.arrayOf (.field (am_tm i) "java/lang/String" "value" "[B") .byte ∈ am_prem := by decide +kernel
theorem am_pr4 : ∀ i, i < 5 → Cond.eq (.length (.field (am_tm i) "java/lang/String" "value" "[B")) (.int (Int32.ofNat (([5, 5, 6, 5, 7] : List Nat).getD i 0))) ∈ am_prem := by decide +kernel
theorem am_pr5 : ∀ i, i < 5 → ∀ j, j < ([5, 5, 6, 5, 7] : List Nat).getD i 0 → Cond.eq (.elem (.field (am_tm i) "java/lang/String" "value" "[B") (.int (Int32.ofNat j))) (.int ((am_byt.getD i []).getD j 0)) ∈ am_prem := by decide +kernel
theorem am_pr6 : ∀ i, i < 5 → ∀ j, j < 5 → i ≠ j → Cond.not (Cond.eq (am_tm i) (am_tm j)) ∈ am_prem ∨ Cond.not (Cond.eq (am_tm j) (am_tm i)) ∈ am_prem := by decide +kernel
noncomputable def am_tn : Term := .static "MoonReapers$Reader" "NUMBERS" "[I"
noncomputable def am_tl : Term := .static "MoonReapers$Reader" "LOW" "[I"
noncomputable def am_th : Term := .static "MoonReapers$Reader" "HIGH" "[I"
theorem am_pr7 : (Cond.arrayOf am_tn .int ∈ am_prem ∧ Cond.arrayOf am_tl .int ∈ am_prem ∧ Cond.arrayOf am_th .int ∈ am_prem) ∧ (Cond.eq (.length am_tn) (.int (Int32.ofNat 5)) ∈ am_prem ∧ Cond.eq (.length am_tl) (.int (Int32.ofNat 15)) ∈ am_prem ∧ Cond.eq (.length am_th) (.int (Int32.ofNat 15)) ∈ am_prem) := by decide +kernel
theorem am_pr8 : ∀ j, j < 5 → Cond.eq (.elem am_tn (.int (Int32.ofNat j))) (.int (am_num.getD j 0)) ∈ am_prem := by decide +kernel
theorem am_pr9 : ∀ j, j < 15 → Cond.eq (.elem am_tl (.int (Int32.ofNat j))) (.int (am_low.getD j 0)) ∈ am_prem := by decide +kernel
theorem am_pr10 : ∀ j, j < 15 → Cond.eq (.elem am_th (.int (Int32.ofNat j))) (.int (am_hig.getD j 0)) ∈ am_prem := by decide +kernel
theorem am_pr11 : Cond.eq (.static "java/lang/String" "COMPACT_STRINGS" "Z") (.int 1) ∈ am_prem := by decide +kernel
theorem am_pr12 : (Cond.laysStatic "java/lang/String" "COMPACT_STRINGS" "Z" ∈ lw_tbl ∧ Cond.laysStatic "MoonReapers$Reader" "NUMBERS" "[I" ∈ lw_tbl ∧ Cond.laysStatic "MoonReapers$Reader" "LOW" "[I" ∈ lw_tbl ∧ Cond.laysStatic "MoonReapers$Reader" "HIGH" "[I" ∈ lw_tbl) ∧ Cond.initialized "java/lang/String" ∈ lw_tbl ∧ Cond.initialized "MoonReapers$Reader" ∈ lw_tbl ∧ Cond.arrayOver (.object "MoonReapers$State") ∈ lw_tbl ∧ Cond.arrayOver (.array .int) ∈ lw_tbl := by decide +kernel
theorem am_pr13 : (am_ls.all fun q => decide (q.1 = 5) && decide (1000 ≤ q.2.2.1) && decide (q.2.2.1 < 1010) && decide ((q.2.2.1 - 1000) % 2 = 0) && decide (q.2.1 = 139 + (q.2.2.1 - 1000)) && decide (Cond.stringRef (am_ownS q.1) q.2.1 (am_lst q.2.2.1) ∈ lw_tbl)) = true := by decide +kernel
theorem am_pr14 : Cond.laysStatic "jdk/internal/util/Preconditions" "SIOOBE_FORMATTER" "Ljava/util/function/BiFunction;" ∈ lw_tbl ∧ Cond.initialized "jdk/internal/util/Preconditions" ∈ lw_tbl ∧ Cond.isRef (.static "jdk/internal/util/Preconditions" "SIOOBE_FORMATTER" "Ljava/util/function/BiFunction;") ∈ am_prem := by
  refine ⟨by decide +kernel, by decide +kernel, by decide +kernel⟩
noncomputable def am_ka (adK adV : Nat → Nat) (tn tl th b : Nat) (j : Nat) : Nat := if j < 10 then (if j % 2 = 0 then adK (j / 2) else adV (j / 2)) else if j = 10 then tn else if j = 11 then tl else if j = 12 then th else b
theorem am_eq_of {args : Array Value} {s : State} {t : Term} {x : Int32} (h : (Cond.eq t (.int x)).before args s = true) : t.eval args s none [] s = some (.int x) :=
  va_eqI (u := .int x) (beq_iff_eq.mp h) rfl
set_option maxHeartbeats 4000000 in
theorem am_law {p : Program} {e : Env} {s : State} {m : MethodId} {below : List Frame} {meth : Method} {c : Code} (l : Launch) {b L : Nat} {xs : Nat → Int32} (C0 : lw_At p s m meth c b L xs) {n d : Nat} {mem' : List am_E} (hd : d ≤ 1000)
    (hex : am_exec am_ft am_P (am_cst ((List.range L).map xs)) n d 239 0 (am_args [.ref 1013] 4) [] [] = some (some (.int 1), mem')) (h1 : mem'.length ≤ 600000) (h2 : am_sz mem' ≤ 7302250) :
    W p l e room_1 s m #[Value.ref b] below meth c s.heap [] 0 0 (lw_Z below #[Value.ref b] s) (entryFrame m ([Value.ref b] : List Value).toArray 4) := by
  obtain ⟨hx, hb, hr, hml, hown, hts, hX, hbl, hlocks, hgv⟩ := C0
  have hs := flat_of_before _ hgv
  have hA : ∀ a : Nat, a < s.heap.size → ¬ am_A s.heap.size a := fun a ha h => Nat.not_le.mpr ha h
  have hex5 : ∀ i j : Nat, i < 5 → j < 5 → i ≠ j → (Cond.not (Cond.eq (am_tm i) (am_tm j))).before #[Value.ref b] s = true ∨ (Cond.not (Cond.eq (am_tm j) (am_tm i))).before #[Value.ref b] s = true := fun i j hi hj hij => (am_pr6 i hi j hj hij).imp (hs _) (hs _)
  obtain ⟨adK, adV, hstr, hadK⟩ := vk_Sof (args := #[Value.ref b]) (s := s) (N := 5) (tm := am_tm) (len := [5, 5, 6, 5, 7]) (byt := am_byt) (A := am_A s.heap.size) (fun i hi => by rcases (show i = 0 ∨ i = 1 ∨ i = 2 ∨ i = 3 ∨ i = 4 by omega) with rfl | rfl | rfl | rfl | rfl <;> decide) (fun i hi => hs _ (am_pr1 i hi)) (fun i hi => hs _ (am_pr2 i hi)) (fun i hi => hs _ (am_pr3 i hi)) (fun i hi => hs _ (am_pr4 i hi)) (fun i hi j hj => hs _ (am_pr5 i hi j hj)) hex5 hA
  obtain ⟨tn, htn, hTn⟩ := va_Tof (N := 5) (f := fun j => .int (am_num.getD j 0)) (A := am_A s.heap.size) (by decide) (hs _ am_pr7.1.1) (am_eq_of (hs _ am_pr7.2.1)) (fun j hj => am_eq_of (hs _ (am_pr8 j hj))) hA
  obtain ⟨tl, htl, hTl⟩ := va_Tof (N := 15) (f := fun j => .int (am_low.getD j 0)) (A := am_A s.heap.size) (by decide) (hs _ am_pr7.1.2.1) (am_eq_of (hs _ am_pr7.2.2.1)) (fun j hj => am_eq_of (hs _ (am_pr9 j hj))) hA
  obtain ⟨th, hth, hTh⟩ := va_Tof (N := 15) (f := fun j => .int (am_hig.getD j 0)) (A := am_A s.heap.size) (by decide) (hs _ am_pr7.1.2.2) (am_eq_of (hs _ am_pr7.2.2.2)) (fun j hj => am_eq_of (hs _ (am_pr10 j hj))) hA
  have hTs : va_T .int b ((List.range L).map xs).length (fun j => .int (((List.range L).map xs).getD j 0)) (am_A s.heap.size) s s.heap := by
    obtain ⟨scr, q1, q2, q3, q4, q5⟩ := hX
    rw [List.length_map, List.length_range]
    refine ⟨scr, q1, q2, q3, by omega, by rw [q4], fun j hj => ?_, hA b hbl⟩
    rw [q5 j hj]
    simp only [List.getD_eq_getElem?_getD, List.getElem?_map, List.getElem?_range hj]
    rfl
  have hZ1 := va_Zof (A := am_A s.heap.size) (hts _ am_pr12.1.1) (hts _ am_pr12.2.1) (am_eq_of (hs _ am_pr11)) hA
  have hZ2 := va_Zof (A := am_A s.heap.size) (hts _ am_pr12.1.2.1) (hts _ am_pr12.2.2.1) htn hA
  have hZ3 := va_Zof (A := am_A s.heap.size) (hts _ am_pr12.1.2.2.1) (hts _ am_pr12.2.2.1) htl hA
  have hZ4 := va_Zof (A := am_A s.heap.size) (hts _ am_pr12.1.2.2.2) (hts _ am_pr12.2.2.1) hth hA
  have hCO : am_CO s.heap.size (am_ka adK adV tn tl th b) (am_cst ((List.range L).map xs)) s s.heap := by
    refine ⟨fun j q ty hj hty => ?_, fun j fs hj => ?_, fun j v hj => ?_, fun q hq => ?_, fun j ci fs hj => ?_, va_Zqof (hts _ am_pr14.1) (hts _ am_pr14.2.1) (hs _ am_pr14.2.2) hA⟩
    · match j, hj with
      | 0, hj => cases hj
      | 1, hj => cases hj; cases hty; exact (hstr.1 0 (by decide)).2.2.2
      | 2, hj => cases hj
      | 3, hj => cases hj; cases hty; exact (hstr.1 1 (by decide)).2.2.2
      | 4, hj => cases hj
      | 5, hj => cases hj; cases hty; exact (hstr.1 2 (by decide)).2.2.2
      | 6, hj => cases hj
      | 7, hj => cases hj; cases hty; exact (hstr.1 3 (by decide)).2.2.2
      | 8, hj => cases hj
      | 9, hj => cases hj; cases hty; exact (hstr.1 4 (by decide)).2.2.2
      | 10, hj => cases hj; cases hty; exact hTn
      | 11, hj => cases hj; cases hty; exact hTl
      | 12, hj => cases hj; cases hty; exact hTh
      | 13, hj => cases hj; cases hty; exact hTs
      | j + 14, hj => cases hj
    · match j, hj with
      | 0, hj => cases hj; exact ⟨(hstr.1 0 (by decide)).1, fun v hv => by cases hv; exact (hstr.1 0 (by decide)).2.2.1, fun v hv => by cases hv; exact (hstr.1 0 (by decide)).2.1⟩
      | 1, hj => cases hj
      | 2, hj => cases hj; exact ⟨(hstr.1 1 (by decide)).1, fun v hv => by cases hv; exact (hstr.1 1 (by decide)).2.2.1, fun v hv => by cases hv; exact (hstr.1 1 (by decide)).2.1⟩
      | 3, hj => cases hj
      | 4, hj => cases hj; exact ⟨(hstr.1 2 (by decide)).1, fun v hv => by cases hv; exact (hstr.1 2 (by decide)).2.2.1, fun v hv => by cases hv; exact (hstr.1 2 (by decide)).2.1⟩
      | 5, hj => cases hj
      | 6, hj => cases hj; exact ⟨(hstr.1 3 (by decide)).1, fun v hv => by cases hv; exact (hstr.1 3 (by decide)).2.2.1, fun v hv => by cases hv; exact (hstr.1 3 (by decide)).2.1⟩
      | 7, hj => cases hj
      | 8, hj => cases hj; exact ⟨(hstr.1 4 (by decide)).1, fun v hv => by cases hv; exact (hstr.1 4 (by decide)).2.2.1, fun v hv => by cases hv; exact (hstr.1 4 (by decide)).2.1⟩
      | 9, hj => cases hj
      | 10, hj => cases hj
      | 11, hj => cases hj
      | 12, hj => cases hj
      | 13, hj => cases hj
      | j + 14, hj => cases hj
    · match j, hj with
      | 0, hj => cases hj; exact hZ1
      | 1, hj => cases hj; exact hZ2
      | 2, hj => cases hj; exact hZ3
      | 3, hj => cases hj; exact hZ4
      | j + 4, hj => cases hj
    · have hq2 := List.all_eq_true.mp am_pr13 q hq
      simp only [Bool.and_eq_true, decide_eq_true_eq] at hq2
      obtain ⟨⟨⟨⟨⟨e1, e2⟩, e3⟩, e4⟩, e5⟩, e6⟩ := hq2
      have hi : (q.2.2.1 - 1000) / 2 < 5 := by omega
      have hev := hadK _ hi
      have hph : am_phi s.heap.size (am_ka adK adV tn tl th b) q.2.2.1 = adK ((q.2.2.1 - 1000) / 2) := by
        rw [am_phi_hi (by omega)]
        unfold am_ka
        rw [if_pos (by omega), if_pos e4]
      rw [hph]
      refine vk_R.of (hts _ e6) ?_
      rw [e1]
      unfold am_tm at hev
      rw [show 139 + 2 * ((q.2.2.1 - 1000) / 2) = q.2.1 by omega] at hev
      exact hev
    · match j, hj with
      | 0, hj => cases hj; rfl
      | 1, hj => cases hj
      | 2, hj => cases hj; rfl
      | 3, hj => cases hj
      | 4, hj => cases hj; rfl
      | 5, hj => cases hj
      | 6, hj => cases hj; rfl
      | 7, hj => cases hj
      | 8, hj => cases hj; rfl
      | 9, hj => cases hj
      | 10, hj => cases hj
      | 11, hj => cases hj
      | 12, hj => cases hj
      | 13, hj => cases hj
      | j + 14, hj => cases hj
  have hkn : ∀ ci : Nat, ∃ q : ClassId × (Nat → Nat), ci < 10 → u_Kn s (am_clq ci).1 (am_clq ci).2.1 (am_clq ci).2.2 q.1 q.2 := fun ci => by
    by_cases h10 : ci < 10
    · obtain ⟨g1, -, -, -, g5, -⟩ := am_cq_get h10
      obtain ⟨cC, iS, hK⟩ := u_known hts (fun w hw => am_big_in (g1 w hw)) (hts _ (am_big_in g5))
      exact ⟨(cC, iS), fun _ => hK⟩
    · exact ⟨(0, fun _ => 0), fun h => absurd h h10⟩
  have hKC : am_KC (fun ci => (Classical.choose (hkn ci)).1, fun ci => (Classical.choose (hkn ci)).2) s := fun ci q hq => by
    have h10 : ci < 10 := (List.getElem?_eq_some_iff.mp hq).1
    have hq2 := am_cl_get h10
    rw [hq2] at hq
    cases hq
    exact Classical.choose_spec (hkn ci) h10
  have hNW : am_NW s := by
    refine ⟨fun q hq h3 => ?_, va_AO.of (hts _ am_pr12.2.2.2.1), ?_⟩
    · have := List.all_eq_true.mp am_lx_c q hq
      simp only [Bool.or_eq_true, decide_eq_true_eq] at this
      rcases this with h | h
      · exact absurd h h3
      · exact va_Nw.of rfl (hts _ (List.mem_of_getElem? h))
    · have := hts _ am_pr12.2.2.2.2
      exact Jvm.Stand.arrayOver_alikeB (Vm.Alike.refl _) this
  have hm4 : (am_mq 239).2.1 = 4 := by decide +kernel
  have C : am_Cx s.heap.size (am_ka adK adV tn tl th b) (fun ci => (Classical.choose (hkn ci)).1, fun ci => (Classical.choose (hkn ci)).2) (am_cst ((List.range L).map xs)) 239 0 p s m #[Value.ref b] meth c := by
    refine ⟨hx, hb, hml.trans hm4.symm, ?_, fun w hw => hts w (am_big_in hw), hKC, hCO, rfl, fun h => ?_, hNW⟩
    · rw [(am_nm_get (k := 239) (by decide)).2.2.2.1]
      exact hown
    · exact absurd h (by decide +kernel)
  have hl := am_LV.entry (am_phi s.heap.size (am_ka adK adV tn tl th b)) (vs := [.ref 1013]) (ml := 4) (by decide)
  rw [lg_entry_eq]
  have hP : va_P (fun ci => (Classical.choose (hkn ci)).1, fun ci => (Classical.choose (hkn ci)).2) am_cl (am_ws s.heap.size (am_ka adK adV tn tl th b) (fun _ => 0) []) s.heap := fun k q h => by cases h
  have hWK : am_WK (fun _ => 0) [] s := fun k e2 ty h _ => by cases h
  have hpc0 : (am_pcs 239).getD 0 0 = 0 := beq_iff_eq.mp (List.all_eq_true.mp am_pc0 239 (List.mem_range.mpr (by decide)))
  rw [← hm4] at hex hl
  have main := am_execW (l := l) (e := e) (below := below) (R := room_1) (Q := lw_Z below #[Value.ref b] s) (z0 := 0) C (by decide) (r := some (.int 1)) (mem' := mem') h1 h2 ?_ n d 0 _ [] [] (by show d + 3 ≤ 2048 ∧ 64 * (d + 3) ≤ 84000; omega) (fun d' _ => am_con l _ _ _ _ d') (Nat.le_refl _) (Nat.le_refl _) hex _ s.heap [] hl ⟨_, hP, hWK, va_S.rf⟩
  · rw [hpc0] at main
    rw [hm4] at main
    exact main
  · intro i ls raw hdec hret lsA H1 locs1 hl1 hSt
    obtain ⟨cA1, hP1, hWK1, hS1⟩ := hSt
    have hrt : (am_mq 239).2.2.2.2 = 2 := by decide +kernel
    rw [hrt] at hret
    rcases hret with ⟨h0, -, -⟩ | ⟨v, hv, -, hraw⟩
    · cases h0
    · cases hv
      rcases hraw with ⟨rfl, -⟩ | ⟨-, h3⟩ | ⟨-, h3⟩
      · refine va_forget (fun q hq => hS1.2.2 q hq) ?_
        refine W.widen (k := 600000) (n := 7302250) h1 h2 ?_
        exact lw_ret hx hb hr hlocks hdec
      · cases h3
      · cases h3
