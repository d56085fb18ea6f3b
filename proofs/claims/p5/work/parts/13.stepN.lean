/-! Instructions that make cells -/
theorem am_outer (c : ClassId) (N h0 : Nat) : ∀ i : Nat, Jvm.Free.Multi.outerC c N h0 i = arrV c N (fun j => va_rf (if j < i then some (h0 + 1 + j) else none))
  | 0 => by
    show ({ cls := c, slots := Array.replicate N .null, vm := .none } : Cell) = _
    rw [arrV_new]
    exact congrArg (arrV c N) (funext fun j => by simp [va_rf])
  | i + 1 => by
    show (Jvm.Free.Multi.outerC c N h0 i).setSlot i (.ref (h0 + 1 + i)) = _
    rw [am_outer c N h0 i, arrV_store]
    refine congrArg (arrV c N) (funext fun j => ?_)
    rcases Nat.lt_trichotomy j i with h | h | h
    · simp [updV, va_rf, show ¬ j = i by omega, h, Nat.lt_succ_of_lt h]
    · subst h
      simp [updV, va_rf]
    · simp [updV, va_rf, show ¬ j = i by omega, show ¬ j < i by omega, show ¬ j < i + 1 by omega]
theorem am_rep0 (n j : Nat) : (List.replicate n (0 : Int32)).getD j 0 = 0 := by
  rw [List.getD_eq_getElem?_getD, List.getElem?_replicate]
  split <;> rfl
theorem am_repN (n j : Nat) (f : Nat → Nat) : ((List.replicate n (none : Option Nat)).getD j none).map f = none := by
  rw [List.getD_eq_getElem?_getD, List.getElem?_replicate]
  split <;> rfl
theorem am_tv_def (f : Nat → Nat) (ty : FieldType) : am_tv f (defaultValue ty) = defaultValue ty := by cases ty <;> rfl
section AMS
variable {p : Program} {l : Launch} {e : Env} {R : Room} {s : State} {m : MethodId} {args : Array Value} {below : List Frame} {meth : Method} {c : Code} {Q : State → Prop} {B : Nat} {ka : Nat → Nat} {D : va_G} {cst : List am_E} {mid n0 z0 : Nat}
theorem am_newq {mem : List am_E} {cA : Nat → ClassId} {q : Nat} {x : va_E} {H1 : Heap} (hP : va_P D am_cl (am_ws B ka cA mem ++ [(q, x)]) H1) (hD : va_D (am_A B) (am_ws B ka cA mem ++ [(q, x)])) (hs : H1.size ≤ B + mem.length + 1) : q = B + mem.length := by
  have hl : (am_ws B ka cA mem).length = mem.length := by unfold am_ws; exact List.length_mapIdx
  have hg : (am_ws B ka cA mem ++ [(q, x)])[mem.length]? = some (q, x) := by rw [List.getElem?_append_right (by omega), hl, Nat.sub_self]; rfl
  have h1 : q < H1.size := (hP _ _ hg).lt
  have h2 : B ≤ q := hD.2 _ _ hg
  rcases Nat.lt_or_ge q (B + mem.length) with h | h
  · exfalso
    have hk : q - B < mem.length := by omega
    have hg2 : (am_ws B ka cA mem ++ [(q, x)])[q - B]? = some (B + (q - B), am_te (am_phi B ka) (cA (q - B)) mem[q - B]) := by
      rw [List.getElem?_append_left (by omega)]
      exact am_ws_at (List.getElem?_eq_getElem hk)
    have := hD.1 _ _ _ _ hg hg2 (by show q = B + (q - B); omega)
    omega
  · omega
theorem am_sz_app (mem l : List am_E) : am_sz (mem ++ l) = am_sz mem + am_sz l := by unfold am_sz; rw [List.map_append, List.sum_append]
theorem am_appW {i : Nat} {ls : am_L} {r : List Value} {mem : List am_E} {e1 : am_E} (kk : am_G B ka D mid n0 z0 p l e R s m args below meth c Q i ls (.ref mem.length :: r) (mem ++ [e1])) (hlt : mem.length < 1000) (hn : n0 ≤ mem.length) (hz : z0 ≤ am_sz mem) (hsz : s.heap.size = B + n0)
    {lsA : Array Slot} {H1 : Heap} {locs : List Loc} {cA : Nat → ClassId} {cN : ClassId} {q : Nat} {x : va_E} (hl : am_LV (am_phi B ka) ls (am_mq mid).2.1 lsA) (hWK : am_WK cA mem s) (hS1 : va_S (am_A B) s.heap H1 locs) (hN : ∀ ty, am_aty e1 = some ty → ArrOfT s cN ty ∧ va_RA s cN ty)
    (hx : am_te (am_phi B ka) cN e1 = x) (hP1 : va_P D am_cl (am_ws B ka cA mem ++ [(q, x)]) H1) (hD1 : va_D (am_A B) (am_ws B ka cA mem ++ [(q, x)])) :
    W p l e R s m args below meth c H1 locs (mem.length - n0 + 1) (am_sz mem - z0 + am_ez e1) Q (F0 m ((am_pcs mid).getD i 0) lsA (.ref q :: r.map (am_tv (am_phi B ka)))) := by
  intro T hT X
  have hh := X.heapSize
  rw [hT, hsz] at hh
  have hq := am_newq hP1 hD1 (by omega)
  subst hq hx
  have hP2 : va_P D am_cl (am_ws B ka (am_upC cA mem.length (fun _ => cN)) (mem ++ [e1])) H1 := by
    rw [am_ws_app]
    exact hP1
  have hWK2 : am_WK (am_upC cA mem.length (fun _ => cN)) (mem ++ [e1]) s := by
    intro k e2 ty hk hty
    by_cases h : k < mem.length
    · rw [List.getElem?_append_left h] at hk
      simp only [am_upC, h, if_true]
      exact hWK k e2 ty hk hty
    · rw [List.getElem?_append_right (by omega)] at hk
      have h0 : k - mem.length < 1 := (List.getElem?_eq_some_iff.mp hk).1
      rw [show k - mem.length = 0 by omega] at hk
      cases hk
      simp only [am_upC, h, if_false]
      exact hN ty hty
  have := kk lsA H1 locs hl ⟨_, hP2, hWK2, hS1⟩
  rw [List.length_append, am_sz_app, show mem.length + [e1].length - n0 = mem.length - n0 + 1 by simp only [List.length_cons, List.length_nil]; omega, show am_sz mem + am_sz [e1] - z0 = am_sz mem - z0 + am_ez e1 by simp only [am_sz, List.map_cons, List.map_nil, List.sum_cons, List.sum_nil] at hz ⊢; omega] at this
  simp only [List.map_cons, am_tv, am_phi_lo hlt] at this
  exact this T hT X
set_option maxHeartbeats 4000000 in
theorem am_stepN (C : am_Cx B ka D cst mid n0 p s m args meth c) {i pc len rt : Nat} {op raw : Instr} {ls ls' : am_L} {st st' : List Value} {mem : List am_E} {j : Option Nat} (hpc : (am_pcs mid).getD i 0 = pc)
    (hdec : decode (am_bytes mid) pc = .ok (raw, len)) (hchk : am_chk (am_on.getD mid 0) rt (am_pcs mid) i op raw pc len = true)
    (hA : match op with | .new _ | .newarray _ | .anewarray _ | .multianewarray _ _ => True | _ => False) (hn0 : n0 ≤ mem.length) (hz0 : z0 ≤ am_sz mem)
    {mem' : List am_E} (hr1 : mem'.length - n0 ≤ R.cells) (hr2 : am_sz mem' - z0 ≤ R.slots) (h : am_step am_ft cst op ls st mem = some (j, ls', st', mem')) (kk : am_G B ka D mid n0 z0 p l e R s m args below meth c Q (j.getD (i + 1)) ls' st' mem') : am_G B ka D mid n0 z0 p l e R s m args below meth c Q i ls st mem := by
  intro lsA H locs hl hSt
  obtain ⟨hx, hb, hml, hown, hts, hKC, hCO, hsz, hnm, hnw⟩ := C
  rw [hpc]
  have hAA : ∀ q, s.heap.size ≤ q → am_A B q := fun q hq => by show B ≤ q; omega
  cases op with
  | new ci =>
    simp only [am_step] at h
    split at h
    · rename_i hlt
      simp only [Option.some.injEq, Prod.mk.injEq] at h
      obtain ⟨rfl, rfl, rfl, rfl⟩ := h
      simp only [am_chk, Bool.and_eq_true] at hchk
      obtain ⟨hn, hr⟩ := hchk
      rw [Option.getD_none] at kk
      obtain ⟨cA, hP, hWK, hS⟩ := hSt
      cases raw with
      | new ix =>
        simp only [Bool.and_eq_true, beq_iff_eq] at hr
        obtain ⟨rfl, hr⟩ := hr
        have f1 := am_ln_fin hr
        obtain ⟨g1, g2, g3, g4, g5, g6⟩ := am_cq_get f1
        rw [List.length_append] at hr1
        rw [am_sz_app] at hr2
        have hez : am_ez (.inr (.inl (ci, (am_ft ci).map fun q => q.2.2))) = (am_clq ci).2.2 := by simp only [am_ez, List.length_map]; exact g3
        have hs1 : am_sz [(.inr (.inl (ci, (am_ft ci).map fun q => q.2.2)) : am_E)] = (am_clq ci).2.2 := by simp only [am_sz, List.map_cons, List.map_nil, List.sum_cons, List.sum_nil, hez, Nat.add_zero]
        rw [hs1] at hr2
        simp only [List.length_cons, List.length_nil] at hr1
        refine va_new hx hb hts g1 (fun k => ((am_ft ci).getD k (.int, false, .null)).1) (fun k hk => ?_) hown (hts _ (am_ln_ok hr)) (hts _ g5) (hts _ g6) (am_K0 hKC) hP am_ws_D hS hAA (am_cl_get f1) (fs := ((am_ft ci).map fun q => q.2.2).map (am_tv (am_phi B ka))) (fun k hk => ?_) (by omega) (by omega) hdec (fun q H1 hP1 hD1 hS1 => ?_)
        · obtain ⟨ty', fin', v', t1, t2, t3, t4⟩ := g2 k hk
          rw [t2, List.getD_eq_getElem?_getD, t1]
          rfl
        · obtain ⟨ty', fin', v', t1, t2, t3, t4⟩ := g2 k hk
          rw [vp_V, List.getD_eq_getElem?_getD, List.getD_eq_getElem?_getD, List.getElem?_map, List.getElem?_map, t1]
          show defaultValue ty' = am_tv _ v'
          rw [← t4, am_tv_def]
        · rw [← am_nx_ok hn, ← hez]
          exact am_appW kk hlt hn0 hz0 hsz (cN := cA 0) hl hWK hS1 (fun ty hty => by cases hty) rfl hP1 hD1
      | _ => cases hr
    · cases h
  | newarray a =>
    simp only [am_step] at h
    split at h
    · rename_i n r t ha
      split at h
      · rename_i hq
        obtain ⟨q1, q2, q3⟩ := hq
        simp only [Option.some.injEq, Prod.mk.injEq] at h
        obtain ⟨rfl, rfl, rfl, rfl⟩ := h
        simp only [am_chk, Bool.and_eq_true] at hchk
        obtain ⟨hn, hr⟩ := hchk
        rw [Option.getD_none] at kk
        obtain ⟨cA, hP, hWK, hS⟩ := hSt
        cases raw with
        | newarray a' =>
          simp only [Bool.and_eq_true, beq_iff_eq, decide_eq_true_eq] at hr
          obtain ⟨rfl, rfl⟩ := hr
          rw [List.length_append] at hr1
          rw [am_sz_app] at hr2
          have hez : am_ez (.inl (t, List.replicate n.toNatClampNeg 0)) = n.toNatClampNeg := by simp only [am_ez, List.length_replicate]
          have hs1 : am_sz [(.inl (t, List.replicate n.toNatClampNeg 0) : am_E)] = n.toNatClampNeg := by simp only [am_sz, List.map_cons, List.map_nil, List.sum_cons, List.sum_nil, hez, Nat.add_zero]
          rw [hs1] at hr2
          simp only [List.length_cons, List.length_nil] at hr1
          have key : ∀ ty : FieldType, newarray.typeOf a' = ty → Cond.arrayClass ty ∈ am_big → defaultValue ty = .int 0 → componentBytes ty ≤ 4 → (am_aty (.inl (t, List.replicate n.toNatClampNeg 0)) = some ty) →
              W p l e R s m args below meth c H locs (mem.length - n0) (am_sz mem - z0) Q (F0 m pc lsA (.int n :: r.map (am_tv (am_phi B ka)))) := by
            intro ty hty hw hdv hcb hat
            refine va_newa hx hb (by rw [hty]; exact hts _ hw) hty (am_K0 hKC) hP am_ws_D hS hAA (a0 := (n.toNatClampNeg, .inl (fun j => (List.replicate n.toNatClampNeg (0 : Int32)).getD j 0))) (fun cB => ?_) q1 rfl ?_ (by omega) (by omega) hdec (fun q cN H1 hK1 hP1 hD1 hS1 => ?_)
            · rw [vp_cell_i, hdv]
              exact congrArg (arrV cB n.toNatClampNeg) (funext fun j => by rw [am_rep0])
            · have := Nat.mul_le_mul q2 hcb
              omega
            · rw [← am_nx_ok hn]
              have := am_appW kk q3 hn0 hz0 hsz (cN := cN) (q := q) hl hWK hS1 (fun ty' hty' => by
                rw [hat] at hty'
                cases hty'
                exact hK1.2 0 _ rfl) rfl (by simp only [am_te, List.length_replicate]; exact hP1) (by simp only [am_te, List.length_replicate]; exact hD1)
              rw [hez] at this
              exact this
          cases a' with
          | int => cases ha; exact key .int rfl am_arr_w.1 rfl (by decide) rfl
          | byte => cases ha; exact key .byte rfl am_arr_w.2.1 rfl (by decide) rfl
          | boolean => cases ha; exact key .boolean rfl am_arr_w.2.2 rfl (by decide) rfl
          | _ => cases ha
        | _ => cases hr
      · cases h
    · cases h
  | anewarray a =>
    simp only [am_step] at h
    split at h
    · rename_i n r
      split at h
      · rename_i hq
        obtain ⟨q1, q2, q3⟩ := hq
        simp only [Option.some.injEq, Prod.mk.injEq] at h
        obtain ⟨rfl, rfl, rfl, rfl⟩ := h
        simp only [am_chk, Bool.and_eq_true] at hchk
        obtain ⟨hn, hr⟩ := hchk
        rw [Option.getD_none] at kk
        obtain ⟨cA, hP, hWK, hS⟩ := hSt
        cases raw with
        | anewarray ix =>
          simp only [Bool.and_eq_true, beq_iff_eq] at hr
          obtain ⟨rfl, hr⟩ := hr
          rw [List.length_append] at hr1
          rw [am_sz_app] at hr2
          have hez : am_ez (.inr (.inr (0, List.replicate n.toNatClampNeg none))) = n.toNatClampNeg := by simp only [am_ez, List.length_replicate]
          have hs1 : am_sz [(.inr (.inr (0, List.replicate n.toNatClampNeg none)) : am_E)] = n.toNatClampNeg := by simp only [am_sz, List.map_cons, List.map_nil, List.sum_cons, List.sum_nil, hez, Nat.add_zero]
          rw [hs1] at hr2
          simp only [List.length_cons, List.length_nil] at hr1
          refine va_newq hx hb hown (hts _ (am_lan_ok hr)) hnw.2.1 (am_K0 hKC) hP am_ws_D hS hAA q1 rfl (by omega) (by omega) (by omega) hdec (fun q cN H1 hK1 hP1 hD1 hS1 => ?_)
          rw [← am_nx_ok hn]
          have he : am_te (am_phi B ka) cN (.inr (.inr (0, List.replicate n.toNatClampNeg none))) = .inl (cN, n.toNatClampNeg, .inr (.inr (.inr (.inr (fun _ => none))))) := by
            simp only [am_te, List.length_replicate, am_repN]
          have := am_appW kk q3 hn0 hz0 hsz (cN := cN) (q := q) hl hWK hS1 (fun ty' hty' => by
            cases hty'
            exact hK1.2 0 _ rfl) he hP1 hD1
          rw [hez] at this
          exact this
        | _ => cases hr
      · cases h
    · cases h
  | multianewarray a b =>
    simp only [am_step] at h
    split at h
    · rename_i k n r
      split at h
      · rename_i hq
        obtain ⟨q1, q2, q3, q4, q5⟩ := hq
        simp only [Option.some.injEq, Prod.mk.injEq] at h
        obtain ⟨rfl, rfl, rfl, rfl⟩ := h
        simp only [am_chk, Bool.and_eq_true] at hchk
        obtain ⟨hn, hr⟩ := hchk
        rw [Option.getD_none] at kk
        obtain ⟨cA, hP, hWK, hS⟩ := hSt
        cases raw with
        | multianewarray ix dm =>
          simp only [Bool.and_eq_true, beq_iff_eq] at hr
          obtain ⟨⟨rfl, rfl⟩, hr⟩ := hr
          generalize hN : n.toNatClampNeg = N at *
          generalize hK : k.toNatClampNeg = K at *
          have hszl : am_sz ((.inr (.inr (1, (List.range N).map fun j => some (mem.length + 1 + j))) : am_E) :: List.replicate N (.inl (0, List.replicate K 0))) = N + N * K := by
            simp only [am_sz, List.map_cons, List.sum_cons, am_ez, List.length_map, List.length_range, List.map_replicate, List.length_replicate, List.sum_replicate_nat]
          rw [List.length_append, List.length_cons, List.length_replicate] at hr1
          rw [am_sz_app, hszl] at hr2
          intro T hT X
          have hh := X.heapSize
          rw [hT, hsz] at hh
          have hlow : B + mem.length ≤ H.size := by
            rcases Nat.eq_zero_or_pos mem.length with h0 | h0
            · have := hS.1
              omega
            · have := (hP (mem.length - 1) _ (am_ws_at (List.getElem?_eq_getElem (show mem.length - 1 < mem.length by omega)))).lt
              simp only at this
              omega
          have hHs : H.size = B + mem.length := by omega
          obtain ⟨vm₁, cO, comp, -, fA, fC, hO, hI, X', step⟩ := X.multianewarray2F hx hown (hts _ (am_lma_ok hr)) hnw.2.2 (hts _ am_arr_w.1) (g := F0 m pc lsA (.int k :: .int n :: r.map (am_tv (am_phi B ka)))) rfl (by rw [hb]; exact hdec) rfl q1 q2 (by rw [hN]; omega) (by rw [hK]; show K * 4 ≤ _; omega) (by rw [hK]; omega) rfl rfl (by rw [hN]; omega) (by rw [hN, hK]; omega)
          rw [hN, hK] at X' step
          obtain ⟨f1, f2, -, -⟩ := Jvm.Free.Multi.fill_facts (T.setVm vm₁) cO comp N K (defaultValue .int) N
          have hTh : (T.setVm vm₁).heap = H := hT
          have hold : ∀ x : Nat, x < H.size → (Jvm.Free.Multi.fill (T.setVm vm₁) cO comp N K (defaultValue .int) N).heap[x]? = H[x]? := fun x hx => by
            have := Jvm.Free.Multi.fill_old (T.setVm vm₁) cO comp N K (defaultValue .int) (a := x) (by rw [hTh]; exact hx) N
            rw [hTh] at this
            exact this
          have hrow : ∀ j : Nat, j < N → (Jvm.Free.Multi.fill (T.setVm vm₁) cO comp N K (defaultValue .int) N).heap[H.size + 1 + j]? = some (Jvm.Free.Multi.innerC comp K (defaultValue .int)) := fun j hj => by
            have := Jvm.Free.Multi.fill_inner (T.setVm vm₁) cO comp N K (defaultValue .int) N j hj
            rw [hTh] at this
            exact this
          rw [hTh] at f1 f2
          generalize Jvm.Free.Multi.fill (T.setVm vm₁) cO comp N K (defaultValue .int) N = F at *
          rw [am_outer, hHs] at f2
          have hin : Jvm.Free.Multi.innerC comp K (defaultValue .int) = vp_cell comp (K, .inl (fun j => (List.replicate K (0 : Int32)).getD j 0)) := by
            show ({ cls := comp, slots := Array.replicate K (.int 0), vm := .none } : Cell) = _
            rw [arrV_new, vp_cell_i]
            exact congrArg (arrV comp K) (funext fun j => by rw [am_rep0])
          have hout : arrV cO N (fun j => va_rf (if j < N then some (B + mem.length + 1 + j) else none)) = vp_cell cO (N, .inr (.inr (.inr (.inr (fun j => (((List.range N).map fun j => some (mem.length + 1 + j)).getD j none).map (am_phi B ka)))))) := by
            rw [vp_cell_q]
            refine congrArg (arrV cO N) (funext fun j => ?_)
            rw [List.getD_eq_getElem?_getD, List.getElem?_map]
            by_cases hj : j < N
            · rw [List.getElem?_range hj, if_pos hj]
              show va_rf (some _) = va_rf (some (am_phi B ka (mem.length + 1 + j)))
              rw [am_phi_lo (by omega), show B + (mem.length + 1 + j) = B + mem.length + 1 + j by omega]
            · rw [List.getElem?_eq_none (by rw [List.length_range]; omega), if_neg hj]
              rfl
          rw [hout] at f2
          have hAO : ArrOfT s cO (.array .int) := fun N9 z9 => by
            obtain ⟨-, k9, hk9, cm9, hkk9⟩ := (hO 0 0 0).1
            exact ⟨(fun q hq => by cases hq), k9, hk9, cm9, hkk9⟩
          have hAI : ArrOfT s comp .int := fun N9 z9 => by
            obtain ⟨-, k9, hk9, cm9, hkk9⟩ := (hI 0 .null).1
            exact ⟨(fun q hq => by cases hq), k9, hk9, cm9, hkk9⟩
          have hcell : ∀ (k : Nat) (e2 : am_E), mem.length ≤ k → (mem ++ ((.inr (.inr (1, (List.range N).map fun j => some (mem.length + 1 + j))) : am_E) :: List.replicate N (.inl (0, List.replicate K 0))))[k]? = some e2 →
              (k = mem.length ∧ e2 = .inr (.inr (1, (List.range N).map fun j => some (mem.length + 1 + j)))) ∨ (∃ j, j < N ∧ k = mem.length + 1 + j ∧ e2 = .inl (0, List.replicate K 0)) := by
            intro k e2 hk he
            rw [List.getElem?_append_right hk] at he
            rcases Nat.eq_or_lt_of_le hk with h | h
            · rw [show k - mem.length = 0 by omega] at he
              cases he
              exact Or.inl ⟨h.symm, rfl⟩
            · rw [show k - mem.length = (k - mem.length - 1) + 1 by omega, List.getElem?_cons_succ, List.getElem?_replicate] at he
              split at he
              · rename_i hj
                cases he
                exact Or.inr ⟨k - mem.length - 1, hj, by omega, rfl⟩
              · cases he
          have hW := kk lsA F.heap locs hl ⟨am_upC cA mem.length (fun k => if k = mem.length then cO else comp), fun k2 x2 hx2 => ?_, fun k2 e2 ty he2 hty => ?_, ⟨by have := hS.1; omega, fun x h1 h2 => (hold x (Nat.lt_of_lt_of_le h1 hS.1)).trans (hS.2.1 x h1 h2), hS.2.2⟩⟩
          · rw [List.length_append, List.length_cons, List.length_replicate, am_sz_app, hszl, show mem.length + (N + 1) - n0 = mem.length - n0 + 1 + N by omega, show am_sz mem + (N + N * K) - z0 = am_sz mem - z0 + N + N * K by omega] at hW
            obtain ⟨t, a1, b1⟩ := hW F rfl X'
            refine ⟨t, step t ?_, b1⟩
            rw [hT, hHs]
            simp only [List.map_cons, am_tv, am_phi_lo (show mem.length < 1000 by omega)] at a1
            rw [← am_nx_ok hn]
            exact a1
          · rw [am_ws_get] at hx2
            obtain ⟨e2, he2, rfl⟩ := Option.map_eq_some_iff.mp hx2
            by_cases h : k2 < mem.length
            · rw [List.getElem?_append_left h] at he2
              have := hP k2 _ (am_ws_at he2)
              simp only [am_upC, h, if_true]
              exact this.kept (hold _ this.lt)
            · rcases hcell k2 e2 (by omega) he2 with ⟨rfl, rfl⟩ | ⟨jj, hj, rfl, rfl⟩
              · simp only [am_upC, Nat.lt_irrefl, if_false, if_true]
                show F.heap[B + mem.length]? = some (vp_cell cO _)
                rw [f2]
                simp only [List.length_map, List.length_range]
              · simp only [am_upC, show ¬ mem.length + 1 + jj < mem.length by omega, show ¬ mem.length + 1 + jj = mem.length by omega, if_false]
                show F.heap[B + (mem.length + 1 + jj)]? = some (vp_cell comp _)
                rw [show B + (mem.length + 1 + jj) = H.size + 1 + jj by omega, hrow jj hj, hin]
                simp only [List.length_replicate]
          · by_cases h : k2 < mem.length
            · rw [List.getElem?_append_left h] at he2
              simp only [am_upC, h, if_true]
              exact hWK k2 e2 ty he2 hty
            · rcases hcell k2 e2 (by omega) he2 with ⟨rfl, rfl⟩ | ⟨jj, hj, rfl, rfl⟩
              · cases hty
                simp only [am_upC, Nat.lt_irrefl, if_false, if_true]
                exact ⟨hAO, fA⟩
              · cases hty
                simp only [am_upC, show ¬ mem.length + 1 + jj < mem.length by omega, show ¬ mem.length + 1 + jj = mem.length by omega, if_false]
                exact ⟨hAI, fC⟩
        | _ => cases hr
      · cases h
    · cases h
  | _ => exact absurd hA (by simp)
end AMS
