/-! The start: both constructors, run by the kernel; runs that need none of the constants -/
theorem am_look_cst {cst mem : List am_E} {k : Nat} {e : am_E} (h : am_look [] mem k = some e) : am_look cst mem k = some e := by
  unfold am_look at h ⊢
  by_cases hk : k < 1000
  · rw [if_pos hk] at h ⊢; exact h
  · rw [if_neg hk] at h; simp at h
set_option maxHeartbeats 4000000 in
theorem am_step_cst {cst : List am_E} {op : Instr} {ls : am_L} {st : List Value} {mem : List am_E} {R : Option Nat × am_L × List Value × List am_E} (h : am_step am_ft [] op ls st mem = some R) : am_step am_ft cst op ls st mem = some R := by
  cases op
  case iaload =>
    simp only [am_step] at h ⊢
    split at h
    · rename_i i k r
      cases hl : am_look [] mem k with
      | none => rw [hl] at h; cases h
      | some e => rw [am_look_cst hl]; rw [hl] at h; exact h
    · cases h
  case baload =>
    simp only [am_step] at h ⊢
    split at h
    · rename_i i k r
      cases hl : am_look [] mem k with
      | none => rw [hl] at h; cases h
      | some e => rw [am_look_cst hl]; rw [hl] at h; exact h
    · cases h
  case arraylength =>
    simp only [am_step] at h ⊢
    split at h
    · rename_i k r
      cases hl : am_look [] mem k with
      | none => rw [hl] at h; cases h
      | some e => rw [am_look_cst hl]; rw [hl] at h; exact h
    · cases h
  case getfield =>
    simp only [am_step] at h ⊢
    split at h
    · rename_i k r
      cases hl : am_look [] mem k with
      | none => rw [hl] at h; cases h
      | some e => rw [am_look_cst hl]; rw [hl] at h; exact h
    · cases h
  all_goals exact h
theorem am_recv_cst {cst mem : List am_E} {rc : Option Nat} {vs : List Value} (h : am_recv [] mem rc vs = true) : am_recv cst mem rc vs = true := by
  unfold am_recv at h ⊢
  split at h
  · rfl
  · split at h
    · rename_i k r
      cases hl : am_look [] mem k with
      | none => rw [hl] at h; cases h
      | some e => rw [am_look_cst hl]; rw [hl] at h; exact h
    · cases h
theorem am_exec_cst {cst : List am_E} : ∀ {n d mid i : Nat} {ls : am_L} {st : List Value} {mem : List am_E} {R : Option Value × List am_E}, am_exec am_ft am_P [] n d mid i ls st mem = some R → am_exec am_ft am_P cst n d mid i ls st mem = some R := by
  intro n
  induction n with
  | zero => intro d mid i ls st mem R h; cases h
  | succ n ih =>
    intro d mid i ls st mem R h
    unfold am_exec at h ⊢
    split at h
    · cases h
    · split at h
      · cases h
      · split at h
        · exact h
        · exact h
        · split at h
          · split at h
            · rename_i hq
              rw [if_pos ⟨hq.1, hq.2.1, hq.2.2.1, am_recv_cst hq.2.2.2⟩]
              split at h
              · rename_i h1
                rw [ih h1]
                exact ih h
              · cases h
            · cases h
          · cases h
        · split at h
          · rename_i h1
            rw [am_step_cst h1]
            exact ih h
          · cases h
/-- what a list of cells tells -/
noncomputable def w_bk (mem : List am_E) : w_M := fun a i => match mem[a]? with
  | some (.inl (_, xs)) => (xs.getD i 0).toInt
  | some (.inr (.inl (_, fs))) => (match fs[i]? with | some (.int x) => x.toInt | _ => 0)
  | _ => 0
theorem w_bk_ms (mem : List am_E) : w_ms (w_bk mem) := by
  intro a i
  unfold w_bk
  split
  · exact w_toInt_in _
  · split
    · exact w_toInt_in _
    · exact w_in0
  · exact w_in0
theorem w_bk_at {m m' : List am_E} {b : Nat} (h : m'[b]? = m[b]?) : w_bk m' b = w_bk m b := by
  funext i
  unfold w_bk
  rw [h]
noncomputable def ini_1 : List am_E := [.inr (.inl (0, (am_ft 0).map fun q => q.2.2))]
noncomputable def ini_q (x : Option (Option Value × List am_E)) : Bool := match x with
  | some (none, _) => true
  | _ => false
noncomputable def ini_o (x : Option (Option Value × List am_E)) : List am_E := match x with
  | some (none, m) => m
  | _ => []
theorem ini_of {x : Option (Option Value × List am_E)} (h : ini_q x = true) : x = some (none, ini_o x) := by
  unfold ini_q at h
  split at h
  · rfl
  · cases h
noncomputable def ini_A : List am_E := ini_o (am_exec am_ft am_P [] 6000 10 105 0 (am_args [.ref 0] 2) [] ini_1)
noncomputable def ini_2 : List am_E := ini_A ++ [.inr (.inl (9, (am_ft 9).map fun q => q.2.2))]
noncomputable def ini_B : List am_E := ini_o (am_exec am_ft am_P [] 6000 10 153 0 (am_args [.ref 122] 2) [] ini_2)
/-- the cells at the start -/
noncomputable def w_s0 : w_M := fun a i =>
  if (a = 3 ∨ a = 14 ∨ a = 32 ∨ a = 89 ∨ a = 106) ∧ i = 0 then 8 else if (a = 3 ∨ a = 14 ∨ a = 32 ∨ a = 89 ∨ a = 106) ∧ i = 3 then -4
  else if (a = 87 ∨ a = 130) ∧ i < 4 then -4 else if a = 122 ∧ (i = 3 ∨ i = 7) then 8 else if a = 122 ∧ (i = 12 ∨ i = 13) then -4
  else if (a = 123 ∨ a = 126) ∧ i = 47 then -4 else 0
theorem w_s0_ms : w_ms w_s0 := by
  intro a i
  unfold w_s0 w_in
  repeat' split
  all_goals omega
/-- both runs, once -/
noncomputable def ini_g (x : Option (Option Value × List am_E)) : Bool := match x with
  | some (none, m) => decide (w_mem w_s0 = m)
  | _ => false
noncomputable def ini_f (x : Option (Option Value × List am_E)) : Bool := match x with
  | some (none, m) => Nat.beq m.length 122 && ini_g (am_exec am_ft am_P [] 6000 10 153 0 (am_args [.ref 122] 2) [] (m ++ [.inr (.inl (9, (am_ft 9).map fun q => q.2.2))]))
  | _ => false
theorem ini_g_ok {x : Option (Option Value × List am_E)} (h : ini_g x = true) : ini_q x = true ∧ w_mem w_s0 = ini_o x := by
  unfold ini_g at h
  split at h
  · exact ⟨rfl, of_decide_eq_true h⟩
  · cases h
theorem ini_f_ok {x : Option (Option Value × List am_E)} (h : ini_f x = true) : ini_q x = true ∧ (ini_o x).length = 122 ∧ ini_g (am_exec am_ft am_P [] 6000 10 153 0 (am_args [.ref 122] 2) [] (ini_o x ++ [.inr (.inl (9, (am_ft 9).map fun q => q.2.2))])) = true := by
  unfold ini_f at h
  split at h
  · rw [Bool.and_eq_true] at h
    exact ⟨rfl, Nat.eq_of_beq_eq_true h.1, h.2⟩
  · cases h
theorem ini_all : ini_f (am_exec am_ft am_P [] 6000 10 105 0 (am_args [.ref 0] 2) [] ini_1) = true := by decide +kernel
theorem ini_qA : ini_q (am_exec am_ft am_P [] 6000 10 105 0 (am_args [.ref 0] 2) [] ini_1) = true := (ini_f_ok ini_all).1
theorem ini_lA : ini_A.length = 122 := by
  unfold ini_A
  exact (ini_f_ok ini_all).2.1
theorem ini_gB : ini_q (am_exec am_ft am_P [] 6000 10 153 0 (am_args [.ref 122] 2) [] ini_2) = true ∧ w_mem w_s0 = ini_B := by
  unfold ini_B ini_2 ini_A
  exact ini_g_ok (ini_f_ok ini_all).2.2
theorem ini_qB : ini_q (am_exec am_ft am_P [] 6000 10 153 0 (am_args [.ref 122] 2) [] ini_2) = true := ini_gB.1
theorem ini_mem : w_mem w_s0 = ini_B := ini_gB.2
theorem am_exec_call {cst : List am_E} {n d mid pc k : Nat} {M C : am_M} {ls : am_L} {st : List Value} {mem mem' : List am_E} {r : Option Value} {R : Option Value × List am_E} (hP : am_P mid = some M) (hop : M.1[pc]? = some (.invokestatic k)) (hk : am_P k = some C)
    (hc : C.2.2.1 ≤ st.length ∧ ((st.drop C.2.2.1).map fun v => v.category).sum ≤ 8 ∧ (am_place (st.take C.2.2.1).reverse).length ≤ C.2.1 ∧ am_recv cst mem C.2.2.2.1 (st.take C.2.2.1).reverse = true)
    (h1 : am_exec am_ft am_P cst n d k 0 (am_args (st.take C.2.2.1).reverse C.2.1) [] mem = some (r, mem')) (h2 : am_exec am_ft am_P cst n (d + 1) mid (pc + 1) ls (r.toList ++ st.drop C.2.2.1) mem' = some R) :
    am_exec am_ft am_P cst (n + 1) (d + 1) mid pc ls st mem = some R := by
  unfold am_exec
  rw [hP]
  simp only [hop, hk]
  rw [if_pos hc, h1]
  exact h2
set_option maxRecDepth 20000 in
theorem ini_run {cst : List am_E} {n d : Nat} {R : Option Value × List am_E} (hd : 11 ≤ d)
    (h : am_exec am_ft am_P cst n d 239 10 [some (.ref 1013), some (.ref 0), some (.ref 122), some (.int 0)] [] (w_mem w_s0) = some R) :
    ∃ n', am_exec am_ft am_P cst n' d 239 0 (am_args [.ref 1013] 4) [] [] = some R := by
  obtain ⟨d, rfl⟩ := Nat.exists_eq_add_of_le' (show 1 ≤ d by omega)
  rw [ini_mem] at h
  have hP : am_P 239 = some (am_mq 239) := rfl
  have h9 := am_exec_fuel_le (m := 6000 + n) (by omega) h
  have g9 := am_exec_step (pc := 9) (op := .istore 3) (j := none) (ls := [some (.ref 1013), some (.ref 0), some (.ref 122), none]) (st := [.int 0]) hP rfl rfl h9
  have g8 := am_exec_step (pc := 8) (op := .bipush 0) (j := none) (ls := [some (.ref 1013), some (.ref 0), some (.ref 122), none]) (st := []) hP rfl rfl g9
  have g7 := am_exec_step (pc := 7) (op := .astore 2) (j := none) (ls := [some (.ref 1013), some (.ref 0), none, none]) (st := [.ref 122]) hP rfl rfl g8
  have hB := am_exec_fuel_le (m := 6000 + n + 1 + 1 + 1) (by omega) (am_exec_deep_le (d' := d) (by omega) (am_exec_cst (cst := cst) (ini_of ini_qB)))
  have g6 := am_exec_call (pc := 6) (k := 153) (st := [.ref 122, .ref 122]) (mem := ini_2) hP rfl rfl ⟨Nat.le_of_ble_eq_true rfl, Nat.le_of_ble_eq_true rfl, Nat.le_of_ble_eq_true rfl, am_recv_cst (by decide +kernel)⟩ hB g7
  have g5 := am_exec_step (pc := 5) (op := .dup) (j := none) (ls := [some (.ref 1013), some (.ref 0), none, none]) (st := [.ref 122]) hP rfl rfl g6
  have g4 := am_exec_step (pc := 4) (op := .new 9) (j := none) (ls := [some (.ref 1013), some (.ref 0), none, none]) (st := []) (mem := ini_A) hP rfl (by simp only [am_step]; rw [ini_lA]; rfl) g5
  have g3 := am_exec_step (pc := 3) (op := .astore 1) (j := none) (ls := [some (.ref 1013), none, none, none]) (st := [.ref 0]) hP rfl rfl g4
  have hA := am_exec_fuel_le (m := 6000 + n + 1 + 1 + 1 + 1 + 1 + 1 + 1) (by omega) (am_exec_deep_le (d' := d) (by omega) (am_exec_cst (cst := cst) (ini_of ini_qA)))
  have g2 := am_exec_call (pc := 2) (k := 105) (st := [.ref 0, .ref 0]) (mem := ini_1) hP rfl rfl ⟨Nat.le_of_ble_eq_true rfl, Nat.le_of_ble_eq_true rfl, Nat.le_of_ble_eq_true rfl, am_recv_cst (by decide +kernel)⟩ hA g3
  have g1 := am_exec_step (pc := 1) (op := .dup) (j := none) (ls := [some (.ref 1013), none, none, none]) (st := [.ref 0]) hP rfl rfl g2
  have g0 := am_exec_step (pc := 0) (op := .new 0) (j := none) (ls := [some (.ref 1013), none, none, none]) (st := []) (mem := []) hP rfl rfl g1
  exact ⟨_, g0⟩
/-- a run that the kernel has made, of a call at the start -/
noncomputable def ev_ok (m0 : List am_E) (mid : Nat) (as : List Value) (r : Option Value) (lo : Nat) : Bool := match am_P mid with
  | some M => (M.2.2.1 == as.length) && Nat.ble (am_place as).length M.2.1 && am_recv [] m0 M.2.2.2.1 as &&
    (match am_exec am_ft am_P [] 20000 12 mid 0 (am_args as M.2.1) [] m0 with
    | some (r', m') => decide (r' = r) && decide (w_mem (w_bk m') = m') && decide (m'.drop lo = m0.drop lo)
    | none => false)
  | none => false
theorem ev_call {xs : List Int} {d mid lo : Nat} {Q : Option w_V → w_M → Prop} {as : List w_V} {r : Option w_V} {m0 : List am_E} (h0 : w_mem (w_bk m0) = m0) (h : ev_ok m0 mid (as.map w_tv) (r.map w_tv) lo = true) (hd : 12 ≤ d) (hr : ∀ v, r = some v → w_vv v)
    (hQ : ∀ m', w_mem (w_bk m') = m' → (∀ b, lo ≤ b → w_bk m' b = w_bk m0 b) → Q r (w_bk m')) : w_Call (xs, d) mid as (w_bk m0) Q := fun _ _ _ => by
  unfold ev_ok at h
  split at h
  · rename_i M hM
    simp only [Bool.and_eq_true, beq_iff_eq] at h
    obtain ⟨⟨⟨h1, h2⟩, h3⟩, h4⟩ := h
    split at h4
    · rename_i r' m' hx
      simp only [Bool.and_eq_true, decide_eq_true_eq] at h4
      obtain ⟨⟨e1, e2⟩, e3⟩ := h4
      refine ⟨M, hM, by rw [h1, List.length_map], Nat.le_of_ble_eq_true h2, by rw [h0]; exact am_recv_cst h3, 20000, r, w_bk m', ?_, hQ m' e2 (fun b hb => w_bk_at ?_), w_bk_ms m', hr⟩
      · rw [h0, e2, ← e1]
        exact am_exec_deep_le hd (am_exec_cst hx)
      · obtain ⟨k, rfl⟩ := Nat.exists_eq_add_of_le hb
        rw [← List.getElem?_drop, ← List.getElem?_drop, e3]
    · cases h4
  · cases h
