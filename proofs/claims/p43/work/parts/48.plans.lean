section
/-! The start: both constructors, run by the kernel; runs that need none of the constants -/
theorem am_look_cst {cst mem : List am_E} {k : Nat} {e : am_E} (h : am_look [] mem k = some e) : am_look cst mem k = some e := by
  unfold am_look at h ⊢
  by_cases hk : k < 1000
  · rw [if_pos hk] at h ⊢; exact h
  · rw [if_neg hk] at h; simp at h
set_option maxHeartbeats 4000000 in
theorem am_step_cst {cst : List am_E} {op : Instr} {ls : am_L} {st : List Value} {mem : List am_E} {R : Option Nat × am_L × List Value × List am_E} (h : am_step am_ft [] op ls st mem = some R) : am_step am_ft cst op ls st mem = some R := by
  cases op
  case iaload =>
    simp only [am_step] at h ⊢
    split at h
    · rename_i i k r
      cases hl : am_look [] mem k with
      | none => rw [hl] at h; cases h
      | some e => rw [am_look_cst hl]; rw [hl] at h; exact h
    · cases h
  case baload =>
    simp only [am_step] at h ⊢
    split at h
    · rename_i i k r
      cases hl : am_look [] mem k with
      | none => rw [hl] at h; cases h
      | some e => rw [am_look_cst hl]; rw [hl] at h; exact h
    · cases h
  case arraylength =>
    simp only [am_step] at h ⊢
    split at h
    · rename_i k r
      cases hl : am_look [] mem k with
      | none => rw [hl] at h; cases h
      | some e => rw [am_look_cst hl]; rw [hl] at h; exact h
    · cases h
  case getfield =>
    simp only [am_step] at h ⊢
    split at h
    · rename_i k r
      cases hl : am_look [] mem k with
      | none => rw [hl] at h; cases h
      | some e => rw [am_look_cst hl]; rw [hl] at h; exact h
    · cases h
  all_goals exact h
theorem am_recv_cst {cst mem : List am_E} {rc : Option Nat} {vs : List Value} (h : am_recv [] mem rc vs = true) : am_recv cst mem rc vs = true := by
  unfold am_recv at h ⊢
  split at h
  · rfl
  · split at h
    · rename_i k r
      cases hl : am_look [] mem k with
      | none => rw [hl] at h; cases h
      | some e => rw [am_look_cst hl]; rw [hl] at h; exact h
    · cases h
theorem am_exec_cst {cst : List am_E} : ∀ {n d mid i : Nat} {ls : am_L} {st : List Value} {mem : List am_E} {R : Option Value × List am_E}, am_exec am_ft am_P [] n d mid i ls st mem = some R → am_exec am_ft am_P cst n d mid i ls st mem = some R := by
  intro n
  induction n with
  | zero => intro d mid i ls st mem R h; cases h
  | succ n ih =>
    intro d mid i ls st mem R h
    unfold am_exec at h ⊢
    split at h
    · cases h
    · split at h
      · cases h
      · split at h
        · exact h
        · exact h
        · split at h
          · split at h
            · rename_i hq
              rw [if_pos ⟨hq.1, hq.2.1, hq.2.2.1, am_recv_cst hq.2.2.2⟩]
              split at h
              · rename_i h1
                rw [ih h1]
                exact ih h
              · cases h
            · cases h
          · cases h
        · split at h
          · rename_i h1
            rw [am_step_cst h1]
            exact ih h
          · cases h
/-- what a list of cells tells -/
noncomputable def w_bk (mem : List am_E) : w_M := fun a i => match mem[a]? with
  | some (.inl (_, xs)) => (xs.getD i 0).toInt
  | some (.inr (.inl (_, fs))) => (match fs[i]? with | some (.int x) => x.toInt | _ => 0)
  | _ => 0
theorem w_bk_ms (mem : List am_E) : w_ms (w_bk mem) := by
  intro a i
  unfold w_bk
  split
  · exact w_toInt_in _
  · split
    · exact w_toInt_in _
    · exact w_in0
  · exact w_in0
theorem w_bk_at {m m' : List am_E} {b : Nat} (h : m'[b]? = m[b]?) : w_bk m' b = w_bk m b := by
  funext i
  unfold w_bk
  rw [h]
noncomputable def ini_1 : List am_E := [.inr (.inl (0, (am_ft 0).map fun q => q.2.2))]
noncomputable def ini_q (x : Option (Option Value × List am_E)) : Bool := match x with
  | some (none, _) => true
  | _ => false
noncomputable def ini_o (x : Option (Option Value × List am_E)) : List am_E := match x with
  | some (none, m) => m
  | _ => []
theorem ini_of {x : Option (Option Value × List am_E)} (h : ini_q x = true) : x = some (none, ini_o x) := by
  unfold ini_q at h
  split at h
  · rfl
  · cases h
noncomputable def ini_A : List am_E := ini_o (am_exec am_ft am_P [] 6000 10 105 0 (am_args [.ref 0] 2) [] ini_1)
noncomputable def ini_2 : List am_E := ini_A ++ [.inr (.inl (9, (am_ft 9).map fun q => q.2.2))]
noncomputable def ini_B : List am_E := ini_o (am_exec am_ft am_P [] 6000 10 153 0 (am_args [.ref 122] 2) [] ini_2)
/-- the cells at the start -/
noncomputable def w_s0 : w_M := fun a i =>
  if (a = 3 ∨ a = 14 ∨ a = 32 ∨ a = 89 ∨ a = 106) ∧ i = 0 then 8 else if (a = 3 ∨ a = 14 ∨ a = 32 ∨ a = 89 ∨ a = 106) ∧ i = 3 then -4
  else if (a = 87 ∨ a = 130) ∧ i < 4 then -4 else if a = 122 ∧ (i = 3 ∨ i = 7) then 8 else if a = 122 ∧ (i = 12 ∨ i = 13) then -4
  else if (a = 123 ∨ a = 126) ∧ i = 47 then -4 else 0
theorem w_s0_ms : w_ms w_s0 := by
  intro a i
  unfold w_s0 w_in
  repeat' split
  all_goals omega
/-- both runs, once -/
noncomputable def ini_g (x : Option (Option Value × List am_E)) : Bool := match x with
  | some (none, m) => decide (w_mem w_s0 = m)
  | _ => false
noncomputable def ini_f (x : Option (Option Value × List am_E)) : Bool := match x with
  | some (none, m) => Nat.beq m.length 122 && ini_g (am_exec am_ft am_P [] 6000 10 153 0 (am_args [.ref 122] 2) [] (m ++ [.inr (.inl (9, (am_ft 9).map fun q => q.2.2))]))
  | _ => false
theorem ini_g_ok {x : Option (Option Value × List am_E)} (h : ini_g x = true) : ini_q x = true ∧ w_mem w_s0 = ini_o x := by
  unfold ini_g at h
  split at h
  · exact ⟨rfl, of_decide_eq_true h⟩
  · cases h
theorem ini_f_ok {x : Option (Option Value × List am_E)} (h : ini_f x = true) : ini_q x = true ∧ (ini_o x).length = 122 ∧ ini_g (am_exec am_ft am_P [] 6000 10 153 0 (am_args [.ref 122] 2) [] (ini_o x ++ [.inr (.inl (9, (am_ft 9).map fun q => q.2.2))])) = true := by
  unfold ini_f at h
  split at h
  · rw [Bool.and_eq_true] at h
    exact ⟨rfl, Nat.eq_of_beq_eq_true h.1, h.2⟩
  · cases h
theorem ini_all : ini_f (am_exec am_ft am_P [] 6000 10 105 0 (am_args [.ref 0] 2) [] ini_1) = true := by decide +kernel
theorem ini_qA : ini_q (am_exec am_ft am_P [] 6000 10 105 0 (am_args [.ref 0] 2) [] ini_1) = true := (ini_f_ok ini_all).1
theorem ini_lA : ini_A.length = 122 := by
  unfold ini_A
  exact (ini_f_ok ini_all).2.1
theorem ini_gB : ini_q (am_exec am_ft am_P [] 6000 10 153 0 (am_args [.ref 122] 2) [] ini_2) = true ∧ w_mem w_s0 = ini_B := by
  unfold ini_B ini_2 ini_A
  exact ini_g_ok (ini_f_ok ini_all).2.2
theorem ini_qB : ini_q (am_exec am_ft am_P [] 6000 10 153 0 (am_args [.ref 122] 2) [] ini_2) = true := ini_gB.1
theorem ini_mem : w_mem w_s0 = ini_B := ini_gB.2
theorem am_exec_call {cst : List am_E} {n d mid pc k : Nat} {M C : am_M} {ls : am_L} {st : List Value} {mem mem' : List am_E} {r : Option Value} {R : Option Value × List am_E} (hP : am_P mid = some M) (hop : M.1[pc]? = some (.invokestatic k)) (hk : am_P k = some C)
    (hc : C.2.2.1 ≤ st.length ∧ ((st.drop C.2.2.1).map fun v => v.category).sum ≤ 8 ∧ (am_place (st.take C.2.2.1).reverse).length ≤ C.2.1 ∧ am_recv cst mem C.2.2.2.1 (st.take C.2.2.1).reverse = true)
    (h1 : am_exec am_ft am_P cst n d k 0 (am_args (st.take C.2.2.1).reverse C.2.1) [] mem = some (r, mem')) (h2 : am_exec am_ft am_P cst n (d + 1) mid (pc + 1) ls (r.toList ++ st.drop C.2.2.1) mem' = some R) :
    am_exec am_ft am_P cst (n + 1) (d + 1) mid pc ls st mem = some R := by
  unfold am_exec
  rw [hP]
  simp only [hop, hk]
  rw [if_pos hc, h1]
  exact h2
set_option maxRecDepth 20000 in
theorem ini_run {cst : List am_E} {n d : Nat} {R : Option Value × List am_E} (hd : 11 ≤ d)
    (h : am_exec am_ft am_P cst n d 239 10 [some (.ref 1013), some (.ref 0), some (.ref 122), some (.int 0)] [] (w_mem w_s0) = some R) :
    ∃ n', am_exec am_ft am_P cst n' d 239 0 (am_args [.ref 1013] 4) [] [] = some R := by
  obtain ⟨d, rfl⟩ := Nat.exists_eq_add_of_le' (show 1 ≤ d by omega)
  rw [ini_mem] at h
  have hP : am_P 239 = some (am_mq 239) := rfl
  have h9 := am_exec_fuel_le (m := 6000 + n) (by omega) h
  have g9 := am_exec_step (pc := 9) (op := .istore 3) (j := none) (ls := [some (.ref 1013), some (.ref 0), some (.ref 122), none]) (st := [.int 0]) hP rfl rfl h9
  have g8 := am_exec_step (pc := 8) (op := .bipush 0) (j := none) (ls := [some (.ref 1013), some (.ref 0), some (.ref 122), none]) (st := []) hP rfl rfl g9
  have g7 := am_exec_step (pc := 7) (op := .astore 2) (j := none) (ls := [some (.ref 1013), some (.ref 0), none, none]) (st := [.ref 122]) hP rfl rfl g8
  have hB := am_exec_fuel_le (m := 6000 + n + 1 + 1 + 1) (by omega) (am_exec_deep_le (d' := d) (by omega) (am_exec_cst (cst := cst) (ini_of ini_qB)))
  have g6 := am_exec_call (pc := 6) (k := 153) (st := [.ref 122, .ref 122]) (mem := ini_2) hP rfl rfl ⟨Nat.le_of_ble_eq_true rfl, Nat.le_of_ble_eq_true rfl, Nat.le_of_ble_eq_true rfl, am_recv_cst (by decide +kernel)⟩ hB g7
  have g5 := am_exec_step (pc := 5) (op := .dup) (j := none) (ls := [some (.ref 1013), some (.ref 0), none, none]) (st := [.ref 122]) hP rfl rfl g6
  have g4 := am_exec_step (pc := 4) (op := .new 9) (j := none) (ls := [some (.ref 1013), some (.ref 0), none, none]) (st := []) (mem := ini_A) hP rfl (by simp only [am_step]; rw [ini_lA]; rfl) g5
  have g3 := am_exec_step (pc := 3) (op := .astore 1) (j := none) (ls := [some (.ref 1013), none, none, none]) (st := [.ref 0]) hP rfl rfl g4
  have hA := am_exec_fuel_le (m := 6000 + n + 1 + 1 + 1 + 1 + 1 + 1 + 1) (by omega) (am_exec_deep_le (d' := d) (by omega) (am_exec_cst (cst := cst) (ini_of ini_qA)))
  have g2 := am_exec_call (pc := 2) (k := 105) (st := [.ref 0, .ref 0]) (mem := ini_1) hP rfl rfl ⟨Nat.le_of_ble_eq_true rfl, Nat.le_of_ble_eq_true rfl, Nat.le_of_ble_eq_true rfl, am_recv_cst (by decide +kernel)⟩ hA g3
  have g1 := am_exec_step (pc := 1) (op := .dup) (j := none) (ls := [some (.ref 1013), none, none, none]) (st := [.ref 0]) hP rfl rfl g2
  have g0 := am_exec_step (pc := 0) (op := .new 0) (j := none) (ls := [some (.ref 1013), none, none, none]) (st := []) (mem := []) hP rfl rfl g1
  exact ⟨_, g0⟩
/-- a run that the kernel has made, of a call at the start -/
noncomputable def ev_ok (m0 : List am_E) (mid : Nat) (as : List Value) (r : Option Value) (lo : Nat) : Bool := match am_P mid with
  | some M => (M.2.2.1 == as.length) && Nat.ble (am_place as).length M.2.1 && am_recv [] m0 M.2.2.2.1 as &&
    (match am_exec am_ft am_P [] 20000 12 mid 0 (am_args as M.2.1) [] m0 with
    | some (r', m') => decide (r' = r) && decide (w_mem (w_bk m') = m') && decide (m'.drop lo = m0.drop lo)
    | none => false)
  | none => false
theorem ev_call {xs : List Int} {d mid lo : Nat} {Q : Option w_V → w_M → Prop} {as : List w_V} {r : Option w_V} {m0 : List am_E} (h0 : w_mem (w_bk m0) = m0) (h : ev_ok m0 mid (as.map w_tv) (r.map w_tv) lo = true) (hd : 12 ≤ d) (hr : ∀ v, r = some v → w_vv v)
    (hQ : ∀ m', w_mem (w_bk m') = m' → (∀ b, lo ≤ b → w_bk m' b = w_bk m0 b) → Q r (w_bk m')) : w_Call (xs, d) mid as (w_bk m0) Q := fun _ _ _ => by
  unfold ev_ok at h
  split at h
  · rename_i M hM
    simp only [Bool.and_eq_true, beq_iff_eq] at h
    obtain ⟨⟨⟨h1, h2⟩, h3⟩, h4⟩ := h
    split at h4
    · rename_i r' m' hx
      simp only [Bool.and_eq_true, decide_eq_true_eq] at h4
      obtain ⟨⟨e1, e2⟩, e3⟩ := h4
      refine ⟨M, hM, by rw [h1, List.length_map], Nat.le_of_ble_eq_true h2, by rw [h0]; exact am_recv_cst h3, 20000, r, w_bk m', ?_, hQ m' e2 (fun b hb => w_bk_at ?_), w_bk_ms m', hr⟩
      · rw [h0, e2, ← e1]
        exact am_exec_deep_le hd (am_exec_cst hx)
      · obtain ⟨k, rfl⟩ := Nat.exists_eq_add_of_le hb
        rw [← List.getElem?_drop, ← List.getElem?_drop, e3]
    · cases h4
  · cases h
end
section
/-! A night by a seed -/
noncomputable def dr_x (s : Int) : Nat → Int
  | 0 => s
  | k + 1 => w_wr (w_wr (dr_x s k * 1103515245) + 12345)
noncomputable def dr_b (s v : Int) (k : Nat) : Int := if (w_and (w_shr (dr_x s (k + 1)) 16) 32767).tmod 10 < v then 1 else 0
noncomputable def n_dr (A : w_M) (s v : Int) : Nat → w_M
  | 0 => A
  | k + 1 => n_hour (n_dr A s v k) (dr_b s v k)
theorem dr_b01 (s v : Int) (k : Nat) : dr_b s v k = 0 ∨ dr_b s v k = 1 := by unfold dr_b; split <;> simp
theorem n_dr_all {A : w_M} (h : n_WF A) (s v : Int) : ∀ k : Nat, A 0 1 + k ≤ A 0 0 → n_WF (n_dr A s v k) ∧ n_same A (n_dr A s v k) ∧ (n_dr A s v k) 0 1 = A 0 1 + k := by
  intro k
  induction k with
  | zero => intro _; exact ⟨h, n_same.rfl', by simp [n_dr]⟩
  | succ k ih =>
    intro hk
    obtain ⟨h1, h2, h3⟩ := ih (by omega)
    have h0 : (n_dr A s v k) 0 0 = A 0 0 := h2.1 0 (by decide) (by decide)
    obtain ⟨g1, g2, g3, -⟩ := n_hour_all h1 (by omega) (dr_b01 s v k)
    refine ⟨g1, h2.tr g2, ?_⟩
    simp only [n_dr]
    rw [g3, h3]
    omega
theorem w_bv_ush (x : BitVec 32) : (x >>> 16) &&& 32767#32 = (x.sshiftRight 16) &&& 32767#32 := by
  apply BitVec.eq_of_getLsbD_eq
  intro i hi
  rw [BitVec.getLsbD_and, BitVec.getLsbD_and]
  by_cases h : i < 15
  · rw [BitVec.getLsbD_ushiftRight, BitVec.getLsbD_sshiftRight, if_pos (by omega)]
    simp [Nat.not_le.mpr hi]
  · have : (32767#32).getLsbD i = false := by
      rw [BitVec.getLsbD_ofNat, Nat.testBit_lt_two_pow (Nat.lt_of_lt_of_le (show 32767 < 2 ^ 15 by decide) (Nat.pow_le_pow_right (by decide) (by omega)))]
      simp
    rw [this, Bool.and_false, Bool.and_false]
theorem w_ush (y : Int) : w_and (w_ushr y 16) 32767 = w_and (w_shr y 16) 32767 := by
  unfold w_and w_ushr w_shr w_b2
  rw [Int32.ofInt_toInt, Int32.ofInt_toInt]
  congr 1
  apply Int32.toBitVec_inj.mp
  rw [Int32.toBitVec_and, Int32.toBitVec_and]
  exact w_bv_ush (Int32.ofInt y).toBitVec
noncomputable def F_drift (S : w_S) (s v w : Int) : Int := if (0 ≤ v ∧ v ≤ 10) ∧ (0 ≤ w ∧ w ≤ 1) then (if w = 0 then n_sd (n_dr (S 0) s v (n_left (S 0))) else n_oils (n_dr (S 0) s v (n_left (S 0)))) else -1
noncomputable def p_Plan_afterDrift (b : Nat) (_ _ : Int) (σ : w_M) : Prop := n_ok σ b ∧ (32 + 9 ≤ b ∨ b + 9 ≤ 32)
noncomputable def q_Plan_afterDrift (b : Nat) (s v : Int) (σ σ' : w_M) : Prop := w_ab σ' 32 = n_dr (w_ab σ b) s v (n_left (w_ab σ b)) ∧ w_fr σ σ' 32 41
noncomputable def w_c87 : List Instr := [.aload 0, .getfield 600, .aload 1, .invokestatic 34, .aload 1, .invokestatic 39, .istore 4, .iload 2, .istore 5, .bipush 0, .istore 6, .iload 6, .iload 4, .if_icmp .ge 38, .iload 5, .bipush 1103515245, .fmul, .bipush 12345, .fadd, .istore 5, .aload 0, .getfield 600, .iload 5, .bipush 16, .iushr, .bipush 32767, .iand, .bipush 10, .irem, .iload 3, .if_icmp .ge 33, .bipush 1, .goto 34, .bipush 0, .invokestatic 41, .pop, .iinc 6 1, .goto 11, .aload 0, .getfield 600, .ireturn]
theorem fPlan_afterDrift_0 : w_fe w_c87 0 1 (.aload 0) := ⟨rfl, rfl⟩
theorem fPlan_afterDrift_1 : w_fe w_c87 1 2 (.getfield 600) := ⟨rfl, rfl⟩
theorem fPlan_afterDrift_2 : w_fe w_c87 2 3 (.aload 1) := ⟨rfl, rfl⟩
theorem fPlan_afterDrift_3 : w_fe w_c87 3 4 (.invokestatic 34) := ⟨rfl, rfl⟩
theorem fPlan_afterDrift_4 : w_fe w_c87 4 5 (.aload 1) := ⟨rfl, rfl⟩
theorem fPlan_afterDrift_5 : w_fe w_c87 5 6 (.invokestatic 39) := ⟨rfl, rfl⟩
theorem fPlan_afterDrift_6 : w_fe w_c87 6 7 (.istore 4) := ⟨rfl, rfl⟩
theorem fPlan_afterDrift_7 : w_fe w_c87 7 8 (.iload 2) := ⟨rfl, rfl⟩
theorem fPlan_afterDrift_8 : w_fe w_c87 8 9 (.istore 5) := ⟨rfl, rfl⟩
theorem fPlan_afterDrift_9 : w_fe w_c87 9 10 (.bipush 0) := ⟨rfl, rfl⟩
theorem fPlan_afterDrift_10 : w_fe w_c87 10 11 (.istore 6) := ⟨rfl, rfl⟩
theorem fPlan_afterDrift_11 : w_fe w_c87 11 12 (.iload 6) := ⟨rfl, rfl⟩
theorem fPlan_afterDrift_12 : w_fe w_c87 12 13 (.iload 4) := ⟨rfl, rfl⟩
theorem fPlan_afterDrift_13 : w_ic w_c87 13 14 .ge 38 := ⟨rfl, rfl⟩
theorem fPlan_afterDrift_14 : w_fe w_c87 14 15 (.iload 5) := ⟨rfl, rfl⟩
theorem fPlan_afterDrift_15 : w_fe w_c87 15 16 (.bipush 1103515245) := ⟨rfl, rfl⟩
theorem fPlan_afterDrift_16 : w_fe w_c87 16 17 (.fmul) := ⟨rfl, rfl⟩
theorem fPlan_afterDrift_17 : w_fe w_c87 17 18 (.bipush 12345) := ⟨rfl, rfl⟩
theorem fPlan_afterDrift_18 : w_fe w_c87 18 19 (.fadd) := ⟨rfl, rfl⟩
theorem fPlan_afterDrift_19 : w_fe w_c87 19 20 (.istore 5) := ⟨rfl, rfl⟩
theorem fPlan_afterDrift_20 : w_fe w_c87 20 21 (.aload 0) := ⟨rfl, rfl⟩
theorem fPlan_afterDrift_21 : w_fe w_c87 21 22 (.getfield 600) := ⟨rfl, rfl⟩
theorem fPlan_afterDrift_22 : w_fe w_c87 22 23 (.iload 5) := ⟨rfl, rfl⟩
theorem fPlan_afterDrift_23 : w_fe w_c87 23 24 (.bipush 16) := ⟨rfl, rfl⟩
theorem fPlan_afterDrift_24 : w_fe w_c87 24 25 (.iushr) := ⟨rfl, rfl⟩
theorem fPlan_afterDrift_25 : w_fe w_c87 25 26 (.bipush 32767) := ⟨rfl, rfl⟩
theorem fPlan_afterDrift_26 : w_fe w_c87 26 27 (.iand) := ⟨rfl, rfl⟩
theorem fPlan_afterDrift_27 : w_fe w_c87 27 28 (.bipush 10) := ⟨rfl, rfl⟩
theorem fPlan_afterDrift_28 : w_fe w_c87 28 29 (.irem) := ⟨rfl, rfl⟩
theorem fPlan_afterDrift_29 : w_fe w_c87 29 30 (.iload 3) := ⟨rfl, rfl⟩
theorem fPlan_afterDrift_30 : w_ic w_c87 30 31 .ge 33 := ⟨rfl, rfl⟩
theorem fPlan_afterDrift_31 : w_fe w_c87 31 32 (.bipush 1) := ⟨rfl, rfl⟩
theorem fPlan_afterDrift_32 : w_gt w_c87 32 34 := rfl
theorem fPlan_afterDrift_33 : w_fe w_c87 33 34 (.bipush 0) := ⟨rfl, rfl⟩
theorem fPlan_afterDrift_34 : w_fe w_c87 34 35 (.invokestatic 41) := ⟨rfl, rfl⟩
theorem fPlan_afterDrift_35 : w_fe w_c87 35 36 (.pop) := ⟨rfl, rfl⟩
theorem fPlan_afterDrift_36 : w_fe w_c87 36 37 (.iinc 6 1) := ⟨rfl, rfl⟩
theorem fPlan_afterDrift_37 : w_gt w_c87 37 11 := rfl
theorem fPlan_afterDrift_38 : w_fe w_c87 38 39 (.aload 0) := ⟨rfl, rfl⟩
theorem fPlan_afterDrift_39 : w_fe w_c87 39 40 (.getfield 600) := ⟨rfl, rfl⟩
theorem fPlan_afterDrift_40 : w_fe w_c87 40 41 (.ireturn) := ⟨rfl, rfl⟩
noncomputable def LPlan_afterDrift_11 (xs : List Int) (d : Nat) (Q : Option w_V → w_M → Prop) (v3 : Int) (v4 : Int) (v5 : Int) (v6 : Int) (σ : w_M) : Prop := ∀ l1, w_nl l1 → ∀ l2, w_nl l2 → w_Ex (xs, d) 4 w_c87 Q 11 [some (.inr (.inr (6, 31))), l1, l2, some (.inl v3), some (.inl v4), some (.inl v5), some (.inl v6)] [] σ
set_option maxRecDepth 20000 in
theorem bPlan_afterDrift_0 {xs : List Int} {d : Nat} {Q : Option w_V → w_M → Prop} {b : Nat} {x2 : Int} {x3 : Int} {σ : w_M}
    (h : p_Field_copyFrom 32 b σ ∧ (∀ (τ1 : w_M), q_Field_copyFrom 32 b σ τ1 → (p_Field_hoursLeft b τ1 ∧ (∀ (y2 : Int), y2 = (τ1 b 0 - τ1 b 1) → LPlan_afterDrift_11 xs (d + 4) Q x3 y2 x2 0 τ1)))) : w_Call (xs, (d + 4)) 87 [.inr (.inr (6, 31)), .inr (.inr (2, b)), .inl x2, .inl x3] σ Q :=
  (w_mk (mid := 87) (by decide) rfl rfl rfl rfl rfl (Nat.le_of_ble_eq_true rfl) ⟨rfl, Or.inl (by decide)⟩ (wi_aload0 fPlan_afterDrift_0 (wi_getf600 fPlan_afterDrift_1 (wi_aload1 fPlan_afterDrift_2 (wi_call2 fPlan_afterDrift_3 (Nat.le_of_ble_eq_true rfl) (k_Field_copyFrom h.1 (fun τ1 eτ1 => (wi_aload1 fPlan_afterDrift_4 (wi_call1 fPlan_afterDrift_5 (Nat.le_of_ble_eq_true rfl) (k_Field_hoursLeft (h.2 τ1 eτ1).1 (wi_istore4 fPlan_afterDrift_6 trivial (wi_iload2 fPlan_afterDrift_7 (wi_istore5 fPlan_afterDrift_8 trivial (wi_bipush fPlan_afterDrift_9 (wi_istore6 fPlan_afterDrift_10 trivial (((h.2 τ1 eτ1).2 _ rfl) _ (by exact trivial) _ (by exact trivial)))))))))))))))))
set_option maxRecDepth 20000 in
theorem bPlan_afterDrift_11 {xs : List Int} {d : Nat} {Q : Option w_V → w_M → Prop} {v3 : Int} {v4 : Int} {v5 : Int} {v6 : Int} {σ : w_M}
    (h : (v4 ≤ v6 → Q (some (.inr (.inr (2, 32)))) σ) ∧ (v6 < v4 → ∀ (y1 : Int), y1 = (w_wr ((w_wr (v5 * 1103515245)) + 12345)) → ((v3 ≤ ((w_and (w_ushr y1 16) 32767).tmod 10) → (p_Field_passHour 32 0 σ ∧ (∀ (y2 : Int) (τ3 : w_M), q_Field_passHour 32 0 σ y2 τ3 → (w_in (v6 + 1) ∧ LPlan_afterDrift_11 xs (d + 4) Q v3 v4 y1 (v6 + 1) τ3)))) ∧ (((w_and (w_ushr y1 16) 32767).tmod 10) < v3 → (p_Field_passHour 32 1 σ ∧ (∀ (y4 : Int) (τ5 : w_M), q_Field_passHour 32 1 σ y4 τ5 → (w_in (v6 + 1) ∧ LPlan_afterDrift_11 xs (d + 4) Q v3 v4 y1 (v6 + 1) τ5))))))) : LPlan_afterDrift_11 xs (d + 4) Q v3 v4 v5 v6 σ :=
  fun l1 nl1 => fun l2 nl2 => (wi_iload6 fPlan_afterDrift_11 (wi_iload4 fPlan_afterDrift_12 (wi_ic_ge fPlan_afterDrift_13 (fun c7 => (wi_aload0 fPlan_afterDrift_38 (wi_getf600 fPlan_afterDrift_39 (wi_ret4 fPlan_afterDrift_40 (h.1 c7))))) (fun c7 => (wi_iload5 fPlan_afterDrift_14 (wi_bipush fPlan_afterDrift_15 (wi_fmul fPlan_afterDrift_16 (wi_bipush fPlan_afterDrift_17 (wi_fadd fPlan_afterDrift_18 (wi_istore5 fPlan_afterDrift_19 trivial (wi_aload0 fPlan_afterDrift_20 (wi_getf600 fPlan_afterDrift_21 (wi_iload5 fPlan_afterDrift_22 (wi_bipush fPlan_afterDrift_23 (wi_iushr fPlan_afterDrift_24 (wi_bipush fPlan_afterDrift_25 (wi_iand fPlan_afterDrift_26 (wi_bipush fPlan_afterDrift_27 (wi_irem fPlan_afterDrift_28 (by decide) (wi_iload3 fPlan_afterDrift_29 (wi_ic_ge fPlan_afterDrift_30 (fun c6 => (wi_bipush fPlan_afterDrift_33 (wi_call2 fPlan_afterDrift_34 (Nat.le_of_ble_eq_true rfl) (k_Field_passHour (((h.2 c7) _ rfl).1 c6).1 (fun y2 τ3 eτ3 => (wi_pop_i fPlan_afterDrift_35 (wi_iinc6 fPlan_afterDrift_36 trivial ((((h.2 c7) _ rfl).1 c6).2 y2 τ3 eτ3).1 (wi_goto fPlan_afterDrift_37 (((((h.2 c7) _ rfl).1 c6).2 y2 τ3 eτ3).2 _ nl1 _ nl2))))))))) (fun c6 => (wi_bipush fPlan_afterDrift_31 (wi_goto fPlan_afterDrift_32 (wi_call2 fPlan_afterDrift_34 (Nat.le_of_ble_eq_true rfl) (k_Field_passHour (((h.2 c7) _ rfl).2 c6).1 (fun y4 τ5 eτ5 => (wi_pop_i fPlan_afterDrift_35 (wi_iinc6 fPlan_afterDrift_36 trivial ((((h.2 c7) _ rfl).2 c6).2 y4 τ5 eτ5).1 (wi_goto fPlan_afterDrift_37 (((((h.2 c7) _ rfl).2 c6).2 y4 τ5 eτ5).2 _ nl1 _ nl2)))))))))))))))))))))))))))))))
theorem k_Plan_afterDrift {xs : List Int} {d : Nat} {Q : Option w_V → w_M → Prop} {b : Nat} {x2 : Int} {x3 : Int} {σ : w_M} (hp : p_Plan_afterDrift b x2 x3 σ) (hQ : ∀ σ' : w_M, q_Plan_afterDrift b x2 x3 σ σ' → Q (some (.inr (.inr (2, 32)))) σ') : w_Call (xs, d + 4) 87 [.inr (.inr (6, 31)), .inr (.inr (2, b)), .inl x2, .inl x3] σ Q := by
  obtain ⟨hok, hb⟩ := hp
  have hrs := n_ok.hrs hok
  have hr := n_ok.hr hok
  refine bPlan_afterDrift_0 ⟨⟨hok, hb⟩, fun τ1 hq => ?_⟩
  obtain ⟨q1, -, q3⟩ := hq
  have zb : τ1 b = σ b := q3 b (by omega)
  refine ⟨by unfold p_Field_hoursLeft; rw [zb]; exact ⟨by omega, by omega⟩, fun y2 e2 => ?_⟩
  rw [zb] at e2
  refine (w_loop (n := (σ b 0 - σ b 1).toNat) (P := fun k => ∀ τ : w_M, w_ab τ 32 = n_dr (w_ab σ b) x2 x3 k → w_fr σ τ 32 41 → LPlan_afterDrift_11 xs (d + 4) Q x3 y2 (dr_x x2 k) (k : Int) τ) ?_ ?_) τ1 q1 q3
  · intro τ A1 F1
    exact bPlan_afterDrift_11 ⟨fun _ => hQ _ ⟨A1, F1⟩, fun h => by omega⟩
  · intro k hk ih τ A1 F1
    obtain ⟨g1, g2, g3⟩ := n_dr_all hok x2 x3 k (by show σ b 1 + _ ≤ σ b 0; omega)
    have ok32 : n_ok τ 32 := n_ok.of A1 g1
    rw [← A1] at g2 g3
    have t1 : τ 32 1 = σ b 1 + k := g3
    have t0 : τ 32 0 = σ b 0 := g2.1 0 (by decide) (by decide)
    have eb : ∀ y1, y1 = w_wr (w_wr (dr_x x2 k * 1103515245) + 12345) → (w_and (w_ushr y1 16) 32767).tmod 10 = (w_and (w_shr (dr_x x2 (k + 1)) 16) 32767).tmod 10 := fun y1 e => by rw [e, w_ush]; rfl
    refine bPlan_afterDrift_11 ⟨fun h => by omega, fun h y1 e1 => ⟨fun c => ⟨⟨ok32, by omega, Or.inl rfl⟩, fun y τ3 hq => ⟨⟨by omega, by omega⟩, ?_⟩⟩, fun c => ⟨⟨ok32, by omega, Or.inr rfl⟩, fun y τ3 hq => ⟨⟨by omega, by omega⟩, ?_⟩⟩⟩⟩
    · rw [eb y1 e1] at c
      rw [← w_cs1, e1]
      refine ih τ3 ?_ (F1.tr hq.2.2.1)
      rw [hq.1, A1]
      simp only [n_dr]
      rw [show dr_b x2 x3 k = 0 from if_neg (by omega)]
    · rw [eb y1 e1] at c
      rw [← w_cs1, e1]
      refine ih τ3 ?_ (F1.tr hq.2.2.1)
      rw [hq.1, A1]
      simp only [n_dr]
      rw [show dr_b x2 x3 k = 1 from if_pos c]
noncomputable def p_Moon_drift (_x1 : Int) (_x2 : Int) (_x3 : Int) (σ : w_M) : Prop := CI σ
noncomputable def q_Moon_drift (x1 : Int) (x2 : Int) (x3 : Int) (σ : w_M) (x : Int) (σ' : w_M) : Prop := c_q (F_drift (cS σ) x1 x2 x3) (cS σ) σ x σ'
theorem fMoon_drift_0 : w_fe am_c145 0 1 (.iload 2) := ⟨rfl, rfl⟩
theorem fMoon_drift_1 : w_fe am_c145 1 2 (.bipush 0) := ⟨rfl, rfl⟩
theorem fMoon_drift_2 : w_fe am_c145 2 3 (.bipush 10) := ⟨rfl, rfl⟩
theorem fMoon_drift_3 : w_fe am_c145 3 4 (.invokestatic 107) := ⟨rfl, rfl⟩
theorem fMoon_drift_4 : w_if am_c145 4 5 .eq 10 := ⟨rfl, rfl⟩
theorem fMoon_drift_5 : w_fe am_c145 5 6 (.iload 3) := ⟨rfl, rfl⟩
theorem fMoon_drift_6 : w_fe am_c145 6 7 (.bipush 0) := ⟨rfl, rfl⟩
theorem fMoon_drift_7 : w_fe am_c145 7 8 (.bipush 1) := ⟨rfl, rfl⟩
theorem fMoon_drift_8 : w_fe am_c145 8 9 (.invokestatic 107) := ⟨rfl, rfl⟩
theorem fMoon_drift_9 : w_if am_c145 9 10 .ne 12 := ⟨rfl, rfl⟩
theorem fMoon_drift_10 : w_fe am_c145 10 11 (.bipush (-1)) := ⟨rfl, rfl⟩
theorem fMoon_drift_11 : w_fe am_c145 11 12 (.ireturn) := ⟨rfl, rfl⟩
theorem fMoon_drift_12 : w_fe am_c145 12 13 (.aload 0) := ⟨rfl, rfl⟩
theorem fMoon_drift_13 : w_fe am_c145 13 14 (.getfield 4) := ⟨rfl, rfl⟩
theorem fMoon_drift_14 : w_fe am_c145 14 15 (.aload 0) := ⟨rfl, rfl⟩
theorem fMoon_drift_15 : w_fe am_c145 15 16 (.getfield 2) := ⟨rfl, rfl⟩
theorem fMoon_drift_16 : w_fe am_c145 16 17 (.iload 1) := ⟨rfl, rfl⟩
theorem fMoon_drift_17 : w_fe am_c145 17 18 (.iload 2) := ⟨rfl, rfl⟩
theorem fMoon_drift_18 : w_fe am_c145 18 19 (.invokestatic 87) := ⟨rfl, rfl⟩
theorem fMoon_drift_19 : w_fe am_c145 19 20 (.astore 4) := ⟨rfl, rfl⟩
theorem fMoon_drift_20 : w_fe am_c145 20 21 (.iload 3) := ⟨rfl, rfl⟩
theorem fMoon_drift_21 : w_if am_c145 21 22 .ne 25 := ⟨rfl, rfl⟩
theorem fMoon_drift_22 : w_fe am_c145 22 23 (.aload 4) := ⟨rfl, rfl⟩
theorem fMoon_drift_23 : w_fe am_c145 23 24 (.invokestatic 35) := ⟨rfl, rfl⟩
theorem fMoon_drift_24 : w_gt am_c145 24 27 := rfl
theorem fMoon_drift_25 : w_fe am_c145 25 26 (.aload 4) := ⟨rfl, rfl⟩
theorem fMoon_drift_26 : w_fe am_c145 26 27 (.invokestatic 50) := ⟨rfl, rfl⟩
theorem fMoon_drift_27 : w_fe am_c145 27 28 (.ireturn) := ⟨rfl, rfl⟩
set_option maxRecDepth 20000 in
theorem bMoon_drift_0 {xs : List Int} {d : Nat} {Q : Option w_V → w_M → Prop} {x1 : Int} {x2 : Int} {x3 : Int} {σ : w_M}
    (h : (¬ (0 ≤ x2 ∧ x2 ≤ 10) → Q (some (.inl (-1))) σ) ∧ ((0 ≤ x2 ∧ x2 ≤ 10) → (((0 ≤ x3 ∧ x3 ≤ 1) → (p_Plan_afterDrift 14 x1 x2 σ ∧ (∀ (τ1 : w_M), q_Plan_afterDrift 14 x1 x2 σ τ1 → ((¬ x3 = 0 → (p_Field_allOil 32 τ1 ∧ (∀ (y2 : Int), y2 = v_Field_allOil 32 τ1 → Q (some (.inl y2)) τ1))) ∧ (x3 = 0 → (p_Field_standing 32 τ1 ∧ (∀ (y3 : Int), y3 = v_Field_standing 32 τ1 → Q (some (.inl y3)) τ1))))))) ∧ (¬ (0 ≤ x3 ∧ x3 ≤ 1) → Q (some (.inl (-1))) σ)))) : w_Call (xs, (d + 5)) 145 [.inr (.inr (0, 0)), .inl x1, .inl x2, .inl x3] σ Q :=
  (w_mk (mid := 145) (by decide) rfl rfl rfl rfl rfl (Nat.le_of_ble_eq_true rfl) ⟨rfl, Or.inl (by decide)⟩ (wi_iload2 fMoon_drift_0 (wi_bipush fMoon_drift_1 (wi_bipush fMoon_drift_2 (wi_call3 fMoon_drift_3 (Nat.le_of_ble_eq_true rfl) (k_Moon_isWithin (wi_ifb_eq fMoon_drift_4 (fun c6 => (wi_bipush fMoon_drift_10 (wi_ret1 fMoon_drift_11 (h.1 c6)))) (fun c6 => (wi_iload3 fMoon_drift_5 (wi_bipush fMoon_drift_6 (wi_bipush fMoon_drift_7 (wi_call3 fMoon_drift_8 (Nat.le_of_ble_eq_true rfl) (k_Moon_isWithin (wi_ifb_ne fMoon_drift_9 (fun c5 => (wi_aload0 fMoon_drift_12 (wi_getf4 fMoon_drift_13 (wi_aload0 fMoon_drift_14 (wi_getf2 fMoon_drift_15 (wi_iload1 fMoon_drift_16 (wi_iload2 fMoon_drift_17 (wi_call4 fMoon_drift_18 (Nat.le_of_ble_eq_true rfl) (k_Plan_afterDrift ((h.2 c6).1 c5).1 (fun τ1 eτ1 => (wi_astore4 fMoon_drift_19 trivial (wi_iload3 fMoon_drift_20 (wi_if_ne fMoon_drift_21 (fun c4 => (wi_aload4 fMoon_drift_25 (wi_call1 fMoon_drift_26 (Nat.le_of_ble_eq_true rfl) (k_Field_allOil ((((h.2 c6).1 c5).2 τ1 eτ1).1 c4).1 (wi_ret1 fMoon_drift_27 (((((h.2 c6).1 c5).2 τ1 eτ1).1 c4).2 _ rfl)))))) (fun c4 => (wi_aload4 fMoon_drift_22 (wi_call1 fMoon_drift_23 (Nat.le_of_ble_eq_true rfl) (k_Field_standing ((((h.2 c6).1 c5).2 τ1 eτ1).2 c4).1 (wi_goto fMoon_drift_24 (wi_ret1 fMoon_drift_27 (((((h.2 c6).1 c5).2 τ1 eτ1).2 c4).2 _ rfl)))))))))))))))))))) (fun c5 => (wi_bipush fMoon_drift_10 (wi_ret1 fMoon_drift_11 ((h.2 c6).2 c5))))))))))))))))))
theorem k_Moon_drift {xs : List Int} {d : Nat} {Q : Option w_V → w_M → Prop} {x1 : Int} {x2 : Int} {x3 : Int} {σ : w_M} (hp : p_Moon_drift x1 x2 x3 σ) (hQ : ∀ (x : Int) (σ' : w_M), q_Moon_drift x1 x2 x3 σ x σ' → Q (some (.inl x)) σ') : w_Call (xs, d + 5) 145 [.inr (.inr (0, 0)), .inl x1, .inl x2, .inl x3] σ Q := by
  have hC : CI σ := hp
  have hok := hC.ok
  have hrs := n_ok.hrs hok
  have hr := n_ok.hr hok
  unfold q_Moon_drift F_drift at hQ
  have G := n_dr_all hok x1 x2 (n_left (w_ab σ 14)) (by show σ 14 1 + (((σ 14 0 - σ 14 1).toNat : Nat) : Int) ≤ σ 14 0; omega)
  refine bMoon_drift_0 ⟨fun c => ?_, fun c => ⟨fun c2 => ⟨⟨hok, by decide⟩, fun τ hq => ⟨fun c3 => ⟨n_ok.of hq.1 G.1, fun y ey => ?_⟩, fun c3 => ⟨n_ok.of hq.1 G.1, fun y ey => ?_⟩⟩⟩, fun c2 => ?_⟩⟩
  · rw [if_neg (fun q => c q.1)] at hQ
    exact hQ _ _ (c_qr hC rfl)
  · rw [if_pos ⟨c, c2⟩, if_neg c3] at hQ
    refine hQ _ _ (c_qs hC (hq.2.wide (by decide) (by decide)) ?_)
    rw [ey]
    unfold v_Field_allOil
    rw [hq.1]
    rfl
  · rw [if_pos ⟨c, c2⟩, if_pos c3] at hQ
    refine hQ _ _ (c_qs hC (hq.2.wide (by decide) (by decide)) ?_)
    rw [ey]
    unfold v_Field_standing
    rw [hq.1]
    rfl
  · rw [if_neg (fun q => c2 q.2)] at hQ
    exact hQ _ _ (c_qr hC rfl)
noncomputable def p_Model_drift (_x1 : Int) (_x2 : Int) (_x3 : Int) (σ : w_M) : Prop := MI σ
noncomputable def q_Model_drift (x1 : Int) (x2 : Int) (x3 : Int) (σ : w_M) (x : Int) (σ' : w_M) : Prop := m_q (F_drift (mS σ) x1 x2 x3) (mS σ) σ x σ'
noncomputable def w_c229 : List Instr := [.iload 2, .i2l, .sipush 0, .sipush 10, .invokestatic 157, .ifCond .eq 12, .iload 3, .i2l, .sipush 0, .sipush 1, .invokestatic 157, .ifCond .ne 14, .bipush (-1), .ireturn, .aload 0, .invokestatic 174, .iload 1, .istore 4, .aload 0, .getfield 901, .bipush 42, .iaload, .aload 0, .getfield 903, .if_icmp .ge 46, .iload 4, .bipush 1103515245, .fmul, .bipush 12345, .fadd, .istore 4, .aload 0, .iload 4, .bipush 16, .ishr, .bipush 32767, .iand, .bipush 10, .irem, .iload 2, .if_icmp .ge 43, .bipush 1, .goto 44, .bipush 0, .invokestatic 196, .goto 18, .bipush 0, .istore 5, .bipush 0, .istore 6, .iload 6, .aload 0, .getfield 905, .if_icmp .ge 63, .iload 5, .aload 0, .iload 6, .bipush 1, .invokestatic 178, .iadd, .istore 5, .iinc 6 1, .goto 50, .iload 3, .ifCond .ne 68, .aload 0, .invokestatic 175, .goto 69, .iload 5, .ireturn]
theorem fModel_drift_0 : w_fe w_c229 0 1 (.iload 2) := ⟨rfl, rfl⟩
theorem fModel_drift_1 : w_fe w_c229 1 2 (.i2l) := ⟨rfl, rfl⟩
theorem fModel_drift_2 : w_fe w_c229 2 3 (.sipush 0) := ⟨rfl, rfl⟩
theorem fModel_drift_3 : w_fe w_c229 3 4 (.sipush 10) := ⟨rfl, rfl⟩
theorem fModel_drift_4 : w_fe w_c229 4 5 (.invokestatic 157) := ⟨rfl, rfl⟩
theorem fModel_drift_5 : w_if w_c229 5 6 .eq 12 := ⟨rfl, rfl⟩
theorem fModel_drift_6 : w_fe w_c229 6 7 (.iload 3) := ⟨rfl, rfl⟩
theorem fModel_drift_7 : w_fe w_c229 7 8 (.i2l) := ⟨rfl, rfl⟩
theorem fModel_drift_8 : w_fe w_c229 8 9 (.sipush 0) := ⟨rfl, rfl⟩
theorem fModel_drift_9 : w_fe w_c229 9 10 (.sipush 1) := ⟨rfl, rfl⟩
theorem fModel_drift_10 : w_fe w_c229 10 11 (.invokestatic 157) := ⟨rfl, rfl⟩
theorem fModel_drift_11 : w_if w_c229 11 12 .ne 14 := ⟨rfl, rfl⟩
theorem fModel_drift_12 : w_fe w_c229 12 13 (.bipush (-1)) := ⟨rfl, rfl⟩
theorem fModel_drift_13 : w_fe w_c229 13 14 (.ireturn) := ⟨rfl, rfl⟩
theorem fModel_drift_14 : w_fe w_c229 14 15 (.aload 0) := ⟨rfl, rfl⟩
theorem fModel_drift_15 : w_fe w_c229 15 16 (.invokestatic 174) := ⟨rfl, rfl⟩
theorem fModel_drift_16 : w_fe w_c229 16 17 (.iload 1) := ⟨rfl, rfl⟩
theorem fModel_drift_17 : w_fe w_c229 17 18 (.istore 4) := ⟨rfl, rfl⟩
theorem fModel_drift_18 : w_fe w_c229 18 19 (.aload 0) := ⟨rfl, rfl⟩
theorem fModel_drift_19 : w_fe w_c229 19 20 (.getfield 901) := ⟨rfl, rfl⟩
theorem fModel_drift_20 : w_fe w_c229 20 21 (.bipush 42) := ⟨rfl, rfl⟩
theorem fModel_drift_21 : w_fe w_c229 21 22 (.iaload) := ⟨rfl, rfl⟩
theorem fModel_drift_22 : w_fe w_c229 22 23 (.aload 0) := ⟨rfl, rfl⟩
theorem fModel_drift_23 : w_fe w_c229 23 24 (.getfield 903) := ⟨rfl, rfl⟩
theorem fModel_drift_24 : w_ic w_c229 24 25 .ge 46 := ⟨rfl, rfl⟩
theorem fModel_drift_25 : w_fe w_c229 25 26 (.iload 4) := ⟨rfl, rfl⟩
theorem fModel_drift_26 : w_fe w_c229 26 27 (.bipush 1103515245) := ⟨rfl, rfl⟩
theorem fModel_drift_27 : w_fe w_c229 27 28 (.fmul) := ⟨rfl, rfl⟩
theorem fModel_drift_28 : w_fe w_c229 28 29 (.bipush 12345) := ⟨rfl, rfl⟩
theorem fModel_drift_29 : w_fe w_c229 29 30 (.fadd) := ⟨rfl, rfl⟩
theorem fModel_drift_30 : w_fe w_c229 30 31 (.istore 4) := ⟨rfl, rfl⟩
theorem fModel_drift_31 : w_fe w_c229 31 32 (.aload 0) := ⟨rfl, rfl⟩
theorem fModel_drift_32 : w_fe w_c229 32 33 (.iload 4) := ⟨rfl, rfl⟩
theorem fModel_drift_33 : w_fe w_c229 33 34 (.bipush 16) := ⟨rfl, rfl⟩
theorem fModel_drift_34 : w_fe w_c229 34 35 (.ishr) := ⟨rfl, rfl⟩
theorem fModel_drift_35 : w_fe w_c229 35 36 (.bipush 32767) := ⟨rfl, rfl⟩
theorem fModel_drift_36 : w_fe w_c229 36 37 (.iand) := ⟨rfl, rfl⟩
theorem fModel_drift_37 : w_fe w_c229 37 38 (.bipush 10) := ⟨rfl, rfl⟩
theorem fModel_drift_38 : w_fe w_c229 38 39 (.irem) := ⟨rfl, rfl⟩
theorem fModel_drift_39 : w_fe w_c229 39 40 (.iload 2) := ⟨rfl, rfl⟩
theorem fModel_drift_40 : w_ic w_c229 40 41 .ge 43 := ⟨rfl, rfl⟩
theorem fModel_drift_41 : w_fe w_c229 41 42 (.bipush 1) := ⟨rfl, rfl⟩
theorem fModel_drift_42 : w_gt w_c229 42 44 := rfl
theorem fModel_drift_43 : w_fe w_c229 43 44 (.bipush 0) := ⟨rfl, rfl⟩
theorem fModel_drift_44 : w_fe w_c229 44 45 (.invokestatic 196) := ⟨rfl, rfl⟩
theorem fModel_drift_45 : w_gt w_c229 45 18 := rfl
theorem fModel_drift_46 : w_fe w_c229 46 47 (.bipush 0) := ⟨rfl, rfl⟩
theorem fModel_drift_47 : w_fe w_c229 47 48 (.istore 5) := ⟨rfl, rfl⟩
theorem fModel_drift_48 : w_fe w_c229 48 49 (.bipush 0) := ⟨rfl, rfl⟩
theorem fModel_drift_49 : w_fe w_c229 49 50 (.istore 6) := ⟨rfl, rfl⟩
theorem fModel_drift_50 : w_fe w_c229 50 51 (.iload 6) := ⟨rfl, rfl⟩
theorem fModel_drift_51 : w_fe w_c229 51 52 (.aload 0) := ⟨rfl, rfl⟩
theorem fModel_drift_52 : w_fe w_c229 52 53 (.getfield 905) := ⟨rfl, rfl⟩
theorem fModel_drift_53 : w_ic w_c229 53 54 .ge 63 := ⟨rfl, rfl⟩
theorem fModel_drift_54 : w_fe w_c229 54 55 (.iload 5) := ⟨rfl, rfl⟩
theorem fModel_drift_55 : w_fe w_c229 55 56 (.aload 0) := ⟨rfl, rfl⟩
theorem fModel_drift_56 : w_fe w_c229 56 57 (.iload 6) := ⟨rfl, rfl⟩
theorem fModel_drift_57 : w_fe w_c229 57 58 (.bipush 1) := ⟨rfl, rfl⟩
theorem fModel_drift_58 : w_fe w_c229 58 59 (.invokestatic 178) := ⟨rfl, rfl⟩
theorem fModel_drift_59 : w_fe w_c229 59 60 (.iadd) := ⟨rfl, rfl⟩
theorem fModel_drift_60 : w_fe w_c229 60 61 (.istore 5) := ⟨rfl, rfl⟩
theorem fModel_drift_61 : w_fe w_c229 61 62 (.iinc 6 1) := ⟨rfl, rfl⟩
theorem fModel_drift_62 : w_gt w_c229 62 50 := rfl
theorem fModel_drift_63 : w_fe w_c229 63 64 (.iload 3) := ⟨rfl, rfl⟩
theorem fModel_drift_64 : w_if w_c229 64 65 .ne 68 := ⟨rfl, rfl⟩
theorem fModel_drift_65 : w_fe w_c229 65 66 (.aload 0) := ⟨rfl, rfl⟩
theorem fModel_drift_66 : w_fe w_c229 66 67 (.invokestatic 175) := ⟨rfl, rfl⟩
theorem fModel_drift_67 : w_gt w_c229 67 69 := rfl
theorem fModel_drift_68 : w_fe w_c229 68 69 (.iload 5) := ⟨rfl, rfl⟩
theorem fModel_drift_69 : w_fe w_c229 69 70 (.ireturn) := ⟨rfl, rfl⟩
noncomputable def LModel_drift_18 (xs : List Int) (d : Nat) (Q : Option w_V → w_M → Prop) (v2 : Int) (v3 : Int) (v4 : Int) (σ : w_M) : Prop := ∀ l1, w_nl l1 → ∀ l5, w_nl l5 → ∀ l6, w_nl l6 → w_Ex (xs, d) 1 w_c229 Q 18 [some (.inr (.inr (9, 122))), l1, some (.inl v2), some (.inl v3), some (.inl v4), l5, l6] [] σ
noncomputable def LModel_drift_50 (xs : List Int) (d : Nat) (Q : Option w_V → w_M → Prop) (v3 : Int) (v5 : Int) (v6 : Int) (σ : w_M) : Prop := ∀ l1, w_nl l1 → ∀ l2, w_nl l2 → ∀ l4, w_nl l4 → w_Ex (xs, d) 1 w_c229 Q 50 [some (.inr (.inr (9, 122))), l1, l2, some (.inl v3), l4, some (.inl v5), some (.inl v6)] [] σ
set_option maxRecDepth 20000 in
theorem bModel_drift_0 {xs : List Int} {d : Nat} {Q : Option w_V → w_M → Prop} {x1 : Int} {x2 : Int} {x3 : Int} {σ : w_M}
    (h : (¬ (0 ≤ x2 ∧ x2 ≤ 10) → Q (some (.inl (-1))) σ) ∧ ((0 ≤ x2 ∧ x2 ≤ 10) → (((0 ≤ x3 ∧ x3 ≤ 1) → (p_Model_starts σ ∧ (∀ (τ1 : w_M), q_Model_starts σ τ1 → LModel_drift_18 xs (d + 4) Q x2 x3 x1 τ1))) ∧ (¬ (0 ≤ x3 ∧ x3 ≤ 1) → Q (some (.inl (-1))) σ)))) : w_Call (xs, (d + 4)) 229 [.inr (.inr (9, 122)), .inl x1, .inl x2, .inl x3] σ Q :=
  (w_mk (mid := 229) (by decide) rfl rfl rfl rfl rfl (Nat.le_of_ble_eq_true rfl) ⟨rfl, Or.inl (by decide)⟩ (wi_iload2 fModel_drift_0 (wi_i2l fModel_drift_1 (wi_sipush fModel_drift_2 (wi_sipush fModel_drift_3 (wi_call3 fModel_drift_4 (Nat.le_of_ble_eq_true rfl) (k_Model_in (wi_ifb_eq fModel_drift_5 (fun c3 => (wi_bipush fModel_drift_12 (wi_ret1 fModel_drift_13 (h.1 c3)))) (fun c3 => (wi_iload3 fModel_drift_6 (wi_i2l fModel_drift_7 (wi_sipush fModel_drift_8 (wi_sipush fModel_drift_9 (wi_call3 fModel_drift_10 (Nat.le_of_ble_eq_true rfl) (k_Model_in (wi_ifb_ne fModel_drift_11 (fun c2 => (wi_aload0 fModel_drift_14 (wi_call1 fModel_drift_15 (Nat.le_of_ble_eq_true rfl) (k_Model_starts ((h.2 c3).1 c2).1 (fun τ1 eτ1 => (wi_iload1 fModel_drift_16 (wi_istore4 fModel_drift_17 trivial ((((h.2 c3).1 c2).2 τ1 eτ1) _ (by exact trivial) _ (by exact trivial) _ (by exact trivial))))))))) (fun c2 => (wi_bipush fModel_drift_12 (wi_ret1 fModel_drift_13 ((h.2 c3).2 c2))))))))))))))))))))
set_option maxRecDepth 20000 in
theorem bModel_drift_18 {xs : List Int} {d : Nat} {Q : Option w_V → w_M → Prop} {v2 : Int} {v3 : Int} {v4 : Int} {σ : w_M}
    (h : ((σ 122 3) ≤ (σ 124 42) → LModel_drift_50 xs (d + 4) Q v3 0 0 σ) ∧ ((σ 124 42) < (σ 122 3) → ∀ (y1 : Int), y1 = (w_wr ((w_wr (v4 * 1103515245)) + 12345)) → ((v2 ≤ ((w_and (w_shr y1 16) 32767).tmod 10) → (p_Model_goesBy 0 σ ∧ (∀ (τ2 : w_M), q_Model_goesBy 0 σ τ2 → LModel_drift_18 xs (d + 4) Q v2 v3 y1 τ2))) ∧ (((w_and (w_shr y1 16) 32767).tmod 10) < v2 → (p_Model_goesBy 1 σ ∧ (∀ (τ3 : w_M), q_Model_goesBy 1 σ τ3 → LModel_drift_18 xs (d + 4) Q v2 v3 y1 τ3)))))) : LModel_drift_18 xs (d + 4) Q v2 v3 v4 σ :=
  fun l1 nl1 => fun l5 nl5 => fun l6 nl6 => (wi_aload0 fModel_drift_18 (wi_getf901 fModel_drift_19 (wi_bipush fModel_drift_20 (wi_iald1082 fModel_drift_21 (by decide) (by decide) (wi_aload0 fModel_drift_22 (wi_getf903 fModel_drift_23 (wi_ic_ge fModel_drift_24 (fun c5 => (wi_bipush fModel_drift_46 (wi_istore5 fModel_drift_47 trivial (wi_bipush fModel_drift_48 (wi_istore6 fModel_drift_49 trivial ((h.1 c5) _ nl1 _ (by exact trivial) _ (by exact trivial))))))) (fun c5 => (wi_iload4 fModel_drift_25 (wi_bipush fModel_drift_26 (wi_fmul fModel_drift_27 (wi_bipush fModel_drift_28 (wi_fadd fModel_drift_29 (wi_istore4 fModel_drift_30 trivial (wi_aload0 fModel_drift_31 (wi_iload4 fModel_drift_32 (wi_bipush fModel_drift_33 (wi_ishr fModel_drift_34 (wi_bipush fModel_drift_35 (wi_iand fModel_drift_36 (wi_bipush fModel_drift_37 (wi_irem fModel_drift_38 (by decide) (wi_iload2 fModel_drift_39 (wi_ic_ge fModel_drift_40 (fun c4 => (wi_bipush fModel_drift_43 (wi_call2 fModel_drift_44 (Nat.le_of_ble_eq_true rfl) (k_Model_goesBy (((h.2 c5) _ rfl).1 c4).1 (fun τ2 eτ2 => (wi_goto fModel_drift_45 (((((h.2 c5) _ rfl).1 c4).2 τ2 eτ2) _ nl1 _ nl5 _ nl6))))))) (fun c4 => (wi_bipush fModel_drift_41 (wi_goto fModel_drift_42 (wi_call2 fModel_drift_44 (Nat.le_of_ble_eq_true rfl) (k_Model_goesBy (((h.2 c5) _ rfl).2 c4).1 (fun τ3 eτ3 => (wi_goto fModel_drift_45 (((((h.2 c5) _ rfl).2 c4).2 τ3 eτ3) _ nl1 _ nl5 _ nl6))))))))))))))))))))))))))))))))
set_option maxRecDepth 20000 in
theorem bModel_drift_50 {xs : List Int} {d : Nat} {Q : Option w_V → w_M → Prop} {v3 : Int} {v5 : Int} {v6 : Int} {σ : w_M}
    (h : ((σ 122 5) ≤ v6 → ((¬ v3 = 0 → Q (some (.inl v5)) σ) ∧ (v3 = 0 → (p_Model_standing σ ∧ (∀ (y1 : Int), y1 = v_Model_standing σ → Q (some (.inl y1)) σ))))) ∧ (v6 < (σ 122 5) → (p_Model_of v6 1 σ ∧ w_in (v5 + (σ 124 (21 + 5 * v6 + 1).toNat)) ∧ (∀ (y3 : Int), y3 = (v5 + (σ 124 (21 + 5 * v6 + 1).toNat)) → (w_in (v6 + 1) ∧ LModel_drift_50 xs (d + 4) Q v3 y3 (v6 + 1) σ))))) : LModel_drift_50 xs (d + 4) Q v3 v5 v6 σ :=
  fun l1 nl1 => fun l2 nl2 => fun l4 nl4 => (wi_iload6 fModel_drift_50 (wi_aload0 fModel_drift_51 (wi_getf905 fModel_drift_52 (wi_ic_ge fModel_drift_53 (fun c4 => (wi_iload3 fModel_drift_63 (wi_if_ne fModel_drift_64 (fun c2 => (wi_iload5 fModel_drift_68 (wi_ret1 fModel_drift_69 ((h.1 c4).1 c2)))) (fun c2 => (wi_aload0 fModel_drift_65 (wi_call1 fModel_drift_66 (Nat.le_of_ble_eq_true rfl) (k_Model_standing ((h.1 c4).2 c2).1 (wi_goto fModel_drift_67 (wi_ret1 fModel_drift_69 (((h.1 c4).2 c2).2 _ rfl)))))))))) (fun c4 => (wi_iload5 fModel_drift_54 (wi_aload0 fModel_drift_55 (wi_iload6 fModel_drift_56 (wi_bipush fModel_drift_57 (wi_call3 fModel_drift_58 (Nat.le_of_ble_eq_true rfl) (k_Model_of (h.2 c4).1 (wi_iadd fModel_drift_59 (h.2 c4).2.1 (wi_istore5 fModel_drift_60 nl4 (wi_iinc6 fModel_drift_61 trivial ((h.2 c4).2.2 _ rfl).1 (wi_goto fModel_drift_62 (((h.2 c4).2.2 _ rfl).2 _ nl1 _ nl2 _ nl4))))))))))))))))
theorem k_Model_drift {xs : List Int} {d : Nat} {Q : Option w_V → w_M → Prop} {x1 : Int} {x2 : Int} {x3 : Int} {σ : w_M} (hp : p_Model_drift x1 x2 x3 σ) (hQ : ∀ (x : Int) (σ' : w_M), q_Model_drift x1 x2 x3 σ x σ' → Q (some (.inl x)) σ') : w_Call (xs, d + 4) 229 [.inr (.inr (9, 122)), .inl x1, .inl x2, .inl x3] σ Q := by
  have hM : MI σ := hp
  have hok := hM.ok
  have hrs := m_ok.hrs hok
  have hr : 0 ≤ σ 123 42 ∧ σ 123 42 ≤ σ 122 3 := m_ok.hr hok
  unfold q_Model_drift F_drift at hQ
  have eA : mS σ 0 = w_am σ 123 0 := rfl
  rw [eA] at hQ
  refine bModel_drift_0 ⟨fun c => ?_, fun c => ⟨fun c2 => ⟨hM.sm, fun τ1 hq1 => ?_⟩, fun c2 => ?_⟩⟩
  · rw [if_neg (fun q => c q.1)] at hQ
    exact hQ _ _ (m_qr hM rfl)
  · rw [if_pos ⟨c, c2⟩] at hQ
    obtain ⟨q1, q2, q3⟩ := hq1
    refine (w_loop (n := n_left (w_am σ 123 0)) (P := fun k => ∀ τ : w_M, w_am τ 124 0 = n_dr (w_am σ 123 0) x1 x2 k → w_f1 σ τ 124 → LModel_drift_18 xs (d + 4) Q x2 x3 (dr_x x1 k) τ) ?_ ?_) τ1 q1 q2
    · intro τ A1 F1
      obtain ⟨g1, g2, g3⟩ := n_dr_all hok x1 x2 (n_left (w_am σ 123 0)) (by show σ 123 42 + (((σ 122 3 - σ 123 42).toNat : Nat) : Int) ≤ σ 122 3; omega)
      rw [← A1] at g1 g3
      have z2 : τ 122 = σ 122 := F1 122 (by decide)
      have t1 : τ 124 42 = σ 123 42 + (((σ 122 3 - σ 123 42).toNat : Nat) : Int) := g3
      have hnn := hM.n
      refine bModel_drift_18 ⟨fun _ => ?_, fun h => by rw [z2, t1] at h; omega⟩
      refine w_loop (n := (σ 122 5).toNat) (P := fun i => LModel_drift_50 xs (d + 4) Q x3 (f_sum (w_am τ 124 0 4) i) (i : Int) τ) ?_ ?_
      · refine bModel_drift_50 ⟨fun _ => ⟨fun c3 => ?_, fun c3 => ⟨g1, fun y ey => ?_⟩⟩, fun h => by rw [z2] at h; omega⟩
        · rw [if_neg c3] at hQ
          refine hQ _ _ (m_qs hM F1 ?_)
          rw [← A1]
          unfold n_oils
          rw [n_n_am, z2]
        · rw [if_pos c3] at hQ
          refine hQ _ _ (m_qs hM F1 ?_)
          rw [ey, ← A1]
          rfl
      · intro i hi ih
        have hi4 : i < n_n (w_am τ 124 0) := by rw [n_n_am, z2]; exact hi
        have e4 : τ 124 (21 + 5 * (i : Int) + 1).toNat = w_am τ 124 0 4 i := by
          have := m_rdr (σ := τ) (c := 124) (d := 4) (r := (i : Int)) (x := (21 + 5 * (i : Int) + 1).toNat) (by decide) (by decide) (by rw [z2]; omega) (by show _ = 22 + 5 * ((i : Int)).toNat; omega)
          rw [Int.toNat_natCast] at this
          exact this
        have h2 := f_sum_le (f := w_am τ 124 0 4) (B := 9) (m := n_n (w_am τ 124 0)) (fun i hi => by have := (n_WF.r g1 hi).2.1; omega) (Nat.le_of_lt hi4)
        have h3 := (n_WF.r g1 hi4).2.1
        simp only [f_sum] at ih
        rw [w_cs1] at ih
        refine bModel_drift_50 ⟨fun h => by rw [z2] at h; omega, fun h => ⟨⟨⟨by omega, by omega⟩, by decide⟩, ?_⟩⟩
        rw [e4]
        refine ⟨⟨by omega, by omega⟩, fun y ey => ⟨⟨by omega, by omega⟩, ?_⟩⟩
        rw [ey]
        exact ih
    · intro k hk ih τ A1 F1
      have hk2 : (k : Int) < σ 122 3 - σ 123 42 := by
        have : n_left (w_am σ 123 0) = (σ 122 3 - σ 123 42).toNat := rfl
        omega
      obtain ⟨g1, g2, g3⟩ := n_dr_all hok x1 x2 k (by show σ 123 42 + _ ≤ σ 122 3; omega)
      rw [← A1] at g1 g2 g3
      have z2 : τ 122 = σ 122 := F1 122 (by decide)
      have t1 : τ 124 42 = σ 123 42 + k := g3
      refine bModel_drift_18 ⟨fun h => by rw [z2, t1] at h; omega, fun h y1 e1 => ⟨fun c3 => ⟨⟨g1, h, Or.inl rfl⟩, fun τ2 hq => ?_⟩, fun c3 => ⟨⟨g1, h, Or.inr rfl⟩, fun τ2 hq => ?_⟩⟩⟩
      · rw [e1] at c3 ⊢
        refine ih τ2 ?_ (F1.tr hq.2.1)
        rw [hq.1, A1]
        simp only [n_dr]
        rw [show dr_b x1 x2 k = 0 from if_neg (fun q => by have q2 : (w_and (w_shr (w_wr (w_wr (dr_x x1 k * 1103515245) + 12345)) 16) 32767).tmod 10 < x2 := q; omega)]
      · rw [e1] at c3 ⊢
        refine ih τ2 ?_ (F1.tr hq.2.1)
        rw [hq.1, A1]
        simp only [n_dr]
        rw [show dr_b x1 x2 k = 1 from if_pos c3]
  · rw [if_neg (fun q => c2 q.2)] at hQ
    exact hQ _ _ (m_qr hM rfl)
end
section
/-! The odds, as the reference counts them -/
noncomputable def lk_b (c k : Nat) : Int := w_and (w_shr (c : Int) (k : Int)) 1
noncomputable def lk_f (v b : Int) : Int := if b = 1 then v else 10 - v
noncomputable def lk_w (v : Int) (c : Nat) : Nat → Int
  | 0 => 1
  | k + 1 => lk_w v c k * lk_f v (lk_b c k)
noncomputable def lk_A (A : w_M) (c : Nat) : Nat → w_M
  | 0 => A
  | k + 1 => n_hour (lk_A A c k) (lk_b c k)
noncomputable def lk_p (k : Nat) : Int := ((10 ^ k : Nat) : Int)
noncomputable def lk_t (A : w_M) (v : Int) (n c : Nat) : Int := if n_sd (lk_A A c n) = 0 then lk_w v c n else 0
noncomputable def lk_s (A : w_M) (v : Int) (n : Nat) : Nat → Int := f_sum (lk_t A v n)
theorem lk_b01 (c k : Nat) : lk_b c k = 0 ∨ lk_b c k = 1 := w_and1 _
theorem lk_f_le {v : Int} (hv : 0 ≤ v ∧ v ≤ 10) (b : Int) : 0 ≤ lk_f v b ∧ lk_f v b ≤ 10 := by unfold lk_f; split <;> omega
theorem lk_p_s (k : Nat) : lk_p (k + 1) = lk_p k * 10 := by
  unfold lk_p
  rw [Nat.pow_succ, Int.natCast_mul]
  rfl
theorem lk_p_pos (k : Nat) : 1 ≤ lk_p k := by
  unfold lk_p
  have : 0 < 10 ^ k := Nat.pow_pos (by decide)
  omega
theorem lk_p_le {k : Nat} (h : k ≤ 12) : lk_p k ≤ 1000000000000 := by
  unfold lk_p
  have : 10 ^ k ≤ 10 ^ 12 := Nat.pow_le_pow_right (by decide) h
  omega
theorem lk_w_le {v : Int} (hv : 0 ≤ v ∧ v ≤ 10) (c : Nat) : ∀ k : Nat, 0 ≤ lk_w v c k ∧ lk_w v c k ≤ lk_p k := by
  intro k
  induction k with
  | zero => simp [lk_w, lk_p]
  | succ k ih =>
    have hf := lk_f_le hv (lk_b c k)
    simp only [lk_w]
    rw [lk_p_s]
    exact ⟨Int.mul_nonneg ih.1 hf.1, Int.mul_le_mul ih.2 hf.2 hf.1 (by have := lk_p_pos k; omega)⟩
theorem lk_A_all {A : w_M} (h : n_WF A) (c : Nat) : ∀ k : Nat, A 0 1 + k ≤ A 0 0 → n_WF (lk_A A c k) ∧ n_same A (lk_A A c k) ∧ (lk_A A c k) 0 1 = A 0 1 + k := by
  intro k
  induction k with
  | zero => intro _; exact ⟨h, n_same.rfl', by simp [lk_A]⟩
  | succ k ih =>
    intro hk
    obtain ⟨h1, h2, h3⟩ := ih (by omega)
    have h0 : (lk_A A c k) 0 0 = A 0 0 := h2.1 0 (by decide) (by decide)
    obtain ⟨g1, g2, g3, -⟩ := n_hour_all h1 (by omega) (lk_b01 c k)
    refine ⟨g1, h2.tr g2, ?_⟩
    simp only [lk_A]
    rw [g3, h3]
    omega
theorem lk_t_le {A : w_M} {v : Int} (hv : 0 ≤ v ∧ v ≤ 10) (n c : Nat) : 0 ≤ lk_t A v n c ∧ lk_t A v n c ≤ lk_p n := by
  have := lk_w_le hv c n
  have := lk_p_pos n
  unfold lk_t
  split <;> omega
theorem lk_s_le {A : w_M} {v : Int} (hv : 0 ≤ v ∧ v ≤ 10) {n : Nat} (hn : n ≤ 12) {c : Nat} (hc : c ≤ 4096) : 0 ≤ lk_s A v n c ∧ lk_s A v n c ≤ 4096000000000000 := by
  have h1 := f_sum_le (f := lk_t A v n) (m := c) (B := lk_p n) (fun i _ => lk_t_le hv n i) (Nat.le_refl _)
  have h2 := lk_p_le hn
  have h3 : lk_p n * (c : Int) ≤ 1000000000000 * 4096 := Int.mul_le_mul h2 (by omega) (by omega) (by decide)
  unfold lk_s
  omega
theorem w_shl13 : ∀ t, t < 13 → w_shl 1 ((t : Nat) : Int) = ((2 ^ t : Nat) : Int) := by decide +kernel
noncomputable def lk_g (a b : Int) : Int := ((a.toNat.gcd b.toNat : Nat) : Int)
noncomputable def F_luck (S : w_S) (v w : Int) : Int := if (0 ≤ v ∧ v ≤ 10) ∧ (0 ≤ w ∧ w ≤ 1) then
    (if w = 0 then (lk_s (S 0) v (n_left (S 0)) (2 ^ n_left (S 0))).tdiv (lk_g (lk_p (n_left (S 0))) (lk_s (S 0) v (n_left (S 0)) (2 ^ n_left (S 0))))
    else (lk_p (n_left (S 0))).tdiv (lk_g (lk_p (n_left (S 0))) (lk_s (S 0) v (n_left (S 0)) (2 ^ n_left (S 0))))) else -1
noncomputable def p_Model_common (a b : Int) (_ : w_M) : Prop := 0 ≤ a ∧ 0 ≤ b
noncomputable def q_Model_common (a b : Int) (σ : w_M) (x : Int) (σ' : w_M) : Prop := x = lk_g a b ∧ σ' = σ
theorem lk_g_z {a : Int} (h : 0 ≤ a) : lk_g a 0 = a := by
  unfold lk_g
  rw [show (0 : Int).toNat = 0 from rfl, Nat.gcd_zero_right]
  omega
theorem lk_g_r {a b : Int} (h : 0 ≤ a) (hb : 0 ≤ b) : lk_g b (a.tmod b) = lk_g a b := by
  obtain ⟨m, rfl⟩ := Int.eq_ofNat_of_zero_le h
  obtain ⟨n, rfl⟩ := Int.eq_ofNat_of_zero_le hb
  unfold lk_g
  rw [← Int.ofNat_tmod, Int.toNat_natCast, Int.toNat_natCast, Int.toNat_natCast, Nat.gcd_comm n, ← Nat.gcd_rec, Nat.gcd_comm]
theorem lk_tmod {a b : Int} (h : 0 ≤ a) (hb : 0 ≤ b) (h0 : ¬ b = 0) : 0 ≤ a.tmod b ∧ a.tmod b < b := ⟨Int.tmod_nonneg _ h, Int.tmod_lt_of_pos _ (by omega)⟩
theorem fModel_common_0 : w_fe am_c214 0 1 (.lload 0) := ⟨rfl, rfl⟩
theorem fModel_common_1 : w_fe am_c214 1 2 (.lstore 4) := ⟨rfl, rfl⟩
theorem fModel_common_2 : w_fe am_c214 2 3 (.lload 2) := ⟨rfl, rfl⟩
theorem fModel_common_3 : w_fe am_c214 3 4 (.lstore 6) := ⟨rfl, rfl⟩
theorem fModel_common_4 : w_fe am_c214 4 5 (.lload 6) := ⟨rfl, rfl⟩
theorem fModel_common_5 : w_fe am_c214 5 6 (.sipush 0) := ⟨rfl, rfl⟩
theorem fModel_common_6 : w_fe am_c214 6 7 (.lcmp) := ⟨rfl, rfl⟩
theorem fModel_common_7 : w_if am_c214 7 8 .eq 17 := ⟨rfl, rfl⟩
theorem fModel_common_8 : w_fe am_c214 8 9 (.lload 4) := ⟨rfl, rfl⟩
theorem fModel_common_9 : w_fe am_c214 9 10 (.lload 6) := ⟨rfl, rfl⟩
theorem fModel_common_10 : w_fe am_c214 10 11 (.lrem) := ⟨rfl, rfl⟩
theorem fModel_common_11 : w_fe am_c214 11 12 (.lstore 8) := ⟨rfl, rfl⟩
theorem fModel_common_12 : w_fe am_c214 12 13 (.lload 6) := ⟨rfl, rfl⟩
theorem fModel_common_13 : w_fe am_c214 13 14 (.lstore 4) := ⟨rfl, rfl⟩
theorem fModel_common_14 : w_fe am_c214 14 15 (.lload 8) := ⟨rfl, rfl⟩
theorem fModel_common_15 : w_fe am_c214 15 16 (.lstore 6) := ⟨rfl, rfl⟩
theorem fModel_common_16 : w_gt am_c214 16 4 := rfl
theorem fModel_common_17 : w_fe am_c214 17 18 (.lload 4) := ⟨rfl, rfl⟩
theorem fModel_common_18 : w_fe am_c214 18 19 (.ireturn) := ⟨rfl, rfl⟩
noncomputable def LModel_common_4 (xs : List Int) (d : Nat) (Q : Option w_V → w_M → Prop) (v4 : Int) (v6 : Int) (σ : w_M) : Prop := ∀ L0 : Option w_V, ∀ l1, w_nl l1 → ∀ L2 : Option w_V, ∀ l3, w_nl l3 → ∀ L8 : Option w_V, ∀ l9, w_nl l9 → w_Ex (xs, d) 3 am_c214 Q 4 [L0, l1, L2, l3, some (.inr (.inl v4)), none, some (.inr (.inl v6)), none, L8, l9] [] σ
set_option maxRecDepth 20000 in
theorem bModel_common_0 {xs : List Int} {d : Nat} {Q : Option w_V → w_M → Prop} {x0 : Int} {x1 : Int} {σ : w_M}
    (h : LModel_common_4 xs d Q x0 x1 σ) : w_Call (xs, d) 214 [.inr (.inl x0), .inr (.inl x1)] σ Q :=
  (w_mk (mid := 214) (by decide) rfl rfl rfl rfl rfl (Nat.le_of_ble_eq_true rfl) trivial (wi_lload0 fModel_common_0 (wi_lstore4 fModel_common_1 trivial (wi_lload2 fModel_common_2 (wi_lstore6 fModel_common_3 trivial (h _ _ (by exact trivial) _ _ (by exact trivial) _ _ (by exact trivial)))))))
set_option maxRecDepth 20000 in
theorem bModel_common_4 {xs : List Int} {d : Nat} {Q : Option w_V → w_M → Prop} {v4 : Int} {v6 : Int} {σ : w_M}
    (h : (v6 = 0 → Q (some (.inr (.inl v4))) σ) ∧ (¬ v6 = 0 → ∀ (y1 : Int), y1 = (v4.tmod v6) → LModel_common_4 xs d Q v6 y1 σ)) : LModel_common_4 xs d Q v4 v6 σ :=
  fun L0 => fun l1 nl1 => fun L2 => fun l3 nl3 => fun L8 => fun l9 nl9 => (wi_lload6 fModel_common_4 (wi_sipush fModel_common_5 (wi_lcmp_eq fModel_common_6 fModel_common_7 (fun c2 => (wi_lload4 fModel_common_17 (wi_ret3 fModel_common_18 (h.1 c2)))) (fun c2 => (wi_lload4 fModel_common_8 (wi_lload6 fModel_common_9 (wi_lrem fModel_common_10 c2 (wi_lstore8 fModel_common_11 trivial (wi_lload6 fModel_common_12 (wi_lstore4 fModel_common_13 nl3 (wi_lload8 fModel_common_14 (wi_lstore6 fModel_common_15 trivial (wi_goto fModel_common_16 (((h.2 c2) _ rfl) _ _ nl1 _ _ nl3 _ _ (by exact trivial)))))))))))))))
theorem k_Model_common {xs : List Int} {d : Nat} {Q : Option w_V → w_M → Prop} {x0 : Int} {x1 : Int} {σ : w_M} (hp : p_Model_common x0 x1 σ) (hQ : ∀ (x : Int) (σ' : w_M), q_Model_common x0 x1 σ x σ' → Q (some (.inr (.inl x))) σ') : w_Call (xs, d) 214 [.inr (.inl x0), .inr (.inl x1)] σ Q := by
  refine bModel_common_0 ?_
  have main : ∀ (n : Nat) (a b : Int), b.toNat ≤ n → 0 ≤ a → 0 ≤ b → lk_g a b = lk_g x0 x1 → LModel_common_4 xs d Q a b σ := by
    intro n
    induction n with
    | zero =>
      intro a b hn ha hb hg
      have h0 : b = 0 := by omega
      refine bModel_common_4 ⟨fun _ => hQ _ _ ⟨?_, rfl⟩, fun h => absurd h0 h⟩
      rw [← hg, h0, lk_g_z ha]
    | succ n ih =>
      intro a b hn ha hb hg
      refine bModel_common_4 ⟨fun h0 => hQ _ _ ⟨?_, rfl⟩, fun h y e => ?_⟩
      · rw [← hg, h0, lk_g_z ha]
      · have ht := lk_tmod ha hb h
        rw [e]
        exact ih _ _ (by omega) hb ht.1 (by rw [lk_g_r ha hb]; exact hg)
  exact main _ x0 x1 (Nat.le_refl _) hp.1 hp.2 rfl
theorem lk_div {a g : Int} (ha : 0 ≤ a) (hg : 1 ≤ g) : 0 ≤ a.tdiv g ∧ a.tdiv g ≤ a := by
  obtain ⟨m, rfl⟩ := Int.eq_ofNat_of_zero_le ha
  obtain ⟨n, rfl⟩ := Int.eq_ofNat_of_zero_le (show 0 ≤ g by omega)
  rw [← Int.ofNat_tdiv]
  exact ⟨Int.natCast_nonneg _, Int.ofNat_le.mpr (Nat.div_le_self m n)⟩
theorem lk_g_pos {a b : Int} (ha : 1 ≤ a) : 1 ≤ lk_g a b := by
  unfold lk_g
  have := Nat.gcd_pos_of_pos_left b.toNat (show 0 < a.toNat by omega)
  omega
noncomputable def p_Model_luck (_x1 : Int) (_x2 : Int) (σ : w_M) : Prop := MI σ
noncomputable def q_Model_luck (x1 : Int) (x2 : Int) (σ : w_M) (x : Int) (σ' : w_M) : Prop := m_q (F_luck (mS σ) x1 x2) (mS σ) σ x σ'
theorem fModel_luck_0 : w_fe am_c213 0 1 (.iload 1) := ⟨rfl, rfl⟩
theorem fModel_luck_1 : w_fe am_c213 1 2 (.i2l) := ⟨rfl, rfl⟩
theorem fModel_luck_2 : w_fe am_c213 2 3 (.sipush 0) := ⟨rfl, rfl⟩
theorem fModel_luck_3 : w_fe am_c213 3 4 (.sipush 10) := ⟨rfl, rfl⟩
theorem fModel_luck_4 : w_fe am_c213 4 5 (.invokestatic 157) := ⟨rfl, rfl⟩
theorem fModel_luck_5 : w_if am_c213 5 6 .eq 12 := ⟨rfl, rfl⟩
theorem fModel_luck_6 : w_fe am_c213 6 7 (.iload 2) := ⟨rfl, rfl⟩
theorem fModel_luck_7 : w_fe am_c213 7 8 (.i2l) := ⟨rfl, rfl⟩
theorem fModel_luck_8 : w_fe am_c213 8 9 (.sipush 0) := ⟨rfl, rfl⟩
theorem fModel_luck_9 : w_fe am_c213 9 10 (.sipush 1) := ⟨rfl, rfl⟩
theorem fModel_luck_10 : w_fe am_c213 10 11 (.invokestatic 157) := ⟨rfl, rfl⟩
theorem fModel_luck_11 : w_if am_c213 11 12 .ne 14 := ⟨rfl, rfl⟩
theorem fModel_luck_12 : w_fe am_c213 12 13 (.sipush (-1)) := ⟨rfl, rfl⟩
theorem fModel_luck_13 : w_fe am_c213 13 14 (.ireturn) := ⟨rfl, rfl⟩
theorem fModel_luck_14 : w_fe am_c213 14 15 (.aload 0) := ⟨rfl, rfl⟩
theorem fModel_luck_15 : w_fe am_c213 15 16 (.getfield 903) := ⟨rfl, rfl⟩
theorem fModel_luck_16 : w_fe am_c213 16 17 (.aload 0) := ⟨rfl, rfl⟩
theorem fModel_luck_17 : w_fe am_c213 17 18 (.getfield 900) := ⟨rfl, rfl⟩
theorem fModel_luck_18 : w_fe am_c213 18 19 (.bipush 42) := ⟨rfl, rfl⟩
theorem fModel_luck_19 : w_fe am_c213 19 20 (.iaload) := ⟨rfl, rfl⟩
theorem fModel_luck_20 : w_fe am_c213 20 21 (.isub) := ⟨rfl, rfl⟩
theorem fModel_luck_21 : w_fe am_c213 21 22 (.istore 3) := ⟨rfl, rfl⟩
theorem fModel_luck_22 : w_fe am_c213 22 23 (.sipush 1) := ⟨rfl, rfl⟩
theorem fModel_luck_23 : w_fe am_c213 23 24 (.lstore 4) := ⟨rfl, rfl⟩
theorem fModel_luck_24 : w_fe am_c213 24 25 (.sipush 0) := ⟨rfl, rfl⟩
theorem fModel_luck_25 : w_fe am_c213 25 26 (.lstore 6) := ⟨rfl, rfl⟩
theorem fModel_luck_26 : w_fe am_c213 26 27 (.bipush 0) := ⟨rfl, rfl⟩
theorem fModel_luck_27 : w_fe am_c213 27 28 (.istore 8) := ⟨rfl, rfl⟩
theorem fModel_luck_28 : w_fe am_c213 28 29 (.iload 8) := ⟨rfl, rfl⟩
theorem fModel_luck_29 : w_fe am_c213 29 30 (.iload 3) := ⟨rfl, rfl⟩
theorem fModel_luck_30 : w_ic am_c213 30 31 .ge 37 := ⟨rfl, rfl⟩
theorem fModel_luck_31 : w_fe am_c213 31 32 (.lload 4) := ⟨rfl, rfl⟩
theorem fModel_luck_32 : w_fe am_c213 32 33 (.sipush 10) := ⟨rfl, rfl⟩
theorem fModel_luck_33 : w_fe am_c213 33 34 (.lmul) := ⟨rfl, rfl⟩
theorem fModel_luck_34 : w_fe am_c213 34 35 (.lstore 4) := ⟨rfl, rfl⟩
theorem fModel_luck_35 : w_fe am_c213 35 36 (.iinc 8 1) := ⟨rfl, rfl⟩
theorem fModel_luck_36 : w_gt am_c213 36 28 := rfl
theorem fModel_luck_37 : w_fe am_c213 37 38 (.bipush 0) := ⟨rfl, rfl⟩
theorem fModel_luck_38 : w_fe am_c213 38 39 (.istore 8) := ⟨rfl, rfl⟩
theorem fModel_luck_39 : w_fe am_c213 39 40 (.iload 8) := ⟨rfl, rfl⟩
theorem fModel_luck_40 : w_fe am_c213 40 41 (.bipush 1) := ⟨rfl, rfl⟩
theorem fModel_luck_41 : w_fe am_c213 41 42 (.iload 3) := ⟨rfl, rfl⟩
theorem fModel_luck_42 : w_fe am_c213 42 43 (.ishl) := ⟨rfl, rfl⟩
theorem fModel_luck_43 : w_ic am_c213 43 44 .ge 92 := ⟨rfl, rfl⟩
theorem fModel_luck_44 : w_fe am_c213 44 45 (.sipush 1) := ⟨rfl, rfl⟩
theorem fModel_luck_45 : w_fe am_c213 45 46 (.lstore 9) := ⟨rfl, rfl⟩
theorem fModel_luck_46 : w_fe am_c213 46 47 (.aload 0) := ⟨rfl, rfl⟩
theorem fModel_luck_47 : w_fe am_c213 47 48 (.invokestatic 174) := ⟨rfl, rfl⟩
theorem fModel_luck_48 : w_fe am_c213 48 49 (.bipush 0) := ⟨rfl, rfl⟩
theorem fModel_luck_49 : w_fe am_c213 49 50 (.istore 11) := ⟨rfl, rfl⟩
theorem fModel_luck_50 : w_fe am_c213 50 51 (.iload 11) := ⟨rfl, rfl⟩
theorem fModel_luck_51 : w_fe am_c213 51 52 (.iload 3) := ⟨rfl, rfl⟩
theorem fModel_luck_52 : w_ic am_c213 52 53 .ge 81 := ⟨rfl, rfl⟩
theorem fModel_luck_53 : w_fe am_c213 53 54 (.iload 8) := ⟨rfl, rfl⟩
theorem fModel_luck_54 : w_fe am_c213 54 55 (.iload 11) := ⟨rfl, rfl⟩
theorem fModel_luck_55 : w_fe am_c213 55 56 (.ishr) := ⟨rfl, rfl⟩
theorem fModel_luck_56 : w_fe am_c213 56 57 (.bipush 1) := ⟨rfl, rfl⟩
theorem fModel_luck_57 : w_fe am_c213 57 58 (.iand) := ⟨rfl, rfl⟩
theorem fModel_luck_58 : w_fe am_c213 58 59 (.bipush 1) := ⟨rfl, rfl⟩
theorem fModel_luck_59 : w_ic am_c213 59 60 .ne 62 := ⟨rfl, rfl⟩
theorem fModel_luck_60 : w_fe am_c213 60 61 (.bipush 1) := ⟨rfl, rfl⟩
theorem fModel_luck_61 : w_gt am_c213 61 63 := rfl
theorem fModel_luck_62 : w_fe am_c213 62 63 (.bipush 0) := ⟨rfl, rfl⟩
theorem fModel_luck_63 : w_fe am_c213 63 64 (.istore 12) := ⟨rfl, rfl⟩
theorem fModel_luck_64 : w_fe am_c213 64 65 (.lload 9) := ⟨rfl, rfl⟩
theorem fModel_luck_65 : w_fe am_c213 65 66 (.iload 12) := ⟨rfl, rfl⟩
theorem fModel_luck_66 : w_if am_c213 66 67 .eq 70 := ⟨rfl, rfl⟩
theorem fModel_luck_67 : w_fe am_c213 67 68 (.iload 1) := ⟨rfl, rfl⟩
theorem fModel_luck_68 : w_fe am_c213 68 69 (.i2l) := ⟨rfl, rfl⟩
theorem fModel_luck_69 : w_gt am_c213 69 74 := rfl
theorem fModel_luck_70 : w_fe am_c213 70 71 (.bipush 10) := ⟨rfl, rfl⟩
theorem fModel_luck_71 : w_fe am_c213 71 72 (.iload 1) := ⟨rfl, rfl⟩
theorem fModel_luck_72 : w_fe am_c213 72 73 (.isub) := ⟨rfl, rfl⟩
theorem fModel_luck_73 : w_fe am_c213 73 74 (.i2l) := ⟨rfl, rfl⟩
theorem fModel_luck_74 : w_fe am_c213 74 75 (.lmul) := ⟨rfl, rfl⟩
theorem fModel_luck_75 : w_fe am_c213 75 76 (.lstore 9) := ⟨rfl, rfl⟩
theorem fModel_luck_76 : w_fe am_c213 76 77 (.aload 0) := ⟨rfl, rfl⟩
theorem fModel_luck_77 : w_fe am_c213 77 78 (.iload 12) := ⟨rfl, rfl⟩
theorem fModel_luck_78 : w_fe am_c213 78 79 (.invokestatic 196) := ⟨rfl, rfl⟩
theorem fModel_luck_79 : w_fe am_c213 79 80 (.iinc 11 1) := ⟨rfl, rfl⟩
theorem fModel_luck_80 : w_gt am_c213 80 50 := rfl
theorem fModel_luck_81 : w_fe am_c213 81 82 (.lload 6) := ⟨rfl, rfl⟩
theorem fModel_luck_82 : w_fe am_c213 82 83 (.aload 0) := ⟨rfl, rfl⟩
theorem fModel_luck_83 : w_fe am_c213 83 84 (.invokestatic 175) := ⟨rfl, rfl⟩
theorem fModel_luck_84 : w_if am_c213 84 85 .ne 87 := ⟨rfl, rfl⟩
theorem fModel_luck_85 : w_fe am_c213 85 86 (.lload 9) := ⟨rfl, rfl⟩
theorem fModel_luck_86 : w_gt am_c213 86 88 := rfl
theorem fModel_luck_87 : w_fe am_c213 87 88 (.sipush 0) := ⟨rfl, rfl⟩
theorem fModel_luck_88 : w_fe am_c213 88 89 (.ladd) := ⟨rfl, rfl⟩
theorem fModel_luck_89 : w_fe am_c213 89 90 (.lstore 6) := ⟨rfl, rfl⟩
theorem fModel_luck_90 : w_fe am_c213 90 91 (.iinc 8 1) := ⟨rfl, rfl⟩
theorem fModel_luck_91 : w_gt am_c213 91 39 := rfl
theorem fModel_luck_92 : w_fe am_c213 92 93 (.lload 4) := ⟨rfl, rfl⟩
theorem fModel_luck_93 : w_fe am_c213 93 94 (.lload 6) := ⟨rfl, rfl⟩
theorem fModel_luck_94 : w_fe am_c213 94 95 (.invokestatic 214) := ⟨rfl, rfl⟩
theorem fModel_luck_95 : w_fe am_c213 95 96 (.lstore 8) := ⟨rfl, rfl⟩
theorem fModel_luck_96 : w_fe am_c213 96 97 (.iload 2) := ⟨rfl, rfl⟩
theorem fModel_luck_97 : w_if am_c213 97 98 .ne 102 := ⟨rfl, rfl⟩
theorem fModel_luck_98 : w_fe am_c213 98 99 (.lload 6) := ⟨rfl, rfl⟩
theorem fModel_luck_99 : w_fe am_c213 99 100 (.lload 8) := ⟨rfl, rfl⟩
theorem fModel_luck_100 : w_fe am_c213 100 101 (.ldiv) := ⟨rfl, rfl⟩
theorem fModel_luck_101 : w_gt am_c213 101 105 := rfl
theorem fModel_luck_102 : w_fe am_c213 102 103 (.lload 4) := ⟨rfl, rfl⟩
theorem fModel_luck_103 : w_fe am_c213 103 104 (.lload 8) := ⟨rfl, rfl⟩
theorem fModel_luck_104 : w_fe am_c213 104 105 (.ldiv) := ⟨rfl, rfl⟩
theorem fModel_luck_105 : w_fe am_c213 105 106 (.ireturn) := ⟨rfl, rfl⟩
noncomputable def LModel_luck_28 (xs : List Int) (d : Nat) (Q : Option w_V → w_M → Prop) (v1 : Int) (v2 : Int) (v3 : Int) (v4 : Int) (v6 : Int) (v8 : Int) (σ : w_M) : Prop := ∀ l9, w_nl l9 → ∀ l10, w_nl l10 → ∀ l11, w_nl l11 → ∀ l12, w_nl l12 → w_Ex (xs, d) 3 am_c213 Q 28 [some (.inr (.inr (9, 122))), some (.inl v1), some (.inl v2), some (.inl v3), some (.inr (.inl v4)), none, some (.inr (.inl v6)), none, some (.inl v8), l9, l10, l11, l12] [] σ
noncomputable def LModel_luck_39 (xs : List Int) (d : Nat) (Q : Option w_V → w_M → Prop) (v1 : Int) (v2 : Int) (v3 : Int) (v4 : Int) (v6 : Int) (v8 : Int) (σ : w_M) : Prop := ∀ L9 : Option w_V, ∀ l10, w_nl l10 → ∀ l11, w_nl l11 → ∀ l12, w_nl l12 → w_Ex (xs, d) 3 am_c213 Q 39 [some (.inr (.inr (9, 122))), some (.inl v1), some (.inl v2), some (.inl v3), some (.inr (.inl v4)), none, some (.inr (.inl v6)), none, some (.inl v8), L9, l10, l11, l12] [] σ
noncomputable def LModel_luck_50 (xs : List Int) (d : Nat) (Q : Option w_V → w_M → Prop) (v1 : Int) (v2 : Int) (v3 : Int) (v4 : Int) (v6 : Int) (v8 : Int) (v9 : Int) (v11 : Int) (σ : w_M) : Prop := ∀ l12, w_nl l12 → w_Ex (xs, d) 3 am_c213 Q 50 [some (.inr (.inr (9, 122))), some (.inl v1), some (.inl v2), some (.inl v3), some (.inr (.inl v4)), none, some (.inr (.inl v6)), none, some (.inl v8), some (.inr (.inl v9)), none, some (.inl v11), l12] [] σ
set_option maxRecDepth 20000 in
theorem bModel_luck_0 {xs : List Int} {d : Nat} {Q : Option w_V → w_M → Prop} {x1 : Int} {x2 : Int} {σ : w_M}
    (h : (¬ (0 ≤ x1 ∧ x1 ≤ 10) → Q (some (.inr (.inl (-1)))) σ) ∧ ((0 ≤ x1 ∧ x1 ≤ 10) → (((0 ≤ x2 ∧ x2 ≤ 1) → (w_in ((σ 122 3) - (σ 123 42)) ∧ (∀ (y1 : Int), y1 = ((σ 122 3) - (σ 123 42)) → LModel_luck_28 xs (d + 4) Q x1 x2 y1 1 0 0 σ))) ∧ (¬ (0 ≤ x2 ∧ x2 ≤ 1) → Q (some (.inr (.inl (-1)))) σ)))) : w_Call (xs, (d + 4)) 213 [.inr (.inr (9, 122)), .inl x1, .inl x2] σ Q :=
  (w_mk (mid := 213) (by decide) rfl rfl rfl rfl rfl (Nat.le_of_ble_eq_true rfl) ⟨rfl, Or.inl (by decide)⟩ (wi_iload1 fModel_luck_0 (wi_i2l fModel_luck_1 (wi_sipush fModel_luck_2 (wi_sipush fModel_luck_3 (wi_call3 fModel_luck_4 (Nat.le_of_ble_eq_true rfl) (k_Model_in (wi_ifb_eq fModel_luck_5 (fun c3 => (wi_sipush fModel_luck_12 (wi_ret3 fModel_luck_13 (h.1 c3)))) (fun c3 => (wi_iload2 fModel_luck_6 (wi_i2l fModel_luck_7 (wi_sipush fModel_luck_8 (wi_sipush fModel_luck_9 (wi_call3 fModel_luck_10 (Nat.le_of_ble_eq_true rfl) (k_Model_in (wi_ifb_ne fModel_luck_11 (fun c2 => (wi_aload0 fModel_luck_14 (wi_getf903 fModel_luck_15 (wi_aload0 fModel_luck_16 (wi_getf900 fModel_luck_17 (wi_bipush fModel_luck_18 (wi_iald1246 fModel_luck_19 (by decide) (by decide) (wi_isub fModel_luck_20 ((h.2 c3).1 c2).1 (wi_istore3 fModel_luck_21 trivial (wi_sipush fModel_luck_22 (wi_lstore4 fModel_luck_23 trivial (wi_sipush fModel_luck_24 (wi_lstore6 fModel_luck_25 trivial (wi_bipush fModel_luck_26 (wi_istore8 fModel_luck_27 trivial ((((h.2 c3).1 c2).2 _ rfl) _ (by exact trivial) _ (by exact trivial) _ (by exact trivial) _ (by exact trivial))))))))))))))))) (fun c2 => (wi_sipush fModel_luck_12 (wi_ret3 fModel_luck_13 ((h.2 c3).2 c2))))))))))))))))))))
set_option maxRecDepth 20000 in
theorem bModel_luck_28 {xs : List Int} {d : Nat} {Q : Option w_V → w_M → Prop} {v1 : Int} {v2 : Int} {v3 : Int} {v4 : Int} {v6 : Int} {v8 : Int} {σ : w_M}
    (h : (v3 ≤ v8 → LModel_luck_39 xs (d + 4) Q v1 v2 v3 v4 v6 0 σ) ∧ (v8 < v3 → (w_inl (v4 * 10) ∧ (∀ (y1 : Int), y1 = (v4 * 10) → (w_in (v8 + 1) ∧ LModel_luck_28 xs (d + 4) Q v1 v2 v3 y1 v6 (v8 + 1) σ))))) : LModel_luck_28 xs (d + 4) Q v1 v2 v3 v4 v6 v8 σ :=
  fun l9 nl9 => fun l10 nl10 => fun l11 nl11 => fun l12 nl12 => (wi_iload8 fModel_luck_28 (wi_iload3 fModel_luck_29 (wi_ic_ge fModel_luck_30 (fun c2 => (wi_bipush fModel_luck_37 (wi_istore8 fModel_luck_38 trivial ((h.1 c2) _ _ nl10 _ nl11 _ nl12)))) (fun c2 => (wi_lload4 fModel_luck_31 (wi_sipush fModel_luck_32 (wi_lmul fModel_luck_33 (h.2 c2).1 (wi_lstore4 fModel_luck_34 trivial (wi_iinc8 fModel_luck_35 trivial ((h.2 c2).2 _ rfl).1 (wi_goto fModel_luck_36 (((h.2 c2).2 _ rfl).2 _ nl9 _ nl10 _ nl11 _ nl12)))))))))))
set_option maxRecDepth 20000 in
theorem bModel_luck_39 {xs : List Int} {d : Nat} {Q : Option w_V → w_M → Prop} {v1 : Int} {v2 : Int} {v3 : Int} {v4 : Int} {v6 : Int} {v8 : Int} {σ : w_M}
    (h : ((w_shl 1 v3) ≤ v8 → (p_Model_common v4 v6 σ ∧ (∀ (y1 : Int) (τ2 : w_M), q_Model_common v4 v6 σ y1 τ2 → ((¬ v2 = 0 → (¬ y1 = 0 ∧ w_inl (v4.tdiv y1) ∧ Q (some (.inr (.inl (v4.tdiv y1)))) τ2)) ∧ (v2 = 0 → (¬ y1 = 0 ∧ w_inl (v6.tdiv y1) ∧ Q (some (.inr (.inl (v6.tdiv y1)))) τ2)))))) ∧ (v8 < (w_shl 1 v3) → (p_Model_starts σ ∧ (∀ (τ4 : w_M), q_Model_starts σ τ4 → LModel_luck_50 xs (d + 4) Q v1 v2 v3 v4 v6 v8 1 0 τ4)))) : LModel_luck_39 xs (d + 4) Q v1 v2 v3 v4 v6 v8 σ :=
  fun L9 => fun l10 nl10 => fun l11 nl11 => fun l12 nl12 => (wi_iload8 fModel_luck_39 (wi_bipush fModel_luck_40 (wi_iload3 fModel_luck_41 (wi_ishl fModel_luck_42 (wi_ic_ge fModel_luck_43 (fun c5 => (wi_lload4 fModel_luck_92 (wi_lload6 fModel_luck_93 (wi_call2 fModel_luck_94 (Nat.le_of_ble_eq_true rfl) (k_Model_common (h.1 c5).1 (fun y1 τ2 eτ2 => (wi_lstore8 fModel_luck_95 trivial (wi_iload2 fModel_luck_96 (wi_if_ne fModel_luck_97 (fun c3 => (wi_lload4 fModel_luck_102 (wi_lload8 fModel_luck_103 (wi_ldiv fModel_luck_104 (((h.1 c5).2 y1 τ2 eτ2).1 c3).1 (((h.1 c5).2 y1 τ2 eτ2).1 c3).2.1 (wi_ret3 fModel_luck_105 (((h.1 c5).2 y1 τ2 eτ2).1 c3).2.2))))) (fun c3 => (wi_lload6 fModel_luck_98 (wi_lload8 fModel_luck_99 (wi_ldiv fModel_luck_100 (((h.1 c5).2 y1 τ2 eτ2).2 c3).1 (((h.1 c5).2 y1 τ2 eτ2).2 c3).2.1 (wi_goto fModel_luck_101 (wi_ret3 fModel_luck_105 (((h.1 c5).2 y1 τ2 eτ2).2 c3).2.2))))))))))))))) (fun c5 => (wi_sipush fModel_luck_44 (wi_lstore9 fModel_luck_45 trivial (wi_aload0 fModel_luck_46 (wi_call1 fModel_luck_47 (Nat.le_of_ble_eq_true rfl) (k_Model_starts (h.2 c5).1 (fun τ4 eτ4 => (wi_bipush fModel_luck_48 (wi_istore11 fModel_luck_49 trivial (((h.2 c5).2 τ4 eτ4) _ nl12)))))))))))))))
set_option maxRecDepth 20000 in
theorem bModel_luck_50 {xs : List Int} {d : Nat} {Q : Option w_V → w_M → Prop} {v1 : Int} {v2 : Int} {v3 : Int} {v4 : Int} {v6 : Int} {v8 : Int} {v9 : Int} {v11 : Int} {σ : w_M}
    (h : (v3 ≤ v11 → (p_Model_standing σ ∧ (∀ (y1 : Int), y1 = v_Model_standing σ → ((¬ y1 = 0 → (w_inl (v6 + 0) ∧ (∀ (y2 : Int), y2 = (v6 + 0) → (w_in (v8 + 1) ∧ LModel_luck_39 xs (d + 4) Q v1 v2 v3 v4 y2 (v8 + 1) σ)))) ∧ (y1 = 0 → (w_inl (v6 + v9) ∧ (∀ (y3 : Int), y3 = (v6 + v9) → (w_in (v8 + 1) ∧ LModel_luck_39 xs (d + 4) Q v1 v2 v3 v4 y3 (v8 + 1) σ)))))))) ∧ (v11 < v3 → ((¬ (w_and (w_shr v8 v11) 1) = 1 → (w_in (10 - v1) ∧ w_inl (v9 * (10 - v1)) ∧ (∀ (y5 : Int), y5 = (v9 * (10 - v1)) → (p_Model_goesBy 0 σ ∧ (∀ (τ6 : w_M), q_Model_goesBy 0 σ τ6 → (w_in (v11 + 1) ∧ LModel_luck_50 xs (d + 4) Q v1 v2 v3 v4 v6 v8 y5 (v11 + 1) τ6)))))) ∧ ((w_and (w_shr v8 v11) 1) = 1 → (w_inl (v9 * v1) ∧ (∀ (y7 : Int), y7 = (v9 * v1) → (p_Model_goesBy 1 σ ∧ (∀ (τ8 : w_M), q_Model_goesBy 1 σ τ8 → (w_in (v11 + 1) ∧ LModel_luck_50 xs (d + 4) Q v1 v2 v3 v4 v6 v8 y7 (v11 + 1) τ8))))))))) : LModel_luck_50 xs (d + 4) Q v1 v2 v3 v4 v6 v8 v9 v11 σ :=
  fun l12 nl12 => (wi_iload11 fModel_luck_50 (wi_iload3 fModel_luck_51 (wi_ic_ge fModel_luck_52 (fun c10 => (wi_lload6 fModel_luck_81 (wi_aload0 fModel_luck_82 (wi_call1 fModel_luck_83 (Nat.le_of_ble_eq_true rfl) (k_Model_standing (h.1 c10).1 (wi_if_ne fModel_luck_84 (fun c4 => (wi_sipush fModel_luck_87 (wi_ladd fModel_luck_88 (((h.1 c10).2 _ rfl).1 c4).1 (wi_lstore6 fModel_luck_89 trivial (wi_iinc8 fModel_luck_90 trivial ((((h.1 c10).2 _ rfl).1 c4).2 _ rfl).1 (wi_goto fModel_luck_91 (((((h.1 c10).2 _ rfl).1 c4).2 _ rfl).2 _ _ (by exact trivial) _ (by exact trivial) _ nl12))))))) (fun c4 => (wi_lload9 fModel_luck_85 (wi_goto fModel_luck_86 (wi_ladd fModel_luck_88 (((h.1 c10).2 _ rfl).2 c4).1 (wi_lstore6 fModel_luck_89 trivial (wi_iinc8 fModel_luck_90 trivial ((((h.1 c10).2 _ rfl).2 c4).2 _ rfl).1 (wi_goto fModel_luck_91 (((((h.1 c10).2 _ rfl).2 c4).2 _ rfl).2 _ _ (by exact trivial) _ (by exact trivial) _ nl12)))))))))))))) (fun c10 => (wi_iload8 fModel_luck_53 (wi_iload11 fModel_luck_54 (wi_ishr fModel_luck_55 (wi_bipush fModel_luck_56 (wi_iand fModel_luck_57 (wi_bipush fModel_luck_58 (wi_ic_ne fModel_luck_59 (fun c9 => (wi_bipush fModel_luck_62 (wi_istore12 fModel_luck_63 trivial (wi_lload9 fModel_luck_64 (wi_iload12 fModel_luck_65 (wi_if_eq fModel_luck_66 (fun _ => (wi_bipush fModel_luck_70 (wi_iload1 fModel_luck_71 (wi_isub fModel_luck_72 ((h.2 c10).1 c9).1 (wi_i2l fModel_luck_73 (wi_lmul fModel_luck_74 ((h.2 c10).1 c9).2.1 (wi_lstore9 fModel_luck_75 trivial (wi_aload0 fModel_luck_76 (wi_iload12 fModel_luck_77 (wi_call2 fModel_luck_78 (Nat.le_of_ble_eq_true rfl) (k_Model_goesBy (((h.2 c10).1 c9).2.2 _ rfl).1 (fun τ6 eτ6 => (wi_iinc11 fModel_luck_79 trivial ((((h.2 c10).1 c9).2.2 _ rfl).2 τ6 eτ6).1 (wi_goto fModel_luck_80 (((((h.2 c10).1 c9).2.2 _ rfl).2 τ6 eτ6).2 _ (by exact trivial)))))))))))))))) (fun e => absurd e (by decide)))))))) (fun c9 => (wi_bipush fModel_luck_60 (wi_goto fModel_luck_61 (wi_istore12 fModel_luck_63 trivial (wi_lload9 fModel_luck_64 (wi_iload12 fModel_luck_65 (wi_if_eq fModel_luck_66 (fun e => absurd e (by decide)) (fun _ => (wi_iload1 fModel_luck_67 (wi_i2l fModel_luck_68 (wi_goto fModel_luck_69 (wi_lmul fModel_luck_74 ((h.2 c10).2 c9).1 (wi_lstore9 fModel_luck_75 trivial (wi_aload0 fModel_luck_76 (wi_iload12 fModel_luck_77 (wi_call2 fModel_luck_78 (Nat.le_of_ble_eq_true rfl) (k_Model_goesBy (((h.2 c10).2 c9).2 _ rfl).1 (fun τ8 eτ8 => (wi_iinc11 fModel_luck_79 trivial ((((h.2 c10).2 c9).2 _ rfl).2 τ8 eτ8).1 (wi_goto fModel_luck_80 (((((h.2 c10).2 c9).2 _ rfl).2 τ8 eτ8).2 _ (by exact trivial)))))))))))))))))))))))))))))))))
set_option maxHeartbeats 2000000 in
theorem k_Model_luck {xs : List Int} {d : Nat} {Q : Option w_V → w_M → Prop} {x1 : Int} {x2 : Int} {σ : w_M} (hp : p_Model_luck x1 x2 σ) (hQ : ∀ (x : Int) (σ' : w_M), q_Model_luck x1 x2 σ x σ' → Q (some (.inr (.inl x))) σ') : w_Call (xs, d + 4) 213 [.inr (.inr (9, 122)), .inl x1, .inl x2] σ Q := by
  have hM : MI σ := hp
  have hok := hM.ok
  have hrs := m_ok.hrs hok
  have hr : 0 ≤ σ 123 42 ∧ σ 123 42 ≤ σ 122 3 := m_ok.hr hok
  unfold q_Model_luck F_luck at hQ
  have eA : mS σ 0 = w_am σ 123 0 := rfl
  rw [eA] at hQ
  refine bModel_luck_0 ⟨fun c => ?_, fun c => ⟨fun c2 => ⟨⟨by omega, by omega⟩, fun y1 e1 => ?_⟩, fun c2 => ?_⟩⟩
  · rw [if_neg (fun q => c q.1)] at hQ
    exact hQ _ _ (m_qr hM rfl)
  · rw [if_pos ⟨c, c2⟩] at hQ
    have hL : ((n_left (w_am σ 123 0) : Nat) : Int) = y1 := by
      show (((σ 122 3 - σ 123 42).toNat : Nat) : Int) = y1
      omega
    generalize hA : w_am σ 123 0 = A at hQ hL
    generalize hLn : n_left A = L at hQ hL
    have hok' : n_WF A := by rw [← hA]; exact hok
    have a1 : A 0 1 = σ 123 42 := by rw [← hA]; rfl
    have a0 : A 0 0 = σ 122 3 := by rw [← hA]; rfl
    have hL12 : L ≤ 12 := by omega
    have hp2 : 2 ^ L ≤ 4096 := Nat.pow_le_pow_right (n := 2) (by decide) hL12
    have sh : w_shl 1 y1 = ((2 ^ L : Nat) : Int) := by rw [← hL]; exact w_shl13 L (by omega)
    have p1 := lk_p_pos L
    have p2 := lk_p_le hL12
    refine w_loop (n := L) (P := fun k => LModel_luck_28 xs (d + 4) Q x1 x2 y1 (lk_p k) 0 (k : Int) σ) ?_ ?_
    · refine bModel_luck_28 ⟨fun _ => ?_, fun h => by omega⟩
      refine (w_loop (n := 2 ^ L) (P := fun q => ∀ τ : w_M, w_f1 σ τ 124 → LModel_luck_39 xs (d + 4) Q x1 x2 y1 (lk_p L) (lk_s A x1 L q) (q : Int) τ) ?_ ?_) σ w_f1.rfl'
      · intro τ F1
        have s1 := lk_s_le (A := A) c hL12 hp2
        refine bModel_luck_39 ⟨fun _ => ⟨⟨by omega, s1.1⟩, fun y τ2 hq => ?_⟩, fun h => by rw [sh] at h; omega⟩
        obtain ⟨rfl, rfl⟩ := hq
        have g1 := lk_g_pos (b := lk_s A x1 L (2 ^ L)) p1
        refine ⟨fun c3 => ⟨by omega, ?_, ?_⟩, fun c3 => ⟨by omega, ?_, ?_⟩⟩
        · have := lk_div (a := lk_p L) (by omega) g1
          exact ⟨by omega, by omega⟩
        · rw [if_neg c3] at hQ
          exact hQ _ _ (m_qs hM F1 rfl)
        · have := lk_div (a := lk_s A x1 L (2 ^ L)) s1.1 g1
          exact ⟨by omega, by omega⟩
        · rw [if_pos c3] at hQ
          exact hQ _ _ (m_qs hM F1 rfl)
      · intro q hq ih τ F1
        have z2 : τ 122 = σ 122 := F1 122 (by decide)
        have z3 : τ 123 = σ 123 := F1 123 (by decide)
        have s1 := lk_s_le (A := A) c hL12 (c := q) (by omega)
        refine bModel_luck_39 ⟨fun h => by rw [sh] at h; omega, fun _ => ⟨by unfold p_Model_starts m_sm; rw [z2]; exact hM.sm, fun τ4 hq4 => ?_⟩⟩
        obtain ⟨q1, q2, -⟩ := hq4
        have B1 : w_am τ4 124 0 = lk_A A q 0 := by
          rw [q1, ← hA]
          exact w_am_fr (by rw [z2]; exact ⟨rfl, rfl, rfl⟩) z3
        refine (w_loop (n := L) (P := fun k => ∀ τ' : w_M, w_f1 σ τ' 124 → w_am τ' 124 0 = lk_A A q k → LModel_luck_50 xs (d + 4) Q x1 x2 y1 (lk_p L) (lk_s A x1 L q) (q : Int) (lk_w x1 q k) (k : Int) τ') ?_ ?_) τ4 (F1.tr q2) B1
        · intro τ' F' B'
          obtain ⟨g1, -, -⟩ := lk_A_all hok' q L (by omega)
          have w1 := lk_w_le c q L
          have hst : m_ok τ' 124 0 := by unfold m_ok; rw [B']; exact g1
          refine bModel_luck_50 ⟨fun _ => ⟨hst, fun y ey => ⟨fun c3 => ⟨⟨by omega, by omega⟩, fun y2 e2 => ⟨⟨by omega, by omega⟩, ?_⟩⟩, fun c3 => ⟨⟨by omega, by omega⟩, fun y2 e2 => ⟨⟨by omega, by omega⟩, ?_⟩⟩⟩⟩, fun h => by omega⟩
          · unfold v_Model_standing at ey
            rw [B'] at ey
            have et : lk_s A x1 L (q + 1) = y2 := by
              show lk_s A x1 L q + lk_t A x1 L q = y2
              unfold lk_t
              rw [if_neg (by rw [← ey]; exact c3)]
              omega
            rw [← et, ← w_cs1]
            exact ih τ' F'
          · unfold v_Model_standing at ey
            rw [B'] at ey
            have et : lk_s A x1 L (q + 1) = y2 := by
              show lk_s A x1 L q + lk_t A x1 L q = y2
              unfold lk_t
              rw [if_pos (by rw [← ey]; exact c3)]
              omega
            rw [← et, ← w_cs1]
            exact ih τ' F'
        · intro k hk ih2 τ' F' B'
          obtain ⟨g1, g2, g3⟩ := lk_A_all hok' q k (by omega)
          rw [← B'] at g1 g2 g3
          have z2' : τ' 122 = σ 122 := F' 122 (by decide)
          have t1 : τ' 124 42 = A 0 1 + k := g3
          have w1 := lk_w_le c q k
          have w2 := lk_w_le c q (k + 1)
          have w3 := lk_p_le (k := k + 1) (by omega)
          refine bModel_luck_50 ⟨fun h => by omega, fun _ => ⟨fun c3 => ?_, fun c3 => ?_⟩⟩
          · have ew : lk_w x1 q k * (10 - x1) = lk_w x1 q (k + 1) := by
              simp only [lk_w]
              unfold lk_f
              rw [if_neg (show ¬ lk_b q k = 1 from c3)]
            have eb : lk_b q k = 0 := (lk_b01 q k).resolve_right c3
            rw [ew]
            refine ⟨⟨by omega, by omega⟩, ⟨by omega, by omega⟩, fun y5 e5 => ⟨⟨g1, by rw [t1, z2']; omega, Or.inl rfl⟩, fun τ6 hq6 => ⟨⟨by omega, by omega⟩, ?_⟩⟩⟩
            rw [e5, ← w_cs1]
            refine ih2 τ6 (F'.tr hq6.2.1) ?_
            rw [hq6.1, B']
            simp only [lk_A]
            rw [eb]
          · have eb : lk_b q k = 1 := c3
            have ew : lk_w x1 q k * x1 = lk_w x1 q (k + 1) := by
              simp only [lk_w]
              unfold lk_f
              rw [if_pos eb]
            rw [ew]
            refine ⟨⟨by omega, by omega⟩, fun y5 e5 => ⟨⟨g1, by rw [t1, z2']; omega, Or.inr rfl⟩, fun τ6 hq6 => ⟨⟨by omega, by omega⟩, ?_⟩⟩⟩
            rw [e5, ← w_cs1]
            refine ih2 τ6 (F'.tr hq6.2.1) ?_
            rw [hq6.1, B']
            simp only [lk_A]
            rw [eb]
    · intro k hk ih
      have w3 := lk_p_le (k := k + 1) (by omega)
      have w4 := lk_p_pos (k + 1)
      rw [lk_p_s] at w3 w4
      refine bModel_luck_28 ⟨fun h => by omega, fun _ => ⟨⟨by omega, by omega⟩, fun y e => ⟨⟨by omega, by omega⟩, ?_⟩⟩⟩
      rw [e, ← lk_p_s, ← w_cs1]
      exact ih
  · rw [if_neg (fun q => c2 q.2)] at hQ
    exact hQ _ _ (m_qr hM rfl)
end
section
/-! The start: class and reference hold the same, and both are well -/
theorem s0_rl {d : Nat} (h0 : d ≠ 0) (h8 : d < 8) : w_rl w_s0 14 d = 0 := by
  unfold w_rl
  rw [if_neg h0]
  by_cases h2 : d ≤ 2
  · rw [if_pos h2]; rfl
  · rw [if_neg h2, if_pos (by omega)]; rfl
theorem s0_mrl {d : Nat} (h8 : d ≠ 8) : m_rl w_s0 d = 0 := by
  have e4 : (w_s0 122 4).toNat = 0 := rfl
  have e5 : (w_s0 122 5).toNat = 0 := rfl
  unfold m_rl
  rw [e4, e5]
  repeat' split
  all_goals first | rfl | omega
theorem s0_A : w_ab w_s0 14 = w_am w_s0 123 0 := by
  funext d i
  by_cases h0 : d = 0
  · subst h0
    by_cases hi : i < 6
    · rcases (show i = 0 ∨ i = 1 ∨ i = 2 ∨ i = 3 ∨ i = 4 ∨ i = 5 by omega) with rfl | rfl | rfl | rfl | rfl | rfl <;> rfl
    · have e1 : w_ab w_s0 14 0 i = 0 := by
        unfold w_ab
        rw [if_pos (by decide)]
        exact if_neg (show ¬ i < 6 from hi)
      have e2 : w_am w_s0 123 0 0 i = 0 := by
        unfold w_am
        rw [if_pos rfl, if_neg (by omega), if_neg (by omega), if_neg (by omega), if_neg (by omega), if_neg (by omega), if_neg (by omega)]
      rw [e1, e2]
  · by_cases h8 : d = 8
    · subst h8
      by_cases hi : i < 4
      · rcases (show i = 0 ∨ i = 1 ∨ i = 2 ∨ i = 3 by omega) with rfl | rfl | rfl | rfl <;> rfl
      · have e1 : w_ab w_s0 14 8 i = 0 := by
          unfold w_ab
          rw [if_pos (by decide)]
          exact if_neg (show ¬ i < 4 from hi)
        have e2 : w_am w_s0 123 0 8 i = 0 := by
          unfold w_am
          rw [if_neg (by decide)]
          exact if_neg (show ¬ i < 4 from hi)
        rw [e1, e2]
    · have e2 : w_am w_s0 123 0 d i = 0 := by
        unfold w_am
        rw [if_neg h0, s0_mrl h8, if_neg (Nat.not_lt_zero _)]
      rw [e2]
      unfold w_ab
      by_cases h9 : d < 9
      · rw [if_pos h9, s0_rl h0 (by omega), if_neg (Nat.not_lt_zero _)]
      · rw [if_neg h9]
        split
        · exact if_neg (show ¬ i < 0 from Nat.not_lt_zero _)
        · rfl
theorem s0_k : k_ab w_s0 0 = 0 ∧ k_ab w_s0 1 = 0 := by
  have : w_s0 0 7 = 0 := rfl
  unfold k_ab
  rw [this]
  decide +kernel
theorem s0_S : cS w_s0 = mS w_s0 := by
  refine cS_ext s0_A ?_ ?_ ?_ ?_ ?_
  · funext d i
    have a : w_s0 23 0 = 0 := rfl
    have b : w_s0 123 (0 + 48) = 0 := rfl
    show s_ab w_s0 23 d i = s_am w_s0 0 d i
    unfold s_ab s_am
    rw [a, b]
    simp
  · funext d i
    have a : w_s0 27 0 = 0 := rfl
    have b : w_s0 123 (0 + 73) = 0 := rfl
    show c_ab w_s0 27 d i = c_am w_s0 0 d i
    unfold c_ab c_am
    rw [a, b]
    simp
  · funext d i
    have a : w_s0 1 1 = 0 := rfl
    have a2 : w_s0 0 8 = 0 := rfl
    have b : w_s0 122 15 = 0 := rfl
    have b2 : w_s0 122 20 = 0 := rfl
    show t_ab w_s0 d i = t_am w_s0 d i
    unfold t_ab t_am
    rw [a, b, a2, b2]
    simp
  · funext k j
    show h_ab w_s0 k j = h_am w_s0 k j
    unfold h_ab h_am
    by_cases hk : k < 4
    · have a : w_s0 87 k = -4 := by rcases (show k = 0 ∨ k = 1 ∨ k = 2 ∨ k = 3 by omega) with rfl | rfl | rfl | rfl <;> rfl
      have b : w_s0 130 k = -4 := by rcases (show k = 0 ∨ k = 1 ∨ k = 2 ∨ k = 3 by omega) with rfl | rfl | rfl | rfl <;> rfl
      rw [if_pos hk, if_pos hk, a, b, if_pos (by decide), if_pos rfl]
    · rw [if_neg hk, if_neg hk]
  · have e0 : w_s0 125 0 = 0 := rfl
    have e1 : w_s0 125 1 = 0 := rfl
    obtain ⟨k0, k1⟩ := s0_k
    intro p hp
    match p, hp with
    | 5, _ => simp only [cS, mS]; rw [k0, e0, if_neg (by decide), if_neg (by decide)]
    | 6, _ => simp only [cS, mS]; rw [k0, e0, if_neg (by decide), if_neg (by decide)]
    | 7, _ => simp only [cS, mS]; rw [k0, e0, if_neg (by decide), if_neg (by decide)]
    | 8, _ => simp only [cS, mS]; rw [k1, e1, if_neg (by decide), if_neg (by decide)]
    | 9, _ => simp only [cS, mS]; rw [k1, e1, if_neg (by decide), if_neg (by decide)]
    | 10, _ => simp only [cS, mS]; rw [k1, e1, if_neg (by decide), if_neg (by decide)]
    | 11, _ =>
      simp only [cS, mS]
      funext d i
      by_cases hd : d = 0 ∧ i < 2
      · rw [if_pos hd, if_pos hd]
        rcases (show i = 0 ∨ i = 1 by omega) with rfl | rfl
        · rw [k0, e0]
        · rw [k1, e1]
      · rw [if_neg hd, if_neg hd]
    | p + 12, _ => exact (show cS w_s0 (p + 12) = w_0 from rfl).trans (show mS w_s0 (p + 12) = w_0 from rfl).symm
theorem s0_CI : CI w_s0 := by
  obtain ⟨k0, k1⟩ := s0_k
  have e0 : cS w_s0 11 0 0 = 0 := k0
  have e1 : cS w_s0 11 0 1 = 0 := k1
  refine ⟨⟨?_, ?_, ?_, ?_, ?_, Or.inl e0, Or.inl e1, fun h => ?_, fun h => ?_⟩, ⟨by decide, by decide⟩, ⟨by decide, by decide⟩, fun h => ?_, fun h => ?_⟩
  · exact ⟨by decide, by decide, by decide, by decide, by decide, fun i hi => absurd hi (Nat.not_lt_zero i), fun i hi => absurd hi (Nat.not_lt_zero i)⟩
  · exact ⟨by decide, fun i hi => absurd hi (Nat.not_lt_zero i)⟩
  · exact ⟨by decide, fun i hi => absurd hi (Nat.not_lt_zero i)⟩
  · exact ⟨by decide, fun i hi => absurd hi (Nat.not_lt_zero i)⟩
  · intro k hk
    refine Or.inl ?_
    rcases (show k = 0 ∨ k = 1 ∨ k = 2 ∨ k = 3 by omega) with rfl | rfl | rfl | rfl <;> rfl
  · rw [e0] at h; exact absurd h (by decide)
  · rw [e1] at h; exact absurd h (by decide)
  · rw [k0] at h; exact absurd h (by decide)
  · rw [k1] at h; exact absurd h (by decide)
theorem s0_MI : MI w_s0 := by
  unfold MI
  rw [← s0_S]
  exact s0_CI.1
end
section
/-! The odds, pure: the class's tree of hours and the reference's rows of clouds are one sum -/
theorem w_shr_nat {c k : Nat} (hc : c < 2147483648) (hk : k < 13) : w_shr (c : Int) (k : Int) = ((c / 2 ^ k : Nat) : Int) := by
  have hb : ((Int32.ofInt (k : Int) &&& 31).toBitVec.smod 32#32).toNat = k := by
    have : ∀ k, k < 13 → ((Int32.ofInt ((k : Nat) : Int) &&& 31).toBitVec.smod 32#32).toNat = k := by decide +kernel
    exact this k hk
  have hm : (Int32.ofInt (c : Int)).toBitVec.msb = false := by
    rw [BitVec.msb_eq_false_iff_two_mul_lt, w_nn hc]
    omega
  have h : (Int32.ofInt (c : Int) >>> (Int32.ofInt (k : Int) &&& 31)).toBitVec.toNat = c / 2 ^ k := by
    show ((Int32.ofInt (c : Int)).toBitVec.sshiftRight ((Int32.ofInt (k : Int) &&& 31).toBitVec.smod 32#32).toNat).toNat = c / 2 ^ k
    rw [hb, BitVec.sshiftRight_eq_of_msb_false hm, BitVec.toNat_ushiftRight, w_nn hc, Nat.shiftRight_eq_div_pow]
  have hlt : c / 2 ^ k < 2147483648 := Nat.lt_of_le_of_lt (Nat.div_le_self _ _) hc
  show (Int32.ofInt (c : Int) >>> (Int32.ofInt (k : Int) &&& 31)).toInt = _
  rw [w_pos (by rw [h]; exact hlt), h]
theorem w_and1_nat {x : Nat} (hx : x < 2147483648) : w_and (x : Int) 1 = ((x % 2 : Nat) : Int) := by
  have h : (Int32.ofInt (x : Int) &&& Int32.ofInt 1).toBitVec.toNat = x % 2 := by
    rw [Int32.toBitVec_and, BitVec.toNat_and, w_nn hx]
    exact Nat.and_one_is_mod x
  show (Int32.ofInt (x : Int) &&& Int32.ofInt 1).toInt = _
  rw [w_pos (by rw [h]; omega), h]
theorem lk_b_nat {c k : Nat} (hc : c < 2147483648) (hk : k < 13) : lk_b c k = ((c / 2 ^ k % 2 : Nat) : Int) := by
  unfold lk_b
  rw [w_shr_nat hc hk, w_and1_nat (Nat.lt_of_le_of_lt (Nat.div_le_self _ _) hc)]
theorem lk_b_0 {c b : Nat} (hc : c < 4096) (hb : b < 2) : lk_b (2 * c + b) 0 = b := by
  rw [lk_b_nat (by omega) (by decide)]
  simp
  omega
theorem lk_b_s {c b k : Nat} (hc : c < 4096) (hb : b < 2) (hk : k < 12) : lk_b (2 * c + b) (k + 1) = lk_b c k := by
  rw [lk_b_nat (by omega) (by omega), lk_b_nat (by omega) (by omega), Nat.pow_succ, Nat.mul_comm (2 ^ k) 2, ← Nat.div_div_eq_div_mul, show (2 * c + b) / 2 = c by omega]
theorem lk_A_s {A : w_M} {c b : Nat} (hc : c < 4096) (hb : b < 2) : ∀ k : Nat, k ≤ 12 → lk_A A (2 * c + b) (k + 1) = lk_A (n_hour A b) c k := by
  intro k
  induction k with
  | zero => intro _; simp only [lk_A]; rw [lk_b_0 hc hb]
  | succ k ih =>
    intro hk
    show n_hour (lk_A A (2 * c + b) (k + 1)) (lk_b (2 * c + b) (k + 1)) = n_hour (lk_A (n_hour A b) c k) (lk_b c k)
    rw [ih (by omega), lk_b_s hc hb (by omega)]
theorem lk_w_s {v : Int} {c b : Nat} (hc : c < 4096) (hb : b < 2) : ∀ k : Nat, k ≤ 12 → lk_w v (2 * c + b) (k + 1) = lk_f v b * lk_w v c k := by
  intro k
  induction k with
  | zero => intro _; simp only [lk_w]; rw [lk_b_0 hc hb, Int.one_mul, Int.mul_one]
  | succ k ih =>
    intro hk
    show lk_w v (2 * c + b) (k + 1) * lk_f v (lk_b (2 * c + b) (k + 1)) = lk_f v b * (lk_w v c k * lk_f v (lk_b c k))
    rw [ih (by omega), lk_b_s hc hb (by omega), Int.mul_assoc]
theorem f_sum_two (g : Nat → Int) : ∀ m : Nat, f_sum g (2 * m) = f_sum (fun c => g (2 * c) + g (2 * c + 1)) m := by
  intro m
  induction m with
  | zero => rfl
  | succ m ih =>
    show f_sum g (2 * m + 1 + 1) = _
    simp only [f_sum]
    rw [ih]
    omega
theorem f_sum_lin {f g : Nat → Int} {a b : Int} : ∀ m : Nat, f_sum (fun c => a * f c + b * g c) m = a * f_sum f m + b * f_sum g m := by
  intro m
  induction m with
  | zero => simp [f_sum]
  | succ m ih => simp only [f_sum]; rw [ih, Int.mul_add, Int.mul_add]; omega
theorem lk_t_s {A : w_M} {v : Int} {c b n : Nat} (hc : c < 4096) (hb : b < 2) (hn : n ≤ 12) : lk_t A v (n + 1) (2 * c + b) = lk_f v b * lk_t (n_hour A b) v n c := by
  unfold lk_t
  rw [lk_A_s hc hb n hn, lk_w_s hc hb n hn]
  split
  · rfl
  · rw [Int.mul_zero]
theorem lk_rec {A : w_M} {v : Int} {n : Nat} (hn : n < 12) : lk_s A v (n + 1) (2 ^ (n + 1)) = (10 - v) * lk_s (n_hour A 0) v n (2 ^ n) + v * lk_s (n_hour A 1) v n (2 ^ n) := by
  have h2 : 2 ^ n < 4096 := Nat.pow_lt_pow_right (a := 2) (by decide) hn
  unfold lk_s
  rw [Nat.pow_succ, Nat.mul_comm, f_sum_two, ← f_sum_lin]
  refine f_sum_congr (fun c hc => ?_)
  have e0 := lk_t_s (A := A) (v := v) (c := c) (b := 0) (n := n) (by omega) (by decide) (by omega)
  have e1 := lk_t_s (A := A) (v := v) (c := c) (b := 1) (n := n) (by omega) (by decide) (by omega)
  exact (show lk_t A v (n + 1) (2 * c + 0) + lk_t A v (n + 1) (2 * c + 1) = _ by rw [e0, e1]; rfl)
theorem lk_0 {A : w_M} {v : Int} : lk_s A v 0 (2 ^ 0) = if n_sd A = 0 then 1 else 0 := by
  show 0 + lk_t A v 0 0 = _
  rw [Int.zero_add]
  rfl
/-- with nothing standing all odds are for it -/
theorem lk_done {v : Int} : ∀ (n : Nat) (A : w_M), n_WF A → n_sd A = 0 → n ≤ 12 → A 0 1 + n ≤ A 0 0 → lk_s A v n (2 ^ n) = lk_p n := by
  intro n
  induction n with
  | zero => intro A hA h0 _ _; rw [lk_0, if_pos h0]; rfl
  | succ n ih =>
    intro A hA h0 hn hh
    have g : ∀ c : Int, c = 0 ∨ c = 1 → lk_s (n_hour A c) v n (2 ^ n) = lk_p n := fun c hc => by
      obtain ⟨g1, g2, g3, g4⟩ := n_hour_all hA (by omega) hc
      have e0 : (n_hour A c) 0 0 = A 0 0 := g2.1 0 (by decide) (by decide)
      have := n_sd_le g1
      exact ih _ g1 (by omega) (by omega) (by omega)
    rw [lk_rec (by omega), g 0 (Or.inl rfl), g 1 (Or.inr rfl), lk_p_s, ← Int.add_mul, Int.mul_comm]
    congr 1
    omega
theorem n_work_sd {A : w_M} (h : n_WF A) {r : Nat} (hr : r < n_n A) {c : Int} (hc : c = 0 ∨ c = 1) : n_sd A - A 3 r ≤ n_sd (n_work A r c) := by
  have hR := h.r hr
  have hs := h.s
  have hsn : n_s A ≤ 1000 := by unfold n_s; omega
  rcases n_near_cases (A := A) (f := A 6 r) (by omega) hsn with ⟨h1, h2⟩ | ⟨i, h1, h2, h3⟩
  · unfold n_work
    rw [if_pos h1]
    omega
  · have hne : ¬ n_near A (A 6 r) = -4 := by omega
    unfold n_work
    rw [if_neg hne]
    by_cases h5 : A 5 r = 0
    · rw [if_pos h5, n_sd_up (by decide) (by omega), n_sd_up (by decide) (by omega)]
      omega
    · rw [if_neg h5]
      by_cases ho : c = 0 ∨ 0 < A 4 r
      · rw [if_pos ho]
        have en : (n_near A (A 6 r)).toNat = i := by rw [h2]; exact Int.toNat_natCast i
        rw [en]
        have y4 : n_sd (w_up (w_up (w_up A 6 r (n_near A (A 6 r))) 5 r (A 5 r - 1)) 4 r (A 4 r - c)) = n_sd A := by
          rw [n_sd_up (by decide) (by omega), n_sd_up (by decide) (by omega), n_sd_up (by decide) (by omega)]
        have s4 : n_s (w_up (w_up (w_up A 6 r (n_near A (A 6 r))) 5 r (A 5 r - 1)) 4 r (A 4 r - c)) = n_s A := by
          unfold n_s
          rw [w_up_ne (by decide), w_up_ne (by decide), w_up_ne (by decide)]
        have a4 : n_amt (w_up (w_up (w_up A 6 r (n_near A (A 6 r))) 5 r (A 5 r - 1)) 4 r (A 4 r - c)) r i = n_amt A r i := n_amt_congr (by rw [w_up_ne (by decide), w_up_ne (by decide), w_up_ne (by decide)]) (by rw [w_up_ne (by decide), w_up_ne (by decide), w_up_ne (by decide)]) (by rw [w_up_ne (by decide), w_up_ne (by decide), w_up_ne (by decide)])
        have am := n_amt_le h hr h1
        rw [n_cut_sd (by rw [s4]; exact h1), y4, a4]
        omega
      · rw [if_neg ho, n_sd_up (by decide) (by omega)]
        omega
theorem n_hour_sd {A : w_M} (h : n_WF A) {c : Int} (hc : c = 0 ∨ c = 1) : n_sd A - n_pcs A ≤ n_sd (n_hour A c) := by
  have key : ∀ k : Nat, k ≤ n_n A → n_sd A - f_sum (A 3) k ≤ n_sd (n_hourF A c k) := by
    intro k
    induction k with
    | zero => intro _; simp [f_sum, n_hourF]
    | succ k ih =>
      intro hk
      obtain ⟨h1, h2, -, -, -⟩ := n_hourF_all h hc k (by omega)
      have h3 := n_work_sd h1 (r := k) (by rw [h2.n]; omega) hc
      rw [h2.2.2.1] at h3
      have := ih (by omega)
      simp only [f_sum, n_hourF]
      omega
  unfold n_hour
  rw [n_sd_up (by decide) (by omega)]
  exact key _ (Nat.le_refl _)
theorem n_pcs_le {A : w_M} (h : n_WF A) : 0 ≤ n_pcs A ∧ n_pcs A ≤ 36 := by
  have h1 := f_sum_le (f := A 3) (B := 9) (m := n_n A) (fun i hi => by have := (h.r hi).1; omega) (Nat.le_refl _)
  have h2 := h.n
  unfold n_pcs
  unfold n_n at h1 ⊢
  omega
/-- with too much standing none are -/
theorem lk_zero {v : Int} : ∀ (n : Nat) (A : w_M), n_WF A → (n : Int) * n_pcs A < n_sd A → n ≤ 12 → A 0 1 + n ≤ A 0 0 → lk_s A v n (2 ^ n) = 0 := by
  intro n
  induction n with
  | zero =>
    intro A hA h0 _ _
    rw [lk_0, if_neg (by intro h; rw [h] at h0; simp at h0)]
  | succ n ih =>
    intro A hA h0 hn hh
    have g : ∀ c : Int, c = 0 ∨ c = 1 → lk_s (n_hour A c) v n (2 ^ n) = 0 := fun c hc => by
      obtain ⟨g1, g2, g3, g4⟩ := n_hour_all hA (by omega) hc
      have e0 : (n_hour A c) 0 0 = A 0 0 := g2.1 0 (by decide) (by decide)
      have e3 : n_pcs (n_hour A c) = n_pcs A := by unfold n_pcs; rw [g2.n, g2.2.2.1]
      have hs := n_hour_sd hA hc
      refine ih _ g1 ?_ (by omega) (by omega)
      rw [e3]
      have : ((n + 1 : Nat) : Int) * n_pcs A = n * n_pcs A + n_pcs A := by rw [Int.natCast_add, Int.add_mul]; simp
      omega
    rw [lk_rec (by omega), g 0 (Or.inl rfl), g 1 (Or.inr rfl)]
    simp
/-- nights that go on alike: all but the bride, the wages, the harvests -/
noncomputable def n_lk (A B : w_M) : Prop := (∀ j, j ≠ 3 → B 0 j = A 0 j) ∧ ∀ d, 1 ≤ d → d ≠ 7 → d ≠ 8 → B d = A d
theorem n_lk.rfl' {A : w_M} : n_lk A A := ⟨fun _ _ => rfl, fun _ _ _ _ => rfl⟩
theorem n_lk.sym {A B : w_M} (h : n_lk A B) : n_lk B A := ⟨fun j hj => (h.1 j hj).symm, fun d h1 h2 h3 => (h.2 d h1 h2 h3).symm⟩
theorem n_lk.tr {A B C : w_M} (h : n_lk A B) (g : n_lk B C) : n_lk A C := ⟨fun j hj => (g.1 j hj).trans (h.1 j hj), fun d h1 h2 h3 => (g.2 d h1 h2 h3).trans (h.2 d h1 h2 h3)⟩
theorem n_lk.up {A B : w_M} (h : n_lk A B) (d i : Nat) (x : Int) : n_lk (w_up A d i x) (w_up B d i x) := by
  refine ⟨fun j hj => ?_, fun e h1 h2 h3 => ?_⟩
  · rw [w_up_eq, w_up_eq, h.1 j hj]
  · funext j
    rw [w_up_eq, w_up_eq, h.2 e h1 h2 h3]
theorem n_lk.no {A B : w_M} (h : n_lk A B) {d i : Nat} {x : Int} (hd : (d = 0 ∧ i = 3) ∨ d = 7 ∨ d = 8) : n_lk A (w_up B d i x) := by
  refine ⟨fun j hj => ?_, fun e h1 h2 h3 => ?_⟩
  · rw [w_up_eq, if_neg (by omega)]; exact h.1 j hj
  · rw [w_up_ne (by omega)]; exact h.2 e h1 h2 h3
theorem n_lk.s {A B : w_M} (h : n_lk A B) : n_s B = n_s A := by unfold n_s; rw [h.1 4 (by decide)]
theorem n_lk.n {A B : w_M} (h : n_lk A B) : n_n B = n_n A := by unfold n_n; rw [h.1 5 (by decide)]
theorem n_lk.sd {A B : w_M} (h : n_lk A B) : n_sd B = n_sd A := by unfold n_sd; rw [h.s, h.2 1 (by decide) (by decide) (by decide)]
theorem n_lk.near {A B : w_M} (h : n_lk A B) (f : Int) : n_near B f = n_near A f := by
  have key : ∀ k : Nat, n_nearF B f k = n_nearF A f k := by
    intro k
    induction k with
    | zero => rfl
    | succ k ih => simp only [n_nearF]; rw [ih, h.2 1 (by decide) (by decide) (by decide)]
  unfold n_near
  rw [h.s, key]
theorem n_lk_cut (A : w_M) (r i : Nat) : n_lk (w_up A 1 i (A 1 i - n_amt A r i)) (n_cut A r i) := by
  unfold n_cut
  exact ((n_lk.rfl'.no (Or.inr (Or.inl rfl))).no (Or.inl ⟨rfl, rfl⟩)).no (Or.inr (Or.inr rfl))
theorem n_lk.cut {A B : w_M} (h : n_lk A B) (r i : Nat) : n_lk (n_cut A r i) (n_cut B r i) := by
  have e1 := h.2 1 (by decide) (by decide) (by decide)
  have ea : n_amt B r i = n_amt A r i := n_amt_congr e1 (h.2 3 (by decide) (by decide) (by decide)) (h.2 9 (by decide) (by decide) (by decide))
  refine (n_lk_cut A r i).sym.tr (n_lk.tr ?_ (n_lk_cut B r i))
  rw [ea, e1]
  exact h.up _ _ _
theorem n_lk.work {A B : w_M} (h : n_lk A B) (r : Nat) (c : Int) : n_lk (n_work A r c) (n_work B r c) := by
  have e4 := h.2 4 (by decide) (by decide) (by decide)
  have e5 := h.2 5 (by decide) (by decide) (by decide)
  have e6 := h.2 6 (by decide) (by decide) (by decide)
  unfold n_work
  rw [e6, h.near, e5, e4]
  split
  · exact h
  · split
    · exact (h.up _ _ _).up _ _ _
    · split
      · exact (((h.up _ _ _).up _ _ _).up _ _ _).cut _ _
      · exact h.up _ _ _
theorem n_lk.hour {A B : w_M} (h : n_lk A B) (c : Int) : n_lk (n_hour A c) (n_hour B c) := by
  have key : ∀ k : Nat, n_lk (n_hourF A c k) (n_hourF B c k) := by
    intro k
    induction k with
    | zero => exact h
    | succ k ih => exact ih.work k c
  unfold n_hour
  rw [h.n, h.1 1 (by decide)]
  exact (key _).up _ _ _
theorem n_lk.lk {A B : w_M} (h : n_lk A B) {v : Int} {n m : Nat} : lk_s B v n m = lk_s A v n m := by
  have key : ∀ c k : Nat, n_lk (lk_A A c k) (lk_A B c k) := by
    intro c k
    induction k with
    | zero => exact h
    | succ k ih => exact ih.hour _
  unfold lk_s
  refine f_sum_congr (fun c _ => ?_)
  unfold lk_t
  rw [(key c n).sd]
theorem n_lk.WF {A B : w_M} (h : n_lk A B) (hA : n_WF A) : n_WF B := by
  have e := h.1
  unfold n_WF at hA ⊢
  rw [h.s, h.n, e 0 (by decide), e 1 (by decide), e 2 (by decide), e 4 (by decide), e 5 (by decide), h.2 1 (by decide) (by decide) (by decide), h.2 2 (by decide) (by decide) (by decide), h.2 3 (by decide) (by decide) (by decide), h.2 4 (by decide) (by decide) (by decide), h.2 5 (by decide) (by decide) (by decide), h.2 6 (by decide) (by decide) (by decide), h.2 9 (by decide) (by decide) (by decide)]
  exact hA
end
section
/-! The odds, as the class counts them -/
noncomputable def p_Moon_tenTo (n : Int) (_ : w_M) : Prop := 0 ≤ n ∧ n ≤ 12
noncomputable def q_Moon_tenTo (n : Int) (σ : w_M) (x : Int) (σ' : w_M) : Prop := x = lk_p n.toNat ∧ σ' = σ
theorem fMoon_tenTo_0 : w_fe am_c135 0 1 (.sipush 1) := ⟨rfl, rfl⟩
theorem fMoon_tenTo_1 : w_fe am_c135 1 2 (.lstore 1) := ⟨rfl, rfl⟩
theorem fMoon_tenTo_2 : w_fe am_c135 2 3 (.bipush 0) := ⟨rfl, rfl⟩
theorem fMoon_tenTo_3 : w_fe am_c135 3 4 (.istore 3) := ⟨rfl, rfl⟩
theorem fMoon_tenTo_4 : w_fe am_c135 4 5 (.iload 3) := ⟨rfl, rfl⟩
theorem fMoon_tenTo_5 : w_fe am_c135 5 6 (.iload 0) := ⟨rfl, rfl⟩
theorem fMoon_tenTo_6 : w_ic am_c135 6 7 .ge 16 := ⟨rfl, rfl⟩
theorem fMoon_tenTo_7 : w_fe am_c135 7 8 (.iload 3) := ⟨rfl, rfl⟩
theorem fMoon_tenTo_8 : w_fe am_c135 8 9 (.bipush 12) := ⟨rfl, rfl⟩
theorem fMoon_tenTo_9 : w_ic am_c135 9 10 .ge 16 := ⟨rfl, rfl⟩
theorem fMoon_tenTo_10 : w_fe am_c135 10 11 (.lload 1) := ⟨rfl, rfl⟩
theorem fMoon_tenTo_11 : w_fe am_c135 11 12 (.sipush 10) := ⟨rfl, rfl⟩
theorem fMoon_tenTo_12 : w_fe am_c135 12 13 (.lmul) := ⟨rfl, rfl⟩
theorem fMoon_tenTo_13 : w_fe am_c135 13 14 (.lstore 1) := ⟨rfl, rfl⟩
theorem fMoon_tenTo_14 : w_fe am_c135 14 15 (.iinc 3 1) := ⟨rfl, rfl⟩
theorem fMoon_tenTo_15 : w_gt am_c135 15 4 := rfl
theorem fMoon_tenTo_16 : w_fe am_c135 16 17 (.lload 1) := ⟨rfl, rfl⟩
theorem fMoon_tenTo_17 : w_fe am_c135 17 18 (.ireturn) := ⟨rfl, rfl⟩
noncomputable def LMoon_tenTo_4 (xs : List Int) (d : Nat) (Q : Option w_V → w_M → Prop) (v0 : Int) (v1 : Int) (v3 : Int) (σ : w_M) : Prop := w_Ex (xs, d) 3 am_c135 Q 4 [some (.inl v0), some (.inr (.inl v1)), none, some (.inl v3)] [] σ
set_option maxRecDepth 20000 in
theorem bMoon_tenTo_0 {xs : List Int} {d : Nat} {Q : Option w_V → w_M → Prop} {x0 : Int} {σ : w_M}
    (h : LMoon_tenTo_4 xs d Q x0 1 0 σ) : w_Call (xs, d) 135 [.inl x0] σ Q :=
  (w_mk (mid := 135) (by decide) rfl rfl rfl rfl rfl (Nat.le_of_ble_eq_true rfl) trivial (wi_sipush fMoon_tenTo_0 (wi_lstore1 fMoon_tenTo_1 trivial (wi_bipush fMoon_tenTo_2 (wi_istore3 fMoon_tenTo_3 trivial h)))))
set_option maxRecDepth 20000 in
theorem bMoon_tenTo_4 {xs : List Int} {d : Nat} {Q : Option w_V → w_M → Prop} {v0 : Int} {v1 : Int} {v3 : Int} {σ : w_M}
    (h : (v0 ≤ v3 → Q (some (.inr (.inl v1))) σ) ∧ (v3 < v0 → ((12 ≤ v3 → Q (some (.inr (.inl v1))) σ) ∧ (v3 < 12 → (w_inl (v1 * 10) ∧ (∀ (y1 : Int), y1 = (v1 * 10) → (w_in (v3 + 1) ∧ LMoon_tenTo_4 xs d Q v0 y1 (v3 + 1) σ))))))) : LMoon_tenTo_4 xs d Q v0 v1 v3 σ :=
  (wi_iload3 fMoon_tenTo_4 (wi_iload0 fMoon_tenTo_5 (wi_ic_ge fMoon_tenTo_6 (fun c3 => (wi_lload1 fMoon_tenTo_16 (wi_ret3 fMoon_tenTo_17 (h.1 c3)))) (fun c3 => (wi_iload3 fMoon_tenTo_7 (wi_bipush fMoon_tenTo_8 (wi_ic_ge fMoon_tenTo_9 (fun c2 => (wi_lload1 fMoon_tenTo_16 (wi_ret3 fMoon_tenTo_17 ((h.2 c3).1 c2)))) (fun c2 => (wi_lload1 fMoon_tenTo_10 (wi_sipush fMoon_tenTo_11 (wi_lmul fMoon_tenTo_12 ((h.2 c3).2 c2).1 (wi_lstore1 fMoon_tenTo_13 trivial (wi_iinc3 fMoon_tenTo_14 trivial (((h.2 c3).2 c2).2 _ rfl).1 (wi_goto fMoon_tenTo_15 (((h.2 c3).2 c2).2 _ rfl).2))))))))))))))
theorem k_Moon_tenTo {xs : List Int} {d : Nat} {Q : Option w_V → w_M → Prop} {x0 : Int} {σ : w_M} (hp : p_Moon_tenTo x0 σ) (hQ : ∀ (x : Int) (σ' : w_M), q_Moon_tenTo x0 σ x σ' → Q (some (.inr (.inl x))) σ') : w_Call (xs, d) 135 [.inl x0] σ Q := by
  refine bMoon_tenTo_0 ?_
  refine w_loop (n := x0.toNat) (P := fun k => LMoon_tenTo_4 xs d Q x0 (lk_p k) (k : Int) σ) ?_ ?_
  · have := hp.1
    exact bMoon_tenTo_4 ⟨fun _ => hQ _ _ ⟨rfl, rfl⟩, fun h => by omega⟩
  · intro k hk ih
    have h12 := hp.2
    have w3 := lk_p_le (k := k + 1) (by omega)
    have w4 := lk_p_pos (k + 1)
    rw [lk_p_s] at w3 w4
    refine bMoon_tenTo_4 ⟨fun h => by omega, fun _ => ⟨fun h => by omega, fun _ => ⟨⟨by omega, by omega⟩, fun y e => ⟨⟨by omega, by omega⟩, ?_⟩⟩⟩⟩
    rw [e, ← lk_p_s, ← w_cs1]
    exact ih
noncomputable def lk_fb : Nat → Nat
  | 0 => 0
  | 1 => 1
  | n + 2 => lk_fb (n + 1) + lk_fb n
noncomputable def lk_fbp : Nat → Nat × Nat
  | 0 => (0, 1)
  | n + 1 => ((lk_fbp n).2, (lk_fbp n).1 + (lk_fbp n).2)
theorem lk_fbp_ok : ∀ n, lk_fbp n = (lk_fb n, lk_fb (n + 1)) := by
  intro n
  induction n with
  | zero => rfl
  | succ n ih =>
    simp only [lk_fbp, lk_fb]
    rw [ih, Nat.add_comm (lk_fb n)]
theorem lk_fb65 : 1000000000000 < lk_fb 65 := by
  have h := lk_fbp_ok 65
  have h2 : (lk_fbp 65).1 = 17167680177565 := by decide +kernel
  rw [h] at h2
  have h3 : lk_fb 65 = 17167680177565 := h2
  omega
noncomputable def lk_fin (n : Nat) (a b : Int) : Prop := a < lk_fb (n + 2) ∨ b < lk_fb (n + 1)
theorem lk_fin_0 {a b : Int} (h0 : 0 ≤ b) (hab : b ≤ a) (h : lk_fin 0 a b) : b = 0 := by
  unfold lk_fin at h
  simp [lk_fb] at h
  omega
theorem lk_fin_s {n : Nat} {a b : Int} (h0 : 0 ≤ b) (hb : ¬ b = 0) (hab : b ≤ a) (h : lk_fin (n + 1) a b) : lk_fin n b (a.tmod b) := by
  unfold lk_fin at h ⊢
  have e : lk_fb (n + 1 + 2) = lk_fb (n + 2) + lk_fb (n + 1) := rfl
  have e2 : n + 1 + 1 = n + 2 := rfl
  rw [e2] at h
  by_cases h2 : b < lk_fb (n + 2)
  · exact Or.inl h2
  · right
    have ht := lk_tmod (a := a) (by omega) h0 hb
    have hd := Int.tmod_add_tdiv_mul a b
    obtain ⟨m, rfl⟩ := Int.eq_ofNat_of_zero_le (show 0 ≤ a by omega)
    obtain ⟨q, rfl⟩ := Int.eq_ofNat_of_zero_le h0
    rw [← Int.ofNat_tmod] at ht ⊢
    have h3 : m % q + q * (m / q) = m := Nat.mod_add_div m q
    have h4 : 1 ≤ m / q := by
      have : q ≤ m := by omega
      exact (Nat.one_le_div_iff (by omega)).mpr this
    have h5 : q * 1 ≤ q * (m / q) := Nat.mul_le_mul_left q h4
    omega
noncomputable def p_Moon_commonDivisor (a b : Int) (_ : w_M) : Prop := (0 ≤ b ∧ b ≤ a) ∧ a ≤ 1000000000000
noncomputable def q_Moon_commonDivisor (a b : Int) (σ : w_M) (x : Int) (σ' : w_M) : Prop := x = lk_g a b ∧ σ' = σ
theorem fMoon_commonDivisor_0 : w_fe am_c136 0 1 (.lload 0) := ⟨rfl, rfl⟩
theorem fMoon_commonDivisor_1 : w_fe am_c136 1 2 (.lstore 4) := ⟨rfl, rfl⟩
theorem fMoon_commonDivisor_2 : w_fe am_c136 2 3 (.lload 2) := ⟨rfl, rfl⟩
theorem fMoon_commonDivisor_3 : w_fe am_c136 3 4 (.lstore 6) := ⟨rfl, rfl⟩
theorem fMoon_commonDivisor_4 : w_fe am_c136 4 5 (.bipush 0) := ⟨rfl, rfl⟩
theorem fMoon_commonDivisor_5 : w_fe am_c136 5 6 (.istore 8) := ⟨rfl, rfl⟩
theorem fMoon_commonDivisor_6 : w_fe am_c136 6 7 (.iload 8) := ⟨rfl, rfl⟩
theorem fMoon_commonDivisor_7 : w_fe am_c136 7 8 (.bipush 64) := ⟨rfl, rfl⟩
theorem fMoon_commonDivisor_8 : w_ic am_c136 8 9 .ge 23 := ⟨rfl, rfl⟩
theorem fMoon_commonDivisor_9 : w_fe am_c136 9 10 (.lload 6) := ⟨rfl, rfl⟩
theorem fMoon_commonDivisor_10 : w_fe am_c136 10 11 (.sipush 0) := ⟨rfl, rfl⟩
theorem fMoon_commonDivisor_11 : w_fe am_c136 11 12 (.lcmp) := ⟨rfl, rfl⟩
theorem fMoon_commonDivisor_12 : w_if am_c136 12 13 .eq 23 := ⟨rfl, rfl⟩
theorem fMoon_commonDivisor_13 : w_fe am_c136 13 14 (.lload 4) := ⟨rfl, rfl⟩
theorem fMoon_commonDivisor_14 : w_fe am_c136 14 15 (.lload 6) := ⟨rfl, rfl⟩
theorem fMoon_commonDivisor_15 : w_fe am_c136 15 16 (.lrem) := ⟨rfl, rfl⟩
theorem fMoon_commonDivisor_16 : w_fe am_c136 16 17 (.lstore 9) := ⟨rfl, rfl⟩
theorem fMoon_commonDivisor_17 : w_fe am_c136 17 18 (.lload 6) := ⟨rfl, rfl⟩
theorem fMoon_commonDivisor_18 : w_fe am_c136 18 19 (.lstore 4) := ⟨rfl, rfl⟩
theorem fMoon_commonDivisor_19 : w_fe am_c136 19 20 (.lload 9) := ⟨rfl, rfl⟩
theorem fMoon_commonDivisor_20 : w_fe am_c136 20 21 (.lstore 6) := ⟨rfl, rfl⟩
theorem fMoon_commonDivisor_21 : w_fe am_c136 21 22 (.iinc 8 1) := ⟨rfl, rfl⟩
theorem fMoon_commonDivisor_22 : w_gt am_c136 22 6 := rfl
theorem fMoon_commonDivisor_23 : w_fe am_c136 23 24 (.lload 4) := ⟨rfl, rfl⟩
theorem fMoon_commonDivisor_24 : w_fe am_c136 24 25 (.ireturn) := ⟨rfl, rfl⟩
noncomputable def LMoon_commonDivisor_6 (xs : List Int) (d : Nat) (Q : Option w_V → w_M → Prop) (v4 : Int) (v6 : Int) (v8 : Int) (σ : w_M) : Prop := ∀ L0 : Option w_V, ∀ l1, w_nl l1 → ∀ L2 : Option w_V, ∀ l3, w_nl l3 → ∀ L9 : Option w_V, ∀ l10, w_nl l10 → w_Ex (xs, d) 3 am_c136 Q 6 [L0, l1, L2, l3, some (.inr (.inl v4)), none, some (.inr (.inl v6)), none, some (.inl v8), L9, l10] [] σ
set_option maxRecDepth 20000 in
theorem bMoon_commonDivisor_0 {xs : List Int} {d : Nat} {Q : Option w_V → w_M → Prop} {x0 : Int} {x1 : Int} {σ : w_M}
    (h : LMoon_commonDivisor_6 xs d Q x0 x1 0 σ) : w_Call (xs, d) 136 [.inr (.inl x0), .inr (.inl x1)] σ Q :=
  (w_mk (mid := 136) (by decide) rfl rfl rfl rfl rfl (Nat.le_of_ble_eq_true rfl) trivial (wi_lload0 fMoon_commonDivisor_0 (wi_lstore4 fMoon_commonDivisor_1 trivial (wi_lload2 fMoon_commonDivisor_2 (wi_lstore6 fMoon_commonDivisor_3 trivial (wi_bipush fMoon_commonDivisor_4 (wi_istore8 fMoon_commonDivisor_5 trivial (h _ _ (by exact trivial) _ _ (by exact trivial) _ _ (by exact trivial)))))))))
set_option maxRecDepth 20000 in
theorem bMoon_commonDivisor_6 {xs : List Int} {d : Nat} {Q : Option w_V → w_M → Prop} {v4 : Int} {v6 : Int} {v8 : Int} {σ : w_M}
    (h : (64 ≤ v8 → Q (some (.inr (.inl v4))) σ) ∧ (v8 < 64 → ((v6 = 0 → Q (some (.inr (.inl v4))) σ) ∧ (¬ v6 = 0 → ∀ (y1 : Int), y1 = (v4.tmod v6) → (w_in (v8 + 1) ∧ LMoon_commonDivisor_6 xs d Q v6 y1 (v8 + 1) σ))))) : LMoon_commonDivisor_6 xs d Q v4 v6 v8 σ :=
  fun L0 => fun l1 nl1 => fun L2 => fun l3 nl3 => fun L9 => fun l10 nl10 => (wi_iload8 fMoon_commonDivisor_6 (wi_bipush fMoon_commonDivisor_7 (wi_ic_ge fMoon_commonDivisor_8 (fun c3 => (wi_lload4 fMoon_commonDivisor_23 (wi_ret3 fMoon_commonDivisor_24 (h.1 c3)))) (fun c3 => (wi_lload6 fMoon_commonDivisor_9 (wi_sipush fMoon_commonDivisor_10 (wi_lcmp_eq fMoon_commonDivisor_11 fMoon_commonDivisor_12 (fun c2 => (wi_lload4 fMoon_commonDivisor_23 (wi_ret3 fMoon_commonDivisor_24 ((h.2 c3).1 c2)))) (fun c2 => (wi_lload4 fMoon_commonDivisor_13 (wi_lload6 fMoon_commonDivisor_14 (wi_lrem fMoon_commonDivisor_15 c2 (wi_lstore9 fMoon_commonDivisor_16 trivial (wi_lload6 fMoon_commonDivisor_17 (wi_lstore4 fMoon_commonDivisor_18 nl3 (wi_lload9 fMoon_commonDivisor_19 (wi_lstore6 fMoon_commonDivisor_20 trivial (wi_iinc8 fMoon_commonDivisor_21 trivial (((h.2 c3).2 c2) _ rfl).1 (wi_goto fMoon_commonDivisor_22 ((((h.2 c3).2 c2) _ rfl).2 _ _ nl1 _ _ nl3 _ _ (by exact trivial))))))))))))))))))))
theorem k_Moon_commonDivisor {xs : List Int} {d : Nat} {Q : Option w_V → w_M → Prop} {x0 : Int} {x1 : Int} {σ : w_M} (hp : p_Moon_commonDivisor x0 x1 σ) (hQ : ∀ (x : Int) (σ' : w_M), q_Moon_commonDivisor x0 x1 σ x σ' → Q (some (.inr (.inl x))) σ') : w_Call (xs, d) 136 [.inr (.inl x0), .inr (.inl x1)] σ Q := by
  obtain ⟨⟨p0, p1⟩, p2⟩ := hp
  refine bMoon_commonDivisor_0 ?_
  have main : ∀ (n : Nat) (a b k : Int), k + n = 64 → 0 ≤ k → 0 ≤ b → b ≤ a → lk_fin n a b → lk_g a b = lk_g x0 x1 → LMoon_commonDivisor_6 xs d Q a b k σ := by
    intro n
    induction n with
    | zero =>
      intro a b k hk k0 h0 hab hf hg
      have hb := lk_fin_0 h0 hab hf
      refine bMoon_commonDivisor_6 ⟨fun _ => hQ _ _ ⟨?_, rfl⟩, fun h => by omega⟩
      rw [← hg, hb, lk_g_z (by omega)]
    | succ n ih =>
      intro a b k hk k0 h0 hab hf hg
      refine bMoon_commonDivisor_6 ⟨fun h => by omega, fun _ => ⟨fun hb => hQ _ _ ⟨?_, rfl⟩, fun hb y e => ⟨⟨by omega, by omega⟩, ?_⟩⟩⟩
      · rw [← hg, hb, lk_g_z (by omega)]
      · have ht := lk_tmod (a := a) (by omega) h0 hb
        rw [e]
        exact ih _ _ _ (by omega) (by omega) ht.1 (by omega) (lk_fin_s h0 hb hab hf) (by rw [lk_g_r (by omega) h0]; exact hg)
  have h65 := lk_fb65
  exact main 64 x0 x1 0 (by decide) (by decide) p0 p1 (Or.inr (by show x1 < ((lk_fb 65 : Nat) : Int); omega)) rfl
noncomputable def p_Plan_save (b : Nat) (_ : w_M) : Prop := 51 ≤ b
noncomputable def q_Plan_save (b : Nat) (σ σ' : w_M) : Prop := σ' b 0 = σ 32 1 ∧ (∀ i, i < 7 → σ' b (1 + i) = σ 33 i) ∧ (∀ i, i < 4 → σ' b (8 + i) = σ 38 i) ∧ (∀ i, i < 4 → σ' b (12 + i) = σ 37 i) ∧ (∀ i, i < 4 → σ' b (16 + i) = σ 36 i) ∧ w_f1 σ σ' b
noncomputable def p_Plan_restore (b : Nat) (_ : w_M) : Prop := 51 ≤ b
noncomputable def q_Plan_restore (b : Nat) (σ σ' : w_M) : Prop := σ' 32 1 = σ b 0 ∧ (∀ j, j ≠ 1 → σ' 32 j = σ 32 j) ∧ (∀ i, i < 7 → σ' 33 i = σ b (1 + i)) ∧ (∀ i, i < 4 → σ' 38 i = σ b (8 + i)) ∧ (∀ i, i < 4 → σ' 37 i = σ b (12 + i)) ∧ (∀ i, i < 4 → σ' 36 i = σ b (16 + i)) ∧ (∀ c, c < 32 ∨ 39 ≤ c ∨ c = 34 ∨ c = 35 → σ' c = σ c)
theorem w_cpy_q {σ : w_M} {s d sp dp n b j : Nat} : w_cpy σ s d sp dp n b j = if b = d ∧ dp ≤ j ∧ j < dp + n then σ s (sp + (j - dp)) else σ b j := rfl
theorem fPlan_save_0 : w_fe am_c83 0 1 (.aload 1) := ⟨rfl, rfl⟩
theorem fPlan_save_1 : w_fe am_c83 1 2 (.bipush 0) := ⟨rfl, rfl⟩
theorem fPlan_save_2 : w_fe am_c83 2 3 (.aload 0) := ⟨rfl, rfl⟩
theorem fPlan_save_3 : w_fe am_c83 3 4 (.getfield 600) := ⟨rfl, rfl⟩
theorem fPlan_save_4 : w_fe am_c83 4 5 (.getfield 201) := ⟨rfl, rfl⟩
theorem fPlan_save_5 : w_fe am_c83 5 6 (.iastore) := ⟨rfl, rfl⟩
theorem fPlan_save_6 : w_fe am_c83 6 7 (.aload 0) := ⟨rfl, rfl⟩
theorem fPlan_save_7 : w_fe am_c83 7 8 (.getfield 600) := ⟨rfl, rfl⟩
theorem fPlan_save_8 : w_fe am_c83 8 9 (.getfield 207) := ⟨rfl, rfl⟩
theorem fPlan_save_9 : w_fe am_c83 9 10 (.bipush 0) := ⟨rfl, rfl⟩
theorem fPlan_save_10 : w_fe am_c83 10 11 (.aload 1) := ⟨rfl, rfl⟩
theorem fPlan_save_11 : w_fe am_c83 11 12 (.bipush 1) := ⟨rfl, rfl⟩
theorem fPlan_save_12 : w_fe am_c83 12 13 (.bipush 7) := ⟨rfl, rfl⟩
theorem fPlan_save_13 : w_fe am_c83 13 14 (.invokedynamic 0) := ⟨rfl, rfl⟩
theorem fPlan_save_14 : w_fe am_c83 14 15 (.aload 0) := ⟨rfl, rfl⟩
theorem fPlan_save_15 : w_fe am_c83 15 16 (.getfield 600) := ⟨rfl, rfl⟩
theorem fPlan_save_16 : w_fe am_c83 16 17 (.getfield 212) := ⟨rfl, rfl⟩
theorem fPlan_save_17 : w_fe am_c83 17 18 (.bipush 0) := ⟨rfl, rfl⟩
theorem fPlan_save_18 : w_fe am_c83 18 19 (.aload 1) := ⟨rfl, rfl⟩
theorem fPlan_save_19 : w_fe am_c83 19 20 (.bipush 8) := ⟨rfl, rfl⟩
theorem fPlan_save_20 : w_fe am_c83 20 21 (.bipush 4) := ⟨rfl, rfl⟩
theorem fPlan_save_21 : w_fe am_c83 21 22 (.invokedynamic 0) := ⟨rfl, rfl⟩
theorem fPlan_save_22 : w_fe am_c83 22 23 (.aload 0) := ⟨rfl, rfl⟩
theorem fPlan_save_23 : w_fe am_c83 23 24 (.getfield 600) := ⟨rfl, rfl⟩
theorem fPlan_save_24 : w_fe am_c83 24 25 (.getfield 211) := ⟨rfl, rfl⟩
theorem fPlan_save_25 : w_fe am_c83 25 26 (.bipush 0) := ⟨rfl, rfl⟩
theorem fPlan_save_26 : w_fe am_c83 26 27 (.aload 1) := ⟨rfl, rfl⟩
theorem fPlan_save_27 : w_fe am_c83 27 28 (.bipush 12) := ⟨rfl, rfl⟩
theorem fPlan_save_28 : w_fe am_c83 28 29 (.bipush 4) := ⟨rfl, rfl⟩
theorem fPlan_save_29 : w_fe am_c83 29 30 (.invokedynamic 0) := ⟨rfl, rfl⟩
theorem fPlan_save_30 : w_fe am_c83 30 31 (.aload 0) := ⟨rfl, rfl⟩
theorem fPlan_save_31 : w_fe am_c83 31 32 (.getfield 600) := ⟨rfl, rfl⟩
theorem fPlan_save_32 : w_fe am_c83 32 33 (.getfield 210) := ⟨rfl, rfl⟩
theorem fPlan_save_33 : w_fe am_c83 33 34 (.bipush 0) := ⟨rfl, rfl⟩
theorem fPlan_save_34 : w_fe am_c83 34 35 (.aload 1) := ⟨rfl, rfl⟩
theorem fPlan_save_35 : w_fe am_c83 35 36 (.bipush 16) := ⟨rfl, rfl⟩
theorem fPlan_save_36 : w_fe am_c83 36 37 (.bipush 4) := ⟨rfl, rfl⟩
theorem fPlan_save_37 : w_fe am_c83 37 38 (.invokedynamic 0) := ⟨rfl, rfl⟩
theorem fPlan_save_38 : w_fe am_c83 38 39 (.return_) := ⟨rfl, rfl⟩
set_option maxRecDepth 20000 in
theorem bPlan_save_0 {xs : List Int} {d : Nat} {Q : Option w_V → w_M → Prop} {b : Nat} {σ : w_M}
    (h : ∀ (τ1 : w_M), τ1 = w_up σ b 0 (σ 32 1) → ∀ (τ2 : w_M), τ2 = w_cpy τ1 33 b 0 1 7 → ∀ (τ3 : w_M), τ3 = w_cpy τ2 38 b 0 8 4 → ∀ (τ4 : w_M), τ4 = w_cpy τ3 37 b 0 12 4 → ∀ (τ5 : w_M), τ5 = w_cpy τ4 36 b 0 16 4 → Q none τ5) : w_Call (xs, d) 83 [.inr (.inr (6, 31)), .inr (.inr (1020, b))] σ Q :=
  (w_mk (mid := 83) (by decide) rfl rfl rfl rfl rfl (Nat.le_of_ble_eq_true rfl) ⟨rfl, Or.inl (by decide)⟩ (wi_aload1 fPlan_save_0 (wi_bipush fPlan_save_1 (wi_aload0 fPlan_save_2 (wi_getf600 fPlan_save_3 (wi_getf201 fPlan_save_4 (wi_iast1020 fPlan_save_5 (by decide) (by decide) (wi_aload0 fPlan_save_6 (wi_getf600 fPlan_save_7 (wi_getf207 fPlan_save_8 (wi_bipush fPlan_save_9 (wi_aload1 fPlan_save_10 (wi_bipush fPlan_save_11 (wi_bipush fPlan_save_12 (wi_acopy fPlan_save_13 (by decide) (Nat.le_of_ble_eq_true rfl) (by decide) (by decide) (by decide) (by decide) (by decide) (wi_aload0 fPlan_save_14 (wi_getf600 fPlan_save_15 (wi_getf212 fPlan_save_16 (wi_bipush fPlan_save_17 (wi_aload1 fPlan_save_18 (wi_bipush fPlan_save_19 (wi_bipush fPlan_save_20 (wi_acopy fPlan_save_21 (by decide) (Nat.le_of_ble_eq_true rfl) (by decide) (by decide) (by decide) (by decide) (by decide) (wi_aload0 fPlan_save_22 (wi_getf600 fPlan_save_23 (wi_getf211 fPlan_save_24 (wi_bipush fPlan_save_25 (wi_aload1 fPlan_save_26 (wi_bipush fPlan_save_27 (wi_bipush fPlan_save_28 (wi_acopy fPlan_save_29 (by decide) (Nat.le_of_ble_eq_true rfl) (by decide) (by decide) (by decide) (by decide) (by decide) (wi_aload0 fPlan_save_30 (wi_getf600 fPlan_save_31 (wi_getf210 fPlan_save_32 (wi_bipush fPlan_save_33 (wi_aload1 fPlan_save_34 (wi_bipush fPlan_save_35 (wi_bipush fPlan_save_36 (wi_acopy fPlan_save_37 (by decide) (Nat.le_of_ble_eq_true rfl) (by decide) (by decide) (by decide) (by decide) (by decide) (wi_ret0 fPlan_save_38 (((((h _ rfl) _ rfl) _ rfl) _ rfl) _ rfl)))))))))))))))))))))))))))))))))))))))))
theorem fPlan_restore_0 : w_fe am_c84 0 1 (.aload 0) := ⟨rfl, rfl⟩
theorem fPlan_restore_1 : w_fe am_c84 1 2 (.getfield 600) := ⟨rfl, rfl⟩
theorem fPlan_restore_2 : w_fe am_c84 2 3 (.aload 1) := ⟨rfl, rfl⟩
theorem fPlan_restore_3 : w_fe am_c84 3 4 (.bipush 0) := ⟨rfl, rfl⟩
theorem fPlan_restore_4 : w_fe am_c84 4 5 (.iaload) := ⟨rfl, rfl⟩
theorem fPlan_restore_5 : w_fe am_c84 5 6 (.putfield 201) := ⟨rfl, rfl⟩
theorem fPlan_restore_6 : w_fe am_c84 6 7 (.aload 1) := ⟨rfl, rfl⟩
theorem fPlan_restore_7 : w_fe am_c84 7 8 (.bipush 1) := ⟨rfl, rfl⟩
theorem fPlan_restore_8 : w_fe am_c84 8 9 (.aload 0) := ⟨rfl, rfl⟩
theorem fPlan_restore_9 : w_fe am_c84 9 10 (.getfield 600) := ⟨rfl, rfl⟩
theorem fPlan_restore_10 : w_fe am_c84 10 11 (.getfield 207) := ⟨rfl, rfl⟩
theorem fPlan_restore_11 : w_fe am_c84 11 12 (.bipush 0) := ⟨rfl, rfl⟩
theorem fPlan_restore_12 : w_fe am_c84 12 13 (.bipush 7) := ⟨rfl, rfl⟩
theorem fPlan_restore_13 : w_fe am_c84 13 14 (.invokedynamic 0) := ⟨rfl, rfl⟩
theorem fPlan_restore_14 : w_fe am_c84 14 15 (.aload 1) := ⟨rfl, rfl⟩
theorem fPlan_restore_15 : w_fe am_c84 15 16 (.bipush 8) := ⟨rfl, rfl⟩
theorem fPlan_restore_16 : w_fe am_c84 16 17 (.aload 0) := ⟨rfl, rfl⟩
theorem fPlan_restore_17 : w_fe am_c84 17 18 (.getfield 600) := ⟨rfl, rfl⟩
theorem fPlan_restore_18 : w_fe am_c84 18 19 (.getfield 212) := ⟨rfl, rfl⟩
theorem fPlan_restore_19 : w_fe am_c84 19 20 (.bipush 0) := ⟨rfl, rfl⟩
theorem fPlan_restore_20 : w_fe am_c84 20 21 (.bipush 4) := ⟨rfl, rfl⟩
theorem fPlan_restore_21 : w_fe am_c84 21 22 (.invokedynamic 0) := ⟨rfl, rfl⟩
theorem fPlan_restore_22 : w_fe am_c84 22 23 (.aload 1) := ⟨rfl, rfl⟩
theorem fPlan_restore_23 : w_fe am_c84 23 24 (.bipush 12) := ⟨rfl, rfl⟩
theorem fPlan_restore_24 : w_fe am_c84 24 25 (.aload 0) := ⟨rfl, rfl⟩
theorem fPlan_restore_25 : w_fe am_c84 25 26 (.getfield 600) := ⟨rfl, rfl⟩
theorem fPlan_restore_26 : w_fe am_c84 26 27 (.getfield 211) := ⟨rfl, rfl⟩
theorem fPlan_restore_27 : w_fe am_c84 27 28 (.bipush 0) := ⟨rfl, rfl⟩
theorem fPlan_restore_28 : w_fe am_c84 28 29 (.bipush 4) := ⟨rfl, rfl⟩
theorem fPlan_restore_29 : w_fe am_c84 29 30 (.invokedynamic 0) := ⟨rfl, rfl⟩
theorem fPlan_restore_30 : w_fe am_c84 30 31 (.aload 1) := ⟨rfl, rfl⟩
theorem fPlan_restore_31 : w_fe am_c84 31 32 (.bipush 16) := ⟨rfl, rfl⟩
theorem fPlan_restore_32 : w_fe am_c84 32 33 (.aload 0) := ⟨rfl, rfl⟩
theorem fPlan_restore_33 : w_fe am_c84 33 34 (.getfield 600) := ⟨rfl, rfl⟩
theorem fPlan_restore_34 : w_fe am_c84 34 35 (.getfield 210) := ⟨rfl, rfl⟩
theorem fPlan_restore_35 : w_fe am_c84 35 36 (.bipush 0) := ⟨rfl, rfl⟩
theorem fPlan_restore_36 : w_fe am_c84 36 37 (.bipush 4) := ⟨rfl, rfl⟩
theorem fPlan_restore_37 : w_fe am_c84 37 38 (.invokedynamic 0) := ⟨rfl, rfl⟩
theorem fPlan_restore_38 : w_fe am_c84 38 39 (.return_) := ⟨rfl, rfl⟩
set_option maxRecDepth 20000 in
theorem bPlan_restore_0 {xs : List Int} {d : Nat} {Q : Option w_V → w_M → Prop} {b : Nat} {σ : w_M}
    (h : ∀ (τ1 : w_M), τ1 = w_up σ 32 1 (σ b 0) → ∀ (τ2 : w_M), τ2 = w_cpy τ1 b 33 1 0 7 → ∀ (τ3 : w_M), τ3 = w_cpy τ2 b 38 8 0 4 → ∀ (τ4 : w_M), τ4 = w_cpy τ3 b 37 12 0 4 → ∀ (τ5 : w_M), τ5 = w_cpy τ4 b 36 16 0 4 → Q none τ5) : w_Call (xs, d) 84 [.inr (.inr (6, 31)), .inr (.inr (1020, b))] σ Q :=
  (w_mk (mid := 84) (by decide) rfl rfl rfl rfl rfl (Nat.le_of_ble_eq_true rfl) ⟨rfl, Or.inl (by decide)⟩ (wi_aload0 fPlan_restore_0 (wi_getf600 fPlan_restore_1 (wi_aload1 fPlan_restore_2 (wi_bipush fPlan_restore_3 (wi_iald1020 fPlan_restore_4 (by decide) (by decide) (wi_putf201 fPlan_restore_5 (wi_aload1 fPlan_restore_6 (wi_bipush fPlan_restore_7 (wi_aload0 fPlan_restore_8 (wi_getf600 fPlan_restore_9 (wi_getf207 fPlan_restore_10 (wi_bipush fPlan_restore_11 (wi_bipush fPlan_restore_12 (wi_acopy fPlan_restore_13 (by decide) (Nat.le_of_ble_eq_true rfl) (by decide) (by decide) (by decide) (by decide) (by decide) (wi_aload1 fPlan_restore_14 (wi_bipush fPlan_restore_15 (wi_aload0 fPlan_restore_16 (wi_getf600 fPlan_restore_17 (wi_getf212 fPlan_restore_18 (wi_bipush fPlan_restore_19 (wi_bipush fPlan_restore_20 (wi_acopy fPlan_restore_21 (by decide) (Nat.le_of_ble_eq_true rfl) (by decide) (by decide) (by decide) (by decide) (by decide) (wi_aload1 fPlan_restore_22 (wi_bipush fPlan_restore_23 (wi_aload0 fPlan_restore_24 (wi_getf600 fPlan_restore_25 (wi_getf211 fPlan_restore_26 (wi_bipush fPlan_restore_27 (wi_bipush fPlan_restore_28 (wi_acopy fPlan_restore_29 (by decide) (Nat.le_of_ble_eq_true rfl) (by decide) (by decide) (by decide) (by decide) (by decide) (wi_aload1 fPlan_restore_30 (wi_bipush fPlan_restore_31 (wi_aload0 fPlan_restore_32 (wi_getf600 fPlan_restore_33 (wi_getf210 fPlan_restore_34 (wi_bipush fPlan_restore_35 (wi_bipush fPlan_restore_36 (wi_acopy fPlan_restore_37 (by decide) (Nat.le_of_ble_eq_true rfl) (by decide) (by decide) (by decide) (by decide) (by decide) (wi_ret0 fPlan_restore_38 (((((h _ rfl) _ rfl) _ rfl) _ rfl) _ rfl)))))))))))))))))))))))))))))))))))))))))
theorem k_Plan_save {xs : List Int} {d : Nat} {Q : Option w_V → w_M → Prop} {b : Nat} {σ : w_M} (hp : p_Plan_save b σ) (hQ : ∀ σ' : w_M, q_Plan_save b σ σ' → Q none σ') : w_Call (xs, d) 83 [.inr (.inr (6, 31)), .inr (.inr (1020, b))] σ Q := by
  have hb : 51 ≤ b := hp
  refine bPlan_save_0 (fun τ1 t1 τ2 t2 τ3 t3 τ4 t4 τ5 t5 => hQ _ ?_)
  have a1 : ∀ c, c ≠ b → τ1 c = σ c := fun c hc => by rw [t1, w_up_ne hc]
  have a2 : ∀ c, c ≠ b → τ2 c = σ c := fun c hc => by rw [t2, w_cpy_ne hc, a1 c hc]
  have a3 : ∀ c, c ≠ b → τ3 c = σ c := fun c hc => by rw [t3, w_cpy_ne hc, a2 c hc]
  have a4 : ∀ c, c ≠ b → τ4 c = σ c := fun c hc => by rw [t4, w_cpy_ne hc, a3 c hc]
  have a5 : ∀ c, c ≠ b → τ5 c = σ c := fun c hc => by rw [t5, w_cpy_ne hc, a4 c hc]
  refine ⟨?_, fun i hi => ?_, fun i hi => ?_, fun i hi => ?_, fun i hi => ?_, a5⟩
  · rw [t5, w_cpy_q, if_neg (by omega), t4, w_cpy_q, if_neg (by omega), t3, w_cpy_q, if_neg (by omega), t2, w_cpy_q, if_neg (by omega), t1, w_up_at]
  · rw [t5, w_cpy_q, if_neg (by omega), t4, w_cpy_q, if_neg (by omega), t3, w_cpy_q, if_neg (by omega), t2, w_cpy_q, if_pos (by omega), a1 33 (by omega), show 0 + (1 + i - 1) = i by omega]
  · rw [t5, w_cpy_q, if_neg (by omega), t4, w_cpy_q, if_neg (by omega), t3, w_cpy_q, if_pos (by omega), a2 38 (by omega), show 0 + (8 + i - 8) = i by omega]
  · rw [t5, w_cpy_q, if_neg (by omega), t4, w_cpy_q, if_pos (by omega), a3 37 (by omega), show 0 + (12 + i - 12) = i by omega]
  · rw [t5, w_cpy_q, if_pos (by omega), a4 36 (by omega), show 0 + (16 + i - 16) = i by omega]
theorem k_Plan_restore {xs : List Int} {d : Nat} {Q : Option w_V → w_M → Prop} {b : Nat} {σ : w_M} (hp : p_Plan_restore b σ) (hQ : ∀ σ' : w_M, q_Plan_restore b σ σ' → Q none σ') : w_Call (xs, d) 84 [.inr (.inr (6, 31)), .inr (.inr (1020, b))] σ Q := by
  have hb : 51 ≤ b := hp
  refine bPlan_restore_0 (fun τ1 t1 τ2 t2 τ3 t3 τ4 t4 τ5 t5 => hQ _ ?_)
  have b1 : τ1 b = σ b := by rw [t1, w_up_ne (by omega)]
  have b2 : τ2 b = σ b := by rw [t2, w_cpy_ne (by omega), b1]
  have b3 : τ3 b = σ b := by rw [t3, w_cpy_ne (by omega), b2]
  have b4 : τ4 b = σ b := by rw [t4, w_cpy_ne (by omega), b3]
  refine ⟨?_, fun j hj => ?_, fun i hi => ?_, fun i hi => ?_, fun i hi => ?_, fun i hi => ?_, fun c hc => ?_⟩
  · rw [t5, w_cpy_ne (by decide), t4, w_cpy_ne (by decide), t3, w_cpy_ne (by decide), t2, w_cpy_ne (by decide), t1, w_up_at]
  · rw [t5, w_cpy_ne (by decide), t4, w_cpy_ne (by decide), t3, w_cpy_ne (by decide), t2, w_cpy_ne (by decide), t1, w_up_j hj]
  · rw [t5, w_cpy_ne (by decide), t4, w_cpy_ne (by decide), t3, w_cpy_ne (by decide), t2, w_cpy_q, if_pos (by omega), b1, Nat.sub_zero]
  · rw [t5, w_cpy_ne (by decide), t4, w_cpy_ne (by decide), t3, w_cpy_q, if_pos (by omega), b2, Nat.sub_zero]
  · rw [t5, w_cpy_ne (by decide), t4, w_cpy_q, if_pos (by omega), b3, Nat.sub_zero]
  · rw [t5, w_cpy_q, if_pos (by omega), b4, Nat.sub_zero]
  · rw [t5, w_cpy_ne (by omega), t4, w_cpy_ne (by omega), t3, w_cpy_ne (by omega), t2, w_cpy_ne (by omega), t1, w_up_ne (by omega)]
theorem w_ab_row {σ : w_M} {a d i : Nat} (hd : d < 9) : w_ab σ a d i = if i < w_rl σ a d then σ (a + d) i else 0 := by unfold w_ab; rw [if_pos hd]
theorem w_ab_9 {σ : w_M} {a i : Nat} : w_ab σ a 9 i = if i < (σ a 4).toNat then w_and (w_shr (σ a 6) i) 1 else 0 := rfl
theorem w_ab_10 {σ : w_M} {a d i : Nat} (hd : 10 ≤ d) : w_ab σ a d i = 0 := by unfold w_ab; rw [if_neg (by omega), if_neg (by omega)]
theorem lk_rs {σ τ τ' : w_M} (hok : n_ok σ 32) (hs : n_same (w_ab σ 32) (w_ab τ 32)) (h1 : τ' 32 1 = σ 32 1) (h0 : ∀ j, j ≠ 1 → τ' 32 j = τ 32 j) (hy : ∀ i, i < 7 → τ' 33 i = σ 33 i) (ho : ∀ i, i < 4 → τ' 36 i = σ 36 i) (he : ∀ i, i < 4 → τ' 37 i = σ 37 i) (ha : ∀ i, i < 4 → τ' 38 i = σ 38 i) (h34 : τ' 34 = τ 34) (h35 : τ' 35 = τ 35) : n_lk (w_ab σ 32) (w_ab τ' 32) := by
  have hsn := n_ok.s hok
  have hnn := n_ok.n hok
  have t4 : τ 32 4 = σ 32 4 := hs.1 4 (by decide) (by decide)
  have t5 : τ 32 5 = σ 32 5 := hs.1 5 (by decide) (by decide)
  have e4 : τ' 32 4 = σ 32 4 := (h0 4 (by decide)).trans t4
  have e5 : τ' 32 5 = σ 32 5 := (h0 5 (by decide)).trans t5
  have rl : ∀ d, w_rl τ' 32 d = w_rl σ 32 d := fun d => by unfold w_rl; rw [e4, e5]
  have rl2 : ∀ d, w_rl τ' 32 d = w_rl τ 32 d := fun d => by unfold w_rl; rw [e4, e5, t4, t5]
  have r1 : ∀ d i, 1 ≤ d → d ≤ 2 → i < w_rl σ 32 d → i < 7 := fun d i h1 h2 hi => by
    unfold w_rl at hi
    rw [if_neg (by omega), if_pos (by omega)] at hi
    omega
  have r3 : ∀ d i, 3 ≤ d → d ≤ 7 → i < w_rl σ 32 d → i < 4 := fun d i h1 h2 hi => by
    unfold w_rl at hi
    rw [if_neg (by omega), if_neg (by omega), if_pos (by omega)] at hi
    omega
  refine ⟨fun j hj => ?_, fun d d1 d7 d8 => ?_⟩
  · by_cases hj6 : j < 6
    · rw [w_ab0 hj6, w_ab0 hj6]
      by_cases hj1 : j = 1
      · rw [hj1]; exact h1
      · rw [h0 j hj1]
        have := hs.1 j hj1 hj
        rw [w_ab0 hj6, w_ab0 hj6] at this
        exact this
    · have z : ∀ σ : w_M, w_ab σ 32 0 j = 0 := fun σ => by rw [w_ab_row (by decide)]; exact if_neg (show ¬ j < 6 from hj6)
      rw [z, z]
  · funext i
    by_cases h9 : d < 9
    · rw [w_ab_row h9, w_ab_row h9, rl]
      by_cases hi : i < w_rl σ 32 d
      · rw [if_pos hi, if_pos hi]
        rcases (show d = 1 ∨ d = 2 ∨ d = 3 ∨ d = 4 ∨ d = 5 ∨ d = 6 by omega) with rfl | rfl | rfl | rfl | rfl | rfl
        · exact hy i (r1 1 i (by decide) (by decide) hi)
        · have := congrFun hs.2.1 i
          rw [w_ab_row (by decide), w_ab_row (by decide), ← rl2, rl, if_pos hi, if_pos hi] at this
          show τ' 34 i = σ 34 i
          rw [h34]
          exact this
        · have := congrFun hs.2.2.1 i
          rw [w_ab_row (by decide), w_ab_row (by decide), ← rl2, rl, if_pos hi, if_pos hi] at this
          show τ' 35 i = σ 35 i
          rw [h35]
          exact this
        · exact ho i (r3 4 i (by decide) (by decide) hi)
        · exact he i (r3 5 i (by decide) (by decide) hi)
        · exact ha i (r3 6 i (by decide) (by decide) hi)
      · rw [if_neg hi, if_neg hi]
    · by_cases hd9 : d = 9
      · subst hd9
        have := congrFun hs.2.2.2 i
        rw [w_ab_9, w_ab_9, t4] at this
        rw [w_ab_9, w_ab_9, e4, h0 6 (by decide)]
        exact this
      · rw [w_ab_10 (by omega), w_ab_10 (by omega)]
theorem lk_s_lep {v : Int} (hv : 0 ≤ v ∧ v ≤ 10) : ∀ (n : Nat) (A : w_M), n ≤ 12 → 0 ≤ lk_s A v n (2 ^ n) ∧ lk_s A v n (2 ^ n) ≤ lk_p n := by
  intro n
  induction n with
  | zero => intro A _; rw [lk_0]; have := lk_p_pos 0; split <;> omega
  | succ n ih =>
    intro A hn
    rw [lk_rec (by omega), lk_p_s]
    have a := ih (n_hour A 0) (by omega)
    have b := ih (n_hour A 1) (by omega)
    have p := lk_p_pos n
    have a1 : 0 ≤ (10 - v) * lk_s (n_hour A 0) v n (2 ^ n) := Int.mul_nonneg (by omega) a.1
    have b1 : 0 ≤ v * lk_s (n_hour A 1) v n (2 ^ n) := Int.mul_nonneg (by omega) b.1
    have a2 : (10 - v) * lk_s (n_hour A 0) v n (2 ^ n) ≤ (10 - v) * lk_p n := Int.mul_le_mul_of_nonneg_left a.2 (by omega)
    have b2 : v * lk_s (n_hour A 1) v n (2 ^ n) ≤ v * lk_p n := Int.mul_le_mul_of_nonneg_left b.2 (by omega)
    have e : (10 - v) * lk_p n + v * lk_p n = lk_p n * 10 := by rw [← Int.add_mul, Int.mul_comm]; congr 1; omega
    omega
noncomputable def lk_U (A : w_M) (v : Int) : Int := lk_s A v (n_left A) (2 ^ n_left A)
noncomputable def p_Plan_weightFrom (x1 x2 : Int) (σ : w_M) : Prop := n_ok σ 32 ∧ (0 ≤ x2 ∧ x2 ≤ 10) ∧ (0 ≤ x1 ∧ x1 + (σ 32 0 - σ 32 1) ≤ 12)
noncomputable def q_Plan_weightFrom (x1 x2 : Int) (σ : w_M) (y : Int) (σ' : w_M) : Prop := y = lk_U (w_ab σ 32) x2 ∧ n_same (w_ab σ 32) (w_ab σ' 32) ∧ (∀ b, b < 32 ∨ 63 ≤ b ∨ (41 ≤ b ∧ b < 51 + x1.toNat) → σ' b = σ b)
theorem fPlan_weightFrom_0 : w_fe am_c82 0 1 (.aload 0) := ⟨rfl, rfl⟩
theorem fPlan_weightFrom_1 : w_fe am_c82 1 2 (.getfield 600) := ⟨rfl, rfl⟩
theorem fPlan_weightFrom_2 : w_fe am_c82 2 3 (.invokestatic 35) := ⟨rfl, rfl⟩
theorem fPlan_weightFrom_3 : w_fe am_c82 3 4 (.istore 3) := ⟨rfl, rfl⟩
theorem fPlan_weightFrom_4 : w_fe am_c82 4 5 (.aload 0) := ⟨rfl, rfl⟩
theorem fPlan_weightFrom_5 : w_fe am_c82 5 6 (.getfield 600) := ⟨rfl, rfl⟩
theorem fPlan_weightFrom_6 : w_fe am_c82 6 7 (.invokestatic 39) := ⟨rfl, rfl⟩
theorem fPlan_weightFrom_7 : w_fe am_c82 7 8 (.istore 4) := ⟨rfl, rfl⟩
theorem fPlan_weightFrom_8 : w_fe am_c82 8 9 (.iload 3) := ⟨rfl, rfl⟩
theorem fPlan_weightFrom_9 : w_if am_c82 9 10 .ne 13 := ⟨rfl, rfl⟩
theorem fPlan_weightFrom_10 : w_fe am_c82 10 11 (.iload 4) := ⟨rfl, rfl⟩
theorem fPlan_weightFrom_11 : w_fe am_c82 11 12 (.invokestatic 135) := ⟨rfl, rfl⟩
theorem fPlan_weightFrom_12 : w_fe am_c82 12 13 (.ireturn) := ⟨rfl, rfl⟩
theorem fPlan_weightFrom_13 : w_fe am_c82 13 14 (.iload 1) := ⟨rfl, rfl⟩
theorem fPlan_weightFrom_14 : w_fe am_c82 14 15 (.bipush 12) := ⟨rfl, rfl⟩
theorem fPlan_weightFrom_15 : w_ic am_c82 15 16 .ge 25 := ⟨rfl, rfl⟩
theorem fPlan_weightFrom_16 : w_fe am_c82 16 17 (.iload 4) := ⟨rfl, rfl⟩
theorem fPlan_weightFrom_17 : w_if am_c82 17 18 .le 25 := ⟨rfl, rfl⟩
theorem fPlan_weightFrom_18 : w_fe am_c82 18 19 (.iload 3) := ⟨rfl, rfl⟩
theorem fPlan_weightFrom_19 : w_fe am_c82 19 20 (.iload 4) := ⟨rfl, rfl⟩
theorem fPlan_weightFrom_20 : w_fe am_c82 20 21 (.aload 0) := ⟨rfl, rfl⟩
theorem fPlan_weightFrom_21 : w_fe am_c82 21 22 (.getfield 600) := ⟨rfl, rfl⟩
theorem fPlan_weightFrom_22 : w_fe am_c82 22 23 (.invokestatic 48) := ⟨rfl, rfl⟩
theorem fPlan_weightFrom_23 : w_fe am_c82 23 24 (.imul) := ⟨rfl, rfl⟩
theorem fPlan_weightFrom_24 : w_ic am_c82 24 25 .le 27 := ⟨rfl, rfl⟩
theorem fPlan_weightFrom_25 : w_fe am_c82 25 26 (.sipush 0) := ⟨rfl, rfl⟩
theorem fPlan_weightFrom_26 : w_fe am_c82 26 27 (.ireturn) := ⟨rfl, rfl⟩
theorem fPlan_weightFrom_27 : w_fe am_c82 27 28 (.aload 0) := ⟨rfl, rfl⟩
theorem fPlan_weightFrom_28 : w_fe am_c82 28 29 (.getfield 606) := ⟨rfl, rfl⟩
theorem fPlan_weightFrom_29 : w_fe am_c82 29 30 (.iload 1) := ⟨rfl, rfl⟩
theorem fPlan_weightFrom_30 : w_fe am_c82 30 31 (.aaload) := ⟨rfl, rfl⟩
theorem fPlan_weightFrom_31 : w_fe am_c82 31 32 (.astore 5) := ⟨rfl, rfl⟩
theorem fPlan_weightFrom_32 : w_fe am_c82 32 33 (.aload 0) := ⟨rfl, rfl⟩
theorem fPlan_weightFrom_33 : w_fe am_c82 33 34 (.aload 5) := ⟨rfl, rfl⟩
theorem fPlan_weightFrom_34 : w_fe am_c82 34 35 (.invokestatic 83) := ⟨rfl, rfl⟩
theorem fPlan_weightFrom_35 : w_fe am_c82 35 36 (.sipush 0) := ⟨rfl, rfl⟩
theorem fPlan_weightFrom_36 : w_fe am_c82 36 37 (.lstore 6) := ⟨rfl, rfl⟩
theorem fPlan_weightFrom_37 : w_fe am_c82 37 38 (.iload 2) := ⟨rfl, rfl⟩
theorem fPlan_weightFrom_38 : w_if am_c82 38 39 .le 59 := ⟨rfl, rfl⟩
theorem fPlan_weightFrom_39 : w_fe am_c82 39 40 (.aload 0) := ⟨rfl, rfl⟩
theorem fPlan_weightFrom_40 : w_fe am_c82 40 41 (.getfield 600) := ⟨rfl, rfl⟩
theorem fPlan_weightFrom_41 : w_fe am_c82 41 42 (.bipush 1) := ⟨rfl, rfl⟩
theorem fPlan_weightFrom_42 : w_fe am_c82 42 43 (.invokestatic 41) := ⟨rfl, rfl⟩
theorem fPlan_weightFrom_43 : w_fe am_c82 43 44 (.pop) := ⟨rfl, rfl⟩
theorem fPlan_weightFrom_44 : w_fe am_c82 44 45 (.lload 6) := ⟨rfl, rfl⟩
theorem fPlan_weightFrom_45 : w_fe am_c82 45 46 (.iload 2) := ⟨rfl, rfl⟩
theorem fPlan_weightFrom_46 : w_fe am_c82 46 47 (.i2l) := ⟨rfl, rfl⟩
theorem fPlan_weightFrom_47 : w_fe am_c82 47 48 (.aload 0) := ⟨rfl, rfl⟩
theorem fPlan_weightFrom_48 : w_fe am_c82 48 49 (.iload 1) := ⟨rfl, rfl⟩
theorem fPlan_weightFrom_49 : w_fe am_c82 49 50 (.bipush 1) := ⟨rfl, rfl⟩
theorem fPlan_weightFrom_50 : w_fe am_c82 50 51 (.iadd) := ⟨rfl, rfl⟩
theorem fPlan_weightFrom_51 : w_fe am_c82 51 52 (.iload 2) := ⟨rfl, rfl⟩
theorem fPlan_weightFrom_52 : w_fe am_c82 52 53 (.invokestatic 82) := ⟨rfl, rfl⟩
theorem fPlan_weightFrom_53 : w_fe am_c82 53 54 (.lmul) := ⟨rfl, rfl⟩
theorem fPlan_weightFrom_54 : w_fe am_c82 54 55 (.ladd) := ⟨rfl, rfl⟩
theorem fPlan_weightFrom_55 : w_fe am_c82 55 56 (.lstore 6) := ⟨rfl, rfl⟩
theorem fPlan_weightFrom_56 : w_fe am_c82 56 57 (.aload 0) := ⟨rfl, rfl⟩
theorem fPlan_weightFrom_57 : w_fe am_c82 57 58 (.aload 5) := ⟨rfl, rfl⟩
theorem fPlan_weightFrom_58 : w_fe am_c82 58 59 (.invokestatic 84) := ⟨rfl, rfl⟩
theorem fPlan_weightFrom_59 : w_fe am_c82 59 60 (.iload 2) := ⟨rfl, rfl⟩
theorem fPlan_weightFrom_60 : w_fe am_c82 60 61 (.bipush 10) := ⟨rfl, rfl⟩
theorem fPlan_weightFrom_61 : w_ic am_c82 61 62 .ge 81 := ⟨rfl, rfl⟩
theorem fPlan_weightFrom_62 : w_fe am_c82 62 63 (.aload 0) := ⟨rfl, rfl⟩
theorem fPlan_weightFrom_63 : w_fe am_c82 63 64 (.getfield 600) := ⟨rfl, rfl⟩
theorem fPlan_weightFrom_64 : w_fe am_c82 64 65 (.bipush 0) := ⟨rfl, rfl⟩
theorem fPlan_weightFrom_65 : w_fe am_c82 65 66 (.invokestatic 41) := ⟨rfl, rfl⟩
theorem fPlan_weightFrom_66 : w_fe am_c82 66 67 (.pop) := ⟨rfl, rfl⟩
theorem fPlan_weightFrom_67 : w_fe am_c82 67 68 (.lload 6) := ⟨rfl, rfl⟩
theorem fPlan_weightFrom_68 : w_fe am_c82 68 69 (.bipush 10) := ⟨rfl, rfl⟩
theorem fPlan_weightFrom_69 : w_fe am_c82 69 70 (.iload 2) := ⟨rfl, rfl⟩
theorem fPlan_weightFrom_70 : w_fe am_c82 70 71 (.isub) := ⟨rfl, rfl⟩
theorem fPlan_weightFrom_71 : w_fe am_c82 71 72 (.i2l) := ⟨rfl, rfl⟩
theorem fPlan_weightFrom_72 : w_fe am_c82 72 73 (.aload 0) := ⟨rfl, rfl⟩
theorem fPlan_weightFrom_73 : w_fe am_c82 73 74 (.iload 1) := ⟨rfl, rfl⟩
theorem fPlan_weightFrom_74 : w_fe am_c82 74 75 (.bipush 1) := ⟨rfl, rfl⟩
theorem fPlan_weightFrom_75 : w_fe am_c82 75 76 (.iadd) := ⟨rfl, rfl⟩
theorem fPlan_weightFrom_76 : w_fe am_c82 76 77 (.iload 2) := ⟨rfl, rfl⟩
theorem fPlan_weightFrom_77 : w_fe am_c82 77 78 (.invokestatic 82) := ⟨rfl, rfl⟩
theorem fPlan_weightFrom_78 : w_fe am_c82 78 79 (.lmul) := ⟨rfl, rfl⟩
theorem fPlan_weightFrom_79 : w_fe am_c82 79 80 (.ladd) := ⟨rfl, rfl⟩
theorem fPlan_weightFrom_80 : w_fe am_c82 80 81 (.lstore 6) := ⟨rfl, rfl⟩
theorem fPlan_weightFrom_81 : w_fe am_c82 81 82 (.lload 6) := ⟨rfl, rfl⟩
theorem fPlan_weightFrom_82 : w_fe am_c82 82 83 (.ireturn) := ⟨rfl, rfl⟩
set_option maxRecDepth 20000 in
theorem bPlan_weightFrom_0 {xs : List Int} {d : Nat} {Q : Option w_V → w_M → Prop} {x1 : Int} {x2 : Int} {σ : w_M}
    {pW : Int → Int → w_M → Prop} (kW : ∀ {Q : Option w_V → w_M → Prop} {x1 : Int} {x2 : Int} {σ : w_M}, pW x1 x2 σ → (∀ (x : Int) (σ' : w_M), q_Plan_weightFrom x1 x2 σ x σ' → Q (some (.inr (.inl x))) σ') → w_Call (xs, d + 3) 82 [.inr (.inr (6, 31)), .inl x1, .inl x2] σ Q)
    (h : p_Field_standing 32 σ ∧ (∀ (y1 : Int), y1 = v_Field_standing 32 σ → (p_Field_hoursLeft 32 σ ∧ (∀ (y2 : Int), y2 = (σ 32 0 - σ 32 1) → ((¬ y1 = 0 → ((12 ≤ x1 → Q (some (.inr (.inl 0))) σ) ∧ (x1 < 12 → ((y2 ≤ 0 → Q (some (.inr (.inl 0))) σ) ∧ (0 < y2 → (p_Field_allPaces 32 σ ∧ (∀ (y3 : Int), y3 = v_Field_allPaces 32 σ → (w_in (y2 * y3) ∧ ((y1 ≤ (y2 * y3) → (0 ≤ x1 ∧ p_Plan_save (51 + x1.toNat) σ ∧ (∀ (τ4 : w_M), q_Plan_save (51 + x1.toNat) σ τ4 → ((x2 ≤ 0 → ((10 ≤ x2 → Q (some (.inr (.inl 0))) τ4) ∧ (x2 < 10 → (p_Field_passHour 32 0 τ4 ∧ (∀ (y5 : Int) (τ6 : w_M), q_Field_passHour 32 0 τ4 y5 τ6 → (w_in (10 - x2) ∧ w_in (x1 + 1) ∧ pW (x1 + 1) x2 τ6 ∧ (∀ (y7 : Int) (τ8 : w_M), q_Plan_weightFrom (x1 + 1) x2 τ6 y7 τ8 → (w_inl ((10 - x2) * y7) ∧ w_inl (0 + ((10 - x2) * y7)) ∧ (∀ (y9 : Int), y9 = (0 + ((10 - x2) * y7)) → Q (some (.inr (.inl y9))) τ8))))))))) ∧ (0 < x2 → (p_Field_passHour 32 1 τ4 ∧ (∀ (y11 : Int) (τ12 : w_M), q_Field_passHour 32 1 τ4 y11 τ12 → (w_in (x1 + 1) ∧ pW (x1 + 1) x2 τ12 ∧ (∀ (y13 : Int) (τ14 : w_M), q_Plan_weightFrom (x1 + 1) x2 τ12 y13 τ14 → (w_inl (x2 * y13) ∧ w_inl (0 + (x2 * y13)) ∧ (∀ (y15 : Int), y15 = (0 + (x2 * y13)) → (p_Plan_restore (51 + x1.toNat) τ14 ∧ (∀ (τ16 : w_M), q_Plan_restore (51 + x1.toNat) τ14 τ16 → ((10 ≤ x2 → Q (some (.inr (.inl y15))) τ16) ∧ (x2 < 10 → (p_Field_passHour 32 0 τ16 ∧ (∀ (y17 : Int) (τ18 : w_M), q_Field_passHour 32 0 τ16 y17 τ18 → (w_in (10 - x2) ∧ pW (x1 + 1) x2 τ18 ∧ (∀ (y19 : Int) (τ20 : w_M), q_Plan_weightFrom (x1 + 1) x2 τ18 y19 τ20 → (w_inl ((10 - x2) * y19) ∧ w_inl (y15 + ((10 - x2) * y19)) ∧ (∀ (y21 : Int), y21 = (y15 + ((10 - x2) * y19)) → Q (some (.inr (.inl y21))) τ20))))))))))))))))))))) ∧ ((y2 * y3) < y1 → Q (some (.inr (.inl 0))) σ)))))))))) ∧ (y1 = 0 → (p_Moon_tenTo y2 σ ∧ (∀ (y27 : Int) (τ28 : w_M), q_Moon_tenTo y2 σ y27 τ28 → Q (some (.inr (.inl y27))) τ28)))))))) : w_Call (xs, (d + 4)) 82 [.inr (.inr (6, 31)), .inl x1, .inl x2] σ Q :=
  (w_mk (mid := 82) (by decide) rfl rfl rfl rfl rfl (Nat.le_of_ble_eq_true rfl) ⟨rfl, Or.inl (by decide)⟩ (wi_aload0 fPlan_weightFrom_0 (wi_getf600 fPlan_weightFrom_1 (wi_call1 fPlan_weightFrom_2 (Nat.le_of_ble_eq_true rfl) (k_Field_standing h.1 (wi_istore3 fPlan_weightFrom_3 trivial (wi_aload0 fPlan_weightFrom_4 (wi_getf600 fPlan_weightFrom_5 (wi_call1 fPlan_weightFrom_6 (Nat.le_of_ble_eq_true rfl) (k_Field_hoursLeft (h.2 _ rfl).1 (wi_istore4 fPlan_weightFrom_7 trivial (wi_iload3 fPlan_weightFrom_8 (wi_if_ne fPlan_weightFrom_9 (fun c29 => (wi_iload1 fPlan_weightFrom_13 (wi_bipush fPlan_weightFrom_14 (wi_ic_ge fPlan_weightFrom_15 (fun c26 => (wi_sipush fPlan_weightFrom_25 (wi_ret3 fPlan_weightFrom_26 ((((h.2 _ rfl).2 _ rfl).1 c29).1 c26)))) (fun c26 => (wi_iload4 fPlan_weightFrom_16 (wi_if_le fPlan_weightFrom_17 (fun c25 => (wi_sipush fPlan_weightFrom_25 (wi_ret3 fPlan_weightFrom_26 (((((h.2 _ rfl).2 _ rfl).1 c29).2 c26).1 c25)))) (fun c25 => (wi_iload3 fPlan_weightFrom_18 (wi_iload4 fPlan_weightFrom_19 (wi_aload0 fPlan_weightFrom_20 (wi_getf600 fPlan_weightFrom_21 (wi_call1 fPlan_weightFrom_22 (Nat.le_of_ble_eq_true rfl) (k_Field_allPaces (((((h.2 _ rfl).2 _ rfl).1 c29).2 c26).2 c25).1 (wi_imul fPlan_weightFrom_23 ((((((h.2 _ rfl).2 _ rfl).1 c29).2 c26).2 c25).2 _ rfl).1 (wi_ic_le fPlan_weightFrom_24 (fun c24 => (wi_aload0 fPlan_weightFrom_27 (wi_getf606 fPlan_weightFrom_28 (wi_iload1 fPlan_weightFrom_29 (wi_aald11220 fPlan_weightFrom_30 (((((((h.2 _ rfl).2 _ rfl).1 c29).2 c26).2 c25).2 _ rfl).2.1 c24).1 c26 (wi_astore5 fPlan_weightFrom_31 trivial (wi_aload0 fPlan_weightFrom_32 (wi_aload5 fPlan_weightFrom_33 (wi_call2 fPlan_weightFrom_34 (Nat.le_of_ble_eq_true rfl) (k_Plan_save (((((((h.2 _ rfl).2 _ rfl).1 c29).2 c26).2 c25).2 _ rfl).2.1 c24).2.1 (fun τ4 eτ4 => (wi_sipush fPlan_weightFrom_35 (wi_lstore6 fPlan_weightFrom_36 trivial (wi_iload2 fPlan_weightFrom_37 (wi_if_le fPlan_weightFrom_38 (fun c23 => (wi_iload2 fPlan_weightFrom_59 (wi_bipush fPlan_weightFrom_60 (wi_ic_ge fPlan_weightFrom_61 (fun c10 => (wi_lload6 fPlan_weightFrom_81 (wi_ret3 fPlan_weightFrom_82 ((((((((((h.2 _ rfl).2 _ rfl).1 c29).2 c26).2 c25).2 _ rfl).2.1 c24).2.2 τ4 eτ4).1 c23).1 c10)))) (fun c10 => (wi_aload0 fPlan_weightFrom_62 (wi_getf600 fPlan_weightFrom_63 (wi_bipush fPlan_weightFrom_64 (wi_call2 fPlan_weightFrom_65 (Nat.le_of_ble_eq_true rfl) (k_Field_passHour ((((((((((h.2 _ rfl).2 _ rfl).1 c29).2 c26).2 c25).2 _ rfl).2.1 c24).2.2 τ4 eτ4).1 c23).2 c10).1 (fun y5 τ6 eτ6 => (wi_pop_i fPlan_weightFrom_66 (wi_lload6 fPlan_weightFrom_67 (wi_bipush fPlan_weightFrom_68 (wi_iload2 fPlan_weightFrom_69 (wi_isub fPlan_weightFrom_70 (((((((((((h.2 _ rfl).2 _ rfl).1 c29).2 c26).2 c25).2 _ rfl).2.1 c24).2.2 τ4 eτ4).1 c23).2 c10).2 y5 τ6 eτ6).1 (wi_i2l fPlan_weightFrom_71 (wi_aload0 fPlan_weightFrom_72 (wi_iload1 fPlan_weightFrom_73 (wi_bipush fPlan_weightFrom_74 (wi_iadd fPlan_weightFrom_75 (((((((((((h.2 _ rfl).2 _ rfl).1 c29).2 c26).2 c25).2 _ rfl).2.1 c24).2.2 τ4 eτ4).1 c23).2 c10).2 y5 τ6 eτ6).2.1 (wi_iload2 fPlan_weightFrom_76 (wi_call3 fPlan_weightFrom_77 (Nat.le_of_ble_eq_true rfl) (kW (((((((((((h.2 _ rfl).2 _ rfl).1 c29).2 c26).2 c25).2 _ rfl).2.1 c24).2.2 τ4 eτ4).1 c23).2 c10).2 y5 τ6 eτ6).2.2.1 (fun y7 τ8 eτ8 => (wi_lmul fPlan_weightFrom_78 ((((((((((((h.2 _ rfl).2 _ rfl).1 c29).2 c26).2 c25).2 _ rfl).2.1 c24).2.2 τ4 eτ4).1 c23).2 c10).2 y5 τ6 eτ6).2.2.2 y7 τ8 eτ8).1 (wi_ladd fPlan_weightFrom_79 ((((((((((((h.2 _ rfl).2 _ rfl).1 c29).2 c26).2 c25).2 _ rfl).2.1 c24).2.2 τ4 eτ4).1 c23).2 c10).2 y5 τ6 eτ6).2.2.2 y7 τ8 eτ8).2.1 (wi_lstore6 fPlan_weightFrom_80 trivial (wi_lload6 fPlan_weightFrom_81 (wi_ret3 fPlan_weightFrom_82 (((((((((((((h.2 _ rfl).2 _ rfl).1 c29).2 c26).2 c25).2 _ rfl).2.1 c24).2.2 τ4 eτ4).1 c23).2 c10).2 y5 τ6 eτ6).2.2.2 y7 τ8 eτ8).2.2 _ rfl))))))))))))))))))))))))))))))) (fun c23 => (wi_aload0 fPlan_weightFrom_39 (wi_getf600 fPlan_weightFrom_40 (wi_bipush fPlan_weightFrom_41 (wi_call2 fPlan_weightFrom_42 (Nat.le_of_ble_eq_true rfl) (k_Field_passHour (((((((((h.2 _ rfl).2 _ rfl).1 c29).2 c26).2 c25).2 _ rfl).2.1 c24).2.2 τ4 eτ4).2 c23).1 (fun y11 τ12 eτ12 => (wi_pop_i fPlan_weightFrom_43 (wi_lload6 fPlan_weightFrom_44 (wi_iload2 fPlan_weightFrom_45 (wi_i2l fPlan_weightFrom_46 (wi_aload0 fPlan_weightFrom_47 (wi_iload1 fPlan_weightFrom_48 (wi_bipush fPlan_weightFrom_49 (wi_iadd fPlan_weightFrom_50 ((((((((((h.2 _ rfl).2 _ rfl).1 c29).2 c26).2 c25).2 _ rfl).2.1 c24).2.2 τ4 eτ4).2 c23).2 y11 τ12 eτ12).1 (wi_iload2 fPlan_weightFrom_51 (wi_call3 fPlan_weightFrom_52 (Nat.le_of_ble_eq_true rfl) (kW ((((((((((h.2 _ rfl).2 _ rfl).1 c29).2 c26).2 c25).2 _ rfl).2.1 c24).2.2 τ4 eτ4).2 c23).2 y11 τ12 eτ12).2.1 (fun y13 τ14 eτ14 => (wi_lmul fPlan_weightFrom_53 (((((((((((h.2 _ rfl).2 _ rfl).1 c29).2 c26).2 c25).2 _ rfl).2.1 c24).2.2 τ4 eτ4).2 c23).2 y11 τ12 eτ12).2.2 y13 τ14 eτ14).1 (wi_ladd fPlan_weightFrom_54 (((((((((((h.2 _ rfl).2 _ rfl).1 c29).2 c26).2 c25).2 _ rfl).2.1 c24).2.2 τ4 eτ4).2 c23).2 y11 τ12 eτ12).2.2 y13 τ14 eτ14).2.1 (wi_lstore6 fPlan_weightFrom_55 trivial (wi_aload0 fPlan_weightFrom_56 (wi_aload5 fPlan_weightFrom_57 (wi_call2 fPlan_weightFrom_58 (Nat.le_of_ble_eq_true rfl) (k_Plan_restore ((((((((((((h.2 _ rfl).2 _ rfl).1 c29).2 c26).2 c25).2 _ rfl).2.1 c24).2.2 τ4 eτ4).2 c23).2 y11 τ12 eτ12).2.2 y13 τ14 eτ14).2.2 _ rfl).1 (fun τ16 eτ16 => (wi_iload2 fPlan_weightFrom_59 (wi_bipush fPlan_weightFrom_60 (wi_ic_ge fPlan_weightFrom_61 (fun c22 => (wi_lload6 fPlan_weightFrom_81 (wi_ret3 fPlan_weightFrom_82 ((((((((((((((h.2 _ rfl).2 _ rfl).1 c29).2 c26).2 c25).2 _ rfl).2.1 c24).2.2 τ4 eτ4).2 c23).2 y11 τ12 eτ12).2.2 y13 τ14 eτ14).2.2 _ rfl).2 τ16 eτ16).1 c22)))) (fun c22 => (wi_aload0 fPlan_weightFrom_62 (wi_getf600 fPlan_weightFrom_63 (wi_bipush fPlan_weightFrom_64 (wi_call2 fPlan_weightFrom_65 (Nat.le_of_ble_eq_true rfl) (k_Field_passHour ((((((((((((((h.2 _ rfl).2 _ rfl).1 c29).2 c26).2 c25).2 _ rfl).2.1 c24).2.2 τ4 eτ4).2 c23).2 y11 τ12 eτ12).2.2 y13 τ14 eτ14).2.2 _ rfl).2 τ16 eτ16).2 c22).1 (fun y17 τ18 eτ18 => (wi_pop_i fPlan_weightFrom_66 (wi_lload6 fPlan_weightFrom_67 (wi_bipush fPlan_weightFrom_68 (wi_iload2 fPlan_weightFrom_69 (wi_isub fPlan_weightFrom_70 (((((((((((((((h.2 _ rfl).2 _ rfl).1 c29).2 c26).2 c25).2 _ rfl).2.1 c24).2.2 τ4 eτ4).2 c23).2 y11 τ12 eτ12).2.2 y13 τ14 eτ14).2.2 _ rfl).2 τ16 eτ16).2 c22).2 y17 τ18 eτ18).1 (wi_i2l fPlan_weightFrom_71 (wi_aload0 fPlan_weightFrom_72 (wi_iload1 fPlan_weightFrom_73 (wi_bipush fPlan_weightFrom_74 (wi_iadd fPlan_weightFrom_75 ((((((((((h.2 _ rfl).2 _ rfl).1 c29).2 c26).2 c25).2 _ rfl).2.1 c24).2.2 τ4 eτ4).2 c23).2 y11 τ12 eτ12).1 (wi_iload2 fPlan_weightFrom_76 (wi_call3 fPlan_weightFrom_77 (Nat.le_of_ble_eq_true rfl) (kW (((((((((((((((h.2 _ rfl).2 _ rfl).1 c29).2 c26).2 c25).2 _ rfl).2.1 c24).2.2 τ4 eτ4).2 c23).2 y11 τ12 eτ12).2.2 y13 τ14 eτ14).2.2 _ rfl).2 τ16 eτ16).2 c22).2 y17 τ18 eτ18).2.1 (fun y19 τ20 eτ20 => (wi_lmul fPlan_weightFrom_78 ((((((((((((((((h.2 _ rfl).2 _ rfl).1 c29).2 c26).2 c25).2 _ rfl).2.1 c24).2.2 τ4 eτ4).2 c23).2 y11 τ12 eτ12).2.2 y13 τ14 eτ14).2.2 _ rfl).2 τ16 eτ16).2 c22).2 y17 τ18 eτ18).2.2 y19 τ20 eτ20).1 (wi_ladd fPlan_weightFrom_79 ((((((((((((((((h.2 _ rfl).2 _ rfl).1 c29).2 c26).2 c25).2 _ rfl).2.1 c24).2.2 τ4 eτ4).2 c23).2 y11 τ12 eτ12).2.2 y13 τ14 eτ14).2.2 _ rfl).2 τ16 eτ16).2 c22).2 y17 τ18 eτ18).2.2 y19 τ20 eτ20).2.1 (wi_lstore6 fPlan_weightFrom_80 trivial (wi_lload6 fPlan_weightFrom_81 (wi_ret3 fPlan_weightFrom_82 (((((((((((((((((h.2 _ rfl).2 _ rfl).1 c29).2 c26).2 c25).2 _ rfl).2.1 c24).2.2 τ4 eτ4).2 c23).2 y11 τ12 eτ12).2.2 y13 τ14 eτ14).2.2 _ rfl).2 τ16 eτ16).2 c22).2 y17 τ18 eτ18).2.2 y19 τ20 eτ20).2.2 _ rfl)))))))))))))))))))))))))))))))))))))))))))))))))))))))))))))))))))))))) (fun c24 => (wi_sipush fPlan_weightFrom_25 (wi_ret3 fPlan_weightFrom_26 (((((((h.2 _ rfl).2 _ rfl).1 c29).2 c26).2 c25).2 _ rfl).2.2 c24)))))))))))))))))))) (fun c29 => (wi_iload4 fPlan_weightFrom_10 (wi_call1 fPlan_weightFrom_11 (Nat.le_of_ble_eq_true rfl) (k_Moon_tenTo (((h.2 _ rfl).2 _ rfl).2 c29).1 (fun y27 τ28 eτ28 => (wi_ret3 fPlan_weightFrom_12 ((((h.2 _ rfl).2 _ rfl).2 c29).2 y27 τ28 eτ28))))))))))))))))))))
theorem lk_nl {A B : w_M} (h : B 0 0 = A 0 0) (h1 : B 0 1 = A 0 1 + 1) (hh : A 0 1 < A 0 0) : n_left A = n_left B + 1 := by
  unfold n_left
  omega
set_option maxHeartbeats 4000000 in
theorem kk_Plan_weightFrom {xs : List Int} : ∀ (n : Nat) {d : Nat} {Q : Option w_V → w_M → Prop} {x1 x2 : Int} {σ : w_M}, p_Plan_weightFrom x1 x2 σ ∧ n_left (w_ab σ 32) = n → (∀ (x : Int) (σ' : w_M), q_Plan_weightFrom x1 x2 σ x σ' → Q (some (.inr (.inl x))) σ') → w_Call (xs, d + 4 + n) 82 [.inr (.inr (6, 31)), .inl x1, .inl x2] σ Q := by
  intro n
  induction n with
  | zero =>
    intro d Q x1 x2 σ hp hQ
    obtain ⟨⟨hok, hv, hx⟩, hn⟩ := hp
    have hrs := n_ok.hrs hok
    have hr := n_ok.hr hok
    have hl : σ 32 0 = σ 32 1 := by
      have : (σ 32 0 - σ 32 1).toNat = 0 := hn
      omega
    have hsd := n_sd_le hok
    have eU : lk_U (w_ab σ 32) x2 = if n_sd (w_ab σ 32) = 0 then 1 else 0 := by unfold lk_U; rw [hn]; exact lk_0
    refine bPlan_weightFrom_0 (pW := fun _ _ _ => False) (fun h => h.elim) ⟨hok, fun y1 e1 => ⟨⟨by omega, by omega⟩, fun y2 e2 => ⟨fun c => ⟨fun c2 => ?_, fun c2 => ⟨fun c3 => ?_, fun c3 => by omega⟩⟩, fun c => ⟨⟨by omega, by omega⟩, fun y τ hq => ?_⟩⟩⟩⟩
    · exact hQ _ _ ⟨by rw [eU, if_neg (by rw [← show v_Field_standing 32 σ = n_sd (w_ab σ 32) from rfl, ← e1]; exact c)], n_same.rfl', fun _ _ => rfl⟩
    · exact hQ _ _ ⟨by rw [eU, if_neg (by rw [← show v_Field_standing 32 σ = n_sd (w_ab σ 32) from rfl, ← e1]; exact c)], n_same.rfl', fun _ _ => rfl⟩
    · obtain ⟨rfl, rfl⟩ := hq
      refine hQ _ _ ⟨?_, n_same.rfl', fun _ _ => rfl⟩
      rw [eU, if_pos (by rw [← show v_Field_standing 32 τ = n_sd (w_ab τ 32) from rfl, ← e1]; exact c), show y2.toNat = 0 by omega]
      rfl
  | succ n ih =>
    intro d Q x1 x2 σ hp hQ
    obtain ⟨⟨hok, hv, hx⟩, hn⟩ := hp
    have hrs := n_ok.hrs hok
    have hr := n_ok.hr hok
    have hl : σ 32 0 - σ 32 1 = ((n + 1 : Nat) : Int) := by
      have : (σ 32 0 - σ 32 1).toNat = n + 1 := hn
      omega
    have hA1 : w_ab σ 32 0 1 = σ 32 1 := rfl
    have hA0 : w_ab σ 32 0 0 = σ 32 0 := rfl
    have hsd := n_sd_le hok
    have hpc := n_pcs_le hok
    have esd : v_Field_standing 32 σ = n_sd (w_ab σ 32) := rfl
    have epc : v_Field_allPaces 32 σ = n_pcs (w_ab σ 32) := rfl
    have eU : lk_U (w_ab σ 32) x2 = (10 - x2) * lk_s (n_hour (w_ab σ 32) 0) x2 n (2 ^ n) + x2 * lk_s (n_hour (w_ab σ 32) 1) x2 n (2 ^ n) := by unfold lk_U; rw [hn]; exact lk_rec (by omega)
    have s0 := lk_s_lep hv n (n_hour (w_ab σ 32) 0) (by omega)
    have s1 := lk_s_lep hv n (n_hour (w_ab σ 32) 1) (by omega)
    have pn := lk_p_le (k := n) (by omega)
    have m0 : 0 ≤ (10 - x2) * lk_s (n_hour (w_ab σ 32) 0) x2 n (2 ^ n) ∧ (10 - x2) * lk_s (n_hour (w_ab σ 32) 0) x2 n (2 ^ n) ≤ 10 * 1000000000000 := ⟨Int.mul_nonneg (by omega) s0.1, Int.mul_le_mul (by omega) (by omega) s0.1 (by decide)⟩
    have m1 : 0 ≤ x2 * lk_s (n_hour (w_ab σ 32) 1) x2 n (2 ^ n) ∧ x2 * lk_s (n_hour (w_ab σ 32) 1) x2 n (2 ^ n) ≤ 10 * 1000000000000 := ⟨Int.mul_nonneg (by omega) s1.1, Int.mul_le_mul (by omega) (by omega) s1.1 (by decide)⟩
    have ed : d + 4 + (n + 1) = (d + n + 1) + 4 := by omega
    have ed3 : (d + n + 1) + 3 = d + 4 + n := by omega
    rw [ed]
    refine bPlan_weightFrom_0 (d := d + n + 1) (pW := fun x1 x2 σ => p_Plan_weightFrom x1 x2 σ ∧ n_left (w_ab σ 32) = n) (fun h hQ => by rw [ed3]; exact ih h hQ) ⟨hok, fun y1 e1 => ⟨⟨by omega, by omega⟩, fun y2 e2 => ⟨fun c => ⟨fun c2 => by omega, fun c2 => ⟨fun c3 => by omega, fun c3 => ⟨hok, fun y3 e3 => ?_⟩⟩⟩, fun c => ⟨⟨by omega, by omega⟩, fun y τ hq => ?_⟩⟩⟩⟩
    · rw [epc] at e3
      rw [esd] at e1
      have e23 : y2 * y3 = ((n + 1 : Nat) : Int) * n_pcs (w_ab σ 32) := by rw [e2, e3, hl]
      have b23 : 0 ≤ y2 * y3 ∧ y2 * y3 ≤ 12 * 36 := by
        rw [e23]
        exact ⟨Int.mul_nonneg (by omega) hpc.1, Int.mul_le_mul (by omega) hpc.2 hpc.1 (by decide)⟩
      refine ⟨⟨by omega, by omega⟩, fun c4 => ⟨hx.1, (by show 51 ≤ 51 + x1.toNat; omega), fun τ4 hq4 => ?_⟩, fun c4 => ?_⟩
      · obtain ⟨v0, v1, v8, v12, v16, F4⟩ := hq4
        have ab4 : w_ab τ4 32 = w_ab σ 32 := w_ab_fr (fun d hd => F4 _ (by omega))
        have ok4 : n_ok τ4 32 := n_ok.of ab4 hok
        have z32 : τ4 32 = σ 32 := F4 32 (by omega)
        have lt4 : τ4 32 1 < τ4 32 0 := by rw [z32]; omega
        have fin0 : ∀ (τ5 : w_M) (y : Int) (τ6 : w_M), n_lk (w_ab σ 32) (w_ab τ5 32) → q_Field_passHour 32 0 τ5 y τ6 → (p_Plan_weightFrom (x1 + 1) x2 τ6 ∧ n_left (w_ab τ6 32) = n) ∧ lk_U (w_ab τ6 32) x2 = lk_s (n_hour (w_ab σ 32) 0) x2 n (2 ^ n) := fun τ5 y τ6 hl5 hq => by
          have g := (hl5.hour 0)
          rw [← hq.1] at g
          obtain ⟨w1, w2, w3, -⟩ := n_hour_all hok (c := 0) (by omega) (Or.inl rfl)
          have ok6 : n_ok τ6 32 := g.WF w1
          have a0 : τ6 32 0 = σ 32 0 := (g.1 0 (by decide)).trans (w2.1 0 (by decide) (by decide))
          have a1 : τ6 32 1 = σ 32 1 + 1 := (g.1 1 (by decide)).trans w3
          have nl : n_left (w_ab τ6 32) = n := by show (τ6 32 0 - τ6 32 1).toNat = n; omega
          refine ⟨⟨⟨ok6, hv, by omega, by omega⟩, nl⟩, ?_⟩
          unfold lk_U
          rw [nl]
          exact g.lk
        have fin1 : ∀ (τ5 : w_M) (y : Int) (τ6 : w_M), n_lk (w_ab σ 32) (w_ab τ5 32) → q_Field_passHour 32 1 τ5 y τ6 → (p_Plan_weightFrom (x1 + 1) x2 τ6 ∧ n_left (w_ab τ6 32) = n) ∧ lk_U (w_ab τ6 32) x2 = lk_s (n_hour (w_ab σ 32) 1) x2 n (2 ^ n) := fun τ5 y τ6 hl5 hq => by
          have g := (hl5.hour 1)
          rw [← hq.1] at g
          obtain ⟨w1, w2, w3, -⟩ := n_hour_all hok (c := 1) (by omega) (Or.inr rfl)
          have ok6 : n_ok τ6 32 := g.WF w1
          have a0 : τ6 32 0 = σ 32 0 := (g.1 0 (by decide)).trans (w2.1 0 (by decide) (by decide))
          have a1 : τ6 32 1 = σ 32 1 + 1 := (g.1 1 (by decide)).trans w3
          have nl : n_left (w_ab τ6 32) = n := by show (τ6 32 0 - τ6 32 1).toNat = n; omega
          refine ⟨⟨⟨ok6, hv, by omega, by omega⟩, nl⟩, ?_⟩
          unfold lk_U
          rw [nl]
          exact g.lk
        have lk4 : n_lk (w_ab σ 32) (w_ab τ4 32) := by rw [ab4]; exact n_lk.rfl'
        refine ⟨fun c5 => ⟨fun c6 => by omega, fun c6 => ⟨⟨ok4, lt4, Or.inl rfl⟩, fun y5 τ6 hq6 => ?_⟩⟩, fun c5 => ⟨⟨ok4, lt4, Or.inr rfl⟩, fun y11 τ12 hq12 => ?_⟩⟩
        · obtain ⟨pw, eu⟩ := fin0 τ4 y5 τ6 lk4 hq6
          refine ⟨⟨by omega, by omega⟩, ⟨by omega, by omega⟩, pw, fun y7 τ8 hq8 => ?_⟩
          obtain ⟨r1, r2, r3⟩ := hq8
          rw [eu] at r1
          rw [r1]
          refine ⟨⟨by omega, by omega⟩, ⟨by omega, by omega⟩, fun y9 e9 => hQ _ _ ⟨?_, ?_, ?_⟩⟩
          · rw [eU, e9, show x2 = 0 by omega]; omega
          · have n6 := (n_hour_all hok (c := 0) (by omega) (Or.inl rfl)).2.1
            have := hq6.1
            rw [ab4] at this
            rw [← this] at n6
            exact n6.tr r2
          · intro b hb
            rw [r3 b (by omega), hq6.2.2.1 b (by omega), F4 b (by omega)]
        · obtain ⟨pw, eu⟩ := fin1 τ4 y11 τ12 lk4 hq12
          refine ⟨⟨by omega, by omega⟩, pw, fun y13 τ14 hq14 => ?_⟩
          obtain ⟨r1, r2, r3⟩ := hq14
          rw [eu] at r1
          have n12 : n_same (w_ab σ 32) (w_ab τ14 32) := by
            have n6 := (n_hour_all hok (c := 1) (by omega) (Or.inr rfl)).2.1
            have := hq12.1
            rw [ab4] at this
            rw [← this] at n6
            exact n6.tr r2
          have row : τ14 (51 + x1.toNat) = τ4 (51 + x1.toNat) := by rw [r3 _ (by omega), hq12.2.2.1 _ (by omega)]
          rw [r1]
          refine ⟨⟨by omega, by omega⟩, ⟨by omega, by omega⟩, fun y15 e15 => ⟨(by show 51 ≤ 51 + x1.toNat; omega), fun τ16 hq16 => ?_⟩⟩
          obtain ⟨u1, u2, u3, u4, u5, u6, u7⟩ := hq16
          rw [row] at u1 u3 u4 u5 u6
          have lk16 : n_lk (w_ab σ 32) (w_ab τ16 32) := lk_rs hok n12 (u1.trans v0) u2 (fun i hi => (u3 i hi).trans (v1 i hi)) (fun i hi => (u6 i hi).trans (v16 i hi)) (fun i hi => (u5 i hi).trans (v12 i hi)) (fun i hi => (u4 i hi).trans (v8 i hi)) (u7 34 (by omega)) (u7 35 (by omega))
          have same16 : n_same (w_ab σ 32) (w_ab τ16 32) := ⟨fun j j1 j3 => lk16.1 j j3, lk16.2 2 (by decide) (by decide) (by decide), lk16.2 3 (by decide) (by decide) (by decide), lk16.2 9 (by decide) (by decide) (by decide)⟩
          have fr16 : ∀ b, b < 32 ∨ 63 ≤ b ∨ (41 ≤ b ∧ b < 51 + x1.toNat) → τ16 b = σ b := fun b hb => by
            rw [u7 b (by omega), r3 b (by omega), hq12.2.2.1 b (by omega), F4 b (by omega)]
          have ok16 : n_ok τ16 32 := lk16.WF hok
          have lt16 : τ16 32 1 < τ16 32 0 := by
            have a0 : τ16 32 0 = σ 32 0 := lk16.1 0 (by decide)
            have a1 : τ16 32 1 = σ 32 1 := lk16.1 1 (by decide)
            omega
          refine ⟨fun c6 => hQ _ _ ⟨?_, same16, fr16⟩, fun c6 => ⟨⟨ok16, lt16, Or.inl rfl⟩, fun y17 τ18 hq18 => ?_⟩⟩
          · rw [eU, e15, show x2 = 10 by omega]; omega
          · obtain ⟨pw2, eu2⟩ := fin0 τ16 y17 τ18 lk16 hq18
            refine ⟨⟨by omega, by omega⟩, pw2, fun y19 τ20 hq20 => ?_⟩
            obtain ⟨k1, k2, k3⟩ := hq20
            rw [eu2] at k1
            rw [k1]
            refine ⟨⟨by omega, by omega⟩, ⟨by omega, by omega⟩, fun y21 e21 => hQ _ _ ⟨?_, ?_, ?_⟩⟩
            · rw [eU, e21, e15]; omega
            · have n6 := (n_hour_all ok16 (c := 0) lt16 (Or.inl rfl)).2.1
              rw [← hq18.1] at n6
              exact same16.tr (n6.tr k2)
            · intro b hb
              rw [k3 b (by omega), hq18.2.2.1 b (by omega), fr16 b hb]
      · refine hQ _ _ ⟨?_, n_same.rfl', fun _ _ => rfl⟩
        unfold lk_U
        rw [hn, lk_zero (n + 1) _ hok (by rw [← e23]; omega) (by omega) (by rw [hA1, hA0]; omega)]
    · obtain ⟨rfl, rfl⟩ := hq
      rw [esd] at e1
      refine hQ _ _ ⟨?_, n_same.rfl', fun _ _ => rfl⟩
      unfold lk_U
      rw [hn, lk_done (n + 1) _ hok (by omega) (by omega) (by rw [hA1, hA0]; omega), show y2.toNat = n + 1 by omega]
theorem k_Plan_weightFrom {xs : List Int} {d : Nat} {Q : Option w_V → w_M → Prop} {x1 x2 : Int} {σ : w_M} (hp : p_Plan_weightFrom x1 x2 σ) (hQ : ∀ (x : Int) (σ' : w_M), q_Plan_weightFrom x1 x2 σ x σ' → Q (some (.inr (.inl x))) σ') : w_Call (xs, d + 17) 82 [.inr (.inr (6, 31)), .inl x1, .inl x2] σ Q := by
  have hr := n_ok.hr hp.1
  have hl : n_left (w_ab σ 32) ≤ 12 := by
    have h2 := hp.2.2
    show (σ 32 0 - σ 32 1).toNat ≤ 12
    omega
  have h := kk_Plan_weightFrom (xs := xs) (n_left (w_ab σ 32)) (d := d + 13 - n_left (w_ab σ 32)) ⟨hp, rfl⟩ hQ
  rw [show d + 13 - n_left (w_ab σ 32) + 4 + n_left (w_ab σ 32) = d + 17 by omega] at h
  exact h
noncomputable def p_Plan_weightDone (b : Nat) (v : Int) (σ : w_M) : Prop := (n_ok σ b ∧ (32 + 9 ≤ b ∨ b + 9 ≤ 32)) ∧ (0 ≤ v ∧ v ≤ 10)
noncomputable def q_Plan_weightDone (b : Nat) (v : Int) (σ : w_M) (x : Int) (σ' : w_M) : Prop := x = lk_U (w_ab σ b) v ∧ w_fr σ σ' 31 80
theorem fPlan_weightDone_0 : w_fe am_c81 0 1 (.aload 0) := ⟨rfl, rfl⟩
theorem fPlan_weightDone_1 : w_fe am_c81 1 2 (.getfield 600) := ⟨rfl, rfl⟩
theorem fPlan_weightDone_2 : w_fe am_c81 2 3 (.aload 1) := ⟨rfl, rfl⟩
theorem fPlan_weightDone_3 : w_fe am_c81 3 4 (.invokestatic 34) := ⟨rfl, rfl⟩
theorem fPlan_weightDone_4 : w_fe am_c81 4 5 (.aload 0) := ⟨rfl, rfl⟩
theorem fPlan_weightDone_5 : w_fe am_c81 5 6 (.bipush 0) := ⟨rfl, rfl⟩
theorem fPlan_weightDone_6 : w_fe am_c81 6 7 (.iload 2) := ⟨rfl, rfl⟩
theorem fPlan_weightDone_7 : w_fe am_c81 7 8 (.invokestatic 82) := ⟨rfl, rfl⟩
theorem fPlan_weightDone_8 : w_fe am_c81 8 9 (.ireturn) := ⟨rfl, rfl⟩
set_option maxRecDepth 20000 in
theorem bPlan_weightDone_0 {xs : List Int} {d : Nat} {Q : Option w_V → w_M → Prop} {b : Nat} {x2 : Int} {σ : w_M}
    (h : p_Field_copyFrom 32 b σ ∧ (∀ (τ1 : w_M), q_Field_copyFrom 32 b σ τ1 → (p_Plan_weightFrom 0 x2 τ1 ∧ (∀ (y2 : Int) (τ3 : w_M), q_Plan_weightFrom 0 x2 τ1 y2 τ3 → Q (some (.inr (.inl y2))) τ3)))) : w_Call (xs, (d + 18)) 81 [.inr (.inr (6, 31)), .inr (.inr (2, b)), .inl x2] σ Q :=
  (w_mk (mid := 81) (by decide) rfl rfl rfl rfl rfl (Nat.le_of_ble_eq_true rfl) ⟨rfl, Or.inl (by decide)⟩ (wi_aload0 fPlan_weightDone_0 (wi_getf600 fPlan_weightDone_1 (wi_aload1 fPlan_weightDone_2 (wi_call2 fPlan_weightDone_3 (Nat.le_of_ble_eq_true rfl) (k_Field_copyFrom h.1 (fun τ1 eτ1 => (wi_aload0 fPlan_weightDone_4 (wi_bipush fPlan_weightDone_5 (wi_iload2 fPlan_weightDone_6 (wi_call3 fPlan_weightDone_7 (Nat.le_of_ble_eq_true rfl) (k_Plan_weightFrom (h.2 τ1 eτ1).1 (fun y2 τ3 eτ3 => (wi_ret3 fPlan_weightDone_8 ((h.2 τ1 eτ1).2 y2 τ3 eτ3)))))))))))))))
theorem k_Plan_weightDone {xs : List Int} {d : Nat} {Q : Option w_V → w_M → Prop} {b : Nat} {x2 : Int} {σ : w_M} (hp : p_Plan_weightDone b x2 σ) (hQ : ∀ (x : Int) (σ' : w_M), q_Plan_weightDone b x2 σ x σ' → Q (some (.inr (.inl x))) σ') : w_Call (xs, d + 18) 81 [.inr (.inr (6, 31)), .inr (.inr (2, b)), .inl x2] σ Q := by
  obtain ⟨hp1, hv⟩ := hp
  have hrs := n_ok.hrs hp1.1
  have hr := n_ok.hr hp1.1
  refine bPlan_weightDone_0 ⟨hp1, fun τ1 hq => ⟨⟨n_ok.of hq.1 hp1.1, hv, by omega, ?_⟩, fun y τ3 hq3 => hQ _ _ ⟨?_, fun c hc => ?_⟩⟩⟩
  · have a0 : τ1 32 0 = σ b 0 := congrFun (congrFun hq.1 0) 0
    have a1 : τ1 32 1 = σ b 1 := congrFun (congrFun hq.1 0) 1
    omega
  · rw [hq3.1, hq.1]
  · rw [hq3.2.2 c (by omega), hq.2.2 c (by omega)]
noncomputable def p_Moon_luck (_x1 : Int) (_x2 : Int) (σ : w_M) : Prop := CI σ
noncomputable def q_Moon_luck (x1 : Int) (x2 : Int) (σ : w_M) (x : Int) (σ' : w_M) : Prop := c_q (F_luck (cS σ) x1 x2) (cS σ) σ x σ'
theorem fMoon_luck_0 : w_fe am_c134 0 1 (.iload 1) := ⟨rfl, rfl⟩
theorem fMoon_luck_1 : w_fe am_c134 1 2 (.bipush 0) := ⟨rfl, rfl⟩
theorem fMoon_luck_2 : w_fe am_c134 2 3 (.bipush 10) := ⟨rfl, rfl⟩
theorem fMoon_luck_3 : w_fe am_c134 3 4 (.invokestatic 107) := ⟨rfl, rfl⟩
theorem fMoon_luck_4 : w_if am_c134 4 5 .eq 10 := ⟨rfl, rfl⟩
theorem fMoon_luck_5 : w_fe am_c134 5 6 (.iload 2) := ⟨rfl, rfl⟩
theorem fMoon_luck_6 : w_fe am_c134 6 7 (.bipush 0) := ⟨rfl, rfl⟩
theorem fMoon_luck_7 : w_fe am_c134 7 8 (.bipush 1) := ⟨rfl, rfl⟩
theorem fMoon_luck_8 : w_fe am_c134 8 9 (.invokestatic 107) := ⟨rfl, rfl⟩
theorem fMoon_luck_9 : w_if am_c134 9 10 .ne 12 := ⟨rfl, rfl⟩
theorem fMoon_luck_10 : w_fe am_c134 10 11 (.sipush (-1)) := ⟨rfl, rfl⟩
theorem fMoon_luck_11 : w_fe am_c134 11 12 (.ireturn) := ⟨rfl, rfl⟩
theorem fMoon_luck_12 : w_fe am_c134 12 13 (.aload 0) := ⟨rfl, rfl⟩
theorem fMoon_luck_13 : w_fe am_c134 13 14 (.getfield 4) := ⟨rfl, rfl⟩
theorem fMoon_luck_14 : w_fe am_c134 14 15 (.aload 0) := ⟨rfl, rfl⟩
theorem fMoon_luck_15 : w_fe am_c134 15 16 (.getfield 2) := ⟨rfl, rfl⟩
theorem fMoon_luck_16 : w_fe am_c134 16 17 (.iload 1) := ⟨rfl, rfl⟩
theorem fMoon_luck_17 : w_fe am_c134 17 18 (.invokestatic 81) := ⟨rfl, rfl⟩
theorem fMoon_luck_18 : w_fe am_c134 18 19 (.lstore 3) := ⟨rfl, rfl⟩
theorem fMoon_luck_19 : w_fe am_c134 19 20 (.aload 0) := ⟨rfl, rfl⟩
theorem fMoon_luck_20 : w_fe am_c134 20 21 (.getfield 2) := ⟨rfl, rfl⟩
theorem fMoon_luck_21 : w_fe am_c134 21 22 (.invokestatic 39) := ⟨rfl, rfl⟩
theorem fMoon_luck_22 : w_fe am_c134 22 23 (.invokestatic 135) := ⟨rfl, rfl⟩
theorem fMoon_luck_23 : w_fe am_c134 23 24 (.lstore 5) := ⟨rfl, rfl⟩
theorem fMoon_luck_24 : w_fe am_c134 24 25 (.lload 5) := ⟨rfl, rfl⟩
theorem fMoon_luck_25 : w_fe am_c134 25 26 (.lload 3) := ⟨rfl, rfl⟩
theorem fMoon_luck_26 : w_fe am_c134 26 27 (.invokestatic 136) := ⟨rfl, rfl⟩
theorem fMoon_luck_27 : w_fe am_c134 27 28 (.lstore 7) := ⟨rfl, rfl⟩
theorem fMoon_luck_28 : w_fe am_c134 28 29 (.lload 7) := ⟨rfl, rfl⟩
theorem fMoon_luck_29 : w_fe am_c134 29 30 (.sipush 0) := ⟨rfl, rfl⟩
theorem fMoon_luck_30 : w_fe am_c134 30 31 (.lcmp) := ⟨rfl, rfl⟩
theorem fMoon_luck_31 : w_if am_c134 31 32 .gt 34 := ⟨rfl, rfl⟩
theorem fMoon_luck_32 : w_fe am_c134 32 33 (.sipush (-1)) := ⟨rfl, rfl⟩
theorem fMoon_luck_33 : w_fe am_c134 33 34 (.ireturn) := ⟨rfl, rfl⟩
theorem fMoon_luck_34 : w_fe am_c134 34 35 (.iload 2) := ⟨rfl, rfl⟩
theorem fMoon_luck_35 : w_if am_c134 35 36 .ne 40 := ⟨rfl, rfl⟩
theorem fMoon_luck_36 : w_fe am_c134 36 37 (.lload 3) := ⟨rfl, rfl⟩
theorem fMoon_luck_37 : w_fe am_c134 37 38 (.lload 7) := ⟨rfl, rfl⟩
theorem fMoon_luck_38 : w_fe am_c134 38 39 (.ldiv) := ⟨rfl, rfl⟩
theorem fMoon_luck_39 : w_gt am_c134 39 43 := rfl
theorem fMoon_luck_40 : w_fe am_c134 40 41 (.lload 5) := ⟨rfl, rfl⟩
theorem fMoon_luck_41 : w_fe am_c134 41 42 (.lload 7) := ⟨rfl, rfl⟩
theorem fMoon_luck_42 : w_fe am_c134 42 43 (.ldiv) := ⟨rfl, rfl⟩
theorem fMoon_luck_43 : w_fe am_c134 43 44 (.ireturn) := ⟨rfl, rfl⟩
set_option maxRecDepth 20000 in
theorem bMoon_luck_0 {xs : List Int} {d : Nat} {Q : Option w_V → w_M → Prop} {x1 : Int} {x2 : Int} {σ : w_M}
    (h : (¬ (0 ≤ x1 ∧ x1 ≤ 10) → Q (some (.inr (.inl (-1)))) σ) ∧ ((0 ≤ x1 ∧ x1 ≤ 10) → (((0 ≤ x2 ∧ x2 ≤ 1) → (p_Plan_weightDone 14 x1 σ ∧ (∀ (y1 : Int) (τ2 : w_M), q_Plan_weightDone 14 x1 σ y1 τ2 → (p_Field_hoursLeft 14 τ2 ∧ p_Moon_tenTo (τ2 14 0 - τ2 14 1) τ2 ∧ (∀ (y3 : Int) (τ4 : w_M), q_Moon_tenTo (τ2 14 0 - τ2 14 1) τ2 y3 τ4 → (p_Moon_commonDivisor y3 y1 τ4 ∧ (∀ (y5 : Int) (τ6 : w_M), q_Moon_commonDivisor y3 y1 τ4 y5 τ6 → ((0 < y5 → ((¬ x2 = 0 → (¬ y5 = 0 ∧ w_inl (y3.tdiv y5) ∧ Q (some (.inr (.inl (y3.tdiv y5)))) τ6)) ∧ (x2 = 0 → (¬ y5 = 0 ∧ w_inl (y1.tdiv y5) ∧ Q (some (.inr (.inl (y1.tdiv y5)))) τ6)))) ∧ (y5 ≤ 0 → Q (some (.inr (.inl (-1)))) τ6))))))))) ∧ (¬ (0 ≤ x2 ∧ x2 ≤ 1) → Q (some (.inr (.inl (-1)))) σ)))) : w_Call (xs, (d + 19)) 134 [.inr (.inr (0, 0)), .inl x1, .inl x2] σ Q :=
  (w_mk (mid := 134) (by decide) rfl rfl rfl rfl rfl (Nat.le_of_ble_eq_true rfl) ⟨rfl, Or.inl (by decide)⟩ (wi_iload1 fMoon_luck_0 (wi_bipush fMoon_luck_1 (wi_bipush fMoon_luck_2 (wi_call3 fMoon_luck_3 (Nat.le_of_ble_eq_true rfl) (k_Moon_isWithin (wi_ifb_eq fMoon_luck_4 (fun c10 => (wi_sipush fMoon_luck_10 (wi_ret3 fMoon_luck_11 (h.1 c10)))) (fun c10 => (wi_iload2 fMoon_luck_5 (wi_bipush fMoon_luck_6 (wi_bipush fMoon_luck_7 (wi_call3 fMoon_luck_8 (Nat.le_of_ble_eq_true rfl) (k_Moon_isWithin (wi_ifb_ne fMoon_luck_9 (fun c9 => (wi_aload0 fMoon_luck_12 (wi_getf4 fMoon_luck_13 (wi_aload0 fMoon_luck_14 (wi_getf2 fMoon_luck_15 (wi_iload1 fMoon_luck_16 (wi_call3 fMoon_luck_17 (Nat.le_of_ble_eq_true rfl) (k_Plan_weightDone ((h.2 c10).1 c9).1 (fun y1 τ2 eτ2 => (wi_lstore3 fMoon_luck_18 trivial (wi_aload0 fMoon_luck_19 (wi_getf2 fMoon_luck_20 (wi_call1 fMoon_luck_21 (Nat.le_of_ble_eq_true rfl) (k_Field_hoursLeft (((h.2 c10).1 c9).2 y1 τ2 eτ2).1 (wi_call1 fMoon_luck_22 (Nat.le_of_ble_eq_true rfl) (k_Moon_tenTo (((h.2 c10).1 c9).2 y1 τ2 eτ2).2.1 (fun y3 τ4 eτ4 => (wi_lstore5 fMoon_luck_23 trivial (wi_lload5 fMoon_luck_24 (wi_lload3 fMoon_luck_25 (wi_call2 fMoon_luck_26 (Nat.le_of_ble_eq_true rfl) (k_Moon_commonDivisor ((((h.2 c10).1 c9).2 y1 τ2 eτ2).2.2 y3 τ4 eτ4).1 (fun y5 τ6 eτ6 => (wi_lstore7 fMoon_luck_27 trivial (wi_lload7 fMoon_luck_28 (wi_sipush fMoon_luck_29 (wi_lcmp_gt fMoon_luck_30 fMoon_luck_31 (fun c8 => (wi_iload2 fMoon_luck_34 (wi_if_ne fMoon_luck_35 (fun c7 => (wi_lload5 fMoon_luck_40 (wi_lload7 fMoon_luck_41 (wi_ldiv fMoon_luck_42 (((((((h.2 c10).1 c9).2 y1 τ2 eτ2).2.2 y3 τ4 eτ4).2 y5 τ6 eτ6).1 c8).1 c7).1 (((((((h.2 c10).1 c9).2 y1 τ2 eτ2).2.2 y3 τ4 eτ4).2 y5 τ6 eτ6).1 c8).1 c7).2.1 (wi_ret3 fMoon_luck_43 (((((((h.2 c10).1 c9).2 y1 τ2 eτ2).2.2 y3 τ4 eτ4).2 y5 τ6 eτ6).1 c8).1 c7).2.2))))) (fun c7 => (wi_lload3 fMoon_luck_36 (wi_lload7 fMoon_luck_37 (wi_ldiv fMoon_luck_38 (((((((h.2 c10).1 c9).2 y1 τ2 eτ2).2.2 y3 τ4 eτ4).2 y5 τ6 eτ6).1 c8).2 c7).1 (((((((h.2 c10).1 c9).2 y1 τ2 eτ2).2.2 y3 τ4 eτ4).2 y5 τ6 eτ6).1 c8).2 c7).2.1 (wi_goto fMoon_luck_39 (wi_ret3 fMoon_luck_43 (((((((h.2 c10).1 c9).2 y1 τ2 eτ2).2.2 y3 τ4 eτ4).2 y5 τ6 eτ6).1 c8).2 c7).2.2))))))))) (fun c8 => (wi_sipush fMoon_luck_32 (wi_ret3 fMoon_luck_33 ((((((h.2 c10).1 c9).2 y1 τ2 eτ2).2.2 y3 τ4 eτ4).2 y5 τ6 eτ6).2 c8))))))))))))))))))))))))))))))) (fun c9 => (wi_sipush fMoon_luck_10 (wi_ret3 fMoon_luck_11 ((h.2 c10).2 c9))))))))))))))))))
theorem k_Moon_luck {xs : List Int} {d : Nat} {Q : Option w_V → w_M → Prop} {x1 : Int} {x2 : Int} {σ : w_M} (hp : p_Moon_luck x1 x2 σ) (hQ : ∀ (x : Int) (σ' : w_M), q_Moon_luck x1 x2 σ x σ' → Q (some (.inr (.inl x))) σ') : w_Call (xs, d + 19) 134 [.inr (.inr (0, 0)), .inl x1, .inl x2] σ Q := by
  have hC : CI σ := hp
  have hok := hC.ok
  have hrs := n_ok.hrs hok
  have hr := n_ok.hr hok
  unfold q_Moon_luck F_luck at hQ
  have eA : cS σ 0 = w_ab σ 14 := rfl
  rw [eA] at hQ
  refine bMoon_luck_0 ⟨fun c => ?_, fun c => ⟨fun c2 => ⟨⟨⟨hok, by decide⟩, c⟩, fun y1 τ2 hq => ?_⟩, fun c2 => ?_⟩⟩
  · rw [if_neg (fun q => c q.1)] at hQ
    exact hQ _ _ (c_qr hC rfl)
  · rw [if_pos ⟨c, c2⟩] at hQ
    obtain ⟨e1, F1⟩ := hq
    have z : τ2 14 = σ 14 := F1 14 (by omega)
    have hL : n_left (w_ab σ 14) = (σ 14 0 - σ 14 1).toNat := rfl
    have p1 := lk_p_pos (n_left (w_ab σ 14))
    have p2 := lk_p_le (k := n_left (w_ab σ 14)) (by omega)
    have s1 := lk_s_lep c (n_left (w_ab σ 14)) (w_ab σ 14) (by omega)
    have e1' : y1 = lk_s (w_ab σ 14) x1 (n_left (w_ab σ 14)) (2 ^ n_left (w_ab σ 14)) := e1
    refine ⟨by unfold p_Field_hoursLeft; rw [z]; exact ⟨by omega, by omega⟩, by unfold p_Moon_tenTo; rw [z]; omega, fun y3 τ4 hq3 => ?_⟩
    obtain ⟨e3, rfl⟩ := hq3
    rw [z, ← hL] at e3
    refine ⟨⟨⟨by omega, by omega⟩, by omega⟩, fun y5 τ6 hq5 => ?_⟩
    obtain ⟨e5, rfl⟩ := hq5
    have g1 : 1 ≤ y5 := by rw [e5]; exact lk_g_pos (by omega)
    refine ⟨fun c3 => ⟨fun c4 => ⟨by omega, ?_, ?_⟩, fun c4 => ⟨by omega, ?_, ?_⟩⟩, fun c3 => by omega⟩
    · have := lk_div (a := y3) (by omega) g1
      exact ⟨by omega, by omega⟩
    · rw [if_neg c4] at hQ
      refine hQ _ _ (c_qs hC F1 ?_)
      rw [e5, e3, e1']
    · have := lk_div (a := y1) (by omega) g1
      exact ⟨by omega, by omega⟩
    · rw [if_pos c4] at hQ
      refine hQ _ _ (c_qs hC F1 ?_)
      rw [e5, e3, e1']
  · rw [if_neg (fun q => c2 q.2)] at hQ
    exact hQ _ _ (c_qr hC rfl)
end
section
/-! The hare, as the class counts -/
theorem r_bes_congr {s : Nat} {f g : Nat → Int} {i : Nat} (hi : i < s) (h : ∀ j, j < s → f j = g j) : r_bes s f i = r_bes s g i := by
  unfold r_bes
  rw [h i hi]
  congr 1
  · congr 1
    split
    · exact h _ (by omega)
    · rfl
  · split
    · exact h _ (by omega)
    · rfl
theorem r_cs {B : w_M} {s n i : Nat} : r_c B s n i = r_if B n i (if n = 0 then 1 else r_bes s (r_c B s (n - 1)) i) := by
  cases n with
  | zero => rfl
  | succ n => rw [if_neg (by omega)]; rfl
theorem r_gs {B : w_M} {s n i : Nat} (hn : n ≤ 6) : r_g B s (6 - n) i = r_if B n i (if n = 6 then 1 else r_bes s (r_g B s (6 - (n + 1))) i) := by
  by_cases h : n = 6
  · subst h; rfl
  · rw [if_neg h]
    obtain ⟨m, hm⟩ : ∃ m, 6 - n = m + 1 := ⟨5 - n, by omega⟩
    rw [hm, show 6 - (n + 1) = m by omega]
    show r_if B (6 - (m + 1)) i _ = _
    rw [show 6 - (m + 1) = n by omega]
theorem r_if_t {B : w_M} {n i : Nat} {v : Int} (h : se_al B n i) : r_if B n i v = v := by unfold r_if; rw [if_pos h]
theorem r_if_f {B : w_M} {n i : Nat} {v : Int} (h : ¬ se_al B n i) : r_if B n i v = 0 := by unfold r_if; rw [if_neg h]
theorem p3_le {n : Nat} (h : n ≤ 6) : (3 : Int) ^ n ≤ 729 := by
  have : ∀ n, n < 7 → (3 : Int) ^ n ≤ 729 := by decide
  exact this n (by omega)
theorem r_c_le6 {B : w_M} {s n i : Nat} (hn : n ≤ 6) (hi : i < s) : 0 ≤ r_c B s n i ∧ r_c B s n i ≤ 729 := by
  have := r_c_le (B := B) n i hi
  have := p3_le hn
  omega
theorem r_g_le6 {B : w_M} {s n i : Nat} (hn : n ≤ 6) (hi : i < s) : 0 ≤ r_g B s n i ∧ r_g B s n i ≤ 729 := by
  have := r_g_le (B := B) n i hi
  have := p3_le hn
  omega
noncomputable def p_Hare_countRuns (b : Nat) (x : Int) (σ : w_M) : Prop := (0 ≤ x ∧ x ≤ 7) ∧ (0 ≤ σ b 0 ∧ σ b 0 ≤ 8) ∧ b + 4 ≤ 63
noncomputable def q_Hare_countRuns (b : Nat) (x : Int) (σ σ' : w_M) : Prop := σ' 63 0 = x ∧ (∀ n, n ≤ 6 → ∀ i, i < x.toNat → σ' (65 + n) i = r_c (s_ab σ b) x.toNat n i ∧ σ' (73 + n) i = r_g (s_ab σ b) x.toNat (6 - n) i) ∧ w_fr σ σ' 63 80
noncomputable def hc_1 (σ : w_M) (B : w_M) (x : Int) (τ : w_M) (n : Nat) : Prop := w_fr σ τ 63 80 ∧ τ 63 0 = x ∧ ∀ m, m < n → ∀ i, i < x.toNat → τ (65 + m) i = r_c B x.toNat m i
noncomputable def hc_2 (σ : w_M) (B : w_M) (x : Int) (τ : w_M) (k : Nat) : Prop := hc_1 σ B x τ 7 ∧ ∀ m, m ≤ 6 → 7 ≤ m + k → ∀ i, i < x.toNat → τ (73 + m) i = r_g B x.toNat (6 - m) i
theorem fHare_countRuns_0 : w_fe am_c89 0 1 (.aload 0) := ⟨rfl, rfl⟩
theorem fHare_countRuns_1 : w_fe am_c89 1 2 (.iload 2) := ⟨rfl, rfl⟩
theorem fHare_countRuns_2 : w_fe am_c89 2 3 (.bipush 7) := ⟨rfl, rfl⟩
theorem fHare_countRuns_3 : w_fe am_c89 3 4 (.invokestatic 1) := ⟨rfl, rfl⟩
theorem fHare_countRuns_4 : w_fe am_c89 4 5 (.putfield 700) := ⟨rfl, rfl⟩
theorem fHare_countRuns_5 : w_fe am_c89 5 6 (.bipush 0) := ⟨rfl, rfl⟩
theorem fHare_countRuns_6 : w_fe am_c89 6 7 (.istore 3) := ⟨rfl, rfl⟩
theorem fHare_countRuns_7 : w_fe am_c89 7 8 (.iload 3) := ⟨rfl, rfl⟩
theorem fHare_countRuns_8 : w_fe am_c89 8 9 (.bipush 6) := ⟨rfl, rfl⟩
theorem fHare_countRuns_9 : w_ic am_c89 9 10 .gt 46 := ⟨rfl, rfl⟩
theorem fHare_countRuns_10 : w_fe am_c89 10 11 (.bipush 0) := ⟨rfl, rfl⟩
theorem fHare_countRuns_11 : w_fe am_c89 11 12 (.istore 4) := ⟨rfl, rfl⟩
theorem fHare_countRuns_12 : w_fe am_c89 12 13 (.iload 4) := ⟨rfl, rfl⟩
theorem fHare_countRuns_13 : w_fe am_c89 13 14 (.aload 0) := ⟨rfl, rfl⟩
theorem fHare_countRuns_14 : w_fe am_c89 14 15 (.getfield 700) := ⟨rfl, rfl⟩
theorem fHare_countRuns_15 : w_ic am_c89 15 16 .ge 44 := ⟨rfl, rfl⟩
theorem fHare_countRuns_16 : w_fe am_c89 16 17 (.aload 0) := ⟨rfl, rfl⟩
theorem fHare_countRuns_17 : w_fe am_c89 17 18 (.getfield 701) := ⟨rfl, rfl⟩
theorem fHare_countRuns_18 : w_fe am_c89 18 19 (.iload 3) := ⟨rfl, rfl⟩
theorem fHare_countRuns_19 : w_fe am_c89 19 20 (.aaload) := ⟨rfl, rfl⟩
theorem fHare_countRuns_20 : w_fe am_c89 20 21 (.iload 4) := ⟨rfl, rfl⟩
theorem fHare_countRuns_21 : w_fe am_c89 21 22 (.aload 1) := ⟨rfl, rfl⟩
theorem fHare_countRuns_22 : w_fe am_c89 22 23 (.iload 3) := ⟨rfl, rfl⟩
theorem fHare_countRuns_23 : w_fe am_c89 23 24 (.iload 4) := ⟨rfl, rfl⟩
theorem fHare_countRuns_24 : w_fe am_c89 24 25 (.invokestatic 57) := ⟨rfl, rfl⟩
theorem fHare_countRuns_25 : w_if am_c89 25 26 .ne 28 := ⟨rfl, rfl⟩
theorem fHare_countRuns_26 : w_fe am_c89 26 27 (.bipush 0) := ⟨rfl, rfl⟩
theorem fHare_countRuns_27 : w_gt am_c89 27 41 := rfl
theorem fHare_countRuns_28 : w_fe am_c89 28 29 (.iload 3) := ⟨rfl, rfl⟩
theorem fHare_countRuns_29 : w_if am_c89 29 30 .ne 32 := ⟨rfl, rfl⟩
theorem fHare_countRuns_30 : w_fe am_c89 30 31 (.bipush 1) := ⟨rfl, rfl⟩
theorem fHare_countRuns_31 : w_gt am_c89 31 41 := rfl
theorem fHare_countRuns_32 : w_fe am_c89 32 33 (.aload 0) := ⟨rfl, rfl⟩
theorem fHare_countRuns_33 : w_fe am_c89 33 34 (.aload 0) := ⟨rfl, rfl⟩
theorem fHare_countRuns_34 : w_fe am_c89 34 35 (.getfield 701) := ⟨rfl, rfl⟩
theorem fHare_countRuns_35 : w_fe am_c89 35 36 (.iload 3) := ⟨rfl, rfl⟩
theorem fHare_countRuns_36 : w_fe am_c89 36 37 (.bipush 1) := ⟨rfl, rfl⟩
theorem fHare_countRuns_37 : w_fe am_c89 37 38 (.isub) := ⟨rfl, rfl⟩
theorem fHare_countRuns_38 : w_fe am_c89 38 39 (.aaload) := ⟨rfl, rfl⟩
theorem fHare_countRuns_39 : w_fe am_c89 39 40 (.iload 4) := ⟨rfl, rfl⟩
theorem fHare_countRuns_40 : w_fe am_c89 40 41 (.invokestatic 90) := ⟨rfl, rfl⟩
theorem fHare_countRuns_41 : w_fe am_c89 41 42 (.iastore) := ⟨rfl, rfl⟩
theorem fHare_countRuns_42 : w_fe am_c89 42 43 (.iinc 4 1) := ⟨rfl, rfl⟩
theorem fHare_countRuns_43 : w_gt am_c89 43 12 := rfl
theorem fHare_countRuns_44 : w_fe am_c89 44 45 (.iinc 3 1) := ⟨rfl, rfl⟩
theorem fHare_countRuns_45 : w_gt am_c89 45 7 := rfl
theorem fHare_countRuns_46 : w_fe am_c89 46 47 (.bipush 6) := ⟨rfl, rfl⟩
theorem fHare_countRuns_47 : w_fe am_c89 47 48 (.istore 3) := ⟨rfl, rfl⟩
theorem fHare_countRuns_48 : w_fe am_c89 48 49 (.iload 3) := ⟨rfl, rfl⟩
theorem fHare_countRuns_49 : w_if am_c89 49 50 .lt 87 := ⟨rfl, rfl⟩
theorem fHare_countRuns_50 : w_fe am_c89 50 51 (.bipush 0) := ⟨rfl, rfl⟩
theorem fHare_countRuns_51 : w_fe am_c89 51 52 (.istore 4) := ⟨rfl, rfl⟩
theorem fHare_countRuns_52 : w_fe am_c89 52 53 (.iload 4) := ⟨rfl, rfl⟩
theorem fHare_countRuns_53 : w_fe am_c89 53 54 (.aload 0) := ⟨rfl, rfl⟩
theorem fHare_countRuns_54 : w_fe am_c89 54 55 (.getfield 700) := ⟨rfl, rfl⟩
theorem fHare_countRuns_55 : w_ic am_c89 55 56 .ge 85 := ⟨rfl, rfl⟩
theorem fHare_countRuns_56 : w_fe am_c89 56 57 (.aload 0) := ⟨rfl, rfl⟩
theorem fHare_countRuns_57 : w_fe am_c89 57 58 (.getfield 702) := ⟨rfl, rfl⟩
theorem fHare_countRuns_58 : w_fe am_c89 58 59 (.iload 3) := ⟨rfl, rfl⟩
theorem fHare_countRuns_59 : w_fe am_c89 59 60 (.aaload) := ⟨rfl, rfl⟩
theorem fHare_countRuns_60 : w_fe am_c89 60 61 (.iload 4) := ⟨rfl, rfl⟩
theorem fHare_countRuns_61 : w_fe am_c89 61 62 (.aload 1) := ⟨rfl, rfl⟩
theorem fHare_countRuns_62 : w_fe am_c89 62 63 (.iload 3) := ⟨rfl, rfl⟩
theorem fHare_countRuns_63 : w_fe am_c89 63 64 (.iload 4) := ⟨rfl, rfl⟩
theorem fHare_countRuns_64 : w_fe am_c89 64 65 (.invokestatic 57) := ⟨rfl, rfl⟩
theorem fHare_countRuns_65 : w_if am_c89 65 66 .ne 68 := ⟨rfl, rfl⟩
theorem fHare_countRuns_66 : w_fe am_c89 66 67 (.bipush 0) := ⟨rfl, rfl⟩
theorem fHare_countRuns_67 : w_gt am_c89 67 82 := rfl
theorem fHare_countRuns_68 : w_fe am_c89 68 69 (.iload 3) := ⟨rfl, rfl⟩
theorem fHare_countRuns_69 : w_fe am_c89 69 70 (.bipush 6) := ⟨rfl, rfl⟩
theorem fHare_countRuns_70 : w_ic am_c89 70 71 .ne 73 := ⟨rfl, rfl⟩
theorem fHare_countRuns_71 : w_fe am_c89 71 72 (.bipush 1) := ⟨rfl, rfl⟩
theorem fHare_countRuns_72 : w_gt am_c89 72 82 := rfl
theorem fHare_countRuns_73 : w_fe am_c89 73 74 (.aload 0) := ⟨rfl, rfl⟩
theorem fHare_countRuns_74 : w_fe am_c89 74 75 (.aload 0) := ⟨rfl, rfl⟩
theorem fHare_countRuns_75 : w_fe am_c89 75 76 (.getfield 702) := ⟨rfl, rfl⟩
theorem fHare_countRuns_76 : w_fe am_c89 76 77 (.iload 3) := ⟨rfl, rfl⟩
theorem fHare_countRuns_77 : w_fe am_c89 77 78 (.bipush 1) := ⟨rfl, rfl⟩
theorem fHare_countRuns_78 : w_fe am_c89 78 79 (.iadd) := ⟨rfl, rfl⟩
theorem fHare_countRuns_79 : w_fe am_c89 79 80 (.aaload) := ⟨rfl, rfl⟩
theorem fHare_countRuns_80 : w_fe am_c89 80 81 (.iload 4) := ⟨rfl, rfl⟩
theorem fHare_countRuns_81 : w_fe am_c89 81 82 (.invokestatic 90) := ⟨rfl, rfl⟩
theorem fHare_countRuns_82 : w_fe am_c89 82 83 (.iastore) := ⟨rfl, rfl⟩
theorem fHare_countRuns_83 : w_fe am_c89 83 84 (.iinc 4 1) := ⟨rfl, rfl⟩
theorem fHare_countRuns_84 : w_gt am_c89 84 52 := rfl
theorem fHare_countRuns_85 : w_fe am_c89 85 86 (.iinc 3 (-1)) := ⟨rfl, rfl⟩
theorem fHare_countRuns_86 : w_gt am_c89 86 48 := rfl
theorem fHare_countRuns_87 : w_fe am_c89 87 88 (.return_) := ⟨rfl, rfl⟩
noncomputable def LHare_countRuns_7 (xs : List Int) (d : Nat) (Q : Option w_V → w_M → Prop) (r1 : Nat) (v3 : Int) (σ : w_M) : Prop := ∀ l2, w_nl l2 → ∀ l4, w_nl l4 → w_Ex (xs, d) 0 am_c89 Q 7 [some (.inr (.inr (7, 63))), some (.inr (.inr (4, r1))), l2, some (.inl v3), l4] [] σ
noncomputable def LHare_countRuns_48 (xs : List Int) (d : Nat) (Q : Option w_V → w_M → Prop) (r1 : Nat) (v3 : Int) (σ : w_M) : Prop := ∀ l2, w_nl l2 → ∀ l4, w_nl l4 → w_Ex (xs, d) 0 am_c89 Q 48 [some (.inr (.inr (7, 63))), some (.inr (.inr (4, r1))), l2, some (.inl v3), l4] [] σ
noncomputable def LHare_countRuns_12 (xs : List Int) (d : Nat) (Q : Option w_V → w_M → Prop) (r1 : Nat) (v3 : Int) (v4 : Int) (σ : w_M) : Prop := ∀ l2, w_nl l2 → w_Ex (xs, d) 0 am_c89 Q 12 [some (.inr (.inr (7, 63))), some (.inr (.inr (4, r1))), l2, some (.inl v3), some (.inl v4)] [] σ
noncomputable def LHare_countRuns_52 (xs : List Int) (d : Nat) (Q : Option w_V → w_M → Prop) (r1 : Nat) (v3 : Int) (v4 : Int) (σ : w_M) : Prop := ∀ l2, w_nl l2 → w_Ex (xs, d) 0 am_c89 Q 52 [some (.inr (.inr (7, 63))), some (.inr (.inr (4, r1))), l2, some (.inl v3), some (.inl v4)] [] σ
set_option maxRecDepth 20000 in
theorem bHare_countRuns_0 {xs : List Int} {d : Nat} {Q : Option w_V → w_M → Prop} {b : Nat} {x2 : Int} {σ : w_M}
    (h : ∀ (y1 : Int), y1 = v_Math_min x2 7 → ∀ (τ2 : w_M), τ2 = w_up σ 63 0 y1 → LHare_countRuns_7 xs (d + 2) Q b 0 τ2) : w_Call (xs, (d + 2)) 89 [.inr (.inr (7, 63)), .inr (.inr (4, b)), .inl x2] σ Q :=
  (w_mk (mid := 89) (by decide) rfl rfl rfl rfl rfl (Nat.le_of_ble_eq_true rfl) ⟨rfl, Or.inl (by decide)⟩ (wi_aload0 fHare_countRuns_0 (wi_iload2 fHare_countRuns_1 (wi_bipush fHare_countRuns_2 (wi_call2 fHare_countRuns_3 (Nat.le_of_ble_eq_true rfl) (k_Math_min (wi_putf700 fHare_countRuns_4 (wi_bipush fHare_countRuns_5 (wi_istore3 fHare_countRuns_6 trivial (((h _ rfl) _ rfl) _ (by exact trivial) _ (by exact trivial)))))))))))
set_option maxRecDepth 20000 in
theorem bHare_countRuns_7 {xs : List Int} {d : Nat} {Q : Option w_V → w_M → Prop} {r1 : Nat} {v3 : Int} {σ : w_M}
    (h : (6 < v3 → LHare_countRuns_48 xs (d + 2) Q r1 6 σ) ∧ (v3 ≤ 6 → LHare_countRuns_12 xs (d + 2) Q r1 v3 0 σ)) : LHare_countRuns_7 xs (d + 2) Q r1 v3 σ :=
  fun l2 nl2 => fun l4 nl4 => (wi_iload3 fHare_countRuns_7 (wi_bipush fHare_countRuns_8 (wi_ic_gt fHare_countRuns_9 (fun c1 => (wi_bipush fHare_countRuns_46 (wi_istore3 fHare_countRuns_47 nl2 ((h.1 c1) _ nl2 _ nl4)))) (fun c1 => (wi_bipush fHare_countRuns_10 (wi_istore4 fHare_countRuns_11 trivial ((h.2 c1) _ nl2)))))))
set_option maxRecDepth 20000 in
theorem bHare_countRuns_48 {xs : List Int} {d : Nat} {Q : Option w_V → w_M → Prop} {r1 : Nat} {v3 : Int} {σ : w_M}
    (h : (v3 < 0 → Q none σ) ∧ (0 ≤ v3 → LHare_countRuns_52 xs (d + 2) Q r1 v3 0 σ)) : LHare_countRuns_48 xs (d + 2) Q r1 v3 σ :=
  fun l2 nl2 => fun l4 nl4 => (wi_iload3 fHare_countRuns_48 (wi_if_lt fHare_countRuns_49 (fun c1 => (wi_ret0 fHare_countRuns_87 (h.1 c1))) (fun c1 => (wi_bipush fHare_countRuns_50 (wi_istore4 fHare_countRuns_51 trivial ((h.2 c1) _ nl2))))))
set_option maxRecDepth 20000 in
theorem bHare_countRuns_12 {xs : List Int} {d : Nat} {Q : Option w_V → w_M → Prop} {r1 : Nat} {v3 : Int} {v4 : Int} {σ : w_M}
    (h : ((σ 63 0) ≤ v4 → (w_in (v3 + 1) ∧ LHare_countRuns_7 xs (d + 2) Q r1 (v3 + 1) σ)) ∧ (v4 < (σ 63 0) → (0 ≤ v3 ∧ v3 < 7 ∧ p_Seen_allows r1 v3 v4 σ ∧ (((P_Seen_allows r1 v3 v4 σ) → ((¬ v3 = 0 → (w_in (v3 - 1) ∧ 0 ≤ (v3 - 1) ∧ (v3 - 1) < 7 ∧ p_Hare_besides (65 + (v3 - 1).toNat) v4 σ ∧ (∀ (y1 : Int), y1 = v_Hare_besides (65 + (v3 - 1).toNat) v4 σ → (0 ≤ v4 ∧ v4 < 7 ∧ (∀ (τ2 : w_M), τ2 = w_up σ (65 + v3.toNat) v4.toNat y1 → (w_in (v4 + 1) ∧ LHare_countRuns_12 xs (d + 2) Q r1 v3 (v4 + 1) τ2)))))) ∧ (v3 = 0 → (0 ≤ v4 ∧ v4 < 7 ∧ (∀ (τ3 : w_M), τ3 = w_up σ (65 + v3.toNat) v4.toNat 1 → (w_in (v4 + 1) ∧ LHare_countRuns_12 xs (d + 2) Q r1 v3 (v4 + 1) τ3)))))) ∧ (¬ (P_Seen_allows r1 v3 v4 σ) → (0 ≤ v4 ∧ v4 < 7 ∧ (∀ (τ5 : w_M), τ5 = w_up σ (65 + v3.toNat) v4.toNat 0 → (w_in (v4 + 1) ∧ LHare_countRuns_12 xs (d + 2) Q r1 v3 (v4 + 1) τ5)))))))) : LHare_countRuns_12 xs (d + 2) Q r1 v3 v4 σ :=
  fun l2 nl2 => (wi_iload4 fHare_countRuns_12 (wi_aload0 fHare_countRuns_13 (wi_getf700 fHare_countRuns_14 (wi_ic_ge fHare_countRuns_15 (fun c7 => (wi_iinc3 fHare_countRuns_44 nl2 (h.1 c7).1 (wi_goto fHare_countRuns_45 ((h.1 c7).2 _ nl2 _ (by exact trivial))))) (fun c7 => (wi_aload0 fHare_countRuns_16 (wi_getf701 fHare_countRuns_17 (wi_iload3 fHare_countRuns_18 (wi_aald10707 fHare_countRuns_19 (h.2 c7).1 (h.2 c7).2.1 (wi_iload4 fHare_countRuns_20 (wi_aload1 fHare_countRuns_21 (wi_iload3 fHare_countRuns_22 (wi_iload4 fHare_countRuns_23 (wi_call3 fHare_countRuns_24 (Nat.le_of_ble_eq_true rfl) (k_Seen_allows (h.2 c7).2.2.1 (wi_ifb_ne fHare_countRuns_25 (fun c6 => (wi_iload3 fHare_countRuns_28 (wi_if_ne fHare_countRuns_29 (fun c4 => (wi_aload0 fHare_countRuns_32 (wi_aload0 fHare_countRuns_33 (wi_getf701 fHare_countRuns_34 (wi_iload3 fHare_countRuns_35 (wi_bipush fHare_countRuns_36 (wi_isub fHare_countRuns_37 (((h.2 c7).2.2.2.1 c6).1 c4).1 (wi_aald10707 fHare_countRuns_38 (((h.2 c7).2.2.2.1 c6).1 c4).2.1 (((h.2 c7).2.2.2.1 c6).1 c4).2.2.1 (wi_iload4 fHare_countRuns_39 (wi_call3 fHare_countRuns_40 (Nat.le_of_ble_eq_true rfl) (k_Hare_besides (((h.2 c7).2.2.2.1 c6).1 c4).2.2.2.1 (wi_iast1007 fHare_countRuns_41 ((((h.2 c7).2.2.2.1 c6).1 c4).2.2.2.2 _ rfl).1 ((((h.2 c7).2.2.2.1 c6).1 c4).2.2.2.2 _ rfl).2.1 (wi_iinc4 fHare_countRuns_42 trivial (((((h.2 c7).2.2.2.1 c6).1 c4).2.2.2.2 _ rfl).2.2 _ rfl).1 (wi_goto fHare_countRuns_43 ((((((h.2 c7).2.2.2.1 c6).1 c4).2.2.2.2 _ rfl).2.2 _ rfl).2 _ nl2))))))))))))))) (fun c4 => (wi_bipush fHare_countRuns_30 (wi_goto fHare_countRuns_31 (wi_iast1007 fHare_countRuns_41 (((h.2 c7).2.2.2.1 c6).2 c4).1 (((h.2 c7).2.2.2.1 c6).2 c4).2.1 (wi_iinc4 fHare_countRuns_42 trivial ((((h.2 c7).2.2.2.1 c6).2 c4).2.2 _ rfl).1 (wi_goto fHare_countRuns_43 (((((h.2 c7).2.2.2.1 c6).2 c4).2.2 _ rfl).2 _ nl2)))))))))) (fun c6 => (wi_bipush fHare_countRuns_26 (wi_goto fHare_countRuns_27 (wi_iast1007 fHare_countRuns_41 ((h.2 c7).2.2.2.2 c6).1 ((h.2 c7).2.2.2.2 c6).2.1 (wi_iinc4 fHare_countRuns_42 trivial (((h.2 c7).2.2.2.2 c6).2.2 _ rfl).1 (wi_goto fHare_countRuns_43 ((((h.2 c7).2.2.2.2 c6).2.2 _ rfl).2 _ nl2)))))))))))))))))))))))
set_option maxRecDepth 20000 in
theorem bHare_countRuns_52 {xs : List Int} {d : Nat} {Q : Option w_V → w_M → Prop} {r1 : Nat} {v3 : Int} {v4 : Int} {σ : w_M}
    (h : ((σ 63 0) ≤ v4 → (w_in (v3 + (-1)) ∧ LHare_countRuns_48 xs (d + 2) Q r1 (v3 + (-1)) σ)) ∧ (v4 < (σ 63 0) → (0 ≤ v3 ∧ v3 < 7 ∧ p_Seen_allows r1 v3 v4 σ ∧ (((P_Seen_allows r1 v3 v4 σ) → ((¬ v3 = 6 → (w_in (v3 + 1) ∧ 0 ≤ (v3 + 1) ∧ (v3 + 1) < 7 ∧ p_Hare_besides (73 + (v3 + 1).toNat) v4 σ ∧ (∀ (y1 : Int), y1 = v_Hare_besides (73 + (v3 + 1).toNat) v4 σ → (0 ≤ v4 ∧ v4 < 7 ∧ (∀ (τ2 : w_M), τ2 = w_up σ (73 + v3.toNat) v4.toNat y1 → (w_in (v4 + 1) ∧ LHare_countRuns_52 xs (d + 2) Q r1 v3 (v4 + 1) τ2)))))) ∧ (v3 = 6 → (0 ≤ v4 ∧ v4 < 7 ∧ (∀ (τ3 : w_M), τ3 = w_up σ (73 + v3.toNat) v4.toNat 1 → (w_in (v4 + 1) ∧ LHare_countRuns_52 xs (d + 2) Q r1 v3 (v4 + 1) τ3)))))) ∧ (¬ (P_Seen_allows r1 v3 v4 σ) → (0 ≤ v4 ∧ v4 < 7 ∧ (∀ (τ5 : w_M), τ5 = w_up σ (73 + v3.toNat) v4.toNat 0 → (w_in (v4 + 1) ∧ LHare_countRuns_52 xs (d + 2) Q r1 v3 (v4 + 1) τ5)))))))) : LHare_countRuns_52 xs (d + 2) Q r1 v3 v4 σ :=
  fun l2 nl2 => (wi_iload4 fHare_countRuns_52 (wi_aload0 fHare_countRuns_53 (wi_getf700 fHare_countRuns_54 (wi_ic_ge fHare_countRuns_55 (fun c7 => (wi_iinc3 fHare_countRuns_85 nl2 (h.1 c7).1 (wi_goto fHare_countRuns_86 ((h.1 c7).2 _ nl2 _ (by exact trivial))))) (fun c7 => (wi_aload0 fHare_countRuns_56 (wi_getf702 fHare_countRuns_57 (wi_iload3 fHare_countRuns_58 (wi_aald10707 fHare_countRuns_59 (h.2 c7).1 (h.2 c7).2.1 (wi_iload4 fHare_countRuns_60 (wi_aload1 fHare_countRuns_61 (wi_iload3 fHare_countRuns_62 (wi_iload4 fHare_countRuns_63 (wi_call3 fHare_countRuns_64 (Nat.le_of_ble_eq_true rfl) (k_Seen_allows (h.2 c7).2.2.1 (wi_ifb_ne fHare_countRuns_65 (fun c6 => (wi_iload3 fHare_countRuns_68 (wi_bipush fHare_countRuns_69 (wi_ic_ne fHare_countRuns_70 (fun c4 => (wi_aload0 fHare_countRuns_73 (wi_aload0 fHare_countRuns_74 (wi_getf702 fHare_countRuns_75 (wi_iload3 fHare_countRuns_76 (wi_bipush fHare_countRuns_77 (wi_iadd fHare_countRuns_78 (((h.2 c7).2.2.2.1 c6).1 c4).1 (wi_aald10707 fHare_countRuns_79 (((h.2 c7).2.2.2.1 c6).1 c4).2.1 (((h.2 c7).2.2.2.1 c6).1 c4).2.2.1 (wi_iload4 fHare_countRuns_80 (wi_call3 fHare_countRuns_81 (Nat.le_of_ble_eq_true rfl) (k_Hare_besides (((h.2 c7).2.2.2.1 c6).1 c4).2.2.2.1 (wi_iast1007 fHare_countRuns_82 ((((h.2 c7).2.2.2.1 c6).1 c4).2.2.2.2 _ rfl).1 ((((h.2 c7).2.2.2.1 c6).1 c4).2.2.2.2 _ rfl).2.1 (wi_iinc4 fHare_countRuns_83 trivial (((((h.2 c7).2.2.2.1 c6).1 c4).2.2.2.2 _ rfl).2.2 _ rfl).1 (wi_goto fHare_countRuns_84 ((((((h.2 c7).2.2.2.1 c6).1 c4).2.2.2.2 _ rfl).2.2 _ rfl).2 _ nl2))))))))))))))) (fun c4 => (wi_bipush fHare_countRuns_71 (wi_goto fHare_countRuns_72 (wi_iast1007 fHare_countRuns_82 (((h.2 c7).2.2.2.1 c6).2 c4).1 (((h.2 c7).2.2.2.1 c6).2 c4).2.1 (wi_iinc4 fHare_countRuns_83 trivial ((((h.2 c7).2.2.2.1 c6).2 c4).2.2 _ rfl).1 (wi_goto fHare_countRuns_84 (((((h.2 c7).2.2.2.1 c6).2 c4).2.2 _ rfl).2 _ nl2))))))))))) (fun c6 => (wi_bipush fHare_countRuns_66 (wi_goto fHare_countRuns_67 (wi_iast1007 fHare_countRuns_82 ((h.2 c7).2.2.2.2 c6).1 ((h.2 c7).2.2.2.2 c6).2.1 (wi_iinc4 fHare_countRuns_83 trivial (((h.2 c7).2.2.2.2 c6).2.2 _ rfl).1 (wi_goto fHare_countRuns_84 ((((h.2 c7).2.2.2.2 c6).2.2 _ rfl).2 _ nl2)))))))))))))))))))))))
set_option maxHeartbeats 2000000 in
theorem k_Hare_countRuns {xs : List Int} {d : Nat} {Q : Option w_V → w_M → Prop} {b : Nat} {x2 : Int} {σ : w_M} (hp : p_Hare_countRuns b x2 σ) (hQ : ∀ σ' : w_M, q_Hare_countRuns b x2 σ σ' → Q none σ') : w_Call (xs, d + 2) 89 [.inr (.inr (7, 63)), .inr (.inr (4, b)), .inl x2] σ Q := by
  obtain ⟨hx, hs8, hb⟩ := hp
  generalize hB : s_ab σ b = B at *
  have hsB : ∀ τ : w_M, w_fr σ τ 63 80 → s_ab τ b = B ∧ τ b 0 = σ b 0 := fun τ F => ⟨by rw [← hB]; exact s_ab_fr (fun d hd => F _ (by omega)), by rw [F b (by omega)]⟩
  refine bHare_countRuns_0 (fun y1 e1 τ2 t2 => ?_)
  have ey : y1 = x2 := by rw [e1]; unfold v_Math_min; split <;> omega
  subst ey
  unfold q_Hare_countRuns at hQ
  rw [hB] at hQ
  have back : ∀ τ : w_M, hc_1 σ B y1 τ 7 → LHare_countRuns_48 xs (d + 2) Q b 6 τ := by
    intro τ0 h0
    refine (w_loop (n := 7) (P := fun k => ∀ τ : w_M, hc_2 σ B y1 τ k → LHare_countRuns_48 xs (d + 2) Q b (6 - (k : Int)) τ) ?_ ?_) τ0 ⟨h0, fun m h1 h2 => by omega⟩
    · intro τ h
      refine bHare_countRuns_48 ⟨fun _ => hQ _ ⟨h.1.2.1, fun n hn i hi => ⟨h.1.2.2 n (by omega) i hi, h.2 n hn (by omega) i hi⟩, h.1.1⟩, fun h => by omega⟩
    · intro k hk nx τ h
      refine bHare_countRuns_48 ⟨fun h => by omega, fun _ => ?_⟩
      obtain ⟨n, hn⟩ : ∃ n : Nat, n = 6 - k := ⟨_, rfl⟩
      rw [show (6 : Int) - (k : Int) = (n : Int) by omega]
      refine (w_loop (n := y1.toNat) (P := fun i => ∀ τ : w_M, hc_2 σ B y1 τ k → (∀ j, j < i → τ (73 + n) j = r_g B y1.toNat (6 - n) j) → LHare_countRuns_52 xs (d + 2) Q b (n : Int) (i : Int) τ) ?_ ?_) τ h (fun j hj => by omega)
      · intro τ h hj
        have h63 := h.1.2.1
        refine bHare_countRuns_52 ⟨fun _ => ⟨⟨by omega, by omega⟩, ?_⟩, fun h => by omega⟩
        rw [show (n : Int) + (-1) = 6 - ((k + 1 : Nat) : Int) by omega]
        refine nx τ ⟨h.1, fun m h1 h2 i hi => ?_⟩
        by_cases hm : m = n
        · rw [hm]; exact hj i hi
        · exact h.2 m h1 (by omega) i hi
      · intro i hi ih τ h hj
        have h63 := h.1.2.1
        obtain ⟨eB, e0⟩ := hsB τ h.1.1
        have wr : ∀ v : Int, v = r_g B y1.toNat (6 - n) i → LHare_countRuns_52 xs (d + 2) Q b (n : Int) ((i : Int) + 1) (w_up τ (73 + n) i v) := fun v ev => by
          rw [← w_cs1]
          refine ih _ ⟨⟨h.1.1.up (by omega) (by omega), by rw [w_up_ne (by omega)]; exact h63, fun m hm q hq => by rw [w_up_ne (by omega)]; exact h.1.2.2 m hm q hq⟩, fun m h1 h2 q hq => by rw [w_up_ne (by omega)]; exact h.2 m h1 h2 q hq⟩ (fun j hj2 => ?_)
          by_cases hji : j = i
          · rw [hji, w_up_at]; exact ev
          · rw [w_up_j hji]; exact hj j (by omega)
        rw [r_gs (by omega)] at wr
        refine bHare_countRuns_52 ⟨fun h => by omega, fun _ => ⟨by omega, by omega, ⟨by omega, by omega⟩, fun c => ⟨fun c2 => ⟨⟨by omega, by omega⟩, by omega, by omega, ⟨⟨by omega, by omega⟩, by omega, fun j hj2 => ?_⟩, fun y ey => ⟨by omega, by omega, fun τ3 t3 => ⟨⟨by omega, by omega⟩, ?_⟩⟩⟩, fun c2 => ⟨by omega, by omega, fun τ3 t3 => ⟨⟨by omega, by omega⟩, ?_⟩⟩⟩, fun c => ⟨by omega, by omega, fun τ3 t3 => ⟨⟨by omega, by omega⟩, ?_⟩⟩⟩⟩
        · rw [h63] at hj2
          rw [show ((n : Int) + 1).toNat = n + 1 by omega, h.2 (n + 1) (by omega) (by omega) j hj2]
          exact r_g_le6 (by omega) hj2
        · rw [t3, Int.toNat_natCast, Int.toNat_natCast]
          refine wr _ ?_
          unfold P_Seen_allows at c
          rw [eB] at c
          rw [r_if_t c, if_neg (by omega), ey]
          unfold v_Hare_besides
          rw [h63, Int.toNat_natCast, show ((n : Int) + 1).toNat = n + 1 by omega]
          exact r_bes_congr hi (fun j hj2 => h.2 (n + 1) (by omega) (by omega) j hj2)
        · rw [t3, Int.toNat_natCast, Int.toNat_natCast]
          refine wr _ ?_
          unfold P_Seen_allows at c
          rw [eB] at c
          rw [r_if_t c, if_pos (by omega)]
        · rw [t3, Int.toNat_natCast, Int.toNat_natCast]
          refine wr _ ?_
          unfold P_Seen_allows at c
          rw [eB] at c
          rw [r_if_f c]
  refine (w_loop (n := 7) (P := fun n => ∀ τ : w_M, hc_1 σ B y1 τ n → LHare_countRuns_7 xs (d + 2) Q b (n : Int) τ) ?_ ?_) τ2 ⟨by rw [t2]; exact w_fr.up0 (by decide) (by decide), by rw [t2, w_up_at], fun m hm => by omega⟩
  · intro τ h
    exact bHare_countRuns_7 ⟨fun _ => back τ h, fun h => by omega⟩
  · intro n hn nx τ h
    refine bHare_countRuns_7 ⟨fun h => by omega, fun _ => ?_⟩
    refine (w_loop (n := y1.toNat) (P := fun i => ∀ τ : w_M, hc_1 σ B y1 τ n → (∀ j, j < i → τ (65 + n) j = r_c B y1.toNat n j) → LHare_countRuns_12 xs (d + 2) Q b (n : Int) (i : Int) τ) ?_ ?_) τ h (fun j hj => by omega)
    · intro τ h hj
      have h63 := h.2.1
      refine bHare_countRuns_12 ⟨fun _ => ⟨⟨by omega, by omega⟩, ?_⟩, fun h => by omega⟩
      rw [← w_cs1]
      refine nx τ ⟨h.1, h.2.1, fun m h1 i hi => ?_⟩
      by_cases hm : m = n
      · rw [hm]; exact hj i hi
      · exact h.2.2 m (by omega) i hi
    · intro i hi ih τ h hj
      have h63 := h.2.1
      obtain ⟨eB, e0⟩ := hsB τ h.1
      have wr : ∀ v : Int, v = r_c B y1.toNat n i → LHare_countRuns_12 xs (d + 2) Q b (n : Int) ((i : Int) + 1) (w_up τ (65 + n) i v) := fun v ev => by
        rw [← w_cs1]
        refine ih _ ⟨h.1.up (by omega) (by omega), by rw [w_up_ne (by omega)]; exact h63, fun m hm q hq => by rw [w_up_ne (by omega)]; exact h.2.2 m hm q hq⟩ (fun j hj2 => ?_)
        by_cases hji : j = i
        · rw [hji, w_up_at]; exact ev
        · rw [w_up_j hji]; exact hj j (by omega)
      rw [r_cs] at wr
      refine bHare_countRuns_12 ⟨fun h => by omega, fun _ => ⟨by omega, by omega, ⟨by omega, by omega⟩, fun c => ⟨fun c2 => ⟨⟨by omega, by omega⟩, by omega, by omega, ⟨⟨by omega, by omega⟩, by omega, fun j hj2 => ?_⟩, fun y ey => ⟨by omega, by omega, fun τ3 t3 => ⟨⟨by omega, by omega⟩, ?_⟩⟩⟩, fun c2 => ⟨by omega, by omega, fun τ3 t3 => ⟨⟨by omega, by omega⟩, ?_⟩⟩⟩, fun c => ⟨by omega, by omega, fun τ3 t3 => ⟨⟨by omega, by omega⟩, ?_⟩⟩⟩⟩
      · rw [h63] at hj2
        rw [show ((n : Int) - 1).toNat = n - 1 by omega, h.2.2 (n - 1) (by omega) j hj2]
        exact r_c_le6 (by omega) hj2
      · rw [t3, Int.toNat_natCast, Int.toNat_natCast]
        refine wr _ ?_
        unfold P_Seen_allows at c
        rw [eB] at c
        rw [r_if_t c, if_neg (by omega), ey]
        unfold v_Hare_besides
        rw [h63, Int.toNat_natCast, show ((n : Int) - 1).toNat = n - 1 by omega]
        exact r_bes_congr hi (fun j hj2 => h.2.2 (n - 1) (by omega) j hj2)
      · rw [t3, Int.toNat_natCast, Int.toNat_natCast]
        refine wr _ ?_
        unfold P_Seen_allows at c
        rw [eB] at c
        rw [r_if_t c, if_pos (by omega)]
      · rw [t3, Int.toNat_natCast, Int.toNat_natCast]
        refine wr _ ?_
        unfold P_Seen_allows at c
        rw [eB] at c
        rw [r_if_f c]
noncomputable def hr_ok (σ : w_M) : Prop := (0 ≤ σ 63 0 ∧ σ 63 0 ≤ 7) ∧ ∀ n, n ≤ 6 → ∀ i, i < (σ 63 0).toNat → (0 ≤ σ (65 + n) i ∧ σ (65 + n) i ≤ 729) ∧ (0 ≤ σ (73 + n) i ∧ σ (73 + n) i ≤ 729)
noncomputable def p_Hare_runsThrough (_ _ : Int) (σ : w_M) : Prop := hr_ok σ
noncomputable def v_Hare_runsThrough (n i : Int) (σ : w_M) : Int := if (0 ≤ n ∧ n ≤ 6) ∧ (0 ≤ i ∧ i < σ 63 0) then σ (65 + n.toNat) i.toNat * σ (73 + n.toNat) i.toNat else 0
theorem mul729 {a b : Int} (ha : 0 ≤ a ∧ a ≤ 729) (hb : 0 ≤ b ∧ b ≤ 729) : 0 ≤ a * b ∧ a * b ≤ 531441 := ⟨Int.mul_nonneg ha.1 hb.1, by have := Int.mul_le_mul ha.2 hb.2 hb.1 (by decide); omega⟩
theorem fHare_runsThrough_0 : w_fe am_c91 0 1 (.iload 1) := ⟨rfl, rfl⟩
theorem fHare_runsThrough_1 : w_if am_c91 1 2 .lt 11 := ⟨rfl, rfl⟩
theorem fHare_runsThrough_2 : w_fe am_c91 2 3 (.iload 1) := ⟨rfl, rfl⟩
theorem fHare_runsThrough_3 : w_fe am_c91 3 4 (.bipush 6) := ⟨rfl, rfl⟩
theorem fHare_runsThrough_4 : w_ic am_c91 4 5 .gt 11 := ⟨rfl, rfl⟩
theorem fHare_runsThrough_5 : w_fe am_c91 5 6 (.iload 2) := ⟨rfl, rfl⟩
theorem fHare_runsThrough_6 : w_if am_c91 6 7 .lt 11 := ⟨rfl, rfl⟩
theorem fHare_runsThrough_7 : w_fe am_c91 7 8 (.iload 2) := ⟨rfl, rfl⟩
theorem fHare_runsThrough_8 : w_fe am_c91 8 9 (.aload 0) := ⟨rfl, rfl⟩
theorem fHare_runsThrough_9 : w_fe am_c91 9 10 (.getfield 700) := ⟨rfl, rfl⟩
theorem fHare_runsThrough_10 : w_ic am_c91 10 11 .lt 13 := ⟨rfl, rfl⟩
theorem fHare_runsThrough_11 : w_fe am_c91 11 12 (.bipush 0) := ⟨rfl, rfl⟩
theorem fHare_runsThrough_12 : w_fe am_c91 12 13 (.ireturn) := ⟨rfl, rfl⟩
theorem fHare_runsThrough_13 : w_fe am_c91 13 14 (.aload 0) := ⟨rfl, rfl⟩
theorem fHare_runsThrough_14 : w_fe am_c91 14 15 (.getfield 701) := ⟨rfl, rfl⟩
theorem fHare_runsThrough_15 : w_fe am_c91 15 16 (.iload 1) := ⟨rfl, rfl⟩
theorem fHare_runsThrough_16 : w_fe am_c91 16 17 (.aaload) := ⟨rfl, rfl⟩
theorem fHare_runsThrough_17 : w_fe am_c91 17 18 (.iload 2) := ⟨rfl, rfl⟩
theorem fHare_runsThrough_18 : w_fe am_c91 18 19 (.iaload) := ⟨rfl, rfl⟩
theorem fHare_runsThrough_19 : w_fe am_c91 19 20 (.aload 0) := ⟨rfl, rfl⟩
theorem fHare_runsThrough_20 : w_fe am_c91 20 21 (.getfield 702) := ⟨rfl, rfl⟩
theorem fHare_runsThrough_21 : w_fe am_c91 21 22 (.iload 1) := ⟨rfl, rfl⟩
theorem fHare_runsThrough_22 : w_fe am_c91 22 23 (.aaload) := ⟨rfl, rfl⟩
theorem fHare_runsThrough_23 : w_fe am_c91 23 24 (.iload 2) := ⟨rfl, rfl⟩
theorem fHare_runsThrough_24 : w_fe am_c91 24 25 (.iaload) := ⟨rfl, rfl⟩
theorem fHare_runsThrough_25 : w_fe am_c91 25 26 (.imul) := ⟨rfl, rfl⟩
theorem fHare_runsThrough_26 : w_fe am_c91 26 27 (.ireturn) := ⟨rfl, rfl⟩
set_option maxRecDepth 20000 in
theorem bHare_runsThrough_0 {xs : List Int} {d : Nat} {Q : Option w_V → w_M → Prop} {x1 : Int} {x2 : Int} {σ : w_M}
    (h : (x1 < 0 → Q (some (.inl 0)) σ) ∧ (0 ≤ x1 → ((6 < x1 → Q (some (.inl 0)) σ) ∧ (x1 ≤ 6 → ((x2 < 0 → Q (some (.inl 0)) σ) ∧ (0 ≤ x2 → ((x2 < (σ 63 0) → (x1 < 7 ∧ x2 < 7 ∧ w_in ((σ (65 + x1.toNat) x2.toNat) * (σ (73 + x1.toNat) x2.toNat)) ∧ Q (some (.inl ((σ (65 + x1.toNat) x2.toNat) * (σ (73 + x1.toNat) x2.toNat)))) σ)) ∧ ((σ 63 0) ≤ x2 → Q (some (.inl 0)) σ)))))))) : w_Call (xs, d) 91 [.inr (.inr (7, 63)), .inl x1, .inl x2] σ Q :=
  (w_mk (mid := 91) (by decide) rfl rfl rfl rfl rfl (Nat.le_of_ble_eq_true rfl) ⟨rfl, Or.inl (by decide)⟩ (wi_iload1 fHare_runsThrough_0 (wi_if_lt fHare_runsThrough_1 (fun c4 => (wi_bipush fHare_runsThrough_11 (wi_ret1 fHare_runsThrough_12 (h.1 c4)))) (fun c4 => (wi_iload1 fHare_runsThrough_2 (wi_bipush fHare_runsThrough_3 (wi_ic_gt fHare_runsThrough_4 (fun c3 => (wi_bipush fHare_runsThrough_11 (wi_ret1 fHare_runsThrough_12 ((h.2 c4).1 c3)))) (fun c3 => (wi_iload2 fHare_runsThrough_5 (wi_if_lt fHare_runsThrough_6 (fun c2 => (wi_bipush fHare_runsThrough_11 (wi_ret1 fHare_runsThrough_12 (((h.2 c4).2 c3).1 c2)))) (fun c2 => (wi_iload2 fHare_runsThrough_7 (wi_aload0 fHare_runsThrough_8 (wi_getf700 fHare_runsThrough_9 (wi_ic_lt fHare_runsThrough_10 (fun c1 => (wi_aload0 fHare_runsThrough_13 (wi_getf701 fHare_runsThrough_14 (wi_iload1 fHare_runsThrough_15 (wi_aald10707 fHare_runsThrough_16 c4 ((((h.2 c4).2 c3).2 c2).1 c1).1 (wi_iload2 fHare_runsThrough_17 (wi_iald1007 fHare_runsThrough_18 c2 ((((h.2 c4).2 c3).2 c2).1 c1).2.1 (wi_aload0 fHare_runsThrough_19 (wi_getf702 fHare_runsThrough_20 (wi_iload1 fHare_runsThrough_21 (wi_aald10707 fHare_runsThrough_22 c4 ((((h.2 c4).2 c3).2 c2).1 c1).1 (wi_iload2 fHare_runsThrough_23 (wi_iald1007 fHare_runsThrough_24 c2 ((((h.2 c4).2 c3).2 c2).1 c1).2.1 (wi_imul fHare_runsThrough_25 ((((h.2 c4).2 c3).2 c2).1 c1).2.2.1 (wi_ret1 fHare_runsThrough_26 ((((h.2 c4).2 c3).2 c2).1 c1).2.2.2))))))))))))))) (fun c1 => (wi_bipush fHare_runsThrough_11 (wi_ret1 fHare_runsThrough_12 ((((h.2 c4).2 c3).2 c2).2 c1)))))))))))))))))))
theorem k_Hare_runsThrough {xs : List Int} {d : Nat} {Q : Option w_V → w_M → Prop} {x1 : Int} {x2 : Int} {σ : w_M} (hp : p_Hare_runsThrough x1 x2 σ) (hQ : Q (some (.inl (v_Hare_runsThrough x1 x2 σ))) σ) : w_Call (xs, d) 91 [.inr (.inr (7, 63)), .inl x1, .inl x2] σ Q := by
  have hp' : hr_ok σ := hp
  have hs := hp'.1
  unfold v_Hare_runsThrough at hQ
  have no : ¬ ((0 ≤ x1 ∧ x1 ≤ 6) ∧ (0 ≤ x2 ∧ x2 < σ 63 0)) → Q (some (.inl 0)) σ := fun h => by rw [if_neg h] at hQ; exact hQ
  refine bHare_runsThrough_0 ⟨fun c => no (by omega), fun c => ⟨fun c2 => no (by omega), fun c2 => ⟨fun c3 => no (by omega), fun c3 => ⟨fun c4 => ⟨by omega, by omega, ?_, ?_⟩, fun c4 => no (by omega)⟩⟩⟩⟩
  · have h := hp'.2 x1.toNat (by omega) x2.toNat (by omega)
    have := mul729 h.1 h.2
    exact ⟨by omega, by omega⟩
  · rw [if_pos (by omega)] at hQ
    exact hQ
noncomputable def p_Hare_allRuns (σ : w_M) : Prop := hr_ok σ
noncomputable def v_Hare_allRuns (σ : w_M) : Int := f_sum (σ 71) (σ 63 0).toNat
theorem fHare_allRuns_0 : w_fe am_c92 0 1 (.bipush 0) := ⟨rfl, rfl⟩
theorem fHare_allRuns_1 : w_fe am_c92 1 2 (.istore 1) := ⟨rfl, rfl⟩
theorem fHare_allRuns_2 : w_fe am_c92 2 3 (.bipush 0) := ⟨rfl, rfl⟩
theorem fHare_allRuns_3 : w_fe am_c92 3 4 (.istore 2) := ⟨rfl, rfl⟩
theorem fHare_allRuns_4 : w_fe am_c92 4 5 (.iload 2) := ⟨rfl, rfl⟩
theorem fHare_allRuns_5 : w_fe am_c92 5 6 (.aload 0) := ⟨rfl, rfl⟩
theorem fHare_allRuns_6 : w_fe am_c92 6 7 (.getfield 700) := ⟨rfl, rfl⟩
theorem fHare_allRuns_7 : w_ic am_c92 7 8 .ge 19 := ⟨rfl, rfl⟩
theorem fHare_allRuns_8 : w_fe am_c92 8 9 (.iload 1) := ⟨rfl, rfl⟩
theorem fHare_allRuns_9 : w_fe am_c92 9 10 (.aload 0) := ⟨rfl, rfl⟩
theorem fHare_allRuns_10 : w_fe am_c92 10 11 (.getfield 701) := ⟨rfl, rfl⟩
theorem fHare_allRuns_11 : w_fe am_c92 11 12 (.bipush 6) := ⟨rfl, rfl⟩
theorem fHare_allRuns_12 : w_fe am_c92 12 13 (.aaload) := ⟨rfl, rfl⟩
theorem fHare_allRuns_13 : w_fe am_c92 13 14 (.iload 2) := ⟨rfl, rfl⟩
theorem fHare_allRuns_14 : w_fe am_c92 14 15 (.iaload) := ⟨rfl, rfl⟩
theorem fHare_allRuns_15 : w_fe am_c92 15 16 (.iadd) := ⟨rfl, rfl⟩
theorem fHare_allRuns_16 : w_fe am_c92 16 17 (.istore 1) := ⟨rfl, rfl⟩
theorem fHare_allRuns_17 : w_fe am_c92 17 18 (.iinc 2 1) := ⟨rfl, rfl⟩
theorem fHare_allRuns_18 : w_gt am_c92 18 4 := rfl
theorem fHare_allRuns_19 : w_fe am_c92 19 20 (.iload 1) := ⟨rfl, rfl⟩
theorem fHare_allRuns_20 : w_fe am_c92 20 21 (.ireturn) := ⟨rfl, rfl⟩
noncomputable def LHare_allRuns_4 (xs : List Int) (d : Nat) (Q : Option w_V → w_M → Prop) (v1 : Int) (v2 : Int) (σ : w_M) : Prop := w_Ex (xs, d) 1 am_c92 Q 4 [some (.inr (.inr (7, 63))), some (.inl v1), some (.inl v2)] [] σ
set_option maxRecDepth 20000 in
theorem bHare_allRuns_0 {xs : List Int} {d : Nat} {Q : Option w_V → w_M → Prop}  {σ : w_M}
    (h : LHare_allRuns_4 xs d Q 0 0 σ) : w_Call (xs, d) 92 [.inr (.inr (7, 63))] σ Q :=
  (w_mk (mid := 92) (by decide) rfl rfl rfl rfl rfl (Nat.le_of_ble_eq_true rfl) ⟨rfl, Or.inl (by decide)⟩ (wi_bipush fHare_allRuns_0 (wi_istore1 fHare_allRuns_1 trivial (wi_bipush fHare_allRuns_2 (wi_istore2 fHare_allRuns_3 trivial h)))))
set_option maxRecDepth 20000 in
theorem bHare_allRuns_4 {xs : List Int} {d : Nat} {Q : Option w_V → w_M → Prop} {v1 : Int} {v2 : Int} {σ : w_M}
    (h : ((σ 63 0) ≤ v2 → Q (some (.inl v1)) σ) ∧ (v2 < (σ 63 0) → (0 ≤ v2 ∧ v2 < 7 ∧ w_in (v1 + (σ 71 v2.toNat)) ∧ (∀ (y1 : Int), y1 = (v1 + (σ 71 v2.toNat)) → (w_in (v2 + 1) ∧ LHare_allRuns_4 xs d Q y1 (v2 + 1) σ))))) : LHare_allRuns_4 xs d Q v1 v2 σ :=
  (wi_iload2 fHare_allRuns_4 (wi_aload0 fHare_allRuns_5 (wi_getf700 fHare_allRuns_6 (wi_ic_ge fHare_allRuns_7 (fun c2 => (wi_iload1 fHare_allRuns_19 (wi_ret1 fHare_allRuns_20 (h.1 c2)))) (fun c2 => (wi_iload1 fHare_allRuns_8 (wi_aload0 fHare_allRuns_9 (wi_getf701 fHare_allRuns_10 (wi_bipush fHare_allRuns_11 (wi_aald10707 fHare_allRuns_12 (by decide) (by decide) (wi_iload2 fHare_allRuns_13 (wi_iald1007 fHare_allRuns_14 (h.2 c2).1 (h.2 c2).2.1 (wi_iadd fHare_allRuns_15 (h.2 c2).2.2.1 (wi_istore1 fHare_allRuns_16 trivial (wi_iinc2 fHare_allRuns_17 trivial ((h.2 c2).2.2.2 _ rfl).1 (wi_goto fHare_allRuns_18 ((h.2 c2).2.2.2 _ rfl).2))))))))))))))))
theorem k_Hare_allRuns {xs : List Int} {d : Nat} {Q : Option w_V → w_M → Prop}  {σ : w_M} (hp : p_Hare_allRuns σ) (hQ : Q (some (.inl (v_Hare_allRuns σ))) σ) : w_Call (xs, d) 92 [.inr (.inr (7, 63))] σ Q := by
  have hp' : hr_ok σ := hp
  have hs := hp'.1
  refine bHare_allRuns_0 ?_
  refine w_loop (n := (σ 63 0).toNat) (P := fun i => LHare_allRuns_4 xs d Q (f_sum (σ 71) i) (i : Int) σ) ?_ ?_
  · exact bHare_allRuns_4 ⟨fun _ => hQ, fun h => by omega⟩
  · intro i hi ih
    have h1 := (hp'.2 6 (by decide) i hi).1
    have h2 := f_sum_le (f := σ 71) (B := 729) (m := (σ 63 0).toNat) (fun i hi => (hp'.2 6 (by decide) i hi).1) (Nat.le_of_lt hi)
    have h3 : 0 ≤ σ 71 i ∧ σ 71 i ≤ 729 := h1
    simp only [f_sum] at ih
    rw [w_cs1] at ih
    refine bHare_allRuns_4 ⟨fun h => by omega, fun _ => ⟨by omega, by omega, ?_⟩⟩
    rw [Int.toNat_natCast]
    exact ⟨⟨by omega, by omega⟩, fun y ey => ⟨⟨by omega, by omega⟩, by rw [ey]; exact ih⟩⟩
/-- where to look: the first strip by which fewest are left at the worst -/
noncomputable def r_wst (all f : Int) : Int := if f ≤ all - f then all - f else f
noncomputable def r_best (f : Nat → Int) (all : Int) : Nat → Int × Int
  | 0 => (-4, all)
  | k + 1 => if r_wst all (f k) < (r_best f all k).2 then ((k : Int), r_wst all (f k)) else r_best f all k
theorem r_best_congr {f g : Nat → Int} {all : Int} : ∀ n, (∀ i, i < n → f i = g i) → r_best f all n = r_best g all n := by
  intro n
  induction n with
  | zero => intro _; rfl
  | succ n ih => intro h; simp only [r_best]; rw [ih (fun i hi => h i (by omega)), h n (by omega)]
noncomputable def r_ans (p : Int × Int) (w : Int) : Int := if p.1 = -4 then -4 else if w = 0 then p.1 else p.2
noncomputable def p_Hare_bestLook (n w : Int) (σ : w_M) : Prop := hr_ok σ ∧ (0 ≤ n ∧ n ≤ 6) ∧ (w = 0 ∨ w = 1)
noncomputable def v_Hare_bestLook (n w : Int) (σ : w_M) : Int := r_ans (r_best (fun i => σ (65 + n.toNat) i * σ (73 + n.toNat) i) (f_sum (σ 71) (σ 63 0).toNat) (σ 63 0).toNat) (1 - w)
theorem fHare_bestLook_0 : w_fe am_c93 0 1 (.aload 0) := ⟨rfl, rfl⟩
theorem fHare_bestLook_1 : w_fe am_c93 1 2 (.invokestatic 92) := ⟨rfl, rfl⟩
theorem fHare_bestLook_2 : w_fe am_c93 2 3 (.istore 3) := ⟨rfl, rfl⟩
theorem fHare_bestLook_3 : w_fe am_c93 3 4 (.bipush (-4)) := ⟨rfl, rfl⟩
theorem fHare_bestLook_4 : w_fe am_c93 4 5 (.istore 4) := ⟨rfl, rfl⟩
theorem fHare_bestLook_5 : w_fe am_c93 5 6 (.iload 3) := ⟨rfl, rfl⟩
theorem fHare_bestLook_6 : w_fe am_c93 6 7 (.istore 5) := ⟨rfl, rfl⟩
theorem fHare_bestLook_7 : w_fe am_c93 7 8 (.bipush 0) := ⟨rfl, rfl⟩
theorem fHare_bestLook_8 : w_fe am_c93 8 9 (.istore 6) := ⟨rfl, rfl⟩
theorem fHare_bestLook_9 : w_fe am_c93 9 10 (.iload 6) := ⟨rfl, rfl⟩
theorem fHare_bestLook_10 : w_fe am_c93 10 11 (.aload 0) := ⟨rfl, rfl⟩
theorem fHare_bestLook_11 : w_fe am_c93 11 12 (.getfield 700) := ⟨rfl, rfl⟩
theorem fHare_bestLook_12 : w_ic am_c93 12 13 .ge 33 := ⟨rfl, rfl⟩
theorem fHare_bestLook_13 : w_fe am_c93 13 14 (.aload 0) := ⟨rfl, rfl⟩
theorem fHare_bestLook_14 : w_fe am_c93 14 15 (.iload 1) := ⟨rfl, rfl⟩
theorem fHare_bestLook_15 : w_fe am_c93 15 16 (.iload 6) := ⟨rfl, rfl⟩
theorem fHare_bestLook_16 : w_fe am_c93 16 17 (.invokestatic 91) := ⟨rfl, rfl⟩
theorem fHare_bestLook_17 : w_fe am_c93 17 18 (.istore 7) := ⟨rfl, rfl⟩
theorem fHare_bestLook_18 : w_fe am_c93 18 19 (.iload 7) := ⟨rfl, rfl⟩
theorem fHare_bestLook_19 : w_fe am_c93 19 20 (.iload 3) := ⟨rfl, rfl⟩
theorem fHare_bestLook_20 : w_fe am_c93 20 21 (.iload 7) := ⟨rfl, rfl⟩
theorem fHare_bestLook_21 : w_fe am_c93 21 22 (.isub) := ⟨rfl, rfl⟩
theorem fHare_bestLook_22 : w_fe am_c93 22 23 (.invokestatic 2) := ⟨rfl, rfl⟩
theorem fHare_bestLook_23 : w_fe am_c93 23 24 (.istore 8) := ⟨rfl, rfl⟩
theorem fHare_bestLook_24 : w_fe am_c93 24 25 (.iload 8) := ⟨rfl, rfl⟩
theorem fHare_bestLook_25 : w_fe am_c93 25 26 (.iload 5) := ⟨rfl, rfl⟩
theorem fHare_bestLook_26 : w_ic am_c93 26 27 .ge 31 := ⟨rfl, rfl⟩
theorem fHare_bestLook_27 : w_fe am_c93 27 28 (.iload 6) := ⟨rfl, rfl⟩
theorem fHare_bestLook_28 : w_fe am_c93 28 29 (.istore 4) := ⟨rfl, rfl⟩
theorem fHare_bestLook_29 : w_fe am_c93 29 30 (.iload 8) := ⟨rfl, rfl⟩
theorem fHare_bestLook_30 : w_fe am_c93 30 31 (.istore 5) := ⟨rfl, rfl⟩
theorem fHare_bestLook_31 : w_fe am_c93 31 32 (.iinc 6 1) := ⟨rfl, rfl⟩
theorem fHare_bestLook_32 : w_gt am_c93 32 9 := rfl
theorem fHare_bestLook_33 : w_fe am_c93 33 34 (.iload 2) := ⟨rfl, rfl⟩
theorem fHare_bestLook_34 : w_if am_c93 34 35 .ne 38 := ⟨rfl, rfl⟩
theorem fHare_bestLook_35 : w_fe am_c93 35 36 (.iload 4) := ⟨rfl, rfl⟩
theorem fHare_bestLook_36 : w_fe am_c93 36 37 (.bipush (-4)) := ⟨rfl, rfl⟩
theorem fHare_bestLook_37 : w_ic am_c93 37 38 .ne 40 := ⟨rfl, rfl⟩
theorem fHare_bestLook_38 : w_fe am_c93 38 39 (.iload 4) := ⟨rfl, rfl⟩
theorem fHare_bestLook_39 : w_gt am_c93 39 41 := rfl
theorem fHare_bestLook_40 : w_fe am_c93 40 41 (.iload 5) := ⟨rfl, rfl⟩
theorem fHare_bestLook_41 : w_fe am_c93 41 42 (.ireturn) := ⟨rfl, rfl⟩
noncomputable def LHare_bestLook_9 (xs : List Int) (d : Nat) (Q : Option w_V → w_M → Prop) (v1 : Int) (v2 : Int) (v3 : Int) (v4 : Int) (v5 : Int) (v6 : Int) (σ : w_M) : Prop := ∀ l7, w_nl l7 → ∀ l8, w_nl l8 → w_Ex (xs, d) 1 am_c93 Q 9 [some (.inr (.inr (7, 63))), some (.inl v1), some (.inl v2), some (.inl v3), some (.inl v4), some (.inl v5), some (.inl v6), l7, l8] [] σ
set_option maxRecDepth 20000 in
theorem bHare_bestLook_0 {xs : List Int} {d : Nat} {Q : Option w_V → w_M → Prop} {x1 : Int} {x2 : Int} {σ : w_M}
    (h : p_Hare_allRuns σ ∧ (∀ (y1 : Int), y1 = v_Hare_allRuns σ → LHare_bestLook_9 xs (d + 1) Q x1 x2 y1 (-4) y1 0 σ)) : w_Call (xs, (d + 1)) 93 [.inr (.inr (7, 63)), .inl x1, .inl x2] σ Q :=
  (w_mk (mid := 93) (by decide) rfl rfl rfl rfl rfl (Nat.le_of_ble_eq_true rfl) ⟨rfl, Or.inl (by decide)⟩ (wi_aload0 fHare_bestLook_0 (wi_call1 fHare_bestLook_1 (Nat.le_of_ble_eq_true rfl) (k_Hare_allRuns h.1 (wi_istore3 fHare_bestLook_2 trivial (wi_bipush fHare_bestLook_3 (wi_istore4 fHare_bestLook_4 trivial (wi_iload3 fHare_bestLook_5 (wi_istore5 fHare_bestLook_6 trivial (wi_bipush fHare_bestLook_7 (wi_istore6 fHare_bestLook_8 trivial ((h.2 _ rfl) _ (by exact trivial) _ (by exact trivial)))))))))))))
set_option maxRecDepth 20000 in
theorem bHare_bestLook_9 {xs : List Int} {d : Nat} {Q : Option w_V → w_M → Prop} {v1 : Int} {v2 : Int} {v3 : Int} {v4 : Int} {v5 : Int} {v6 : Int} {σ : w_M}
    (h : ((σ 63 0) ≤ v6 → ((¬ v2 = 0 → Q (some (.inl v4)) σ) ∧ (v2 = 0 → ((¬ v4 = (-4) → Q (some (.inl v5)) σ) ∧ (v4 = (-4) → Q (some (.inl v4)) σ))))) ∧ (v6 < (σ 63 0) → (p_Hare_runsThrough v1 v6 σ ∧ (∀ (y3 : Int), y3 = v_Hare_runsThrough v1 v6 σ → (w_in (v3 - y3) ∧ (∀ (y4 : Int), y4 = v_Math_max y3 (v3 - y3) → ((v5 ≤ y4 → (w_in (v6 + 1) ∧ LHare_bestLook_9 xs (d + 1) Q v1 v2 v3 v4 v5 (v6 + 1) σ)) ∧ (y4 < v5 → (w_in (v6 + 1) ∧ LHare_bestLook_9 xs (d + 1) Q v1 v2 v3 v6 y4 (v6 + 1) σ))))))))) : LHare_bestLook_9 xs (d + 1) Q v1 v2 v3 v4 v5 v6 σ :=
  fun l7 nl7 => fun l8 nl8 => (wi_iload6 fHare_bestLook_9 (wi_aload0 fHare_bestLook_10 (wi_getf700 fHare_bestLook_11 (wi_ic_ge fHare_bestLook_12 (fun c6 => (wi_iload2 fHare_bestLook_33 (wi_if_ne fHare_bestLook_34 (fun c2 => (wi_iload4 fHare_bestLook_38 (wi_goto fHare_bestLook_39 (wi_ret1 fHare_bestLook_41 ((h.1 c6).1 c2))))) (fun c2 => (wi_iload4 fHare_bestLook_35 (wi_bipush fHare_bestLook_36 (wi_ic_ne fHare_bestLook_37 (fun c1 => (wi_iload5 fHare_bestLook_40 (wi_ret1 fHare_bestLook_41 (((h.1 c6).2 c2).1 c1)))) (fun c1 => (wi_iload4 fHare_bestLook_38 (wi_goto fHare_bestLook_39 (wi_ret1 fHare_bestLook_41 (((h.1 c6).2 c2).2 c1)))))))))))) (fun c6 => (wi_aload0 fHare_bestLook_13 (wi_iload1 fHare_bestLook_14 (wi_iload6 fHare_bestLook_15 (wi_call3 fHare_bestLook_16 (Nat.le_of_ble_eq_true rfl) (k_Hare_runsThrough (h.2 c6).1 (wi_istore7 fHare_bestLook_17 trivial (wi_iload7 fHare_bestLook_18 (wi_iload3 fHare_bestLook_19 (wi_iload7 fHare_bestLook_20 (wi_isub fHare_bestLook_21 ((h.2 c6).2 _ rfl).1 (wi_call2 fHare_bestLook_22 (Nat.le_of_ble_eq_true rfl) (k_Math_max (wi_istore8 fHare_bestLook_23 trivial (wi_iload8 fHare_bestLook_24 (wi_iload5 fHare_bestLook_25 (wi_ic_ge fHare_bestLook_26 (fun c5 => (wi_iinc6 fHare_bestLook_31 trivial ((((h.2 c6).2 _ rfl).2 _ rfl).1 c5).1 (wi_goto fHare_bestLook_32 (((((h.2 c6).2 _ rfl).2 _ rfl).1 c5).2 _ (by exact trivial) _ (by exact trivial))))) (fun c5 => (wi_iload6 fHare_bestLook_27 (wi_istore4 fHare_bestLook_28 trivial (wi_iload8 fHare_bestLook_29 (wi_istore5 fHare_bestLook_30 trivial (wi_iinc6 fHare_bestLook_31 trivial ((((h.2 c6).2 _ rfl).2 _ rfl).2 c5).1 (wi_goto fHare_bestLook_32 (((((h.2 c6).2 _ rfl).2 _ rfl).2 c5).2 _ (by exact trivial) _ (by exact trivial))))))))))))))))))))))))))))))
theorem k_Hare_bestLook {xs : List Int} {d : Nat} {Q : Option w_V → w_M → Prop} {x1 : Int} {x2 : Int} {σ : w_M} (hp : p_Hare_bestLook x1 x2 σ) (hQ : Q (some (.inl (v_Hare_bestLook x1 x2 σ))) σ) : w_Call (xs, d + 1) 93 [.inr (.inr (7, 63)), .inl x1, .inl x2] σ Q := by
  obtain ⟨hp', hn, hw⟩ := hp
  have hs := hp'.1
  have hall := f_sum_le (f := σ 71) (B := 729) (m := (σ 63 0).toNat) (fun i hi => (hp'.2 6 (by decide) i hi).1) (Nat.le_refl _)
  have hall2 : 0 ≤ f_sum (σ 71) (σ 63 0).toNat ∧ f_sum (σ 71) (σ 63 0).toNat ≤ 5103 := by omega
  unfold v_Hare_bestLook at hQ
  refine bHare_bestLook_0 ⟨hp', fun y1 e1 => ?_⟩
  unfold v_Hare_allRuns at e1
  rw [← e1] at hQ hall2
  generalize hf : (fun i => σ (65 + x1.toNat) i * σ (73 + x1.toNat) i) = f at hQ
  refine w_loop (n := (σ 63 0).toNat) (P := fun i => LHare_bestLook_9 xs (d + 1) Q x1 x2 y1 (r_best f y1 i).1 (r_best f y1 i).2 (i : Int) σ) ?_ ?_
  · unfold r_ans at hQ
    refine bHare_bestLook_9 ⟨fun _ => ⟨fun c => ?_, fun c => ⟨fun c2 => ?_, fun c2 => ?_⟩⟩, fun h => by omega⟩
    · by_cases c2 : (r_best f y1 (σ 63 0).toNat).1 = -4
      · rw [if_pos c2] at hQ; rw [c2]; exact hQ
      · rw [if_neg c2, if_pos (by omega)] at hQ; exact hQ
    · rw [if_neg c2, if_neg (by omega)] at hQ; exact hQ
    · rw [if_pos c2] at hQ; rw [c2]; exact hQ
  · intro i hi ih
    have hm := hp'.2 x1.toNat (by omega) i hi
    have hm2 := mul729 hm.1 hm.2
    have ef : v_Hare_runsThrough x1 (i : Int) σ = f i := by
      unfold v_Hare_runsThrough
      rw [if_pos (by omega), Int.toNat_natCast, ← hf]
    have hfi : 0 ≤ f i ∧ f i ≤ 531441 := by rw [← hf]; exact hm2
    simp only [r_best] at ih
    rw [w_cs1] at ih
    refine bHare_bestLook_9 ⟨fun h => by omega, fun _ => ⟨hp', fun y3 e3 => ?_⟩⟩
    rw [ef] at e3
    refine ⟨⟨by omega, by omega⟩, fun y4 e4 => ?_⟩
    have e4' : y4 = r_wst y1 (f i) := by
      rw [e4, e3]
      unfold v_Math_max r_wst
      split <;> split <;> omega
    rw [← e4'] at ih
    refine ⟨fun c => ⟨⟨by omega, by omega⟩, ?_⟩, fun c => ⟨⟨by omega, by omega⟩, ?_⟩⟩
    · rw [if_neg (by omega)] at ih; exact ih
    · rw [if_pos c] at ih; exact ih
noncomputable def r_t (S : w_S) (n i : Nat) : Int := r_if (S 1) n i (r_c (S 1) (n_s (S 0)) n i * r_h (S 1) (n_s (S 0)) (6 - n) i)
noncomputable def r_msk (f : Nat → Int) : Nat → Nat
  | 0 => 0
  | k + 1 => r_msk f k + (if 0 < f k then 2 ^ k else 0)
theorem r_msk_lt (f : Nat → Int) : ∀ k, r_msk f k < 2 ^ k := by
  intro k
  induction k with
  | zero => simp [r_msk]
  | succ k ih =>
    simp only [r_msk, Nat.pow_succ]
    split <;> omega
noncomputable def r_alls (S : w_S) : Int := f_sum (r_c (S 1) (n_s (S 0)) 6) (n_s (S 0))
noncomputable def F_hare (S : w_S) (n : Int) : Int := if 0 ≤ n ∧ n ≤ 6 then ((r_msk (r_t S n.toNat) (n_s (S 0)) : Nat) : Int) else -1
noncomputable def F_runs (S : w_S) : Int := r_alls S
noncomputable def F_look (S : w_S) (n w : Int) : Int := if (0 ≤ n ∧ n ≤ 6) ∧ (0 ≤ w ∧ w ≤ 1) then r_ans (r_best (r_t S n.toNat) (r_alls S) (n_s (S 0))) w else -1
theorem hc_fin {σ τ : w_M} (hC : CI σ) (h : q_Hare_countRuns 23 (σ 14 4) σ τ) : hr_ok τ ∧ τ 14 = σ 14 ∧ w_fr σ τ 31 80 ∧ (τ 63 0).toNat = n_s (cS σ 0) ∧ f_sum (τ 71) (τ 63 0).toNat = r_alls (cS σ) ∧ (∀ n, n ≤ 6 → ∀ i, i < n_s (cS σ 0) → τ (65 + n) i * τ (73 + n) i = r_t (cS σ) n i) := by
  obtain ⟨h1, h2, h3⟩ := h
  have hs := n_ok.s hC.ok
  have eS : cS σ 1 = s_ab σ 23 := rfl
  have en : n_s (cS σ 0) = (σ 14 4).toNat := rfl
  refine ⟨⟨by omega, fun n hn i hi => ?_⟩, h3 14 (by omega), h3.wide (by decide) (by decide), by rw [h1, en], ?_, fun n hn i hi => ?_⟩
  · rw [h1] at hi
    obtain ⟨a, b⟩ := h2 n hn i hi
    rw [a, b]
    exact ⟨r_c_le6 hn hi, r_g_le6 (by omega) hi⟩
  · unfold r_alls
    rw [h1, en, eS]
    exact f_sum_congr (fun i hi => (h2 6 (by decide) i hi).1)
  · rw [en] at hi
    obtain ⟨a, b⟩ := h2 n hn i hi
    unfold r_t
    rw [a, b, r_thr hn, eS, en]
theorem hc_pre {σ : w_M} (hC : CI σ) : p_Hare_countRuns 23 (σ 14 4) σ := ⟨n_ok.s hC.ok, hC.se, by decide⟩
noncomputable def p_Moon_hare (_x1 : Int) (σ : w_M) : Prop := CI σ
noncomputable def q_Moon_hare (x1 : Int) (σ : w_M) (x : Int) (σ' : w_M) : Prop := c_q (F_hare (cS σ) x1) (cS σ) σ x σ'
noncomputable def p_Moon_runs  (σ : w_M) : Prop := CI σ
noncomputable def q_Moon_runs  (σ : w_M) (x : Int) (σ' : w_M) : Prop := c_q (F_runs (cS σ)) (cS σ) σ x σ'
noncomputable def p_Moon_look (_x1 : Int) (_x2 : Int) (σ : w_M) : Prop := CI σ
noncomputable def q_Moon_look (x1 : Int) (x2 : Int) (σ : w_M) (x : Int) (σ' : w_M) : Prop := c_q (F_look (cS σ) x1 x2) (cS σ) σ x σ'
theorem fMoon_hare_0 : w_fe am_c139 0 1 (.iload 1) := ⟨rfl, rfl⟩
theorem fMoon_hare_1 : w_fe am_c139 1 2 (.bipush 0) := ⟨rfl, rfl⟩
theorem fMoon_hare_2 : w_fe am_c139 2 3 (.bipush 6) := ⟨rfl, rfl⟩
theorem fMoon_hare_3 : w_fe am_c139 3 4 (.invokestatic 107) := ⟨rfl, rfl⟩
theorem fMoon_hare_4 : w_if am_c139 4 5 .ne 7 := ⟨rfl, rfl⟩
theorem fMoon_hare_5 : w_fe am_c139 5 6 (.bipush (-1)) := ⟨rfl, rfl⟩
theorem fMoon_hare_6 : w_fe am_c139 6 7 (.ireturn) := ⟨rfl, rfl⟩
theorem fMoon_hare_7 : w_fe am_c139 7 8 (.aload 0) := ⟨rfl, rfl⟩
theorem fMoon_hare_8 : w_fe am_c139 8 9 (.getfield 5) := ⟨rfl, rfl⟩
theorem fMoon_hare_9 : w_fe am_c139 9 10 (.aload 0) := ⟨rfl, rfl⟩
theorem fMoon_hare_10 : w_fe am_c139 10 11 (.getfield 1) := ⟨rfl, rfl⟩
theorem fMoon_hare_11 : w_fe am_c139 11 12 (.getfield 301) := ⟨rfl, rfl⟩
theorem fMoon_hare_12 : w_fe am_c139 12 13 (.aload 0) := ⟨rfl, rfl⟩
theorem fMoon_hare_13 : w_fe am_c139 13 14 (.getfield 2) := ⟨rfl, rfl⟩
theorem fMoon_hare_14 : w_fe am_c139 14 15 (.getfield 204) := ⟨rfl, rfl⟩
theorem fMoon_hare_15 : w_fe am_c139 15 16 (.invokestatic 89) := ⟨rfl, rfl⟩
theorem fMoon_hare_16 : w_fe am_c139 16 17 (.bipush 0) := ⟨rfl, rfl⟩
theorem fMoon_hare_17 : w_fe am_c139 17 18 (.istore 2) := ⟨rfl, rfl⟩
theorem fMoon_hare_18 : w_fe am_c139 18 19 (.bipush 0) := ⟨rfl, rfl⟩
theorem fMoon_hare_19 : w_fe am_c139 19 20 (.istore 3) := ⟨rfl, rfl⟩
theorem fMoon_hare_20 : w_fe am_c139 20 21 (.iload 3) := ⟨rfl, rfl⟩
theorem fMoon_hare_21 : w_fe am_c139 21 22 (.aload 0) := ⟨rfl, rfl⟩
theorem fMoon_hare_22 : w_fe am_c139 22 23 (.getfield 2) := ⟨rfl, rfl⟩
theorem fMoon_hare_23 : w_fe am_c139 23 24 (.getfield 204) := ⟨rfl, rfl⟩
theorem fMoon_hare_24 : w_ic am_c139 24 25 .ge 40 := ⟨rfl, rfl⟩
theorem fMoon_hare_25 : w_fe am_c139 25 26 (.iload 2) := ⟨rfl, rfl⟩
theorem fMoon_hare_26 : w_fe am_c139 26 27 (.iload 3) := ⟨rfl, rfl⟩
theorem fMoon_hare_27 : w_fe am_c139 27 28 (.aload 0) := ⟨rfl, rfl⟩
theorem fMoon_hare_28 : w_fe am_c139 28 29 (.getfield 5) := ⟨rfl, rfl⟩
theorem fMoon_hare_29 : w_fe am_c139 29 30 (.iload 1) := ⟨rfl, rfl⟩
theorem fMoon_hare_30 : w_fe am_c139 30 31 (.iload 3) := ⟨rfl, rfl⟩
theorem fMoon_hare_31 : w_fe am_c139 31 32 (.invokestatic 91) := ⟨rfl, rfl⟩
theorem fMoon_hare_32 : w_if am_c139 32 33 .le 35 := ⟨rfl, rfl⟩
theorem fMoon_hare_33 : w_fe am_c139 33 34 (.bipush 1) := ⟨rfl, rfl⟩
theorem fMoon_hare_34 : w_gt am_c139 34 36 := rfl
theorem fMoon_hare_35 : w_fe am_c139 35 36 (.bipush 0) := ⟨rfl, rfl⟩
theorem fMoon_hare_36 : w_fe am_c139 36 37 (.invokestatic 110) := ⟨rfl, rfl⟩
theorem fMoon_hare_37 : w_fe am_c139 37 38 (.istore 2) := ⟨rfl, rfl⟩
theorem fMoon_hare_38 : w_fe am_c139 38 39 (.iinc 3 1) := ⟨rfl, rfl⟩
theorem fMoon_hare_39 : w_gt am_c139 39 20 := rfl
theorem fMoon_hare_40 : w_fe am_c139 40 41 (.iload 2) := ⟨rfl, rfl⟩
theorem fMoon_hare_41 : w_fe am_c139 41 42 (.ireturn) := ⟨rfl, rfl⟩
noncomputable def LMoon_hare_20 (xs : List Int) (d : Nat) (Q : Option w_V → w_M → Prop) (v1 : Int) (v2 : Int) (v3 : Int) (σ : w_M) : Prop := w_Ex (xs, d) 1 am_c139 Q 20 [some (.inr (.inr (0, 0))), some (.inl v1), some (.inl v2), some (.inl v3)] [] σ
set_option maxRecDepth 20000 in
theorem bMoon_hare_0 {xs : List Int} {d : Nat} {Q : Option w_V → w_M → Prop} {x1 : Int} {σ : w_M}
    (h : ((0 ≤ x1 ∧ x1 ≤ 6) → (p_Hare_countRuns 23 (σ 14 4) σ ∧ (∀ (τ1 : w_M), q_Hare_countRuns 23 (σ 14 4) σ τ1 → LMoon_hare_20 xs (d + 3) Q x1 0 0 τ1))) ∧ (¬ (0 ≤ x1 ∧ x1 ≤ 6) → Q (some (.inl (-1))) σ)) : w_Call (xs, (d + 3)) 139 [.inr (.inr (0, 0)), .inl x1] σ Q :=
  (w_mk (mid := 139) (by decide) rfl rfl rfl rfl rfl (Nat.le_of_ble_eq_true rfl) ⟨rfl, Or.inl (by decide)⟩ (wi_iload1 fMoon_hare_0 (wi_bipush fMoon_hare_1 (wi_bipush fMoon_hare_2 (wi_call3 fMoon_hare_3 (Nat.le_of_ble_eq_true rfl) (k_Moon_isWithin (wi_ifb_ne fMoon_hare_4 (fun c2 => (wi_aload0 fMoon_hare_7 (wi_getf5 fMoon_hare_8 (wi_aload0 fMoon_hare_9 (wi_getf1 fMoon_hare_10 (wi_getf301 fMoon_hare_11 (wi_aload0 fMoon_hare_12 (wi_getf2 fMoon_hare_13 (wi_getf204 fMoon_hare_14 (wi_call3 fMoon_hare_15 (Nat.le_of_ble_eq_true rfl) (k_Hare_countRuns (h.1 c2).1 (fun τ1 eτ1 => (wi_bipush fMoon_hare_16 (wi_istore2 fMoon_hare_17 trivial (wi_bipush fMoon_hare_18 (wi_istore3 fMoon_hare_19 trivial ((h.1 c2).2 τ1 eτ1))))))))))))))))) (fun c2 => (wi_bipush fMoon_hare_5 (wi_ret1 fMoon_hare_6 (h.2 c2)))))))))))
set_option maxRecDepth 20000 in
theorem bMoon_hare_20 {xs : List Int} {d : Nat} {Q : Option w_V → w_M → Prop} {v1 : Int} {v2 : Int} {v3 : Int} {σ : w_M}
    (h : ((σ 14 4) ≤ v3 → Q (some (.inl v2)) σ) ∧ (v3 < (σ 14 4) → (p_Hare_runsThrough v1 v3 σ ∧ (∀ (y1 : Int), y1 = v_Hare_runsThrough v1 v3 σ → ((y1 ≤ 0 → ∀ (y2 : Int), y2 = v_Moon_withBit v2 v3 0 → (w_in (v3 + 1) ∧ LMoon_hare_20 xs (d + 3) Q v1 y2 (v3 + 1) σ)) ∧ (0 < y1 → ∀ (y3 : Int), y3 = v_Moon_withBit v2 v3 1 → (w_in (v3 + 1) ∧ LMoon_hare_20 xs (d + 3) Q v1 y3 (v3 + 1) σ))))))) : LMoon_hare_20 xs (d + 3) Q v1 v2 v3 σ :=
  (wi_iload3 fMoon_hare_20 (wi_aload0 fMoon_hare_21 (wi_getf2 fMoon_hare_22 (wi_getf204 fMoon_hare_23 (wi_ic_ge fMoon_hare_24 (fun c5 => (wi_iload2 fMoon_hare_40 (wi_ret1 fMoon_hare_41 (h.1 c5)))) (fun c5 => (wi_iload2 fMoon_hare_25 (wi_iload3 fMoon_hare_26 (wi_aload0 fMoon_hare_27 (wi_getf5 fMoon_hare_28 (wi_iload1 fMoon_hare_29 (wi_iload3 fMoon_hare_30 (wi_call3 fMoon_hare_31 (Nat.le_of_ble_eq_true rfl) (k_Hare_runsThrough (h.2 c5).1 (wi_if_le fMoon_hare_32 (fun c4 => (wi_bipush fMoon_hare_35 (wi_call3 fMoon_hare_36 (Nat.le_of_ble_eq_true rfl) (k_Moon_withBit (wi_istore2 fMoon_hare_37 trivial (wi_iinc3 fMoon_hare_38 trivial ((((h.2 c5).2 _ rfl).1 c4) _ rfl).1 (wi_goto fMoon_hare_39 ((((h.2 c5).2 _ rfl).1 c4) _ rfl).2))))))) (fun c4 => (wi_bipush fMoon_hare_33 (wi_goto fMoon_hare_34 (wi_call3 fMoon_hare_36 (Nat.le_of_ble_eq_true rfl) (k_Moon_withBit (wi_istore2 fMoon_hare_37 trivial (wi_iinc3 fMoon_hare_38 trivial ((((h.2 c5).2 _ rfl).2 c4) _ rfl).1 (wi_goto fMoon_hare_39 ((((h.2 c5).2 _ rfl).2 c4) _ rfl).2)))))))))))))))))))))))
theorem fMoon_runs_0 : w_fe am_c140 0 1 (.aload 0) := ⟨rfl, rfl⟩
theorem fMoon_runs_1 : w_fe am_c140 1 2 (.getfield 5) := ⟨rfl, rfl⟩
theorem fMoon_runs_2 : w_fe am_c140 2 3 (.aload 0) := ⟨rfl, rfl⟩
theorem fMoon_runs_3 : w_fe am_c140 3 4 (.getfield 1) := ⟨rfl, rfl⟩
theorem fMoon_runs_4 : w_fe am_c140 4 5 (.getfield 301) := ⟨rfl, rfl⟩
theorem fMoon_runs_5 : w_fe am_c140 5 6 (.aload 0) := ⟨rfl, rfl⟩
theorem fMoon_runs_6 : w_fe am_c140 6 7 (.getfield 2) := ⟨rfl, rfl⟩
theorem fMoon_runs_7 : w_fe am_c140 7 8 (.getfield 204) := ⟨rfl, rfl⟩
theorem fMoon_runs_8 : w_fe am_c140 8 9 (.invokestatic 89) := ⟨rfl, rfl⟩
theorem fMoon_runs_9 : w_fe am_c140 9 10 (.aload 0) := ⟨rfl, rfl⟩
theorem fMoon_runs_10 : w_fe am_c140 10 11 (.getfield 5) := ⟨rfl, rfl⟩
theorem fMoon_runs_11 : w_fe am_c140 11 12 (.invokestatic 92) := ⟨rfl, rfl⟩
theorem fMoon_runs_12 : w_fe am_c140 12 13 (.ireturn) := ⟨rfl, rfl⟩
set_option maxRecDepth 20000 in
theorem bMoon_runs_0 {xs : List Int} {d : Nat} {Q : Option w_V → w_M → Prop}  {σ : w_M}
    (h : p_Hare_countRuns 23 (σ 14 4) σ ∧ (∀ (τ1 : w_M), q_Hare_countRuns 23 (σ 14 4) σ τ1 → (p_Hare_allRuns τ1 ∧ (∀ (y2 : Int), y2 = v_Hare_allRuns τ1 → Q (some (.inl y2)) τ1)))) : w_Call (xs, (d + 3)) 140 [.inr (.inr (0, 0))] σ Q :=
  (w_mk (mid := 140) (by decide) rfl rfl rfl rfl rfl (Nat.le_of_ble_eq_true rfl) ⟨rfl, Or.inl (by decide)⟩ (wi_aload0 fMoon_runs_0 (wi_getf5 fMoon_runs_1 (wi_aload0 fMoon_runs_2 (wi_getf1 fMoon_runs_3 (wi_getf301 fMoon_runs_4 (wi_aload0 fMoon_runs_5 (wi_getf2 fMoon_runs_6 (wi_getf204 fMoon_runs_7 (wi_call3 fMoon_runs_8 (Nat.le_of_ble_eq_true rfl) (k_Hare_countRuns h.1 (fun τ1 eτ1 => (wi_aload0 fMoon_runs_9 (wi_getf5 fMoon_runs_10 (wi_call1 fMoon_runs_11 (Nat.le_of_ble_eq_true rfl) (k_Hare_allRuns (h.2 τ1 eτ1).1 (wi_ret1 fMoon_runs_12 ((h.2 τ1 eτ1).2 _ rfl))))))))))))))))))
theorem fMoon_look_0 : w_fe am_c141 0 1 (.iload 1) := ⟨rfl, rfl⟩
theorem fMoon_look_1 : w_fe am_c141 1 2 (.bipush 0) := ⟨rfl, rfl⟩
theorem fMoon_look_2 : w_fe am_c141 2 3 (.bipush 6) := ⟨rfl, rfl⟩
theorem fMoon_look_3 : w_fe am_c141 3 4 (.invokestatic 107) := ⟨rfl, rfl⟩
theorem fMoon_look_4 : w_if am_c141 4 5 .eq 10 := ⟨rfl, rfl⟩
theorem fMoon_look_5 : w_fe am_c141 5 6 (.iload 2) := ⟨rfl, rfl⟩
theorem fMoon_look_6 : w_fe am_c141 6 7 (.bipush 0) := ⟨rfl, rfl⟩
theorem fMoon_look_7 : w_fe am_c141 7 8 (.bipush 1) := ⟨rfl, rfl⟩
theorem fMoon_look_8 : w_fe am_c141 8 9 (.invokestatic 107) := ⟨rfl, rfl⟩
theorem fMoon_look_9 : w_if am_c141 9 10 .ne 12 := ⟨rfl, rfl⟩
theorem fMoon_look_10 : w_fe am_c141 10 11 (.bipush (-1)) := ⟨rfl, rfl⟩
theorem fMoon_look_11 : w_fe am_c141 11 12 (.ireturn) := ⟨rfl, rfl⟩
theorem fMoon_look_12 : w_fe am_c141 12 13 (.aload 0) := ⟨rfl, rfl⟩
theorem fMoon_look_13 : w_fe am_c141 13 14 (.getfield 5) := ⟨rfl, rfl⟩
theorem fMoon_look_14 : w_fe am_c141 14 15 (.aload 0) := ⟨rfl, rfl⟩
theorem fMoon_look_15 : w_fe am_c141 15 16 (.getfield 1) := ⟨rfl, rfl⟩
theorem fMoon_look_16 : w_fe am_c141 16 17 (.getfield 301) := ⟨rfl, rfl⟩
theorem fMoon_look_17 : w_fe am_c141 17 18 (.aload 0) := ⟨rfl, rfl⟩
theorem fMoon_look_18 : w_fe am_c141 18 19 (.getfield 2) := ⟨rfl, rfl⟩
theorem fMoon_look_19 : w_fe am_c141 19 20 (.getfield 204) := ⟨rfl, rfl⟩
theorem fMoon_look_20 : w_fe am_c141 20 21 (.invokestatic 89) := ⟨rfl, rfl⟩
theorem fMoon_look_21 : w_fe am_c141 21 22 (.aload 0) := ⟨rfl, rfl⟩
theorem fMoon_look_22 : w_fe am_c141 22 23 (.getfield 5) := ⟨rfl, rfl⟩
theorem fMoon_look_23 : w_fe am_c141 23 24 (.iload 1) := ⟨rfl, rfl⟩
theorem fMoon_look_24 : w_fe am_c141 24 25 (.iload 2) := ⟨rfl, rfl⟩
theorem fMoon_look_25 : w_if am_c141 25 26 .ne 28 := ⟨rfl, rfl⟩
theorem fMoon_look_26 : w_fe am_c141 26 27 (.bipush 1) := ⟨rfl, rfl⟩
theorem fMoon_look_27 : w_gt am_c141 27 29 := rfl
theorem fMoon_look_28 : w_fe am_c141 28 29 (.bipush 0) := ⟨rfl, rfl⟩
theorem fMoon_look_29 : w_fe am_c141 29 30 (.invokestatic 93) := ⟨rfl, rfl⟩
theorem fMoon_look_30 : w_fe am_c141 30 31 (.ireturn) := ⟨rfl, rfl⟩
set_option maxRecDepth 20000 in
theorem bMoon_look_0 {xs : List Int} {d : Nat} {Q : Option w_V → w_M → Prop} {x1 : Int} {x2 : Int} {σ : w_M}
    (h : (¬ (0 ≤ x1 ∧ x1 ≤ 6) → Q (some (.inl (-1))) σ) ∧ ((0 ≤ x1 ∧ x1 ≤ 6) → (((0 ≤ x2 ∧ x2 ≤ 1) → (p_Hare_countRuns 23 (σ 14 4) σ ∧ (∀ (τ1 : w_M), q_Hare_countRuns 23 (σ 14 4) σ τ1 → ((¬ x2 = 0 → (p_Hare_bestLook x1 0 τ1 ∧ (∀ (y2 : Int), y2 = v_Hare_bestLook x1 0 τ1 → Q (some (.inl y2)) τ1))) ∧ (x2 = 0 → (p_Hare_bestLook x1 1 τ1 ∧ (∀ (y3 : Int), y3 = v_Hare_bestLook x1 1 τ1 → Q (some (.inl y3)) τ1))))))) ∧ (¬ (0 ≤ x2 ∧ x2 ≤ 1) → Q (some (.inl (-1))) σ)))) : w_Call (xs, (d + 3)) 141 [.inr (.inr (0, 0)), .inl x1, .inl x2] σ Q :=
  (w_mk (mid := 141) (by decide) rfl rfl rfl rfl rfl (Nat.le_of_ble_eq_true rfl) ⟨rfl, Or.inl (by decide)⟩ (wi_iload1 fMoon_look_0 (wi_bipush fMoon_look_1 (wi_bipush fMoon_look_2 (wi_call3 fMoon_look_3 (Nat.le_of_ble_eq_true rfl) (k_Moon_isWithin (wi_ifb_eq fMoon_look_4 (fun c6 => (wi_bipush fMoon_look_10 (wi_ret1 fMoon_look_11 (h.1 c6)))) (fun c6 => (wi_iload2 fMoon_look_5 (wi_bipush fMoon_look_6 (wi_bipush fMoon_look_7 (wi_call3 fMoon_look_8 (Nat.le_of_ble_eq_true rfl) (k_Moon_isWithin (wi_ifb_ne fMoon_look_9 (fun c5 => (wi_aload0 fMoon_look_12 (wi_getf5 fMoon_look_13 (wi_aload0 fMoon_look_14 (wi_getf1 fMoon_look_15 (wi_getf301 fMoon_look_16 (wi_aload0 fMoon_look_17 (wi_getf2 fMoon_look_18 (wi_getf204 fMoon_look_19 (wi_call3 fMoon_look_20 (Nat.le_of_ble_eq_true rfl) (k_Hare_countRuns ((h.2 c6).1 c5).1 (fun τ1 eτ1 => (wi_aload0 fMoon_look_21 (wi_getf5 fMoon_look_22 (wi_iload1 fMoon_look_23 (wi_iload2 fMoon_look_24 (wi_if_ne fMoon_look_25 (fun c4 => (wi_bipush fMoon_look_28 (wi_call3 fMoon_look_29 (Nat.le_of_ble_eq_true rfl) (k_Hare_bestLook ((((h.2 c6).1 c5).2 τ1 eτ1).1 c4).1 (wi_ret1 fMoon_look_30 (((((h.2 c6).1 c5).2 τ1 eτ1).1 c4).2 _ rfl)))))) (fun c4 => (wi_bipush fMoon_look_26 (wi_goto fMoon_look_27 (wi_call3 fMoon_look_29 (Nat.le_of_ble_eq_true rfl) (k_Hare_bestLook ((((h.2 c6).1 c5).2 τ1 eτ1).2 c4).1 (wi_ret1 fMoon_look_30 (((((h.2 c6).1 c5).2 τ1 eτ1).2 c4).2 _ rfl)))))))))))))))))))))))) (fun c5 => (wi_bipush fMoon_look_10 (wi_ret1 fMoon_look_11 ((h.2 c6).2 c5))))))))))))))))))
theorem k_Moon_hare {xs : List Int} {d : Nat} {Q : Option w_V → w_M → Prop} {x1 : Int} {σ : w_M} (hp : p_Moon_hare x1 σ) (hQ : ∀ (x : Int) (σ' : w_M), q_Moon_hare x1 σ x σ' → Q (some (.inl x)) σ') : w_Call (xs, d + 3) 139 [.inr (.inr (0, 0)), .inl x1] σ Q := by
  have hC : CI σ := hp
  have hs := n_ok.s hC.ok
  unfold q_Moon_hare F_hare at hQ
  refine bMoon_hare_0 ⟨fun c => ⟨hc_pre hC, fun τ hq => ?_⟩, fun c => ?_⟩
  · obtain ⟨g1, g2, g3, g4, g5, g6⟩ := hc_fin hC hq
    have h63 := hq.1
    have en : n_s (cS σ 0) = (σ 14 4).toNat := rfl
    rw [if_pos c] at hQ
    refine w_loop (n := (σ 14 4).toNat) (P := fun i => LMoon_hare_20 xs (d + 3) Q x1 ((r_msk (r_t (cS σ) x1.toNat) i : Nat) : Int) (i : Int) τ) ?_ ?_
    · refine bMoon_hare_20 ⟨fun _ => hQ _ _ (c_qs hC g3 (by rw [en])), fun h => by rw [g2] at h; omega⟩
    · intro i hi ih
      have hb := w_bit_set i (by omega) _ (r_msk_lt (r_t (cS σ) x1.toNat) i)
      have et := g6 x1.toNat (by omega) i hi
      simp only [r_msk] at ih
      rw [w_cs1] at ih
      refine bMoon_hare_20 ⟨fun h => by rw [g2] at h; omega, fun _ => ⟨g1, fun y ey => ?_⟩⟩
      have ey2 : y = r_t (cS σ) x1.toNat i := by
        rw [ey]
        unfold v_Hare_runsThrough
        rw [if_pos (by omega), Int.toNat_natCast]
        exact et
      refine ⟨fun c2 y2 e2 => ⟨⟨by omega, by omega⟩, ?_⟩, fun c2 y2 e2 => ⟨⟨by omega, by omega⟩, ?_⟩⟩
      · rw [if_neg (by rw [← ey2]; omega), Nat.add_zero] at ih
        rw [e2, hb.2]
        exact ih
      · rw [if_pos (by rw [← ey2]; exact c2)] at ih
        rw [e2, hb.1]
        exact ih
  · rw [if_neg c] at hQ
    exact hQ _ _ (c_qr hC rfl)
theorem k_Moon_runs {xs : List Int} {d : Nat} {Q : Option w_V → w_M → Prop}  {σ : w_M} (hp : p_Moon_runs σ) (hQ : ∀ (x : Int) (σ' : w_M), q_Moon_runs σ x σ' → Q (some (.inl x)) σ') : w_Call (xs, d + 3) 140 [.inr (.inr (0, 0))] σ Q := by
  have hC : CI σ := hp
  unfold q_Moon_runs F_runs at hQ
  refine bMoon_runs_0 ⟨hc_pre hC, fun τ hq => ?_⟩
  obtain ⟨g1, g2, g3, g4, g5, g6⟩ := hc_fin hC hq
  refine ⟨g1, fun y ey => hQ _ _ (c_qs hC g3 ?_)⟩
  rw [ey]
  exact g5
theorem k_Moon_look {xs : List Int} {d : Nat} {Q : Option w_V → w_M → Prop} {x1 : Int} {x2 : Int} {σ : w_M} (hp : p_Moon_look x1 x2 σ) (hQ : ∀ (x : Int) (σ' : w_M), q_Moon_look x1 x2 σ x σ' → Q (some (.inl x)) σ') : w_Call (xs, d + 3) 141 [.inr (.inr (0, 0)), .inl x1, .inl x2] σ Q := by
  have hC : CI σ := hp
  unfold q_Moon_look F_look at hQ
  refine bMoon_look_0 ⟨fun c => ?_, fun c => ⟨fun c2 => ⟨hc_pre hC, fun τ hq => ?_⟩, fun c2 => ?_⟩⟩
  · rw [if_neg (fun q => c q.1)] at hQ
    exact hQ _ _ (c_qr hC rfl)
  · obtain ⟨g1, g2, g3, g4, g5, g6⟩ := hc_fin hC hq
    rw [if_pos ⟨c, c2⟩] at hQ
    have key : ∀ w : Int, v_Hare_bestLook x1 w τ = r_ans (r_best (r_t (cS σ) x1.toNat) (r_alls (cS σ)) (n_s (cS σ 0))) (1 - w) := fun w => by
      unfold v_Hare_bestLook
      rw [g5, g4, r_best_congr (n_s (cS σ 0)) (fun i hi => g6 x1.toNat (by omega) i hi)]
    refine ⟨fun c3 => ⟨⟨g1, c, Or.inl rfl⟩, fun y ey => hQ _ _ (c_qs hC g3 ?_)⟩, fun c3 => ⟨⟨g1, c, Or.inr rfl⟩, fun y ey => hQ _ _ (c_qs hC g3 ?_)⟩⟩
    · rw [ey, key, show x2 = 1 by omega]; rfl
    · rw [ey, key, c3]; rfl
  · rw [if_neg (fun q => c2 q.2)] at hQ
    exact hQ _ _ (c_qr hC rfl)
end
section
/-! The hare, as the reference counts -/
noncomputable def w_f2 (σ σ' : w_M) : Prop := ∀ b, b ≠ 128 → b ≠ 129 → σ' b = σ b
noncomputable def mc_1 (σ : w_M) (B : w_M) (s : Nat) (τ : w_M) (n : Nat) : Prop := w_f2 σ τ ∧ ∀ m, m < n → ∀ i, i < s → τ 128 (7 * m + i) = r_c B s m i
noncomputable def mc_2 (σ : w_M) (B : w_M) (s : Nat) (τ : w_M) (k : Nat) : Prop := mc_1 σ B s τ 7 ∧ ∀ m, m ≤ 6 → 7 ≤ m + k → ∀ i, i < s → τ 129 (7 * m + i) = r_g B s (6 - m) i
noncomputable def p_Model_findRuns (σ : w_M) : Prop := MI σ
noncomputable def q_Model_findRuns (σ σ' : w_M) : Prop := mc_2 σ (s_am σ 0) (σ 122 4).toNat σ' 7
theorem fModel_findRuns_0 : w_fe am_c218 0 1 (.bipush 0) := ⟨rfl, rfl⟩
theorem fModel_findRuns_1 : w_fe am_c218 1 2 (.istore 1) := ⟨rfl, rfl⟩
theorem fModel_findRuns_2 : w_fe am_c218 2 3 (.iload 1) := ⟨rfl, rfl⟩
theorem fModel_findRuns_3 : w_fe am_c218 3 4 (.bipush 6) := ⟨rfl, rfl⟩
theorem fModel_findRuns_4 : w_ic am_c218 4 5 .gt 44 := ⟨rfl, rfl⟩
theorem fModel_findRuns_5 : w_fe am_c218 5 6 (.bipush 0) := ⟨rfl, rfl⟩
theorem fModel_findRuns_6 : w_fe am_c218 6 7 (.istore 2) := ⟨rfl, rfl⟩
theorem fModel_findRuns_7 : w_fe am_c218 7 8 (.iload 2) := ⟨rfl, rfl⟩
theorem fModel_findRuns_8 : w_fe am_c218 8 9 (.aload 0) := ⟨rfl, rfl⟩
theorem fModel_findRuns_9 : w_fe am_c218 9 10 (.getfield 904) := ⟨rfl, rfl⟩
theorem fModel_findRuns_10 : w_ic am_c218 10 11 .ge 42 := ⟨rfl, rfl⟩
theorem fModel_findRuns_11 : w_fe am_c218 11 12 (.iload 1) := ⟨rfl, rfl⟩
theorem fModel_findRuns_12 : w_if am_c218 12 13 .ne 15 := ⟨rfl, rfl⟩
theorem fModel_findRuns_13 : w_fe am_c218 13 14 (.bipush 1) := ⟨rfl, rfl⟩
theorem fModel_findRuns_14 : w_gt am_c218 14 23 := rfl
theorem fModel_findRuns_15 : w_fe am_c218 15 16 (.aload 0) := ⟨rfl, rfl⟩
theorem fModel_findRuns_16 : w_fe am_c218 16 17 (.aload 0) := ⟨rfl, rfl⟩
theorem fModel_findRuns_17 : w_fe am_c218 17 18 (.getfield 922) := ⟨rfl, rfl⟩
theorem fModel_findRuns_18 : w_fe am_c218 18 19 (.iload 1) := ⟨rfl, rfl⟩
theorem fModel_findRuns_19 : w_fe am_c218 19 20 (.bipush 1) := ⟨rfl, rfl⟩
theorem fModel_findRuns_20 : w_fe am_c218 20 21 (.isub) := ⟨rfl, rfl⟩
theorem fModel_findRuns_21 : w_fe am_c218 21 22 (.iload 2) := ⟨rfl, rfl⟩
theorem fModel_findRuns_22 : w_fe am_c218 22 23 (.invokestatic 219) := ⟨rfl, rfl⟩
theorem fModel_findRuns_23 : w_fe am_c218 23 24 (.istore 3) := ⟨rfl, rfl⟩
theorem fModel_findRuns_24 : w_fe am_c218 24 25 (.aload 0) := ⟨rfl, rfl⟩
theorem fModel_findRuns_25 : w_fe am_c218 25 26 (.getfield 922) := ⟨rfl, rfl⟩
theorem fModel_findRuns_26 : w_fe am_c218 26 27 (.bipush 7) := ⟨rfl, rfl⟩
theorem fModel_findRuns_27 : w_fe am_c218 27 28 (.iload 1) := ⟨rfl, rfl⟩
theorem fModel_findRuns_28 : w_fe am_c218 28 29 (.imul) := ⟨rfl, rfl⟩
theorem fModel_findRuns_29 : w_fe am_c218 29 30 (.iload 2) := ⟨rfl, rfl⟩
theorem fModel_findRuns_30 : w_fe am_c218 30 31 (.iadd) := ⟨rfl, rfl⟩
theorem fModel_findRuns_31 : w_fe am_c218 31 32 (.aload 0) := ⟨rfl, rfl⟩
theorem fModel_findRuns_32 : w_fe am_c218 32 33 (.iload 1) := ⟨rfl, rfl⟩
theorem fModel_findRuns_33 : w_fe am_c218 33 34 (.iload 2) := ⟨rfl, rfl⟩
theorem fModel_findRuns_34 : w_fe am_c218 34 35 (.invokestatic 221) := ⟨rfl, rfl⟩
theorem fModel_findRuns_35 : w_if am_c218 35 36 .eq 38 := ⟨rfl, rfl⟩
theorem fModel_findRuns_36 : w_fe am_c218 36 37 (.iload 3) := ⟨rfl, rfl⟩
theorem fModel_findRuns_37 : w_gt am_c218 37 39 := rfl
theorem fModel_findRuns_38 : w_fe am_c218 38 39 (.bipush 0) := ⟨rfl, rfl⟩
theorem fModel_findRuns_39 : w_fe am_c218 39 40 (.iastore) := ⟨rfl, rfl⟩
theorem fModel_findRuns_40 : w_fe am_c218 40 41 (.iinc 2 1) := ⟨rfl, rfl⟩
theorem fModel_findRuns_41 : w_gt am_c218 41 7 := rfl
theorem fModel_findRuns_42 : w_fe am_c218 42 43 (.iinc 1 1) := ⟨rfl, rfl⟩
theorem fModel_findRuns_43 : w_gt am_c218 43 2 := rfl
theorem fModel_findRuns_44 : w_fe am_c218 44 45 (.bipush 6) := ⟨rfl, rfl⟩
theorem fModel_findRuns_45 : w_fe am_c218 45 46 (.istore 1) := ⟨rfl, rfl⟩
theorem fModel_findRuns_46 : w_fe am_c218 46 47 (.iload 1) := ⟨rfl, rfl⟩
theorem fModel_findRuns_47 : w_if am_c218 47 48 .lt 88 := ⟨rfl, rfl⟩
theorem fModel_findRuns_48 : w_fe am_c218 48 49 (.bipush 0) := ⟨rfl, rfl⟩
theorem fModel_findRuns_49 : w_fe am_c218 49 50 (.istore 2) := ⟨rfl, rfl⟩
theorem fModel_findRuns_50 : w_fe am_c218 50 51 (.iload 2) := ⟨rfl, rfl⟩
theorem fModel_findRuns_51 : w_fe am_c218 51 52 (.aload 0) := ⟨rfl, rfl⟩
theorem fModel_findRuns_52 : w_fe am_c218 52 53 (.getfield 904) := ⟨rfl, rfl⟩
theorem fModel_findRuns_53 : w_ic am_c218 53 54 .ge 86 := ⟨rfl, rfl⟩
theorem fModel_findRuns_54 : w_fe am_c218 54 55 (.iload 1) := ⟨rfl, rfl⟩
theorem fModel_findRuns_55 : w_fe am_c218 55 56 (.bipush 6) := ⟨rfl, rfl⟩
theorem fModel_findRuns_56 : w_ic am_c218 56 57 .ne 59 := ⟨rfl, rfl⟩
theorem fModel_findRuns_57 : w_fe am_c218 57 58 (.bipush 1) := ⟨rfl, rfl⟩
theorem fModel_findRuns_58 : w_gt am_c218 58 67 := rfl
theorem fModel_findRuns_59 : w_fe am_c218 59 60 (.aload 0) := ⟨rfl, rfl⟩
theorem fModel_findRuns_60 : w_fe am_c218 60 61 (.aload 0) := ⟨rfl, rfl⟩
theorem fModel_findRuns_61 : w_fe am_c218 61 62 (.getfield 923) := ⟨rfl, rfl⟩
theorem fModel_findRuns_62 : w_fe am_c218 62 63 (.iload 1) := ⟨rfl, rfl⟩
theorem fModel_findRuns_63 : w_fe am_c218 63 64 (.bipush 1) := ⟨rfl, rfl⟩
theorem fModel_findRuns_64 : w_fe am_c218 64 65 (.iadd) := ⟨rfl, rfl⟩
theorem fModel_findRuns_65 : w_fe am_c218 65 66 (.iload 2) := ⟨rfl, rfl⟩
theorem fModel_findRuns_66 : w_fe am_c218 66 67 (.invokestatic 219) := ⟨rfl, rfl⟩
theorem fModel_findRuns_67 : w_fe am_c218 67 68 (.istore 3) := ⟨rfl, rfl⟩
theorem fModel_findRuns_68 : w_fe am_c218 68 69 (.aload 0) := ⟨rfl, rfl⟩
theorem fModel_findRuns_69 : w_fe am_c218 69 70 (.getfield 923) := ⟨rfl, rfl⟩
theorem fModel_findRuns_70 : w_fe am_c218 70 71 (.bipush 7) := ⟨rfl, rfl⟩
theorem fModel_findRuns_71 : w_fe am_c218 71 72 (.iload 1) := ⟨rfl, rfl⟩
theorem fModel_findRuns_72 : w_fe am_c218 72 73 (.imul) := ⟨rfl, rfl⟩
theorem fModel_findRuns_73 : w_fe am_c218 73 74 (.iload 2) := ⟨rfl, rfl⟩
theorem fModel_findRuns_74 : w_fe am_c218 74 75 (.iadd) := ⟨rfl, rfl⟩
theorem fModel_findRuns_75 : w_fe am_c218 75 76 (.aload 0) := ⟨rfl, rfl⟩
theorem fModel_findRuns_76 : w_fe am_c218 76 77 (.iload 1) := ⟨rfl, rfl⟩
theorem fModel_findRuns_77 : w_fe am_c218 77 78 (.iload 2) := ⟨rfl, rfl⟩
theorem fModel_findRuns_78 : w_fe am_c218 78 79 (.invokestatic 221) := ⟨rfl, rfl⟩
theorem fModel_findRuns_79 : w_if am_c218 79 80 .eq 82 := ⟨rfl, rfl⟩
theorem fModel_findRuns_80 : w_fe am_c218 80 81 (.iload 3) := ⟨rfl, rfl⟩
theorem fModel_findRuns_81 : w_gt am_c218 81 83 := rfl
theorem fModel_findRuns_82 : w_fe am_c218 82 83 (.bipush 0) := ⟨rfl, rfl⟩
theorem fModel_findRuns_83 : w_fe am_c218 83 84 (.iastore) := ⟨rfl, rfl⟩
theorem fModel_findRuns_84 : w_fe am_c218 84 85 (.iinc 2 1) := ⟨rfl, rfl⟩
theorem fModel_findRuns_85 : w_gt am_c218 85 50 := rfl
theorem fModel_findRuns_86 : w_fe am_c218 86 87 (.iinc 1 (-1)) := ⟨rfl, rfl⟩
theorem fModel_findRuns_87 : w_gt am_c218 87 46 := rfl
theorem fModel_findRuns_88 : w_fe am_c218 88 89 (.return_) := ⟨rfl, rfl⟩
noncomputable def LModel_findRuns_2 (xs : List Int) (d : Nat) (Q : Option w_V → w_M → Prop) (v1 : Int) (σ : w_M) : Prop := ∀ l2, w_nl l2 → ∀ l3, w_nl l3 → w_Ex (xs, d) 0 am_c218 Q 2 [some (.inr (.inr (9, 122))), some (.inl v1), l2, l3] [] σ
noncomputable def LModel_findRuns_46 (xs : List Int) (d : Nat) (Q : Option w_V → w_M → Prop) (v1 : Int) (σ : w_M) : Prop := ∀ l2, w_nl l2 → ∀ l3, w_nl l3 → w_Ex (xs, d) 0 am_c218 Q 46 [some (.inr (.inr (9, 122))), some (.inl v1), l2, l3] [] σ
noncomputable def LModel_findRuns_7 (xs : List Int) (d : Nat) (Q : Option w_V → w_M → Prop) (v1 : Int) (v2 : Int) (σ : w_M) : Prop := ∀ l3, w_nl l3 → w_Ex (xs, d) 0 am_c218 Q 7 [some (.inr (.inr (9, 122))), some (.inl v1), some (.inl v2), l3] [] σ
noncomputable def LModel_findRuns_50 (xs : List Int) (d : Nat) (Q : Option w_V → w_M → Prop) (v1 : Int) (v2 : Int) (σ : w_M) : Prop := ∀ l3, w_nl l3 → w_Ex (xs, d) 0 am_c218 Q 50 [some (.inr (.inr (9, 122))), some (.inl v1), some (.inl v2), l3] [] σ
set_option maxRecDepth 20000 in
theorem bModel_findRuns_0 {xs : List Int} {d : Nat} {Q : Option w_V → w_M → Prop}  {σ : w_M}
    (h : LModel_findRuns_2 xs (d + 2) Q 0 σ) : w_Call (xs, (d + 2)) 218 [.inr (.inr (9, 122))] σ Q :=
  (w_mk (mid := 218) (by decide) rfl rfl rfl rfl rfl (Nat.le_of_ble_eq_true rfl) ⟨rfl, Or.inl (by decide)⟩ (wi_bipush fModel_findRuns_0 (wi_istore1 fModel_findRuns_1 trivial (h _ (by exact trivial) _ (by exact trivial)))))
set_option maxRecDepth 20000 in
theorem bModel_findRuns_2 {xs : List Int} {d : Nat} {Q : Option w_V → w_M → Prop} {v1 : Int} {σ : w_M}
    (h : (6 < v1 → LModel_findRuns_46 xs (d + 2) Q 6 σ) ∧ (v1 ≤ 6 → LModel_findRuns_7 xs (d + 2) Q v1 0 σ)) : LModel_findRuns_2 xs (d + 2) Q v1 σ :=
  fun l2 nl2 => fun l3 nl3 => (wi_iload1 fModel_findRuns_2 (wi_bipush fModel_findRuns_3 (wi_ic_gt fModel_findRuns_4 (fun c1 => (wi_bipush fModel_findRuns_44 (wi_istore1 fModel_findRuns_45 trivial ((h.1 c1) _ nl2 _ nl3)))) (fun c1 => (wi_bipush fModel_findRuns_5 (wi_istore2 fModel_findRuns_6 trivial ((h.2 c1) _ nl3)))))))
set_option maxRecDepth 20000 in
theorem bModel_findRuns_46 {xs : List Int} {d : Nat} {Q : Option w_V → w_M → Prop} {v1 : Int} {σ : w_M}
    (h : (v1 < 0 → Q none σ) ∧ (0 ≤ v1 → LModel_findRuns_50 xs (d + 2) Q v1 0 σ)) : LModel_findRuns_46 xs (d + 2) Q v1 σ :=
  fun l2 nl2 => fun l3 nl3 => (wi_iload1 fModel_findRuns_46 (wi_if_lt fModel_findRuns_47 (fun c1 => (wi_ret0 fModel_findRuns_88 (h.1 c1))) (fun c1 => (wi_bipush fModel_findRuns_48 (wi_istore2 fModel_findRuns_49 trivial ((h.2 c1) _ nl3))))))
set_option maxRecDepth 20000 in
theorem bModel_findRuns_7 {xs : List Int} {d : Nat} {Q : Option w_V → w_M → Prop} {v1 : Int} {v2 : Int} {σ : w_M}
    (h : ((σ 122 4) ≤ v2 → (w_in (v1 + 1) ∧ LModel_findRuns_2 xs (d + 2) Q (v1 + 1) σ)) ∧ (v2 < (σ 122 4) → ((¬ v1 = 0 → (w_in (v1 - 1) ∧ p_Model_besides 128 (v1 - 1) v2 σ ∧ (∀ (y1 : Int), y1 = v_Model_besides 128 (v1 - 1) v2 σ → (w_in (7 * v1) ∧ w_in ((7 * v1) + v2) ∧ p_Model_canStand v1 v2 σ ∧ ((¬ (P_Model_canStand v1 v2 σ) → (0 ≤ ((7 * v1) + v2) ∧ ((7 * v1) + v2) < 49 ∧ (∀ (τ2 : w_M), τ2 = w_up σ 128 ((7 * v1) + v2).toNat 0 → (w_in (v2 + 1) ∧ LModel_findRuns_7 xs (d + 2) Q v1 (v2 + 1) τ2)))) ∧ ((P_Model_canStand v1 v2 σ) → (0 ≤ ((7 * v1) + v2) ∧ ((7 * v1) + v2) < 49 ∧ (∀ (τ3 : w_M), τ3 = w_up σ 128 ((7 * v1) + v2).toNat y1 → (w_in (v2 + 1) ∧ LModel_findRuns_7 xs (d + 2) Q v1 (v2 + 1) τ3))))))))) ∧ (v1 = 0 → (w_in (7 * v1) ∧ w_in ((7 * v1) + v2) ∧ p_Model_canStand v1 v2 σ ∧ ((¬ (P_Model_canStand v1 v2 σ) → (0 ≤ ((7 * v1) + v2) ∧ ((7 * v1) + v2) < 49 ∧ (∀ (τ5 : w_M), τ5 = w_up σ 128 ((7 * v1) + v2).toNat 0 → (w_in (v2 + 1) ∧ LModel_findRuns_7 xs (d + 2) Q v1 (v2 + 1) τ5)))) ∧ ((P_Model_canStand v1 v2 σ) → (0 ≤ ((7 * v1) + v2) ∧ ((7 * v1) + v2) < 49 ∧ (∀ (τ6 : w_M), τ6 = w_up σ 128 ((7 * v1) + v2).toNat 1 → (w_in (v2 + 1) ∧ LModel_findRuns_7 xs (d + 2) Q v1 (v2 + 1) τ6)))))))))) : LModel_findRuns_7 xs (d + 2) Q v1 v2 σ :=
  fun l3 nl3 => (wi_iload2 fModel_findRuns_7 (wi_aload0 fModel_findRuns_8 (wi_getf904 fModel_findRuns_9 (wi_ic_ge fModel_findRuns_10 (fun c9 => (wi_iinc1 fModel_findRuns_42 trivial (h.1 c9).1 (wi_goto fModel_findRuns_43 ((h.1 c9).2 _ (by exact trivial) _ nl3)))) (fun c9 => (wi_iload1 fModel_findRuns_11 (wi_if_ne fModel_findRuns_12 (fun c8 => (wi_aload0 fModel_findRuns_15 (wi_aload0 fModel_findRuns_16 (wi_getf922 fModel_findRuns_17 (wi_iload1 fModel_findRuns_18 (wi_bipush fModel_findRuns_19 (wi_isub fModel_findRuns_20 ((h.2 c9).1 c8).1 (wi_iload2 fModel_findRuns_21 (wi_call4 fModel_findRuns_22 (Nat.le_of_ble_eq_true rfl) (k_Model_besides ((h.2 c9).1 c8).2.1 (wi_istore3 fModel_findRuns_23 trivial (wi_aload0 fModel_findRuns_24 (wi_getf922 fModel_findRuns_25 (wi_bipush fModel_findRuns_26 (wi_iload1 fModel_findRuns_27 (wi_imul fModel_findRuns_28 (((h.2 c9).1 c8).2.2 _ rfl).1 (wi_iload2 fModel_findRuns_29 (wi_iadd fModel_findRuns_30 (((h.2 c9).1 c8).2.2 _ rfl).2.1 (wi_aload0 fModel_findRuns_31 (wi_iload1 fModel_findRuns_32 (wi_iload2 fModel_findRuns_33 (wi_call3 fModel_findRuns_34 (Nat.le_of_ble_eq_true rfl) (k_Model_canStand (((h.2 c9).1 c8).2.2 _ rfl).2.2.1 (wi_ifb_eq fModel_findRuns_35 (fun c4 => (wi_bipush fModel_findRuns_38 (wi_iast1049 fModel_findRuns_39 ((((h.2 c9).1 c8).2.2 _ rfl).2.2.2.1 c4).1 ((((h.2 c9).1 c8).2.2 _ rfl).2.2.2.1 c4).2.1 (wi_iinc2 fModel_findRuns_40 trivial (((((h.2 c9).1 c8).2.2 _ rfl).2.2.2.1 c4).2.2 _ rfl).1 (wi_goto fModel_findRuns_41 ((((((h.2 c9).1 c8).2.2 _ rfl).2.2.2.1 c4).2.2 _ rfl).2 _ (by exact trivial))))))) (fun c4 => (wi_iload3 fModel_findRuns_36 (wi_goto fModel_findRuns_37 (wi_iast1049 fModel_findRuns_39 ((((h.2 c9).1 c8).2.2 _ rfl).2.2.2.2 c4).1 ((((h.2 c9).1 c8).2.2 _ rfl).2.2.2.2 c4).2.1 (wi_iinc2 fModel_findRuns_40 trivial (((((h.2 c9).1 c8).2.2 _ rfl).2.2.2.2 c4).2.2 _ rfl).1 (wi_goto fModel_findRuns_41 ((((((h.2 c9).1 c8).2.2 _ rfl).2.2.2.2 c4).2.2 _ rfl).2 _ (by exact trivial)))))))))))))))))))))))))))))))) (fun c8 => (wi_bipush fModel_findRuns_13 (wi_goto fModel_findRuns_14 (wi_istore3 fModel_findRuns_23 trivial (wi_aload0 fModel_findRuns_24 (wi_getf922 fModel_findRuns_25 (wi_bipush fModel_findRuns_26 (wi_iload1 fModel_findRuns_27 (wi_imul fModel_findRuns_28 ((h.2 c9).2 c8).1 (wi_iload2 fModel_findRuns_29 (wi_iadd fModel_findRuns_30 ((h.2 c9).2 c8).2.1 (wi_aload0 fModel_findRuns_31 (wi_iload1 fModel_findRuns_32 (wi_iload2 fModel_findRuns_33 (wi_call3 fModel_findRuns_34 (Nat.le_of_ble_eq_true rfl) (k_Model_canStand ((h.2 c9).2 c8).2.2.1 (wi_ifb_eq fModel_findRuns_35 (fun c7 => (wi_bipush fModel_findRuns_38 (wi_iast1049 fModel_findRuns_39 (((h.2 c9).2 c8).2.2.2.1 c7).1 (((h.2 c9).2 c8).2.2.2.1 c7).2.1 (wi_iinc2 fModel_findRuns_40 trivial ((((h.2 c9).2 c8).2.2.2.1 c7).2.2 _ rfl).1 (wi_goto fModel_findRuns_41 (((((h.2 c9).2 c8).2.2.2.1 c7).2.2 _ rfl).2 _ (by exact trivial))))))) (fun c7 => (wi_iload3 fModel_findRuns_36 (wi_goto fModel_findRuns_37 (wi_iast1049 fModel_findRuns_39 (((h.2 c9).2 c8).2.2.2.2 c7).1 (((h.2 c9).2 c8).2.2.2.2 c7).2.1 (wi_iinc2 fModel_findRuns_40 trivial ((((h.2 c9).2 c8).2.2.2.2 c7).2.2 _ rfl).1 (wi_goto fModel_findRuns_41 (((((h.2 c9).2 c8).2.2.2.2 c7).2.2 _ rfl).2 _ (by exact trivial))))))))))))))))))))))))))))))))
set_option maxRecDepth 20000 in
theorem bModel_findRuns_50 {xs : List Int} {d : Nat} {Q : Option w_V → w_M → Prop} {v1 : Int} {v2 : Int} {σ : w_M}
    (h : ((σ 122 4) ≤ v2 → (w_in (v1 + (-1)) ∧ LModel_findRuns_46 xs (d + 2) Q (v1 + (-1)) σ)) ∧ (v2 < (σ 122 4) → ((¬ v1 = 6 → (w_in (v1 + 1) ∧ p_Model_besides 129 (v1 + 1) v2 σ ∧ (∀ (y1 : Int), y1 = v_Model_besides 129 (v1 + 1) v2 σ → (w_in (7 * v1) ∧ w_in ((7 * v1) + v2) ∧ p_Model_canStand v1 v2 σ ∧ ((¬ (P_Model_canStand v1 v2 σ) → (0 ≤ ((7 * v1) + v2) ∧ ((7 * v1) + v2) < 49 ∧ (∀ (τ2 : w_M), τ2 = w_up σ 129 ((7 * v1) + v2).toNat 0 → (w_in (v2 + 1) ∧ LModel_findRuns_50 xs (d + 2) Q v1 (v2 + 1) τ2)))) ∧ ((P_Model_canStand v1 v2 σ) → (0 ≤ ((7 * v1) + v2) ∧ ((7 * v1) + v2) < 49 ∧ (∀ (τ3 : w_M), τ3 = w_up σ 129 ((7 * v1) + v2).toNat y1 → (w_in (v2 + 1) ∧ LModel_findRuns_50 xs (d + 2) Q v1 (v2 + 1) τ3))))))))) ∧ (v1 = 6 → (w_in (7 * v1) ∧ w_in ((7 * v1) + v2) ∧ p_Model_canStand v1 v2 σ ∧ ((¬ (P_Model_canStand v1 v2 σ) → (0 ≤ ((7 * v1) + v2) ∧ ((7 * v1) + v2) < 49 ∧ (∀ (τ5 : w_M), τ5 = w_up σ 129 ((7 * v1) + v2).toNat 0 → (w_in (v2 + 1) ∧ LModel_findRuns_50 xs (d + 2) Q v1 (v2 + 1) τ5)))) ∧ ((P_Model_canStand v1 v2 σ) → (0 ≤ ((7 * v1) + v2) ∧ ((7 * v1) + v2) < 49 ∧ (∀ (τ6 : w_M), τ6 = w_up σ 129 ((7 * v1) + v2).toNat 1 → (w_in (v2 + 1) ∧ LModel_findRuns_50 xs (d + 2) Q v1 (v2 + 1) τ6)))))))))) : LModel_findRuns_50 xs (d + 2) Q v1 v2 σ :=
  fun l3 nl3 => (wi_iload2 fModel_findRuns_50 (wi_aload0 fModel_findRuns_51 (wi_getf904 fModel_findRuns_52 (wi_ic_ge fModel_findRuns_53 (fun c9 => (wi_iinc1 fModel_findRuns_86 trivial (h.1 c9).1 (wi_goto fModel_findRuns_87 ((h.1 c9).2 _ (by exact trivial) _ nl3)))) (fun c9 => (wi_iload1 fModel_findRuns_54 (wi_bipush fModel_findRuns_55 (wi_ic_ne fModel_findRuns_56 (fun c8 => (wi_aload0 fModel_findRuns_59 (wi_aload0 fModel_findRuns_60 (wi_getf923 fModel_findRuns_61 (wi_iload1 fModel_findRuns_62 (wi_bipush fModel_findRuns_63 (wi_iadd fModel_findRuns_64 ((h.2 c9).1 c8).1 (wi_iload2 fModel_findRuns_65 (wi_call4 fModel_findRuns_66 (Nat.le_of_ble_eq_true rfl) (k_Model_besides ((h.2 c9).1 c8).2.1 (wi_istore3 fModel_findRuns_67 trivial (wi_aload0 fModel_findRuns_68 (wi_getf923 fModel_findRuns_69 (wi_bipush fModel_findRuns_70 (wi_iload1 fModel_findRuns_71 (wi_imul fModel_findRuns_72 (((h.2 c9).1 c8).2.2 _ rfl).1 (wi_iload2 fModel_findRuns_73 (wi_iadd fModel_findRuns_74 (((h.2 c9).1 c8).2.2 _ rfl).2.1 (wi_aload0 fModel_findRuns_75 (wi_iload1 fModel_findRuns_76 (wi_iload2 fModel_findRuns_77 (wi_call3 fModel_findRuns_78 (Nat.le_of_ble_eq_true rfl) (k_Model_canStand (((h.2 c9).1 c8).2.2 _ rfl).2.2.1 (wi_ifb_eq fModel_findRuns_79 (fun c4 => (wi_bipush fModel_findRuns_82 (wi_iast1049 fModel_findRuns_83 ((((h.2 c9).1 c8).2.2 _ rfl).2.2.2.1 c4).1 ((((h.2 c9).1 c8).2.2 _ rfl).2.2.2.1 c4).2.1 (wi_iinc2 fModel_findRuns_84 trivial (((((h.2 c9).1 c8).2.2 _ rfl).2.2.2.1 c4).2.2 _ rfl).1 (wi_goto fModel_findRuns_85 ((((((h.2 c9).1 c8).2.2 _ rfl).2.2.2.1 c4).2.2 _ rfl).2 _ (by exact trivial))))))) (fun c4 => (wi_iload3 fModel_findRuns_80 (wi_goto fModel_findRuns_81 (wi_iast1049 fModel_findRuns_83 ((((h.2 c9).1 c8).2.2 _ rfl).2.2.2.2 c4).1 ((((h.2 c9).1 c8).2.2 _ rfl).2.2.2.2 c4).2.1 (wi_iinc2 fModel_findRuns_84 trivial (((((h.2 c9).1 c8).2.2 _ rfl).2.2.2.2 c4).2.2 _ rfl).1 (wi_goto fModel_findRuns_85 ((((((h.2 c9).1 c8).2.2 _ rfl).2.2.2.2 c4).2.2 _ rfl).2 _ (by exact trivial)))))))))))))))))))))))))))))))) (fun c8 => (wi_bipush fModel_findRuns_57 (wi_goto fModel_findRuns_58 (wi_istore3 fModel_findRuns_67 trivial (wi_aload0 fModel_findRuns_68 (wi_getf923 fModel_findRuns_69 (wi_bipush fModel_findRuns_70 (wi_iload1 fModel_findRuns_71 (wi_imul fModel_findRuns_72 ((h.2 c9).2 c8).1 (wi_iload2 fModel_findRuns_73 (wi_iadd fModel_findRuns_74 ((h.2 c9).2 c8).2.1 (wi_aload0 fModel_findRuns_75 (wi_iload1 fModel_findRuns_76 (wi_iload2 fModel_findRuns_77 (wi_call3 fModel_findRuns_78 (Nat.le_of_ble_eq_true rfl) (k_Model_canStand ((h.2 c9).2 c8).2.2.1 (wi_ifb_eq fModel_findRuns_79 (fun c7 => (wi_bipush fModel_findRuns_82 (wi_iast1049 fModel_findRuns_83 (((h.2 c9).2 c8).2.2.2.1 c7).1 (((h.2 c9).2 c8).2.2.2.1 c7).2.1 (wi_iinc2 fModel_findRuns_84 trivial ((((h.2 c9).2 c8).2.2.2.1 c7).2.2 _ rfl).1 (wi_goto fModel_findRuns_85 (((((h.2 c9).2 c8).2.2.2.1 c7).2.2 _ rfl).2 _ (by exact trivial))))))) (fun c7 => (wi_iload3 fModel_findRuns_80 (wi_goto fModel_findRuns_81 (wi_iast1049 fModel_findRuns_83 (((h.2 c9).2 c8).2.2.2.2 c7).1 (((h.2 c9).2 c8).2.2.2.2 c7).2.1 (wi_iinc2 fModel_findRuns_84 trivial ((((h.2 c9).2 c8).2.2.2.2 c7).2.2 _ rfl).1 (wi_goto fModel_findRuns_85 (((((h.2 c9).2 c8).2.2.2.2 c7).2.2 _ rfl).2 _ (by exact trivial)))))))))))))))))))))))))))))))))
set_option maxHeartbeats 2000000 in
theorem k_Model_findRuns {xs : List Int} {d : Nat} {Q : Option w_V → w_M → Prop}  {σ : w_M} (hp : p_Model_findRuns σ) (hQ : ∀ σ' : w_M, q_Model_findRuns σ σ' → Q none σ') : w_Call (xs, d + 2) 218 [.inr (.inr (9, 122))] σ Q := by
  have hM : MI σ := hp
  have hs := hM.s
  have hse := hM.se
  unfold q_Model_findRuns at hQ
  generalize hB : s_am σ 0 = B at *
  have hsB : ∀ τ : w_M, w_f2 σ τ → s_am τ 0 = B ∧ τ 122 = σ 122 ∧ τ 123 = σ 123 := fun τ F => by
    have h123 := F 123 (by decide) (by decide)
    refine ⟨?_, F 122 (by decide) (by decide), h123⟩
    rw [← hB]
    funext d i
    unfold s_am
    rw [h123]
  refine bModel_findRuns_0 ?_
  have back : ∀ τ : w_M, mc_1 σ B (σ 122 4).toNat τ 7 → LModel_findRuns_46 xs (d + 2) Q 6 τ := by
    intro τ0 h0
    refine (w_loop (n := 7) (P := fun k => ∀ τ : w_M, mc_2 σ B (σ 122 4).toNat τ k → LModel_findRuns_46 xs (d + 2) Q (6 - (k : Int)) τ) ?_ ?_) τ0 ⟨h0, fun m h1 h2 => by omega⟩
    · intro τ h
      exact bModel_findRuns_46 ⟨fun _ => hQ _ h, fun h => by omega⟩
    · intro k hk nx τ h
      refine bModel_findRuns_46 ⟨fun h => by omega, fun _ => ?_⟩
      obtain ⟨n, hn⟩ : ∃ n : Nat, n = 6 - k := ⟨_, rfl⟩
      rw [show (6 : Int) - (k : Int) = (n : Int) by omega]
      refine (w_loop (n := (σ 122 4).toNat) (P := fun i => ∀ τ : w_M, mc_2 σ B (σ 122 4).toNat τ k → (∀ j, j < i → τ 129 (7 * n + j) = r_g B (σ 122 4).toNat (6 - n) j) → LModel_findRuns_50 xs (d + 2) Q (n : Int) (i : Int) τ) ?_ ?_) τ h (fun j hj => by omega)
      · intro τ h hj
        obtain ⟨eB, z2, z3⟩ := hsB τ h.1.1
        refine bModel_findRuns_50 ⟨fun _ => ⟨⟨by omega, by omega⟩, ?_⟩, fun h => by rw [z2] at h; omega⟩
        rw [show (n : Int) + (-1) = 6 - ((k + 1 : Nat) : Int) by omega]
        refine nx τ ⟨h.1, fun m h1 h2 i hi => ?_⟩
        by_cases hm : m = n
        · rw [hm]; exact hj i hi
        · exact h.2 m h1 (by omega) i hi
      · intro i hi ih τ h hj
        obtain ⟨eB, z2, z3⟩ := hsB τ h.1.1
        have pc : p_Model_canStand (n : Int) (i : Int) τ := by unfold p_Model_canStand; rw [z3]; exact hse
        have ix : (7 * (n : Int) + (i : Int)).toNat = 7 * n + i := by omega
        have wr : ∀ v : Int, v = r_g B (σ 122 4).toNat (6 - n) i → LModel_findRuns_50 xs (d + 2) Q (n : Int) ((i : Int) + 1) (w_up τ 129 (7 * n + i) v) := fun v ev => by
          rw [← w_cs1]
          refine ih _ ⟨⟨fun b h1 h2 => by rw [w_up_ne h2]; exact h.1.1 b h1 h2, fun m hm q hq => by rw [w_up_ne (by decide)]; exact h.1.2 m hm q hq⟩, fun m h1 h2 q hq => by rw [w_up_j (by omega)]; exact h.2 m h1 h2 q hq⟩ (fun j hj2 => ?_)
          by_cases hji : j = i
          · rw [hji, w_up_at]; exact ev
          · rw [w_up_j (by omega)]; exact hj j (by omega)
        rw [r_gs (by omega)] at wr
        unfold P_Model_canStand at *
        refine bModel_findRuns_50 ⟨fun h => by rw [z2] at h; omega, fun _ => ⟨fun c2 => ⟨⟨by omega, by omega⟩, ⟨⟨by omega, by omega⟩, ⟨by omega, by rw [z2]; omega⟩, by rw [z2]; omega, fun j hj2 => ?_⟩, fun y ey => ⟨⟨by omega, by omega⟩, ⟨by omega, by omega⟩, pc, fun c => ⟨by omega, by omega, fun τ3 t3 => ⟨⟨by omega, by omega⟩, ?_⟩⟩, fun c => ⟨by omega, by omega, fun τ3 t3 => ⟨⟨by omega, by omega⟩, ?_⟩⟩⟩⟩, fun c2 => ⟨⟨by omega, by omega⟩, ⟨by omega, by omega⟩, pc, fun c => ⟨by omega, by omega, fun τ3 t3 => ⟨⟨by omega, by omega⟩, ?_⟩⟩, fun c => ⟨by omega, by omega, fun τ3 t3 => ⟨⟨by omega, by omega⟩, ?_⟩⟩⟩⟩⟩
        · rw [z2] at hj2
          rw [show ((n : Int) + 1).toNat = n + 1 by omega, h.2 (n + 1) (by omega) (by omega) j hj2]
          exact r_g_le6 (by omega) hj2
        · rw [t3, ix]
          refine wr _ ?_
          have c' : ¬ se_al (s_am τ 0) (n : Int) (i : Int) := c
          rw [eB] at c'
          rw [r_if_f c']
        · rw [t3, ix]
          refine wr _ ?_
          have c' : se_al (s_am τ 0) (n : Int) (i : Int) := c
          rw [eB] at c'
          rw [r_if_t c', if_neg (by omega), ey]
          unfold v_Model_besides
          rw [z2, Int.toNat_natCast, show ((n : Int) + 1).toNat = n + 1 by omega]
          exact r_bes_congr hi (fun j hj2 => h.2 (n + 1) (by omega) (by omega) j hj2)
        · rw [t3, ix]
          refine wr _ ?_
          have c' : ¬ se_al (s_am τ 0) (n : Int) (i : Int) := c
          rw [eB] at c'
          rw [r_if_f c']
        · rw [t3, ix]
          refine wr _ ?_
          have c' : se_al (s_am τ 0) (n : Int) (i : Int) := c
          rw [eB] at c'
          rw [r_if_t c', if_pos (by omega)]
  refine (w_loop (n := 7) (P := fun n => ∀ τ : w_M, mc_1 σ B (σ 122 4).toNat τ n → LModel_findRuns_2 xs (d + 2) Q (n : Int) τ) ?_ ?_) σ ⟨fun _ _ _ => rfl, fun m hm => by omega⟩
  · intro τ h
    exact bModel_findRuns_2 ⟨fun _ => back τ h, fun h => by omega⟩
  · intro n hn nx τ h
    refine bModel_findRuns_2 ⟨fun h => by omega, fun _ => ?_⟩
    refine (w_loop (n := (σ 122 4).toNat) (P := fun i => ∀ τ : w_M, mc_1 σ B (σ 122 4).toNat τ n → (∀ j, j < i → τ 128 (7 * n + j) = r_c B (σ 122 4).toNat n j) → LModel_findRuns_7 xs (d + 2) Q (n : Int) (i : Int) τ) ?_ ?_) τ h (fun j hj => by omega)
    · intro τ h hj
      obtain ⟨eB, z2, z3⟩ := hsB τ h.1
      refine bModel_findRuns_7 ⟨fun _ => ⟨⟨by omega, by omega⟩, ?_⟩, fun h => by rw [z2] at h; omega⟩
      rw [← w_cs1]
      refine nx τ ⟨h.1, fun m h1 i hi => ?_⟩
      by_cases hm : m = n
      · rw [hm]; exact hj i hi
      · exact h.2 m (by omega) i hi
    · intro i hi ih τ h hj
      obtain ⟨eB, z2, z3⟩ := hsB τ h.1
      have pc : p_Model_canStand (n : Int) (i : Int) τ := by unfold p_Model_canStand; rw [z3]; exact hse
      have ix : (7 * (n : Int) + (i : Int)).toNat = 7 * n + i := by omega
      have wr : ∀ v : Int, v = r_c B (σ 122 4).toNat n i → LModel_findRuns_7 xs (d + 2) Q (n : Int) ((i : Int) + 1) (w_up τ 128 (7 * n + i) v) := fun v ev => by
        rw [← w_cs1]
        refine ih _ ⟨fun b h1 h2 => by rw [w_up_ne h1]; exact h.1 b h1 h2, fun m hm q hq => by rw [w_up_j (by omega)]; exact h.2 m hm q hq⟩ (fun j hj2 => ?_)
        by_cases hji : j = i
        · rw [hji, w_up_at]; exact ev
        · rw [w_up_j (by omega)]; exact hj j (by omega)
      rw [r_cs] at wr
      unfold P_Model_canStand at *
      refine bModel_findRuns_7 ⟨fun h => by rw [z2] at h; omega, fun _ => ⟨fun c2 => ⟨⟨by omega, by omega⟩, ⟨⟨by omega, by omega⟩, ⟨by omega, by rw [z2]; omega⟩, by rw [z2]; omega, fun j hj2 => ?_⟩, fun y ey => ⟨⟨by omega, by omega⟩, ⟨by omega, by omega⟩, pc, fun c => ⟨by omega, by omega, fun τ3 t3 => ⟨⟨by omega, by omega⟩, ?_⟩⟩, fun c => ⟨by omega, by omega, fun τ3 t3 => ⟨⟨by omega, by omega⟩, ?_⟩⟩⟩⟩, fun c2 => ⟨⟨by omega, by omega⟩, ⟨by omega, by omega⟩, pc, fun c => ⟨by omega, by omega, fun τ3 t3 => ⟨⟨by omega, by omega⟩, ?_⟩⟩, fun c => ⟨by omega, by omega, fun τ3 t3 => ⟨⟨by omega, by omega⟩, ?_⟩⟩⟩⟩⟩
      · rw [z2] at hj2
        rw [show ((n : Int) - 1).toNat = n - 1 by omega, h.2 (n - 1) (by omega) j hj2]
        exact r_c_le6 (by omega) hj2
      · rw [t3, ix]
        refine wr _ ?_
        have c' : ¬ se_al (s_am τ 0) (n : Int) (i : Int) := c
        rw [eB] at c'
        rw [r_if_f c']
      · rw [t3, ix]
        refine wr _ ?_
        have c' : se_al (s_am τ 0) (n : Int) (i : Int) := c
        rw [eB] at c'
        rw [r_if_t c', if_neg (by omega), ey]
        unfold v_Model_besides
        rw [z2, Int.toNat_natCast, show ((n : Int) - 1).toNat = n - 1 by omega]
        exact r_bes_congr hi (fun j hj2 => h.2 (n - 1) (by omega) j hj2)
      · rw [t3, ix]
        refine wr _ ?_
        have c' : ¬ se_al (s_am τ 0) (n : Int) (i : Int) := c
        rw [eB] at c'
        rw [r_if_f c']
      · rw [t3, ix]
        refine wr _ ?_
        have c' : se_al (s_am τ 0) (n : Int) (i : Int) := c
        rw [eB] at c'
        rw [r_if_t c', if_pos (by omega)]
/-- the reference's rows stand -/
noncomputable def mr_ok (σ : w_M) : Prop := MI σ ∧ mc_2 σ (s_am σ 0) (σ 122 4).toNat σ 7
noncomputable def p_Model_runsAt (n i : Int) (σ : w_M) : Prop := mr_ok σ ∧ (0 ≤ n ∧ n ≤ 6) ∧ (0 ≤ i ∧ i < σ 122 4)
noncomputable def v_Model_runsAt (n i : Int) (σ : w_M) : Int := r_t (mS σ) n.toNat i.toNat
theorem r_h_le6 {B : w_M} {s n i : Nat} (hn : n ≤ 6) (hi : i < s) : 0 ≤ r_h B s n i ∧ r_h B s n i ≤ 729 := by
  cases n with
  | zero => show (0 : Int) ≤ 1 ∧ (1 : Int) ≤ 729; omega
  | succ n =>
    have h := r_bes_le (f := r_g B s n) (M := 243) (fun i hi => by
      have h1 := r_g_le (B := B) n i hi
      have h2 : ∀ n, n < 6 → (3 : Int) ^ n ≤ 243 := by decide
      have := h2 n (by omega)
      omega) hi
    exact ⟨h.1, by show r_bes s (r_g B s n) i ≤ 729; omega⟩
theorem r_t_le {S : w_S} {n i : Nat} (hn : n ≤ 6) (hi : i < n_s (S 0)) : 0 ≤ r_t S n i ∧ r_t S n i ≤ 531441 := r_if_le (mul729 (r_c_le6 hn hi) (r_h_le6 (by omega) hi))
theorem fModel_runsAt_0 : w_fe am_c222 0 1 (.aload 0) := ⟨rfl, rfl⟩
theorem fModel_runsAt_1 : w_fe am_c222 1 2 (.iload 1) := ⟨rfl, rfl⟩
theorem fModel_runsAt_2 : w_fe am_c222 2 3 (.iload 2) := ⟨rfl, rfl⟩
theorem fModel_runsAt_3 : w_fe am_c222 3 4 (.invokestatic 221) := ⟨rfl, rfl⟩
theorem fModel_runsAt_4 : w_if am_c222 4 5 .ne 7 := ⟨rfl, rfl⟩
theorem fModel_runsAt_5 : w_fe am_c222 5 6 (.bipush 0) := ⟨rfl, rfl⟩
theorem fModel_runsAt_6 : w_fe am_c222 6 7 (.ireturn) := ⟨rfl, rfl⟩
theorem fModel_runsAt_7 : w_fe am_c222 7 8 (.iload 1) := ⟨rfl, rfl⟩
theorem fModel_runsAt_8 : w_fe am_c222 8 9 (.bipush 6) := ⟨rfl, rfl⟩
theorem fModel_runsAt_9 : w_ic am_c222 9 10 .ne 12 := ⟨rfl, rfl⟩
theorem fModel_runsAt_10 : w_fe am_c222 10 11 (.bipush 1) := ⟨rfl, rfl⟩
theorem fModel_runsAt_11 : w_gt am_c222 11 20 := rfl
theorem fModel_runsAt_12 : w_fe am_c222 12 13 (.aload 0) := ⟨rfl, rfl⟩
theorem fModel_runsAt_13 : w_fe am_c222 13 14 (.aload 0) := ⟨rfl, rfl⟩
theorem fModel_runsAt_14 : w_fe am_c222 14 15 (.getfield 923) := ⟨rfl, rfl⟩
theorem fModel_runsAt_15 : w_fe am_c222 15 16 (.iload 1) := ⟨rfl, rfl⟩
theorem fModel_runsAt_16 : w_fe am_c222 16 17 (.bipush 1) := ⟨rfl, rfl⟩
theorem fModel_runsAt_17 : w_fe am_c222 17 18 (.iadd) := ⟨rfl, rfl⟩
theorem fModel_runsAt_18 : w_fe am_c222 18 19 (.iload 2) := ⟨rfl, rfl⟩
theorem fModel_runsAt_19 : w_fe am_c222 19 20 (.invokestatic 219) := ⟨rfl, rfl⟩
theorem fModel_runsAt_20 : w_fe am_c222 20 21 (.istore 3) := ⟨rfl, rfl⟩
theorem fModel_runsAt_21 : w_fe am_c222 21 22 (.aload 0) := ⟨rfl, rfl⟩
theorem fModel_runsAt_22 : w_fe am_c222 22 23 (.getfield 922) := ⟨rfl, rfl⟩
theorem fModel_runsAt_23 : w_fe am_c222 23 24 (.iload 1) := ⟨rfl, rfl⟩
theorem fModel_runsAt_24 : w_fe am_c222 24 25 (.iload 2) := ⟨rfl, rfl⟩
theorem fModel_runsAt_25 : w_fe am_c222 25 26 (.invokestatic 220) := ⟨rfl, rfl⟩
theorem fModel_runsAt_26 : w_fe am_c222 26 27 (.iload 3) := ⟨rfl, rfl⟩
theorem fModel_runsAt_27 : w_fe am_c222 27 28 (.imul) := ⟨rfl, rfl⟩
theorem fModel_runsAt_28 : w_fe am_c222 28 29 (.ireturn) := ⟨rfl, rfl⟩
set_option maxRecDepth 20000 in
theorem bModel_runsAt_0 {xs : List Int} {d : Nat} {Q : Option w_V → w_M → Prop} {x1 : Int} {x2 : Int} {σ : w_M}
    (h : p_Model_canStand x1 x2 σ ∧ (((P_Model_canStand x1 x2 σ) → ((¬ x1 = 6 → (w_in (x1 + 1) ∧ p_Model_besides 129 (x1 + 1) x2 σ ∧ (∀ (y1 : Int), y1 = v_Model_besides 129 (x1 + 1) x2 σ → (p_Model_inRow 128 x1 x2 σ ∧ (∀ (y2 : Int), y2 = v_Model_inRow 128 x1 x2 σ → (w_in (y2 * y1) ∧ Q (some (.inl (y2 * y1))) σ)))))) ∧ (x1 = 6 → (p_Model_inRow 128 x1 x2 σ ∧ (∀ (y3 : Int), y3 = v_Model_inRow 128 x1 x2 σ → (w_in (y3 * 1) ∧ Q (some (.inl (y3 * 1))) σ)))))) ∧ (¬ (P_Model_canStand x1 x2 σ) → Q (some (.inl 0)) σ))) : w_Call (xs, (d + 2)) 222 [.inr (.inr (9, 122)), .inl x1, .inl x2] σ Q :=
  (w_mk (mid := 222) (by decide) rfl rfl rfl rfl rfl (Nat.le_of_ble_eq_true rfl) ⟨rfl, Or.inl (by decide)⟩ (wi_aload0 fModel_runsAt_0 (wi_iload1 fModel_runsAt_1 (wi_iload2 fModel_runsAt_2 (wi_call3 fModel_runsAt_3 (Nat.le_of_ble_eq_true rfl) (k_Model_canStand h.1 (wi_ifb_ne fModel_runsAt_4 (fun c5 => (wi_iload1 fModel_runsAt_7 (wi_bipush fModel_runsAt_8 (wi_ic_ne fModel_runsAt_9 (fun c4 => (wi_aload0 fModel_runsAt_12 (wi_aload0 fModel_runsAt_13 (wi_getf923 fModel_runsAt_14 (wi_iload1 fModel_runsAt_15 (wi_bipush fModel_runsAt_16 (wi_iadd fModel_runsAt_17 ((h.2.1 c5).1 c4).1 (wi_iload2 fModel_runsAt_18 (wi_call4 fModel_runsAt_19 (Nat.le_of_ble_eq_true rfl) (k_Model_besides ((h.2.1 c5).1 c4).2.1 (wi_istore3 fModel_runsAt_20 trivial (wi_aload0 fModel_runsAt_21 (wi_getf922 fModel_runsAt_22 (wi_iload1 fModel_runsAt_23 (wi_iload2 fModel_runsAt_24 (wi_call3 fModel_runsAt_25 (Nat.le_of_ble_eq_true rfl) (k_Model_inRow (((h.2.1 c5).1 c4).2.2 _ rfl).1 (wi_iload3 fModel_runsAt_26 (wi_imul fModel_runsAt_27 ((((h.2.1 c5).1 c4).2.2 _ rfl).2 _ rfl).1 (wi_ret1 fModel_runsAt_28 ((((h.2.1 c5).1 c4).2.2 _ rfl).2 _ rfl).2)))))))))))))))))))) (fun c4 => (wi_bipush fModel_runsAt_10 (wi_goto fModel_runsAt_11 (wi_istore3 fModel_runsAt_20 trivial (wi_aload0 fModel_runsAt_21 (wi_getf922 fModel_runsAt_22 (wi_iload1 fModel_runsAt_23 (wi_iload2 fModel_runsAt_24 (wi_call3 fModel_runsAt_25 (Nat.le_of_ble_eq_true rfl) (k_Model_inRow ((h.2.1 c5).2 c4).1 (wi_iload3 fModel_runsAt_26 (wi_imul fModel_runsAt_27 (((h.2.1 c5).2 c4).2 _ rfl).1 (wi_ret1 fModel_runsAt_28 (((h.2.1 c5).2 c4).2 _ rfl).2))))))))))))))))) (fun c5 => (wi_bipush fModel_runsAt_5 (wi_ret1 fModel_runsAt_6 (h.2.2 c5)))))))))))
theorem k_Model_runsAt {xs : List Int} {d : Nat} {Q : Option w_V → w_M → Prop} {x1 : Int} {x2 : Int} {σ : w_M} (hp : p_Model_runsAt x1 x2 σ) (hQ : Q (some (.inl (v_Model_runsAt x1 x2 σ))) σ) : w_Call (xs, d + 2) 222 [.inr (.inr (9, 122)), .inl x1, .inl x2] σ Q := by
  obtain ⟨⟨hM, h1, h2⟩, hn, hi⟩ := hp
  have hs := hM.s
  obtain ⟨n, rfl⟩ := Int.eq_ofNat_of_zero_le hn.1
  obtain ⟨i, rfl⟩ := Int.eq_ofNat_of_zero_le hi.1
  have hi' : i < (σ 122 4).toNat := by omega
  unfold v_Model_runsAt r_t at hQ
  have eB : mS σ 1 = s_am σ 0 := rfl
  have es : n_s (mS σ 0) = (σ 122 4).toNat := rfl
  rw [eB, es, Int.toNat_natCast, Int.toNat_natCast] at hQ
  have ea : v_Model_inRow 128 (n : Int) (i : Int) σ = r_c (s_am σ 0) (σ 122 4).toNat n i := by
    unfold v_Model_inRow
    rw [Int.toNat_natCast, Int.toNat_natCast]
    exact h1.2 n (by omega) i hi'
  have ba := r_c_le6 (B := s_am σ 0) (s := (σ 122 4).toNat) (n := n) (by omega) hi'
  have bh := r_h_le6 (B := s_am σ 0) (s := (σ 122 4).toNat) (n := 6 - n) (by omega) hi'
  have bm := mul729 ba bh
  refine bModel_runsAt_0 ⟨hM.se, fun c => ?_, fun c => ?_⟩
  · have c' : se_al (s_am σ 0) (n : Int) (i : Int) := c
    rw [r_if_t c'] at hQ
    refine ⟨fun c2 => ⟨⟨by omega, by omega⟩, ⟨⟨by omega, by omega⟩, hi, hs.2, fun j hj => ?_⟩, fun y1 e1 => ⟨⟨hn, by omega⟩, fun y2 e2 => ?_⟩⟩, fun c2 => ⟨⟨hn, by omega⟩, fun y2 e2 => ?_⟩⟩
    · rw [show ((n : Int) + 1).toNat = n + 1 by omega, h2 (n + 1) (by omega) (by omega) j hj]
      exact r_g_le6 (by omega) hj
    · have eh : y1 = r_h (s_am σ 0) (σ 122 4).toNat (6 - n) i := by
        rw [e1]
        unfold v_Model_besides
        rw [Int.toNat_natCast, show ((n : Int) + 1).toNat = n + 1 by omega]
        obtain ⟨m, hm⟩ : ∃ m, 6 - n = m + 1 := ⟨5 - n, by omega⟩
        rw [hm]
        show _ = r_bes (σ 122 4).toNat (r_g (s_am σ 0) (σ 122 4).toNat m) i
        refine r_bes_congr hi' (fun j hj => ?_)
        have := h2 (n + 1) (by omega) (by omega) j hj
        rw [show 6 - (n + 1) = m by omega] at this
        exact this
      rw [e2, ea, eh]
      exact ⟨⟨by omega, by omega⟩, hQ⟩
    · have eh : r_h (s_am σ 0) (σ 122 4).toNat (6 - n) i = 1 := by
        rw [show 6 - n = 0 by omega]
        rfl
      rw [eh] at hQ bm
      rw [e2, ea]
      exact ⟨⟨by omega, by omega⟩, hQ⟩
  · have c' : ¬ se_al (s_am σ 0) (n : Int) (i : Int) := c
    rw [r_if_f c'] at hQ
    exact hQ
theorem mr_of {σ τ : w_M} (hM : MI σ) (h : q_Model_findRuns σ τ) : mr_ok τ ∧ mS τ = mS σ ∧ τ 122 = σ 122 ∧ (∀ b, b < 122 → τ b = σ b) := by
  obtain ⟨⟨F, h1⟩, h2⟩ := h
  have z2 : τ 122 = σ 122 := F 122 (by decide) (by decide)
  have e : mS τ = mS σ := mS_scratch hM (fun j _ => by rw [z2]) (fun b hb => F b (by omega) (by omega))
  have es : s_am τ 0 = s_am σ 0 := congrFun e 1
  refine ⟨⟨by unfold MI; rw [e]; exact hM, ⟨fun _ _ _ => rfl, ?_⟩, ?_⟩, e, z2, fun b hb => F b (by omega) (by omega)⟩
  · rw [es, z2]; exact h1
  · rw [es, z2]; exact h2
theorem mq_of {σ τ : w_M} {F x : Int} (hM : MI σ) (h : q_Model_findRuns σ τ) (e : x = F) : m_q F (mS σ) σ x τ := by
  obtain ⟨g1, g2, g3, g4⟩ := mr_of hM h
  exact ⟨e, g1.1, g2, g4, by rw [g3]⟩
noncomputable def p_Model_allRuns (σ : w_M) : Prop := MI σ
noncomputable def q_Model_allRuns (σ : w_M) (x : Int) (σ' : w_M) : Prop := x = r_alls (mS σ) ∧ q_Model_findRuns σ σ'
theorem r_alls_eq (S : w_S) (h : n_s (S 0) ≤ 7) : r_alls S = f_sum (r_t S 0) (n_s (S 0)) := by
  unfold r_alls
  rw [← r_sum h]
  rfl
theorem fModel_allRuns_0 : w_fe am_c224 0 1 (.aload 0) := ⟨rfl, rfl⟩
theorem fModel_allRuns_1 : w_fe am_c224 1 2 (.invokestatic 218) := ⟨rfl, rfl⟩
theorem fModel_allRuns_2 : w_fe am_c224 2 3 (.bipush 0) := ⟨rfl, rfl⟩
theorem fModel_allRuns_3 : w_fe am_c224 3 4 (.istore 1) := ⟨rfl, rfl⟩
theorem fModel_allRuns_4 : w_fe am_c224 4 5 (.bipush 0) := ⟨rfl, rfl⟩
theorem fModel_allRuns_5 : w_fe am_c224 5 6 (.istore 2) := ⟨rfl, rfl⟩
theorem fModel_allRuns_6 : w_fe am_c224 6 7 (.iload 2) := ⟨rfl, rfl⟩
theorem fModel_allRuns_7 : w_fe am_c224 7 8 (.aload 0) := ⟨rfl, rfl⟩
theorem fModel_allRuns_8 : w_fe am_c224 8 9 (.getfield 904) := ⟨rfl, rfl⟩
theorem fModel_allRuns_9 : w_ic am_c224 9 10 .ge 19 := ⟨rfl, rfl⟩
theorem fModel_allRuns_10 : w_fe am_c224 10 11 (.iload 1) := ⟨rfl, rfl⟩
theorem fModel_allRuns_11 : w_fe am_c224 11 12 (.aload 0) := ⟨rfl, rfl⟩
theorem fModel_allRuns_12 : w_fe am_c224 12 13 (.bipush 0) := ⟨rfl, rfl⟩
theorem fModel_allRuns_13 : w_fe am_c224 13 14 (.iload 2) := ⟨rfl, rfl⟩
theorem fModel_allRuns_14 : w_fe am_c224 14 15 (.invokestatic 222) := ⟨rfl, rfl⟩
theorem fModel_allRuns_15 : w_fe am_c224 15 16 (.iadd) := ⟨rfl, rfl⟩
theorem fModel_allRuns_16 : w_fe am_c224 16 17 (.istore 1) := ⟨rfl, rfl⟩
theorem fModel_allRuns_17 : w_fe am_c224 17 18 (.iinc 2 1) := ⟨rfl, rfl⟩
theorem fModel_allRuns_18 : w_gt am_c224 18 6 := rfl
theorem fModel_allRuns_19 : w_fe am_c224 19 20 (.iload 1) := ⟨rfl, rfl⟩
theorem fModel_allRuns_20 : w_fe am_c224 20 21 (.ireturn) := ⟨rfl, rfl⟩
noncomputable def LModel_allRuns_6 (xs : List Int) (d : Nat) (Q : Option w_V → w_M → Prop) (v1 : Int) (v2 : Int) (σ : w_M) : Prop := w_Ex (xs, d) 1 am_c224 Q 6 [some (.inr (.inr (9, 122))), some (.inl v1), some (.inl v2)] [] σ
set_option maxRecDepth 20000 in
theorem bModel_allRuns_0 {xs : List Int} {d : Nat} {Q : Option w_V → w_M → Prop}  {σ : w_M}
    (h : p_Model_findRuns σ ∧ (∀ (τ1 : w_M), q_Model_findRuns σ τ1 → LModel_allRuns_6 xs (d + 3) Q 0 0 τ1)) : w_Call (xs, (d + 3)) 224 [.inr (.inr (9, 122))] σ Q :=
  (w_mk (mid := 224) (by decide) rfl rfl rfl rfl rfl (Nat.le_of_ble_eq_true rfl) ⟨rfl, Or.inl (by decide)⟩ (wi_aload0 fModel_allRuns_0 (wi_call1 fModel_allRuns_1 (Nat.le_of_ble_eq_true rfl) (k_Model_findRuns h.1 (fun τ1 eτ1 => (wi_bipush fModel_allRuns_2 (wi_istore1 fModel_allRuns_3 trivial (wi_bipush fModel_allRuns_4 (wi_istore2 fModel_allRuns_5 trivial (h.2 τ1 eτ1))))))))))
set_option maxRecDepth 20000 in
theorem bModel_allRuns_6 {xs : List Int} {d : Nat} {Q : Option w_V → w_M → Prop} {v1 : Int} {v2 : Int} {σ : w_M}
    (h : ((σ 122 4) ≤ v2 → Q (some (.inl v1)) σ) ∧ (v2 < (σ 122 4) → (p_Model_runsAt 0 v2 σ ∧ (∀ (y1 : Int), y1 = v_Model_runsAt 0 v2 σ → (w_in (v1 + y1) ∧ (∀ (y2 : Int), y2 = (v1 + y1) → (w_in (v2 + 1) ∧ LModel_allRuns_6 xs (d + 3) Q y2 (v2 + 1) σ))))))) : LModel_allRuns_6 xs (d + 3) Q v1 v2 σ :=
  (wi_iload2 fModel_allRuns_6 (wi_aload0 fModel_allRuns_7 (wi_getf904 fModel_allRuns_8 (wi_ic_ge fModel_allRuns_9 (fun c3 => (wi_iload1 fModel_allRuns_19 (wi_ret1 fModel_allRuns_20 (h.1 c3)))) (fun c3 => (wi_iload1 fModel_allRuns_10 (wi_aload0 fModel_allRuns_11 (wi_bipush fModel_allRuns_12 (wi_iload2 fModel_allRuns_13 (wi_call3 fModel_allRuns_14 (Nat.le_of_ble_eq_true rfl) (k_Model_runsAt (h.2 c3).1 (wi_iadd fModel_allRuns_15 ((h.2 c3).2 _ rfl).1 (wi_istore1 fModel_allRuns_16 trivial (wi_iinc2 fModel_allRuns_17 trivial (((h.2 c3).2 _ rfl).2 _ rfl).1 (wi_goto fModel_allRuns_18 (((h.2 c3).2 _ rfl).2 _ rfl).2)))))))))))))))
theorem k_Model_allRuns {xs : List Int} {d : Nat} {Q : Option w_V → w_M → Prop}  {σ : w_M} (hp : p_Model_allRuns σ) (hQ : ∀ (x : Int) (σ' : w_M), q_Model_allRuns σ x σ' → Q (some (.inl x)) σ') : w_Call (xs, d + 3) 224 [.inr (.inr (9, 122))] σ Q := by
  have hM : MI σ := hp
  have hs := hM.s
  refine bModel_allRuns_0 ⟨hM, fun τ hq => ?_⟩
  obtain ⟨g1, g2, g3, g4⟩ := mr_of hM hq
  have es : n_s (mS σ 0) = (σ 122 4).toNat := rfl
  have ea := r_alls_eq (mS σ) (by rw [es]; omega)
  refine w_loop (n := (σ 122 4).toNat) (P := fun i => LModel_allRuns_6 xs (d + 3) Q (f_sum (r_t (mS σ) 0) i) (i : Int) τ) ?_ ?_
  · exact bModel_allRuns_6 ⟨fun _ => hQ _ _ ⟨by rw [ea, es], hq⟩, fun h => by rw [g3] at h; omega⟩
  · intro i hi ih
    have h1 := r_t_le (S := mS σ) (n := 0) (by decide) (show i < n_s (mS σ 0) from hi)
    have h2 := f_sum_le (f := r_t (mS σ) 0) (B := 531441) (m := (σ 122 4).toNat) (fun i hi => r_t_le (S := mS σ) (n := 0) (by decide) (show i < n_s (mS σ 0) from hi)) (Nat.le_of_lt hi)
    simp only [f_sum] at ih
    rw [w_cs1] at ih
    refine bModel_allRuns_6 ⟨fun h => by rw [g3] at h; omega, fun _ => ⟨⟨g1, by decide, by rw [g3]; omega⟩, fun y ey => ?_⟩⟩
    unfold v_Model_runsAt at ey
    rw [g2, Int.toNat_natCast] at ey
    have ey' : y = r_t (mS σ) 0 i := ey
    refine ⟨⟨by omega, by omega⟩, fun y2 e2 => ⟨⟨by omega, by omega⟩, ?_⟩⟩
    rw [e2, ey']
    exact ih
noncomputable def p_Model_hare (_x1 : Int) (σ : w_M) : Prop := MI σ
noncomputable def q_Model_hare (x1 : Int) (σ : w_M) (x : Int) (σ' : w_M) : Prop := m_q (F_hare (mS σ) x1) (mS σ) σ x σ'
noncomputable def p_Model_runs  (σ : w_M) : Prop := MI σ
noncomputable def q_Model_runs  (σ : w_M) (x : Int) (σ' : w_M) : Prop := m_q (F_runs (mS σ)) (mS σ) σ x σ'
noncomputable def p_Model_look (_x1 : Int) (_x2 : Int) (σ : w_M) : Prop := MI σ
noncomputable def q_Model_look (x1 : Int) (x2 : Int) (σ : w_M) (x : Int) (σ' : w_M) : Prop := m_q (F_look (mS σ) x1 x2) (mS σ) σ x σ'
theorem fModel_hare_0 : w_fe am_c217 0 1 (.iload 1) := ⟨rfl, rfl⟩
theorem fModel_hare_1 : w_fe am_c217 1 2 (.i2l) := ⟨rfl, rfl⟩
theorem fModel_hare_2 : w_fe am_c217 2 3 (.sipush 0) := ⟨rfl, rfl⟩
theorem fModel_hare_3 : w_fe am_c217 3 4 (.sipush 6) := ⟨rfl, rfl⟩
theorem fModel_hare_4 : w_fe am_c217 4 5 (.invokestatic 157) := ⟨rfl, rfl⟩
theorem fModel_hare_5 : w_if am_c217 5 6 .ne 8 := ⟨rfl, rfl⟩
theorem fModel_hare_6 : w_fe am_c217 6 7 (.bipush (-1)) := ⟨rfl, rfl⟩
theorem fModel_hare_7 : w_fe am_c217 7 8 (.ireturn) := ⟨rfl, rfl⟩
theorem fModel_hare_8 : w_fe am_c217 8 9 (.aload 0) := ⟨rfl, rfl⟩
theorem fModel_hare_9 : w_fe am_c217 9 10 (.invokestatic 218) := ⟨rfl, rfl⟩
theorem fModel_hare_10 : w_fe am_c217 10 11 (.bipush 0) := ⟨rfl, rfl⟩
theorem fModel_hare_11 : w_fe am_c217 11 12 (.istore 2) := ⟨rfl, rfl⟩
theorem fModel_hare_12 : w_fe am_c217 12 13 (.bipush 0) := ⟨rfl, rfl⟩
theorem fModel_hare_13 : w_fe am_c217 13 14 (.istore 3) := ⟨rfl, rfl⟩
theorem fModel_hare_14 : w_fe am_c217 14 15 (.iload 3) := ⟨rfl, rfl⟩
theorem fModel_hare_15 : w_fe am_c217 15 16 (.aload 0) := ⟨rfl, rfl⟩
theorem fModel_hare_16 : w_fe am_c217 16 17 (.getfield 904) := ⟨rfl, rfl⟩
theorem fModel_hare_17 : w_ic am_c217 17 18 .ge 34 := ⟨rfl, rfl⟩
theorem fModel_hare_18 : w_fe am_c217 18 19 (.iload 2) := ⟨rfl, rfl⟩
theorem fModel_hare_19 : w_fe am_c217 19 20 (.aload 0) := ⟨rfl, rfl⟩
theorem fModel_hare_20 : w_fe am_c217 20 21 (.iload 1) := ⟨rfl, rfl⟩
theorem fModel_hare_21 : w_fe am_c217 21 22 (.iload 3) := ⟨rfl, rfl⟩
theorem fModel_hare_22 : w_fe am_c217 22 23 (.invokestatic 222) := ⟨rfl, rfl⟩
theorem fModel_hare_23 : w_if am_c217 23 24 .le 26 := ⟨rfl, rfl⟩
theorem fModel_hare_24 : w_fe am_c217 24 25 (.bipush 1) := ⟨rfl, rfl⟩
theorem fModel_hare_25 : w_gt am_c217 25 27 := rfl
theorem fModel_hare_26 : w_fe am_c217 26 27 (.bipush 0) := ⟨rfl, rfl⟩
theorem fModel_hare_27 : w_fe am_c217 27 28 (.invokestatic 179) := ⟨rfl, rfl⟩
theorem fModel_hare_28 : w_fe am_c217 28 29 (.iload 3) := ⟨rfl, rfl⟩
theorem fModel_hare_29 : w_fe am_c217 29 30 (.ishl) := ⟨rfl, rfl⟩
theorem fModel_hare_30 : w_fe am_c217 30 31 (.ior) := ⟨rfl, rfl⟩
theorem fModel_hare_31 : w_fe am_c217 31 32 (.istore 2) := ⟨rfl, rfl⟩
theorem fModel_hare_32 : w_fe am_c217 32 33 (.iinc 3 1) := ⟨rfl, rfl⟩
theorem fModel_hare_33 : w_gt am_c217 33 14 := rfl
theorem fModel_hare_34 : w_fe am_c217 34 35 (.iload 2) := ⟨rfl, rfl⟩
theorem fModel_hare_35 : w_fe am_c217 35 36 (.ireturn) := ⟨rfl, rfl⟩
noncomputable def LModel_hare_14 (xs : List Int) (d : Nat) (Q : Option w_V → w_M → Prop) (v1 : Int) (v2 : Int) (v3 : Int) (σ : w_M) : Prop := w_Ex (xs, d) 1 am_c217 Q 14 [some (.inr (.inr (9, 122))), some (.inl v1), some (.inl v2), some (.inl v3)] [] σ
set_option maxRecDepth 20000 in
theorem bModel_hare_0 {xs : List Int} {d : Nat} {Q : Option w_V → w_M → Prop} {x1 : Int} {σ : w_M}
    (h : ((0 ≤ x1 ∧ x1 ≤ 6) → (p_Model_findRuns σ ∧ (∀ (τ1 : w_M), q_Model_findRuns σ τ1 → LModel_hare_14 xs (d + 3) Q x1 0 0 τ1))) ∧ (¬ (0 ≤ x1 ∧ x1 ≤ 6) → Q (some (.inl (-1))) σ)) : w_Call (xs, (d + 3)) 217 [.inr (.inr (9, 122)), .inl x1] σ Q :=
  (w_mk (mid := 217) (by decide) rfl rfl rfl rfl rfl (Nat.le_of_ble_eq_true rfl) ⟨rfl, Or.inl (by decide)⟩ (wi_iload1 fModel_hare_0 (wi_i2l fModel_hare_1 (wi_sipush fModel_hare_2 (wi_sipush fModel_hare_3 (wi_call3 fModel_hare_4 (Nat.le_of_ble_eq_true rfl) (k_Model_in (wi_ifb_ne fModel_hare_5 (fun c2 => (wi_aload0 fModel_hare_8 (wi_call1 fModel_hare_9 (Nat.le_of_ble_eq_true rfl) (k_Model_findRuns (h.1 c2).1 (fun τ1 eτ1 => (wi_bipush fModel_hare_10 (wi_istore2 fModel_hare_11 trivial (wi_bipush fModel_hare_12 (wi_istore3 fModel_hare_13 trivial ((h.1 c2).2 τ1 eτ1)))))))))) (fun c2 => (wi_bipush fModel_hare_6 (wi_ret1 fModel_hare_7 (h.2 c2))))))))))))
set_option maxRecDepth 20000 in
theorem bModel_hare_14 {xs : List Int} {d : Nat} {Q : Option w_V → w_M → Prop} {v1 : Int} {v2 : Int} {v3 : Int} {σ : w_M}
    (h : ((σ 122 4) ≤ v3 → Q (some (.inl v2)) σ) ∧ (v3 < (σ 122 4) → (p_Model_runsAt v1 v3 σ ∧ (∀ (y1 : Int), y1 = v_Model_runsAt v1 v3 σ → ((y1 ≤ 0 → ∀ (y2 : Int), y2 = (w_or v2 (w_shl 0 v3)) → (w_in (v3 + 1) ∧ LModel_hare_14 xs (d + 3) Q v1 y2 (v3 + 1) σ)) ∧ (0 < y1 → ∀ (y3 : Int), y3 = (w_or v2 (w_shl 1 v3)) → (w_in (v3 + 1) ∧ LModel_hare_14 xs (d + 3) Q v1 y3 (v3 + 1) σ))))))) : LModel_hare_14 xs (d + 3) Q v1 v2 v3 σ :=
  (wi_iload3 fModel_hare_14 (wi_aload0 fModel_hare_15 (wi_getf904 fModel_hare_16 (wi_ic_ge fModel_hare_17 (fun c5 => (wi_iload2 fModel_hare_34 (wi_ret1 fModel_hare_35 (h.1 c5)))) (fun c5 => (wi_iload2 fModel_hare_18 (wi_aload0 fModel_hare_19 (wi_iload1 fModel_hare_20 (wi_iload3 fModel_hare_21 (wi_call3 fModel_hare_22 (Nat.le_of_ble_eq_true rfl) (k_Model_runsAt (h.2 c5).1 (wi_if_le fModel_hare_23 (fun c4 => (wi_bipush fModel_hare_26 (wi_call1 fModel_hare_27 (Nat.le_of_ble_eq_true rfl) (k_Model_flag (wi_iload3 fModel_hare_28 (wi_ishl fModel_hare_29 (wi_ior fModel_hare_30 (wi_istore2 fModel_hare_31 trivial (wi_iinc3 fModel_hare_32 trivial ((((h.2 c5).2 _ rfl).1 c4) _ rfl).1 (wi_goto fModel_hare_33 ((((h.2 c5).2 _ rfl).1 c4) _ rfl).2)))))))))) (fun c4 => (wi_bipush fModel_hare_24 (wi_goto fModel_hare_25 (wi_call1 fModel_hare_27 (Nat.le_of_ble_eq_true rfl) (k_Model_flag (wi_iload3 fModel_hare_28 (wi_ishl fModel_hare_29 (wi_ior fModel_hare_30 (wi_istore2 fModel_hare_31 trivial (wi_iinc3 fModel_hare_32 trivial ((((h.2 c5).2 _ rfl).2 c4) _ rfl).1 (wi_goto fModel_hare_33 ((((h.2 c5).2 _ rfl).2 c4) _ rfl).2)))))))))))))))))))))))
theorem fModel_runs_0 : w_fe am_c223 0 1 (.aload 0) := ⟨rfl, rfl⟩
theorem fModel_runs_1 : w_fe am_c223 1 2 (.invokestatic 224) := ⟨rfl, rfl⟩
theorem fModel_runs_2 : w_fe am_c223 2 3 (.ireturn) := ⟨rfl, rfl⟩
set_option maxRecDepth 20000 in
theorem bModel_runs_0 {xs : List Int} {d : Nat} {Q : Option w_V → w_M → Prop}  {σ : w_M}
    (h : p_Model_allRuns σ ∧ (∀ (y1 : Int) (τ2 : w_M), q_Model_allRuns σ y1 τ2 → Q (some (.inl y1)) τ2)) : w_Call (xs, (d + 4)) 223 [.inr (.inr (9, 122))] σ Q :=
  (w_mk (mid := 223) (by decide) rfl rfl rfl rfl rfl (Nat.le_of_ble_eq_true rfl) ⟨rfl, Or.inl (by decide)⟩ (wi_aload0 fModel_runs_0 (wi_call1 fModel_runs_1 (Nat.le_of_ble_eq_true rfl) (k_Model_allRuns h.1 (fun y1 τ2 eτ2 => (wi_ret1 fModel_runs_2 (h.2 y1 τ2 eτ2)))))))
theorem fModel_look_0 : w_fe am_c225 0 1 (.iload 1) := ⟨rfl, rfl⟩
theorem fModel_look_1 : w_fe am_c225 1 2 (.i2l) := ⟨rfl, rfl⟩
theorem fModel_look_2 : w_fe am_c225 2 3 (.sipush 0) := ⟨rfl, rfl⟩
theorem fModel_look_3 : w_fe am_c225 3 4 (.sipush 6) := ⟨rfl, rfl⟩
theorem fModel_look_4 : w_fe am_c225 4 5 (.invokestatic 157) := ⟨rfl, rfl⟩
theorem fModel_look_5 : w_if am_c225 5 6 .eq 12 := ⟨rfl, rfl⟩
theorem fModel_look_6 : w_fe am_c225 6 7 (.iload 2) := ⟨rfl, rfl⟩
theorem fModel_look_7 : w_fe am_c225 7 8 (.i2l) := ⟨rfl, rfl⟩
theorem fModel_look_8 : w_fe am_c225 8 9 (.sipush 0) := ⟨rfl, rfl⟩
theorem fModel_look_9 : w_fe am_c225 9 10 (.sipush 1) := ⟨rfl, rfl⟩
theorem fModel_look_10 : w_fe am_c225 10 11 (.invokestatic 157) := ⟨rfl, rfl⟩
theorem fModel_look_11 : w_if am_c225 11 12 .ne 14 := ⟨rfl, rfl⟩
theorem fModel_look_12 : w_fe am_c225 12 13 (.bipush (-1)) := ⟨rfl, rfl⟩
theorem fModel_look_13 : w_fe am_c225 13 14 (.ireturn) := ⟨rfl, rfl⟩
theorem fModel_look_14 : w_fe am_c225 14 15 (.aload 0) := ⟨rfl, rfl⟩
theorem fModel_look_15 : w_fe am_c225 15 16 (.invokestatic 224) := ⟨rfl, rfl⟩
theorem fModel_look_16 : w_fe am_c225 16 17 (.istore 3) := ⟨rfl, rfl⟩
theorem fModel_look_17 : w_fe am_c225 17 18 (.iload 3) := ⟨rfl, rfl⟩
theorem fModel_look_18 : w_fe am_c225 18 19 (.istore 4) := ⟨rfl, rfl⟩
theorem fModel_look_19 : w_fe am_c225 19 20 (.bipush (-4)) := ⟨rfl, rfl⟩
theorem fModel_look_20 : w_fe am_c225 20 21 (.istore 5) := ⟨rfl, rfl⟩
theorem fModel_look_21 : w_fe am_c225 21 22 (.bipush 0) := ⟨rfl, rfl⟩
theorem fModel_look_22 : w_fe am_c225 22 23 (.istore 6) := ⟨rfl, rfl⟩
theorem fModel_look_23 : w_fe am_c225 23 24 (.iload 6) := ⟨rfl, rfl⟩
theorem fModel_look_24 : w_fe am_c225 24 25 (.aload 0) := ⟨rfl, rfl⟩
theorem fModel_look_25 : w_fe am_c225 25 26 (.getfield 904) := ⟨rfl, rfl⟩
theorem fModel_look_26 : w_ic am_c225 26 27 .ge 59 := ⟨rfl, rfl⟩
theorem fModel_look_27 : w_fe am_c225 27 28 (.aload 0) := ⟨rfl, rfl⟩
theorem fModel_look_28 : w_fe am_c225 28 29 (.iload 1) := ⟨rfl, rfl⟩
theorem fModel_look_29 : w_fe am_c225 29 30 (.iload 6) := ⟨rfl, rfl⟩
theorem fModel_look_30 : w_fe am_c225 30 31 (.invokestatic 222) := ⟨rfl, rfl⟩
theorem fModel_look_31 : w_fe am_c225 31 32 (.istore 7) := ⟨rfl, rfl⟩
theorem fModel_look_32 : w_fe am_c225 32 33 (.iload 7) := ⟨rfl, rfl⟩
theorem fModel_look_33 : w_fe am_c225 33 34 (.iload 3) := ⟨rfl, rfl⟩
theorem fModel_look_34 : w_fe am_c225 34 35 (.iload 7) := ⟨rfl, rfl⟩
theorem fModel_look_35 : w_fe am_c225 35 36 (.isub) := ⟨rfl, rfl⟩
theorem fModel_look_36 : w_ic am_c225 36 37 .le 39 := ⟨rfl, rfl⟩
theorem fModel_look_37 : w_fe am_c225 37 38 (.iload 7) := ⟨rfl, rfl⟩
theorem fModel_look_38 : w_gt am_c225 38 42 := rfl
theorem fModel_look_39 : w_fe am_c225 39 40 (.iload 3) := ⟨rfl, rfl⟩
theorem fModel_look_40 : w_fe am_c225 40 41 (.iload 7) := ⟨rfl, rfl⟩
theorem fModel_look_41 : w_fe am_c225 41 42 (.isub) := ⟨rfl, rfl⟩
theorem fModel_look_42 : w_fe am_c225 42 43 (.istore 8) := ⟨rfl, rfl⟩
theorem fModel_look_43 : w_fe am_c225 43 44 (.iload 8) := ⟨rfl, rfl⟩
theorem fModel_look_44 : w_fe am_c225 44 45 (.iload 4) := ⟨rfl, rfl⟩
theorem fModel_look_45 : w_ic am_c225 45 46 .ge 48 := ⟨rfl, rfl⟩
theorem fModel_look_46 : w_fe am_c225 46 47 (.iload 6) := ⟨rfl, rfl⟩
theorem fModel_look_47 : w_gt am_c225 47 49 := rfl
theorem fModel_look_48 : w_fe am_c225 48 49 (.iload 5) := ⟨rfl, rfl⟩
theorem fModel_look_49 : w_fe am_c225 49 50 (.istore 5) := ⟨rfl, rfl⟩
theorem fModel_look_50 : w_fe am_c225 50 51 (.iload 8) := ⟨rfl, rfl⟩
theorem fModel_look_51 : w_fe am_c225 51 52 (.iload 4) := ⟨rfl, rfl⟩
theorem fModel_look_52 : w_ic am_c225 52 53 .ge 55 := ⟨rfl, rfl⟩
theorem fModel_look_53 : w_fe am_c225 53 54 (.iload 8) := ⟨rfl, rfl⟩
theorem fModel_look_54 : w_gt am_c225 54 56 := rfl
theorem fModel_look_55 : w_fe am_c225 55 56 (.iload 4) := ⟨rfl, rfl⟩
theorem fModel_look_56 : w_fe am_c225 56 57 (.istore 4) := ⟨rfl, rfl⟩
theorem fModel_look_57 : w_fe am_c225 57 58 (.iinc 6 1) := ⟨rfl, rfl⟩
theorem fModel_look_58 : w_gt am_c225 58 23 := rfl
theorem fModel_look_59 : w_fe am_c225 59 60 (.iload 5) := ⟨rfl, rfl⟩
theorem fModel_look_60 : w_fe am_c225 60 61 (.bipush (-4)) := ⟨rfl, rfl⟩
theorem fModel_look_61 : w_ic am_c225 61 62 .ne 64 := ⟨rfl, rfl⟩
theorem fModel_look_62 : w_fe am_c225 62 63 (.bipush (-4)) := ⟨rfl, rfl⟩
theorem fModel_look_63 : w_gt am_c225 63 69 := rfl
theorem fModel_look_64 : w_fe am_c225 64 65 (.iload 2) := ⟨rfl, rfl⟩
theorem fModel_look_65 : w_if am_c225 65 66 .ne 68 := ⟨rfl, rfl⟩
theorem fModel_look_66 : w_fe am_c225 66 67 (.iload 5) := ⟨rfl, rfl⟩
theorem fModel_look_67 : w_gt am_c225 67 69 := rfl
theorem fModel_look_68 : w_fe am_c225 68 69 (.iload 4) := ⟨rfl, rfl⟩
theorem fModel_look_69 : w_fe am_c225 69 70 (.ireturn) := ⟨rfl, rfl⟩
noncomputable def LModel_look_23 (xs : List Int) (d : Nat) (Q : Option w_V → w_M → Prop) (v1 : Int) (v2 : Int) (v3 : Int) (v4 : Int) (v5 : Int) (v6 : Int) (σ : w_M) : Prop := ∀ l7, w_nl l7 → ∀ l8, w_nl l8 → w_Ex (xs, d) 1 am_c225 Q 23 [some (.inr (.inr (9, 122))), some (.inl v1), some (.inl v2), some (.inl v3), some (.inl v4), some (.inl v5), some (.inl v6), l7, l8] [] σ
set_option maxRecDepth 20000 in
theorem bModel_look_0 {xs : List Int} {d : Nat} {Q : Option w_V → w_M → Prop} {x1 : Int} {x2 : Int} {σ : w_M}
    (h : (¬ (0 ≤ x1 ∧ x1 ≤ 6) → Q (some (.inl (-1))) σ) ∧ ((0 ≤ x1 ∧ x1 ≤ 6) → (((0 ≤ x2 ∧ x2 ≤ 1) → (p_Model_allRuns σ ∧ (∀ (y1 : Int) (τ2 : w_M), q_Model_allRuns σ y1 τ2 → LModel_look_23 xs (d + 4) Q x1 x2 y1 y1 (-4) 0 τ2))) ∧ (¬ (0 ≤ x2 ∧ x2 ≤ 1) → Q (some (.inl (-1))) σ)))) : w_Call (xs, (d + 4)) 225 [.inr (.inr (9, 122)), .inl x1, .inl x2] σ Q :=
  (w_mk (mid := 225) (by decide) rfl rfl rfl rfl rfl (Nat.le_of_ble_eq_true rfl) ⟨rfl, Or.inl (by decide)⟩ (wi_iload1 fModel_look_0 (wi_i2l fModel_look_1 (wi_sipush fModel_look_2 (wi_sipush fModel_look_3 (wi_call3 fModel_look_4 (Nat.le_of_ble_eq_true rfl) (k_Model_in (wi_ifb_eq fModel_look_5 (fun c4 => (wi_bipush fModel_look_12 (wi_ret1 fModel_look_13 (h.1 c4)))) (fun c4 => (wi_iload2 fModel_look_6 (wi_i2l fModel_look_7 (wi_sipush fModel_look_8 (wi_sipush fModel_look_9 (wi_call3 fModel_look_10 (Nat.le_of_ble_eq_true rfl) (k_Model_in (wi_ifb_ne fModel_look_11 (fun c3 => (wi_aload0 fModel_look_14 (wi_call1 fModel_look_15 (Nat.le_of_ble_eq_true rfl) (k_Model_allRuns ((h.2 c4).1 c3).1 (fun y1 τ2 eτ2 => (wi_istore3 fModel_look_16 trivial (wi_iload3 fModel_look_17 (wi_istore4 fModel_look_18 trivial (wi_bipush fModel_look_19 (wi_istore5 fModel_look_20 trivial (wi_bipush fModel_look_21 (wi_istore6 fModel_look_22 trivial ((((h.2 c4).1 c3).2 y1 τ2 eτ2) _ (by exact trivial) _ (by exact trivial)))))))))))))) (fun c3 => (wi_bipush fModel_look_12 (wi_ret1 fModel_look_13 ((h.2 c4).2 c3))))))))))))))))))))
set_option maxRecDepth 20000 in
theorem bModel_look_23 {xs : List Int} {d : Nat} {Q : Option w_V → w_M → Prop} {v1 : Int} {v2 : Int} {v3 : Int} {v4 : Int} {v5 : Int} {v6 : Int} {σ : w_M}
    (h : ((σ 122 4) ≤ v6 → ((¬ v5 = (-4) → ((¬ v2 = 0 → Q (some (.inl v4)) σ) ∧ (v2 = 0 → Q (some (.inl v5)) σ))) ∧ (v5 = (-4) → Q (some (.inl (-4))) σ))) ∧ (v6 < (σ 122 4) → (p_Model_runsAt v1 v6 σ ∧ (∀ (y3 : Int), y3 = v_Model_runsAt v1 v6 σ → (w_in (v3 - y3) ∧ ((y3 ≤ (v3 - y3) → ∀ (y4 : Int), y4 = (v3 - y3) → ((v4 ≤ y4 → (w_in (v6 + 1) ∧ LModel_look_23 xs (d + 4) Q v1 v2 v3 v4 v5 (v6 + 1) σ)) ∧ (y4 < v4 → (w_in (v6 + 1) ∧ LModel_look_23 xs (d + 4) Q v1 v2 v3 y4 v6 (v6 + 1) σ)))) ∧ ((v3 - y3) < y3 → ((v4 ≤ y3 → (w_in (v6 + 1) ∧ LModel_look_23 xs (d + 4) Q v1 v2 v3 v4 v5 (v6 + 1) σ)) ∧ (y3 < v4 → (w_in (v6 + 1) ∧ LModel_look_23 xs (d + 4) Q v1 v2 v3 y3 v6 (v6 + 1) σ)))))))))) : LModel_look_23 xs (d + 4) Q v1 v2 v3 v4 v5 v6 σ :=
  fun l7 nl7 => fun l8 nl8 => (wi_iload6 fModel_look_23 (wi_aload0 fModel_look_24 (wi_getf904 fModel_look_25 (wi_ic_ge fModel_look_26 (fun c8 => (wi_iload5 fModel_look_59 (wi_bipush fModel_look_60 (wi_ic_ne fModel_look_61 (fun c2 => (wi_iload2 fModel_look_64 (wi_if_ne fModel_look_65 (fun c1 => (wi_iload4 fModel_look_68 (wi_ret1 fModel_look_69 (((h.1 c8).1 c2).1 c1)))) (fun c1 => (wi_iload5 fModel_look_66 (wi_goto fModel_look_67 (wi_ret1 fModel_look_69 (((h.1 c8).1 c2).2 c1)))))))) (fun c2 => (wi_bipush fModel_look_62 (wi_goto fModel_look_63 (wi_ret1 fModel_look_69 ((h.1 c8).2 c2))))))))) (fun c8 => (wi_aload0 fModel_look_27 (wi_iload1 fModel_look_28 (wi_iload6 fModel_look_29 (wi_call3 fModel_look_30 (Nat.le_of_ble_eq_true rfl) (k_Model_runsAt (h.2 c8).1 (wi_istore7 fModel_look_31 trivial (wi_iload7 fModel_look_32 (wi_iload3 fModel_look_33 (wi_iload7 fModel_look_34 (wi_isub fModel_look_35 ((h.2 c8).2 _ rfl).1 (wi_ic_le fModel_look_36 (fun c7 => (wi_iload3 fModel_look_39 (wi_iload7 fModel_look_40 (wi_isub fModel_look_41 ((h.2 c8).2 _ rfl).1 (wi_istore8 fModel_look_42 trivial (wi_iload8 fModel_look_43 (wi_iload4 fModel_look_44 (wi_ic_ge fModel_look_45 (fun c5 => (wi_iload5 fModel_look_48 (wi_istore5 fModel_look_49 trivial (wi_iload8 fModel_look_50 (wi_iload4 fModel_look_51 (wi_ic_ge fModel_look_52 (fun _ => (wi_iload4 fModel_look_55 (wi_istore4 fModel_look_56 trivial (wi_iinc6 fModel_look_57 trivial (((((h.2 c8).2 _ rfl).2.1 c7) _ rfl).1 c5).1 (wi_goto fModel_look_58 ((((((h.2 c8).2 _ rfl).2.1 c7) _ rfl).1 c5).2 _ (by exact trivial) _ (by exact trivial))))))) (fun e => absurd c5 (w_n_ge e)))))))) (fun c5 => (wi_iload6 fModel_look_46 (wi_goto fModel_look_47 (wi_istore5 fModel_look_49 trivial (wi_iload8 fModel_look_50 (wi_iload4 fModel_look_51 (wi_ic_ge fModel_look_52 (fun e => absurd c5 (w_m_ge e)) (fun _ => (wi_iload8 fModel_look_53 (wi_goto fModel_look_54 (wi_istore4 fModel_look_56 trivial (wi_iinc6 fModel_look_57 trivial (((((h.2 c8).2 _ rfl).2.1 c7) _ rfl).2 c5).1 (wi_goto fModel_look_58 ((((((h.2 c8).2 _ rfl).2.1 c7) _ rfl).2 c5).2 _ (by exact trivial) _ (by exact trivial))))))))))))))))))))))) (fun c7 => (wi_iload7 fModel_look_37 (wi_goto fModel_look_38 (wi_istore8 fModel_look_42 trivial (wi_iload8 fModel_look_43 (wi_iload4 fModel_look_44 (wi_ic_ge fModel_look_45 (fun c6 => (wi_iload5 fModel_look_48 (wi_istore5 fModel_look_49 trivial (wi_iload8 fModel_look_50 (wi_iload4 fModel_look_51 (wi_ic_ge fModel_look_52 (fun _ => (wi_iload4 fModel_look_55 (wi_istore4 fModel_look_56 trivial (wi_iinc6 fModel_look_57 trivial ((((h.2 c8).2 _ rfl).2.2 c7).1 c6).1 (wi_goto fModel_look_58 (((((h.2 c8).2 _ rfl).2.2 c7).1 c6).2 _ (by exact trivial) _ (by exact trivial))))))) (fun e => absurd c6 (w_n_ge e)))))))) (fun c6 => (wi_iload6 fModel_look_46 (wi_goto fModel_look_47 (wi_istore5 fModel_look_49 trivial (wi_iload8 fModel_look_50 (wi_iload4 fModel_look_51 (wi_ic_ge fModel_look_52 (fun e => absurd c6 (w_m_ge e)) (fun _ => (wi_iload8 fModel_look_53 (wi_goto fModel_look_54 (wi_istore4 fModel_look_56 trivial (wi_iinc6 fModel_look_57 trivial ((((h.2 c8).2 _ rfl).2.2 c7).2 c6).1 (wi_goto fModel_look_58 (((((h.2 c8).2 _ rfl).2.2 c7).2 c6).2 _ (by exact trivial) _ (by exact trivial))))))))))))))))))))))))))))))))))))))
theorem k_Model_hare {xs : List Int} {d : Nat} {Q : Option w_V → w_M → Prop} {x1 : Int} {σ : w_M} (hp : p_Model_hare x1 σ) (hQ : ∀ (x : Int) (σ' : w_M), q_Model_hare x1 σ x σ' → Q (some (.inl x)) σ') : w_Call (xs, d + 3) 217 [.inr (.inr (9, 122)), .inl x1] σ Q := by
  have hM : MI σ := hp
  have hs := hM.s
  unfold q_Model_hare F_hare at hQ
  refine bModel_hare_0 ⟨fun c => ⟨hM, fun τ hq => ?_⟩, fun c => ?_⟩
  · obtain ⟨g1, g2, g3, g4⟩ := mr_of hM hq
    rw [if_pos c] at hQ
    refine w_loop (n := (σ 122 4).toNat) (P := fun i => LModel_hare_14 xs (d + 3) Q x1 ((r_msk (r_t (mS σ) x1.toNat) i : Nat) : Int) (i : Int) τ) ?_ ?_
    · exact bModel_hare_14 ⟨fun _ => hQ _ _ (mq_of hM hq rfl), fun h => by rw [g3] at h; omega⟩
    · intro i hi ih
      have hb := w_bit_or i (by omega) _ (r_msk_lt (r_t (mS σ) x1.toNat) i)
      simp only [r_msk] at ih
      rw [w_cs1] at ih
      refine bModel_hare_14 ⟨fun h => by rw [g3] at h; omega, fun _ => ⟨⟨g1, c, by rw [g3]; omega⟩, fun y ey => ?_⟩⟩
      unfold v_Model_runsAt at ey
      rw [g2, Int.toNat_natCast] at ey
      refine ⟨fun c2 y2 e2 => ⟨⟨by omega, by omega⟩, ?_⟩, fun c2 y2 e2 => ⟨⟨by omega, by omega⟩, ?_⟩⟩
      · rw [if_neg (by rw [← ey]; omega), Nat.add_zero] at ih
        rw [e2, hb.2]
        exact ih
      · rw [if_pos (by rw [← ey]; exact c2)] at ih
        rw [e2, hb.1]
        exact ih
  · rw [if_neg c] at hQ
    exact hQ _ _ (m_qr hM rfl)
theorem k_Model_runs {xs : List Int} {d : Nat} {Q : Option w_V → w_M → Prop}  {σ : w_M} (hp : p_Model_runs σ) (hQ : ∀ (x : Int) (σ' : w_M), q_Model_runs σ x σ' → Q (some (.inl x)) σ') : w_Call (xs, d + 4) 223 [.inr (.inr (9, 122))] σ Q := by
  have hM : MI σ := hp
  unfold q_Model_runs F_runs at hQ
  exact bModel_runs_0 ⟨hM, fun y τ hq => hQ _ _ (mq_of hM hq.2 hq.1)⟩
theorem k_Model_look {xs : List Int} {d : Nat} {Q : Option w_V → w_M → Prop} {x1 : Int} {x2 : Int} {σ : w_M} (hp : p_Model_look x1 x2 σ) (hQ : ∀ (x : Int) (σ' : w_M), q_Model_look x1 x2 σ x σ' → Q (some (.inl x)) σ') : w_Call (xs, d + 4) 225 [.inr (.inr (9, 122)), .inl x1, .inl x2] σ Q := by
  have hM : MI σ := hp
  have hs := hM.s
  unfold q_Model_look F_look at hQ
  refine bModel_look_0 ⟨fun c => ?_, fun c => ⟨fun c2 => ⟨hM, fun y1 τ hq => ?_⟩, fun c2 => ?_⟩⟩
  · rw [if_neg (fun q => c q.1)] at hQ
    exact hQ _ _ (m_qr hM rfl)
  · obtain ⟨e1, hq⟩ := hq
    obtain ⟨g1, g2, g3, g4⟩ := mr_of hM hq
    rw [if_pos ⟨c, c2⟩, ← e1] at hQ
    have es : n_s (mS σ 0) = (σ 122 4).toNat := rfl
    have ba : 0 ≤ y1 ∧ y1 ≤ 3720087 := by
      have h2 := f_sum_le (f := r_t (mS σ) 0) (B := 531441) (m := (σ 122 4).toNat) (fun i hi => r_t_le (S := mS σ) (n := 0) (by decide) (show i < n_s (mS σ 0) from hi)) (Nat.le_refl _)
      rw [e1, r_alls_eq (mS σ) (by rw [es]; omega), es]
      omega
    generalize hf : r_t (mS σ) x1.toNat = f at hQ
    refine w_loop (n := (σ 122 4).toNat) (P := fun i => LModel_look_23 xs (d + 4) Q x1 x2 y1 (r_best f y1 i).2 (r_best f y1 i).1 (i : Int) τ) ?_ ?_
    · rw [es] at hQ
      unfold r_ans at hQ
      refine bModel_look_23 ⟨fun _ => ⟨fun c3 => ⟨fun c4 => ?_, fun c4 => ?_⟩, fun c3 => ?_⟩, fun h => by rw [g3] at h; omega⟩
      · rw [if_neg c3, if_neg c4] at hQ
        exact hQ _ _ (mq_of hM hq rfl)
      · rw [if_neg c3, if_pos c4] at hQ
        exact hQ _ _ (mq_of hM hq rfl)
      · rw [if_pos c3] at hQ
        exact hQ _ _ (mq_of hM hq rfl)
    · intro i hi ih
      have h1 : 0 ≤ f i ∧ f i ≤ 531441 := by
        rw [← hf]
        exact r_t_le (by omega) (show i < n_s (mS σ 0) from hi)
      simp only [r_best] at ih
      rw [w_cs1] at ih
      refine bModel_look_23 ⟨fun h => by rw [g3] at h; omega, fun _ => ⟨⟨g1, c, by rw [g3]; omega⟩, fun y3 e3 => ?_⟩⟩
      unfold v_Model_runsAt at e3
      rw [g2, Int.toNat_natCast, hf] at e3
      have w1 : y3 ≤ y1 - y3 → r_wst y1 (f i) = y1 - y3 := fun h => by rw [← e3]; exact if_pos h
      have w2 : y1 - y3 < y3 → r_wst y1 (f i) = y3 := fun h => by rw [← e3]; exact if_neg (by omega)
      refine ⟨⟨by omega, by omega⟩, fun c3 y4 e4 => ⟨fun c4 => ⟨⟨by omega, by omega⟩, ?_⟩, fun c4 => ⟨⟨by omega, by omega⟩, ?_⟩⟩, fun c3 => ⟨fun c4 => ⟨⟨by omega, by omega⟩, ?_⟩, fun c4 => ⟨⟨by omega, by omega⟩, ?_⟩⟩⟩
      · rw [w1 c3, ← e4, if_neg (by omega)] at ih; exact ih
      · rw [w1 c3, ← e4, if_pos c4] at ih; exact ih
      · rw [w2 c3, if_neg (by omega)] at ih; exact ih
      · rw [w2 c3, if_pos c4] at ih; exact ih
  · rw [if_neg (fun q => c2 q.2)] at hQ
    exact hQ _ _ (m_qr hM rfl)
end
section
/-! Where one is to begin; how little oil one needs -/
theorem n_sd12 {A : w_M} (h : n_WF A) : n_sd (n_goes A 12) = n_sd (n_goes A (n_fin A)) := by
  obtain ⟨x, hx⟩ := n_goes12 h
  rw [hx, n_sd_up (by decide) (by decide)]
theorem n_WF6 {A : w_M} (h : n_WF A) {r : Nat} {i : Int} (hi : 0 ≤ i ∧ i < A 0 4) : n_WF (w_up A 6 r i) := by
  refine n_WF_up h ?_ ?_ ?_ ?_ ?_ ?_ ?_ ?_ <;> (intros; omega)
theorem n_WF4 {A : w_M} (h : n_WF A) {r : Nat} {v : Int} (hv : 0 ≤ v ∧ v ≤ 9) : n_WF (w_up A 4 r v) := by
  refine n_WF_up h ?_ ?_ ?_ ?_ ?_ ?_ ?_ ?_ <;> (intros; omega)
noncomputable def bs_f (A : w_M) (r i : Nat) : Int := n_sd (n_goes (w_up A 6 r (i : Int)) 12)
noncomputable def bs_F (f : Nat → Int) : Nat → Int × Int
  | 0 => (-4, 1000000)
  | k + 1 => if f k < (bs_F f k).2 then ((k : Int), f k) else bs_F f k
theorem bs_f_le {A : w_M} (h : n_WF A) {r i : Nat} (hi : i < n_s A) : 0 ≤ bs_f A r i ∧ bs_f A r i ≤ 280 := by
  have hs := h.s
  unfold n_s at hi
  exact n_sd_le (n_goes_all (n_WF6 h (by omega)) 12).1
theorem bs_F_1 {f : Nat → Int} : ∀ {k : Nat}, (∀ i, i < k → 0 ≤ f i ∧ f i ≤ 280) → 1 ≤ k → (0 ≤ (bs_F f k).1 ∧ (bs_F f k).1 < k) ∧ (0 ≤ (bs_F f k).2 ∧ (bs_F f k).2 ≤ 280) := by
  intro k
  induction k with
  | zero => intro _ h; omega
  | succ k ih =>
    intro hf _
    have hk := hf k (by omega)
    simp only [bs_F]
    by_cases h0 : k = 0
    · subst h0
      rw [if_pos (by show f 0 < 1000000; omega)]
      simp only []
      omega
    · have := ih (fun i hi => hf i (by omega)) (by omega)
      split
      · simp only []; omega
      · omega
noncomputable def F_best (S : w_S) (r w : Int) : Int := if (0 ≤ r ∧ r < S 0 0 5) ∧ (0 ≤ w ∧ w ≤ 1) then (if w = 0 then (bs_F (bs_f (S 0) r.toNat) (n_s (S 0))).1 else (bs_F (bs_f (S 0) r.toNat) (n_s (S 0))).2) else -1
noncomputable def p_Plan_fewestStanding (b : Nat) (r w : Int) (σ : w_M) : Prop := (n_ok σ b ∧ (32 + 9 ≤ b ∨ b + 9 ≤ 32)) ∧ (0 ≤ r ∧ r < σ b 5) ∧ (w = 0 ∨ w = 1)
noncomputable def q_Plan_fewestStanding (b : Nat) (r w : Int) (σ : w_M) (x : Int) (σ' : w_M) : Prop := x = (if w = 0 then (bs_F (bs_f (w_ab σ b) r.toNat) (n_s (w_ab σ b))).2 else (bs_F (bs_f (w_ab σ b) r.toNat) (n_s (w_ab σ b))).1) ∧ w_fr σ σ' 32 41
theorem fPlan_fewestStanding_0 : w_fe am_c74 0 1 (.bipush (-4)) := ⟨rfl, rfl⟩
theorem fPlan_fewestStanding_1 : w_fe am_c74 1 2 (.istore 4) := ⟨rfl, rfl⟩
theorem fPlan_fewestStanding_2 : w_fe am_c74 2 3 (.bipush 0) := ⟨rfl, rfl⟩
theorem fPlan_fewestStanding_3 : w_fe am_c74 3 4 (.istore 5) := ⟨rfl, rfl⟩
theorem fPlan_fewestStanding_4 : w_fe am_c74 4 5 (.bipush 0) := ⟨rfl, rfl⟩
theorem fPlan_fewestStanding_5 : w_fe am_c74 5 6 (.istore 6) := ⟨rfl, rfl⟩
theorem fPlan_fewestStanding_6 : w_fe am_c74 6 7 (.iload 6) := ⟨rfl, rfl⟩
theorem fPlan_fewestStanding_7 : w_fe am_c74 7 8 (.aload 1) := ⟨rfl, rfl⟩
theorem fPlan_fewestStanding_8 : w_fe am_c74 8 9 (.getfield 204) := ⟨rfl, rfl⟩
theorem fPlan_fewestStanding_9 : w_ic am_c74 9 10 .ge 47 := ⟨rfl, rfl⟩
theorem fPlan_fewestStanding_10 : w_fe am_c74 10 11 (.aload 0) := ⟨rfl, rfl⟩
theorem fPlan_fewestStanding_11 : w_fe am_c74 11 12 (.getfield 600) := ⟨rfl, rfl⟩
theorem fPlan_fewestStanding_12 : w_fe am_c74 12 13 (.aload 1) := ⟨rfl, rfl⟩
theorem fPlan_fewestStanding_13 : w_fe am_c74 13 14 (.invokestatic 34) := ⟨rfl, rfl⟩
theorem fPlan_fewestStanding_14 : w_fe am_c74 14 15 (.aload 0) := ⟨rfl, rfl⟩
theorem fPlan_fewestStanding_15 : w_fe am_c74 15 16 (.getfield 600) := ⟨rfl, rfl⟩
theorem fPlan_fewestStanding_16 : w_fe am_c74 16 17 (.iload 2) := ⟨rfl, rfl⟩
theorem fPlan_fewestStanding_17 : w_fe am_c74 17 18 (.invokestatic 38) := ⟨rfl, rfl⟩
theorem fPlan_fewestStanding_18 : w_if am_c74 18 19 .eq 25 := ⟨rfl, rfl⟩
theorem fPlan_fewestStanding_19 : w_fe am_c74 19 20 (.aload 0) := ⟨rfl, rfl⟩
theorem fPlan_fewestStanding_20 : w_fe am_c74 20 21 (.getfield 600) := ⟨rfl, rfl⟩
theorem fPlan_fewestStanding_21 : w_fe am_c74 21 22 (.getfield 212) := ⟨rfl, rfl⟩
theorem fPlan_fewestStanding_22 : w_fe am_c74 22 23 (.iload 2) := ⟨rfl, rfl⟩
theorem fPlan_fewestStanding_23 : w_fe am_c74 23 24 (.iload 6) := ⟨rfl, rfl⟩
theorem fPlan_fewestStanding_24 : w_fe am_c74 24 25 (.iastore) := ⟨rfl, rfl⟩
theorem fPlan_fewestStanding_25 : w_fe am_c74 25 26 (.aload 0) := ⟨rfl, rfl⟩
theorem fPlan_fewestStanding_26 : w_fe am_c74 26 27 (.getfield 600) := ⟨rfl, rfl⟩
theorem fPlan_fewestStanding_27 : w_fe am_c74 27 28 (.bipush 12) := ⟨rfl, rfl⟩
theorem fPlan_fewestStanding_28 : w_fe am_c74 28 29 (.bipush 1000000) := ⟨rfl, rfl⟩
theorem fPlan_fewestStanding_29 : w_fe am_c74 29 30 (.invokestatic 45) := ⟨rfl, rfl⟩
theorem fPlan_fewestStanding_30 : w_fe am_c74 30 31 (.pop) := ⟨rfl, rfl⟩
theorem fPlan_fewestStanding_31 : w_fe am_c74 31 32 (.aload 0) := ⟨rfl, rfl⟩
theorem fPlan_fewestStanding_32 : w_fe am_c74 32 33 (.getfield 600) := ⟨rfl, rfl⟩
theorem fPlan_fewestStanding_33 : w_fe am_c74 33 34 (.invokestatic 35) := ⟨rfl, rfl⟩
theorem fPlan_fewestStanding_34 : w_fe am_c74 34 35 (.istore 7) := ⟨rfl, rfl⟩
theorem fPlan_fewestStanding_35 : w_fe am_c74 35 36 (.iload 4) := ⟨rfl, rfl⟩
theorem fPlan_fewestStanding_36 : w_fe am_c74 36 37 (.bipush (-4)) := ⟨rfl, rfl⟩
theorem fPlan_fewestStanding_37 : w_ic am_c74 37 38 .eq 41 := ⟨rfl, rfl⟩
theorem fPlan_fewestStanding_38 : w_fe am_c74 38 39 (.iload 7) := ⟨rfl, rfl⟩
theorem fPlan_fewestStanding_39 : w_fe am_c74 39 40 (.iload 5) := ⟨rfl, rfl⟩
theorem fPlan_fewestStanding_40 : w_ic am_c74 40 41 .ge 45 := ⟨rfl, rfl⟩
theorem fPlan_fewestStanding_41 : w_fe am_c74 41 42 (.iload 6) := ⟨rfl, rfl⟩
theorem fPlan_fewestStanding_42 : w_fe am_c74 42 43 (.istore 4) := ⟨rfl, rfl⟩
theorem fPlan_fewestStanding_43 : w_fe am_c74 43 44 (.iload 7) := ⟨rfl, rfl⟩
theorem fPlan_fewestStanding_44 : w_fe am_c74 44 45 (.istore 5) := ⟨rfl, rfl⟩
theorem fPlan_fewestStanding_45 : w_fe am_c74 45 46 (.iinc 6 1) := ⟨rfl, rfl⟩
theorem fPlan_fewestStanding_46 : w_gt am_c74 46 6 := rfl
theorem fPlan_fewestStanding_47 : w_fe am_c74 47 48 (.iload 3) := ⟨rfl, rfl⟩
theorem fPlan_fewestStanding_48 : w_if am_c74 48 49 .eq 51 := ⟨rfl, rfl⟩
theorem fPlan_fewestStanding_49 : w_fe am_c74 49 50 (.iload 4) := ⟨rfl, rfl⟩
theorem fPlan_fewestStanding_50 : w_gt am_c74 50 52 := rfl
theorem fPlan_fewestStanding_51 : w_fe am_c74 51 52 (.iload 5) := ⟨rfl, rfl⟩
theorem fPlan_fewestStanding_52 : w_fe am_c74 52 53 (.ireturn) := ⟨rfl, rfl⟩
noncomputable def LPlan_fewestStanding_6 (xs : List Int) (d : Nat) (Q : Option w_V → w_M → Prop) (r1 : Nat) (v2 : Int) (v3 : Int) (v4 : Int) (v5 : Int) (v6 : Int) (σ : w_M) : Prop := ∀ l7, w_nl l7 → w_Ex (xs, d) 1 am_c74 Q 6 [some (.inr (.inr (6, 31))), some (.inr (.inr (2, r1))), some (.inl v2), some (.inl v3), some (.inl v4), some (.inl v5), some (.inl v6), l7] [] σ
set_option maxRecDepth 20000 in
theorem bPlan_fewestStanding_0 {xs : List Int} {d : Nat} {Q : Option w_V → w_M → Prop} {b : Nat} {x2 : Int} {x3 : Int} {σ : w_M}
    (h : LPlan_fewestStanding_6 xs (d + 5) Q b x2 x3 (-4) 0 0 σ) : w_Call (xs, (d + 5)) 74 [.inr (.inr (6, 31)), .inr (.inr (2, b)), .inl x2, .inl x3] σ Q :=
  (w_mk (mid := 74) (by decide) rfl rfl rfl rfl rfl (Nat.le_of_ble_eq_true rfl) ⟨rfl, Or.inl (by decide)⟩ (wi_bipush fPlan_fewestStanding_0 (wi_istore4 fPlan_fewestStanding_1 trivial (wi_bipush fPlan_fewestStanding_2 (wi_istore5 fPlan_fewestStanding_3 trivial (wi_bipush fPlan_fewestStanding_4 (wi_istore6 fPlan_fewestStanding_5 trivial (h _ (by exact trivial)))))))))
set_option maxRecDepth 20000 in
theorem bPlan_fewestStanding_6 {xs : List Int} {d : Nat} {Q : Option w_V → w_M → Prop} {r1 : Nat} {v2 : Int} {v3 : Int} {v4 : Int} {v5 : Int} {v6 : Int} {σ : w_M}
    (h : ((σ r1 4) ≤ v6 → ((v3 = 0 → Q (some (.inl v5)) σ) ∧ (¬ v3 = 0 → Q (some (.inl v4)) σ))) ∧ (v6 < (σ r1 4) → (p_Field_copyFrom 32 r1 σ ∧ (∀ (τ2 : w_M), q_Field_copyFrom 32 r1 σ τ2 → ((¬ (0 ≤ v2 ∧ v2 < τ2 32 5) → (p_Field_passUntilDone 32 12 1000000 τ2 ∧ (∀ (y3 : Int) (τ4 : w_M), q_Field_passUntilDone 32 12 1000000 τ2 y3 τ4 → (p_Field_standing 32 τ4 ∧ (∀ (y5 : Int), y5 = v_Field_standing 32 τ4 → ((v4 = (-4) → (w_in (v6 + 1) ∧ LPlan_fewestStanding_6 xs (d + 5) Q r1 v2 v3 v6 y5 (v6 + 1) τ4)) ∧ (¬ v4 = (-4) → ((v5 ≤ y5 → (w_in (v6 + 1) ∧ LPlan_fewestStanding_6 xs (d + 5) Q r1 v2 v3 v4 v5 (v6 + 1) τ4)) ∧ (y5 < v5 → (w_in (v6 + 1) ∧ LPlan_fewestStanding_6 xs (d + 5) Q r1 v2 v3 v6 y5 (v6 + 1) τ4)))))))))) ∧ ((0 ≤ v2 ∧ v2 < τ2 32 5) → (0 ≤ v2 ∧ v2 < 4 ∧ (∀ (τ8 : w_M), τ8 = w_up τ2 38 v2.toNat v6 → (p_Field_passUntilDone 32 12 1000000 τ8 ∧ (∀ (y9 : Int) (τ10 : w_M), q_Field_passUntilDone 32 12 1000000 τ8 y9 τ10 → (p_Field_standing 32 τ10 ∧ (∀ (y11 : Int), y11 = v_Field_standing 32 τ10 → ((v4 = (-4) → (w_in (v6 + 1) ∧ LPlan_fewestStanding_6 xs (d + 5) Q r1 v2 v3 v6 y11 (v6 + 1) τ10)) ∧ (¬ v4 = (-4) → ((v5 ≤ y11 → (w_in (v6 + 1) ∧ LPlan_fewestStanding_6 xs (d + 5) Q r1 v2 v3 v4 v5 (v6 + 1) τ10)) ∧ (y11 < v5 → (w_in (v6 + 1) ∧ LPlan_fewestStanding_6 xs (d + 5) Q r1 v2 v3 v6 y11 (v6 + 1) τ10))))))))))))))))) : LPlan_fewestStanding_6 xs (d + 5) Q r1 v2 v3 v4 v5 v6 σ :=
  fun l7 nl7 => (wi_iload6 fPlan_fewestStanding_6 (wi_aload1 fPlan_fewestStanding_7 (wi_getf204 fPlan_fewestStanding_8 (wi_ic_ge fPlan_fewestStanding_9 (fun c15 => (wi_iload3 fPlan_fewestStanding_47 (wi_if_eq fPlan_fewestStanding_48 (fun c1 => (wi_iload5 fPlan_fewestStanding_51 (wi_ret1 fPlan_fewestStanding_52 ((h.1 c15).1 c1)))) (fun c1 => (wi_iload4 fPlan_fewestStanding_49 (wi_goto fPlan_fewestStanding_50 (wi_ret1 fPlan_fewestStanding_52 ((h.1 c15).2 c1)))))))) (fun c15 => (wi_aload0 fPlan_fewestStanding_10 (wi_getf600 fPlan_fewestStanding_11 (wi_aload1 fPlan_fewestStanding_12 (wi_call2 fPlan_fewestStanding_13 (Nat.le_of_ble_eq_true rfl) (k_Field_copyFrom (h.2 c15).1 (fun τ2 eτ2 => (wi_aload0 fPlan_fewestStanding_14 (wi_getf600 fPlan_fewestStanding_15 (wi_iload2 fPlan_fewestStanding_16 (wi_call2 fPlan_fewestStanding_17 (Nat.le_of_ble_eq_true rfl) (k_Field_isReaper (wi_ifb_eq fPlan_fewestStanding_18 (fun c14 => (wi_aload0 fPlan_fewestStanding_25 (wi_getf600 fPlan_fewestStanding_26 (wi_bipush fPlan_fewestStanding_27 (wi_bipush fPlan_fewestStanding_28 (wi_call3 fPlan_fewestStanding_29 (Nat.le_of_ble_eq_true rfl) (k_Field_passUntilDone (((h.2 c15).2 τ2 eτ2).1 c14).1 (fun y3 τ4 eτ4 => (wi_pop_i fPlan_fewestStanding_30 (wi_aload0 fPlan_fewestStanding_31 (wi_getf600 fPlan_fewestStanding_32 (wi_call1 fPlan_fewestStanding_33 (Nat.le_of_ble_eq_true rfl) (k_Field_standing ((((h.2 c15).2 τ2 eτ2).1 c14).2 y3 τ4 eτ4).1 (wi_istore7 fPlan_fewestStanding_34 trivial (wi_iload4 fPlan_fewestStanding_35 (wi_bipush fPlan_fewestStanding_36 (wi_ic_eq fPlan_fewestStanding_37 (fun c7 => (wi_iload6 fPlan_fewestStanding_41 (wi_istore4 fPlan_fewestStanding_42 trivial (wi_iload7 fPlan_fewestStanding_43 (wi_istore5 fPlan_fewestStanding_44 trivial (wi_iinc6 fPlan_fewestStanding_45 trivial ((((((h.2 c15).2 τ2 eτ2).1 c14).2 y3 τ4 eτ4).2 _ rfl).1 c7).1 (wi_goto fPlan_fewestStanding_46 (((((((h.2 c15).2 τ2 eτ2).1 c14).2 y3 τ4 eτ4).2 _ rfl).1 c7).2 _ (by exact trivial))))))))) (fun c7 => (wi_iload7 fPlan_fewestStanding_38 (wi_iload5 fPlan_fewestStanding_39 (wi_ic_ge fPlan_fewestStanding_40 (fun c6 => (wi_iinc6 fPlan_fewestStanding_45 trivial (((((((h.2 c15).2 τ2 eτ2).1 c14).2 y3 τ4 eτ4).2 _ rfl).2 c7).1 c6).1 (wi_goto fPlan_fewestStanding_46 ((((((((h.2 c15).2 τ2 eτ2).1 c14).2 y3 τ4 eτ4).2 _ rfl).2 c7).1 c6).2 _ (by exact trivial))))) (fun c6 => (wi_iload6 fPlan_fewestStanding_41 (wi_istore4 fPlan_fewestStanding_42 trivial (wi_iload7 fPlan_fewestStanding_43 (wi_istore5 fPlan_fewestStanding_44 trivial (wi_iinc6 fPlan_fewestStanding_45 trivial (((((((h.2 c15).2 τ2 eτ2).1 c14).2 y3 τ4 eτ4).2 _ rfl).2 c7).2 c6).1 (wi_goto fPlan_fewestStanding_46 ((((((((h.2 c15).2 τ2 eτ2).1 c14).2 y3 τ4 eτ4).2 _ rfl).2 c7).2 c6).2 _ (by exact trivial)))))))))))))))))))))))))))))) (fun c14 => (wi_aload0 fPlan_fewestStanding_19 (wi_getf600 fPlan_fewestStanding_20 (wi_getf212 fPlan_fewestStanding_21 (wi_iload2 fPlan_fewestStanding_22 (wi_iload6 fPlan_fewestStanding_23 (wi_iast1004 fPlan_fewestStanding_24 (((h.2 c15).2 τ2 eτ2).2 c14).1 (((h.2 c15).2 τ2 eτ2).2 c14).2.1 (wi_aload0 fPlan_fewestStanding_25 (wi_getf600 fPlan_fewestStanding_26 (wi_bipush fPlan_fewestStanding_27 (wi_bipush fPlan_fewestStanding_28 (wi_call3 fPlan_fewestStanding_29 (Nat.le_of_ble_eq_true rfl) (k_Field_passUntilDone ((((h.2 c15).2 τ2 eτ2).2 c14).2.2 _ rfl).1 (fun y9 τ10 eτ10 => (wi_pop_i fPlan_fewestStanding_30 (wi_aload0 fPlan_fewestStanding_31 (wi_getf600 fPlan_fewestStanding_32 (wi_call1 fPlan_fewestStanding_33 (Nat.le_of_ble_eq_true rfl) (k_Field_standing (((((h.2 c15).2 τ2 eτ2).2 c14).2.2 _ rfl).2 y9 τ10 eτ10).1 (wi_istore7 fPlan_fewestStanding_34 trivial (wi_iload4 fPlan_fewestStanding_35 (wi_bipush fPlan_fewestStanding_36 (wi_ic_eq fPlan_fewestStanding_37 (fun c13 => (wi_iload6 fPlan_fewestStanding_41 (wi_istore4 fPlan_fewestStanding_42 trivial (wi_iload7 fPlan_fewestStanding_43 (wi_istore5 fPlan_fewestStanding_44 trivial (wi_iinc6 fPlan_fewestStanding_45 trivial (((((((h.2 c15).2 τ2 eτ2).2 c14).2.2 _ rfl).2 y9 τ10 eτ10).2 _ rfl).1 c13).1 (wi_goto fPlan_fewestStanding_46 ((((((((h.2 c15).2 τ2 eτ2).2 c14).2.2 _ rfl).2 y9 τ10 eτ10).2 _ rfl).1 c13).2 _ (by exact trivial))))))))) (fun c13 => (wi_iload7 fPlan_fewestStanding_38 (wi_iload5 fPlan_fewestStanding_39 (wi_ic_ge fPlan_fewestStanding_40 (fun c12 => (wi_iinc6 fPlan_fewestStanding_45 trivial ((((((((h.2 c15).2 τ2 eτ2).2 c14).2.2 _ rfl).2 y9 τ10 eτ10).2 _ rfl).2 c13).1 c12).1 (wi_goto fPlan_fewestStanding_46 (((((((((h.2 c15).2 τ2 eτ2).2 c14).2.2 _ rfl).2 y9 τ10 eτ10).2 _ rfl).2 c13).1 c12).2 _ (by exact trivial))))) (fun c12 => (wi_iload6 fPlan_fewestStanding_41 (wi_istore4 fPlan_fewestStanding_42 trivial (wi_iload7 fPlan_fewestStanding_43 (wi_istore5 fPlan_fewestStanding_44 trivial (wi_iinc6 fPlan_fewestStanding_45 trivial ((((((((h.2 c15).2 τ2 eτ2).2 c14).2.2 _ rfl).2 y9 τ10 eτ10).2 _ rfl).2 c13).2 c12).1 (wi_goto fPlan_fewestStanding_46 (((((((((h.2 c15).2 τ2 eτ2).2 c14).2.2 _ rfl).2 y9 τ10 eτ10).2 _ rfl).2 c13).2 c12).2 _ (by exact trivial)))))))))))))))))))))))))))))))))))))))))))))))))))))
theorem k_Plan_fewestStanding {xs : List Int} {d : Nat} {Q : Option w_V → w_M → Prop} {b : Nat} {x2 : Int} {x3 : Int} {σ : w_M} (hp : p_Plan_fewestStanding b x2 x3 σ) (hQ : ∀ (x : Int) (σ' : w_M), q_Plan_fewestStanding b x2 x3 σ x σ' → Q (some (.inl x)) σ') : w_Call (xs, d + 5) 74 [.inr (.inr (6, 31)), .inr (.inr (2, b)), .inl x2, .inl x3] σ Q := by
  obtain ⟨⟨hok, hb⟩, hr, hw⟩ := hp
  have hs := n_ok.s hok
  have hn := n_ok.n hok
  obtain ⟨r, rfl⟩ := Int.eq_ofNat_of_zero_le hr.1
  unfold q_Plan_fewestStanding at hQ
  rw [Int.toNat_natCast] at hQ
  have hrn : r < n_n (w_ab σ b) := by rw [n_n_ab]; omega
  have hR := n_WF.r hok hrn
  have h04 : w_ab σ b 0 4 = σ b 4 := rfl
  generalize hf : bs_f (w_ab σ b) r = f at hQ
  have hfl : ∀ i, i < n_s (w_ab σ b) → 0 ≤ f i ∧ f i ≤ 280 := fun i hi => by rw [← hf]; exact bs_f_le hok hi
  have es : n_s (w_ab σ b) = (σ b 4).toNat := rfl
  refine bPlan_fewestStanding_0 ?_
  refine (w_loop (n := (σ b 4).toNat) (P := fun i => ∀ (τ : w_M) (v5 : Int), w_fr σ τ 32 41 → ((i = 0 ∧ v5 = 0) ∨ (1 ≤ i ∧ v5 = (bs_F f i).2)) → LPlan_fewestStanding_6 xs (d + 5) Q b (r : Int) x3 (bs_F f i).1 v5 (i : Int) τ) ?_ ?_) σ 0 w_fr.rfl' (Or.inl ⟨rfl, rfl⟩)
  · intro τ v5 F h5
    have zb : τ b = σ b := F b (by omega)
    refine bPlan_fewestStanding_6 ⟨fun _ => ⟨fun c => hQ _ _ ⟨?_, F⟩, fun c => hQ _ _ ⟨?_, F⟩⟩, fun h => by rw [zb] at h; omega⟩
    · rw [if_pos c, es]; omega
    · rw [if_neg c, es]
  · intro i hi ih τ v5 F h5
    have zb : τ b = σ b := F b (by omega)
    have abb : w_ab τ b = w_ab σ b := w_ab_fr (fun d hd => F _ (by omega))
    have okb : n_ok τ b := n_ok.of abb hok
    have hfi := hfl i hi
    simp only [bs_F] at ih
    rw [w_cs1] at ih
    refine bPlan_fewestStanding_6 ⟨fun h => by rw [zb] at h; omega, fun _ => ⟨⟨okb, hb⟩, fun τ2 hq2 => ?_⟩⟩
    obtain ⟨q1, q2, q3⟩ := hq2
    rw [abb] at q1
    have z5 : τ2 32 5 = σ b 5 := congrFun (congrFun q1 0) 5
    have nx : ∀ (y : Int) (τ' : w_M), w_fr σ τ' 32 41 → y = f i → (((bs_F f i).1 = (-4) → (w_in ((i : Int) + 1) ∧ LPlan_fewestStanding_6 xs (d + 5) Q b (r : Int) x3 (i : Int) y ((i : Int) + 1) τ')) ∧ (¬ (bs_F f i).1 = (-4) → ((v5 ≤ y → (w_in ((i : Int) + 1) ∧ LPlan_fewestStanding_6 xs (d + 5) Q b (r : Int) x3 (bs_F f i).1 v5 ((i : Int) + 1) τ')) ∧ (y < v5 → (w_in ((i : Int) + 1) ∧ LPlan_fewestStanding_6 xs (d + 5) Q b (r : Int) x3 (i : Int) y ((i : Int) + 1) τ'))))) := fun y τ' F' ey => by
      have key : 1 ≤ i → (0 ≤ (bs_F f i).1 ∧ (bs_F f i).1 < i) ∧ (0 ≤ (bs_F f i).2 ∧ (bs_F f i).2 ≤ 280) := fun h => bs_F_1 (fun j hj => hfl j (by rw [es]; omega)) h
      have b0 : i = 0 → (bs_F f i).1 = -4 ∧ (bs_F f i).2 = 1000000 := fun h => by rw [h]; exact ⟨rfl, rfl⟩
      refine ⟨fun c => ⟨⟨by omega, by omega⟩, ?_⟩, fun c => ⟨fun c2 => ⟨⟨by omega, by omega⟩, ?_⟩, fun c2 => ⟨⟨by omega, by omega⟩, ?_⟩⟩⟩
      · have hi0 : i = 0 := by
          by_cases h : i = 0
          · exact h
          · have := key (by omega); omega
        rw [if_pos (by rw [(b0 hi0).2]; omega)] at ih
        rw [ey]
        exact ih τ' (f i) F' (Or.inr ⟨by omega, rfl⟩)
      · have hi1 : 1 ≤ i := by
          by_cases h : i = 0
          · exact absurd (b0 h).1 c
          · omega
        have e5 : v5 = (bs_F f i).2 := by omega
        rw [if_neg (by omega)] at ih
        exact ih τ' v5 F' (Or.inr ⟨by omega, e5⟩)
      · have hi1 : 1 ≤ i := by
          by_cases h : i = 0
          · exact absurd (b0 h).1 c
          · omega
        have e5 : v5 = (bs_F f i).2 := by omega
        rw [if_pos (by omega)] at ih
        rw [ey]
        exact ih τ' (f i) F' (Or.inr ⟨by omega, rfl⟩)
    refine ⟨fun c => by omega, fun c => ⟨by omega, by omega, fun τ8 t8 => ?_⟩⟩
    rw [Int.toNat_natCast] at t8
    have ab8 : w_ab τ8 32 = w_up (w_ab σ b) 6 r (i : Int) := by
      rw [t8, show (38 : Nat) = 32 + 6 from rfl, w_ab_up (by decide) (by decide) (by rw [w_rl37 (by decide) (by decide), z5]; omega), q1]
    have W8 : n_WF (w_up (w_ab σ b) 6 r (i : Int)) := n_WF6 hok (by omega)
    have F8 : w_fr σ τ8 32 41 := by rw [t8]; exact (F.tr q3).up (by decide) (by decide)
    refine ⟨⟨n_ok.of ab8 W8, by decide, by decide⟩, fun y9 τ10 hq10 => ?_⟩
    obtain ⟨j, p1, p2, p3⟩ := hq10
    rw [ab8] at p1 p2
    obtain ⟨ej, -⟩ := n_pud_done W8 p2
    refine ⟨n_ok.of p1 (n_goes_all W8 j).1, fun y11 e11 => ?_⟩
    refine nx y11 τ10 (F8.tr p3) ?_
    rw [e11]
    unfold v_Field_standing
    rw [p1, ej, ← n_sd12 W8, ← hf]
    rfl
noncomputable def p_Moon_best (_x1 : Int) (_x2 : Int) (σ : w_M) : Prop := CI σ
noncomputable def q_Moon_best (x1 : Int) (x2 : Int) (σ : w_M) (x : Int) (σ' : w_M) : Prop := c_q (F_best (cS σ) x1 x2) (cS σ) σ x σ'
theorem fMoon_best_0 : w_fe am_c131 0 1 (.aload 0) := ⟨rfl, rfl⟩
theorem fMoon_best_1 : w_fe am_c131 1 2 (.getfield 2) := ⟨rfl, rfl⟩
theorem fMoon_best_2 : w_fe am_c131 2 3 (.iload 1) := ⟨rfl, rfl⟩
theorem fMoon_best_3 : w_fe am_c131 3 4 (.invokestatic 38) := ⟨rfl, rfl⟩
theorem fMoon_best_4 : w_if am_c131 4 5 .eq 10 := ⟨rfl, rfl⟩
theorem fMoon_best_5 : w_fe am_c131 5 6 (.iload 2) := ⟨rfl, rfl⟩
theorem fMoon_best_6 : w_fe am_c131 6 7 (.bipush 0) := ⟨rfl, rfl⟩
theorem fMoon_best_7 : w_fe am_c131 7 8 (.bipush 1) := ⟨rfl, rfl⟩
theorem fMoon_best_8 : w_fe am_c131 8 9 (.invokestatic 107) := ⟨rfl, rfl⟩
theorem fMoon_best_9 : w_if am_c131 9 10 .ne 12 := ⟨rfl, rfl⟩
theorem fMoon_best_10 : w_fe am_c131 10 11 (.bipush (-1)) := ⟨rfl, rfl⟩
theorem fMoon_best_11 : w_fe am_c131 11 12 (.ireturn) := ⟨rfl, rfl⟩
theorem fMoon_best_12 : w_fe am_c131 12 13 (.aload 0) := ⟨rfl, rfl⟩
theorem fMoon_best_13 : w_fe am_c131 13 14 (.getfield 4) := ⟨rfl, rfl⟩
theorem fMoon_best_14 : w_fe am_c131 14 15 (.aload 0) := ⟨rfl, rfl⟩
theorem fMoon_best_15 : w_fe am_c131 15 16 (.getfield 2) := ⟨rfl, rfl⟩
theorem fMoon_best_16 : w_fe am_c131 16 17 (.iload 1) := ⟨rfl, rfl⟩
theorem fMoon_best_17 : w_fe am_c131 17 18 (.iload 2) := ⟨rfl, rfl⟩
theorem fMoon_best_18 : w_if am_c131 18 19 .ne 21 := ⟨rfl, rfl⟩
theorem fMoon_best_19 : w_fe am_c131 19 20 (.bipush 1) := ⟨rfl, rfl⟩
theorem fMoon_best_20 : w_gt am_c131 20 22 := rfl
theorem fMoon_best_21 : w_fe am_c131 21 22 (.bipush 0) := ⟨rfl, rfl⟩
theorem fMoon_best_22 : w_fe am_c131 22 23 (.invokestatic 74) := ⟨rfl, rfl⟩
theorem fMoon_best_23 : w_fe am_c131 23 24 (.ireturn) := ⟨rfl, rfl⟩
set_option maxRecDepth 20000 in
theorem bMoon_best_0 {xs : List Int} {d : Nat} {Q : Option w_V → w_M → Prop} {x1 : Int} {x2 : Int} {σ : w_M}
    (h : (¬ (0 ≤ x1 ∧ x1 < σ 14 5) → Q (some (.inl (-1))) σ) ∧ ((0 ≤ x1 ∧ x1 < σ 14 5) → (((0 ≤ x2 ∧ x2 ≤ 1) → ((¬ x2 = 0 → (p_Plan_fewestStanding 14 x1 0 σ ∧ (∀ (y1 : Int) (τ2 : w_M), q_Plan_fewestStanding 14 x1 0 σ y1 τ2 → Q (some (.inl y1)) τ2))) ∧ (x2 = 0 → (p_Plan_fewestStanding 14 x1 1 σ ∧ (∀ (y3 : Int) (τ4 : w_M), q_Plan_fewestStanding 14 x1 1 σ y3 τ4 → Q (some (.inl y3)) τ4))))) ∧ (¬ (0 ≤ x2 ∧ x2 ≤ 1) → Q (some (.inl (-1))) σ)))) : w_Call (xs, (d + 6)) 131 [.inr (.inr (0, 0)), .inl x1, .inl x2] σ Q :=
  (w_mk (mid := 131) (by decide) rfl rfl rfl rfl rfl (Nat.le_of_ble_eq_true rfl) ⟨rfl, Or.inl (by decide)⟩ (wi_aload0 fMoon_best_0 (wi_getf2 fMoon_best_1 (wi_iload1 fMoon_best_2 (wi_call2 fMoon_best_3 (Nat.le_of_ble_eq_true rfl) (k_Field_isReaper (wi_ifb_eq fMoon_best_4 (fun c7 => (wi_bipush fMoon_best_10 (wi_ret1 fMoon_best_11 (h.1 c7)))) (fun c7 => (wi_iload2 fMoon_best_5 (wi_bipush fMoon_best_6 (wi_bipush fMoon_best_7 (wi_call3 fMoon_best_8 (Nat.le_of_ble_eq_true rfl) (k_Moon_isWithin (wi_ifb_ne fMoon_best_9 (fun c6 => (wi_aload0 fMoon_best_12 (wi_getf4 fMoon_best_13 (wi_aload0 fMoon_best_14 (wi_getf2 fMoon_best_15 (wi_iload1 fMoon_best_16 (wi_iload2 fMoon_best_17 (wi_if_ne fMoon_best_18 (fun c5 => (wi_bipush fMoon_best_21 (wi_call4 fMoon_best_22 (Nat.le_of_ble_eq_true rfl) (k_Plan_fewestStanding (((h.2 c7).1 c6).1 c5).1 (fun y1 τ2 eτ2 => (wi_ret1 fMoon_best_23 ((((h.2 c7).1 c6).1 c5).2 y1 τ2 eτ2))))))) (fun c5 => (wi_bipush fMoon_best_19 (wi_goto fMoon_best_20 (wi_call4 fMoon_best_22 (Nat.le_of_ble_eq_true rfl) (k_Plan_fewestStanding (((h.2 c7).1 c6).2 c5).1 (fun y3 τ4 eτ4 => (wi_ret1 fMoon_best_23 ((((h.2 c7).1 c6).2 c5).2 y3 τ4 eτ4)))))))))))))))) (fun c6 => (wi_bipush fMoon_best_10 (wi_ret1 fMoon_best_11 ((h.2 c7).2 c6))))))))))))))))))
theorem k_Moon_best {xs : List Int} {d : Nat} {Q : Option w_V → w_M → Prop} {x1 : Int} {x2 : Int} {σ : w_M} (hp : p_Moon_best x1 x2 σ) (hQ : ∀ (x : Int) (σ' : w_M), q_Moon_best x1 x2 σ x σ' → Q (some (.inl x)) σ') : w_Call (xs, d + 6) 131 [.inr (.inr (0, 0)), .inl x1, .inl x2] σ Q := by
  have hC : CI σ := hp
  have hok := hC.ok
  unfold q_Moon_best F_best at hQ
  have e5 : cS σ 0 0 5 = σ 14 5 := rfl
  have eA : cS σ 0 = w_ab σ 14 := rfl
  rw [e5, eA] at hQ
  refine bMoon_best_0 ⟨fun c => ?_, fun c => ⟨fun c2 => ⟨fun c3 => ⟨⟨⟨hok, by decide⟩, c, Or.inl rfl⟩, fun y τ hq => ?_⟩, fun c3 => ⟨⟨⟨hok, by decide⟩, c, Or.inr rfl⟩, fun y τ hq => ?_⟩⟩, fun c2 => ?_⟩⟩
  · rw [if_neg (fun q => c q.1)] at hQ
    exact hQ _ _ (c_qr hC rfl)
  · rw [if_pos ⟨c, c2⟩, if_neg c3] at hQ
    exact hQ _ _ (c_qs hC (hq.2.wide (by decide) (by decide)) hq.1)
  · rw [if_pos ⟨c, c2⟩, if_pos c3] at hQ
    exact hQ _ _ (c_qs hC (hq.2.wide (by decide) (by decide)) hq.1)
  · rw [if_neg (fun q => c2 q.2)] at hQ
    exact hQ _ _ (c_qr hC rfl)
theorem m_becomes {σ τ τ2 : w_M} (hM : MI σ) (F : w_f1 σ τ 124) {d : Nat} {k r v : Int} (h3 : 3 ≤ d) (h7 : d ≤ 7) (hk : k = (d : Int) - 3) (hr : 0 ≤ r ∧ r < σ 122 5) (ha : w_am τ 124 0 = w_am σ 123 0) (ht : q_Model_becomesOf r k v τ τ2) : w_am τ2 124 0 = w_up (w_am σ 123 0) d r.toNat v ∧ w_f1 σ τ2 124 := by
  have z2 : τ 122 = σ 122 := F 122 (by decide)
  have ht' : τ2 = w_up τ 124 (21 + 5 * r + k).toNat v := ht
  refine ⟨?_, by rw [ht']; exact F.up⟩
  rw [ht', ← ha]
  refine w_am_up (by unfold m_sm; rw [z2]; exact hM.sm) (by decide) (by rw [m_rl37 h3 h7, z2]; omega) ?_
  rcases (show d = 3 ∨ d = 4 ∨ d = 5 ∨ d = 6 ∨ d = 7 by omega) with rfl | rfl | rfl | rfl | rfl
  · show _ = 0 + (21 + 5 * r.toNat); omega
  · show _ = 0 + (22 + 5 * r.toNat); omega
  · show _ = 0 + (23 + 5 * r.toNat); omega
  · show _ = 0 + (24 + 5 * r.toNat); omega
  · show _ = 0 + (25 + 5 * r.toNat); omega
theorem m_starts {σ τ τ1 : w_M} (hM : MI σ) (F : w_f1 σ τ 124) : p_Model_starts τ ∧ (q_Model_starts τ τ1 → w_am τ1 124 0 = w_am σ 123 0 ∧ w_f1 σ τ1 124 ∧ ∀ j, j < 82 → τ1 124 j = σ 123 j) := by
  have z2 : τ 122 = σ 122 := F 122 (by decide)
  have z3 : τ 123 = σ 123 := F 123 (by decide)
  refine ⟨by unfold p_Model_starts m_sm; rw [z2]; exact hM.sm, fun h => ⟨?_, F.tr h.2.1, fun j hj => by rw [h.2.2 j hj, z3]⟩⟩
  rw [h.1]
  exact w_am_fr (by rw [z2]; exact ⟨rfl, rfl, rfl⟩) z3
noncomputable def p_Model_best (_x1 : Int) (_x2 : Int) (σ : w_M) : Prop := MI σ
noncomputable def q_Model_best (x1 : Int) (x2 : Int) (σ : w_M) (x : Int) (σ' : w_M) : Prop := m_q (F_best (mS σ) x1 x2) (mS σ) σ x σ'
theorem fModel_best_0 : w_fe am_c210 0 1 (.aload 0) := ⟨rfl, rfl⟩
theorem fModel_best_1 : w_fe am_c210 1 2 (.iload 1) := ⟨rfl, rfl⟩
theorem fModel_best_2 : w_fe am_c210 2 3 (.invokestatic 181) := ⟨rfl, rfl⟩
theorem fModel_best_3 : w_if am_c210 3 4 .eq 10 := ⟨rfl, rfl⟩
theorem fModel_best_4 : w_fe am_c210 4 5 (.iload 2) := ⟨rfl, rfl⟩
theorem fModel_best_5 : w_fe am_c210 5 6 (.i2l) := ⟨rfl, rfl⟩
theorem fModel_best_6 : w_fe am_c210 6 7 (.sipush 0) := ⟨rfl, rfl⟩
theorem fModel_best_7 : w_fe am_c210 7 8 (.sipush 1) := ⟨rfl, rfl⟩
theorem fModel_best_8 : w_fe am_c210 8 9 (.invokestatic 157) := ⟨rfl, rfl⟩
theorem fModel_best_9 : w_if am_c210 9 10 .ne 12 := ⟨rfl, rfl⟩
theorem fModel_best_10 : w_fe am_c210 10 11 (.bipush (-1)) := ⟨rfl, rfl⟩
theorem fModel_best_11 : w_fe am_c210 11 12 (.ireturn) := ⟨rfl, rfl⟩
theorem fModel_best_12 : w_fe am_c210 12 13 (.bipush 1000000) := ⟨rfl, rfl⟩
theorem fModel_best_13 : w_fe am_c210 13 14 (.istore 3) := ⟨rfl, rfl⟩
theorem fModel_best_14 : w_fe am_c210 14 15 (.bipush (-4)) := ⟨rfl, rfl⟩
theorem fModel_best_15 : w_fe am_c210 15 16 (.istore 4) := ⟨rfl, rfl⟩
theorem fModel_best_16 : w_fe am_c210 16 17 (.bipush 0) := ⟨rfl, rfl⟩
theorem fModel_best_17 : w_fe am_c210 17 18 (.istore 5) := ⟨rfl, rfl⟩
theorem fModel_best_18 : w_fe am_c210 18 19 (.iload 5) := ⟨rfl, rfl⟩
theorem fModel_best_19 : w_fe am_c210 19 20 (.aload 0) := ⟨rfl, rfl⟩
theorem fModel_best_20 : w_fe am_c210 20 21 (.getfield 904) := ⟨rfl, rfl⟩
theorem fModel_best_21 : w_ic am_c210 21 22 .ge 51 := ⟨rfl, rfl⟩
theorem fModel_best_22 : w_fe am_c210 22 23 (.aload 0) := ⟨rfl, rfl⟩
theorem fModel_best_23 : w_fe am_c210 23 24 (.invokestatic 174) := ⟨rfl, rfl⟩
theorem fModel_best_24 : w_fe am_c210 24 25 (.aload 0) := ⟨rfl, rfl⟩
theorem fModel_best_25 : w_fe am_c210 25 26 (.iload 1) := ⟨rfl, rfl⟩
theorem fModel_best_26 : w_fe am_c210 26 27 (.bipush 3) := ⟨rfl, rfl⟩
theorem fModel_best_27 : w_fe am_c210 27 28 (.iload 5) := ⟨rfl, rfl⟩
theorem fModel_best_28 : w_fe am_c210 28 29 (.invokestatic 199) := ⟨rfl, rfl⟩
theorem fModel_best_29 : w_fe am_c210 29 30 (.aload 0) := ⟨rfl, rfl⟩
theorem fModel_best_30 : w_fe am_c210 30 31 (.bipush 12) := ⟨rfl, rfl⟩
theorem fModel_best_31 : w_fe am_c210 31 32 (.invokestatic 194) := ⟨rfl, rfl⟩
theorem fModel_best_32 : w_fe am_c210 32 33 (.aload 0) := ⟨rfl, rfl⟩
theorem fModel_best_33 : w_fe am_c210 33 34 (.invokestatic 175) := ⟨rfl, rfl⟩
theorem fModel_best_34 : w_fe am_c210 34 35 (.iload 3) := ⟨rfl, rfl⟩
theorem fModel_best_35 : w_ic am_c210 35 36 .ge 38 := ⟨rfl, rfl⟩
theorem fModel_best_36 : w_fe am_c210 36 37 (.iload 5) := ⟨rfl, rfl⟩
theorem fModel_best_37 : w_gt am_c210 37 39 := rfl
theorem fModel_best_38 : w_fe am_c210 38 39 (.iload 4) := ⟨rfl, rfl⟩
theorem fModel_best_39 : w_fe am_c210 39 40 (.istore 4) := ⟨rfl, rfl⟩
theorem fModel_best_40 : w_fe am_c210 40 41 (.aload 0) := ⟨rfl, rfl⟩
theorem fModel_best_41 : w_fe am_c210 41 42 (.invokestatic 175) := ⟨rfl, rfl⟩
theorem fModel_best_42 : w_fe am_c210 42 43 (.iload 3) := ⟨rfl, rfl⟩
theorem fModel_best_43 : w_ic am_c210 43 44 .ge 47 := ⟨rfl, rfl⟩
theorem fModel_best_44 : w_fe am_c210 44 45 (.aload 0) := ⟨rfl, rfl⟩
theorem fModel_best_45 : w_fe am_c210 45 46 (.invokestatic 175) := ⟨rfl, rfl⟩
theorem fModel_best_46 : w_gt am_c210 46 48 := rfl
theorem fModel_best_47 : w_fe am_c210 47 48 (.iload 3) := ⟨rfl, rfl⟩
theorem fModel_best_48 : w_fe am_c210 48 49 (.istore 3) := ⟨rfl, rfl⟩
theorem fModel_best_49 : w_fe am_c210 49 50 (.iinc 5 1) := ⟨rfl, rfl⟩
theorem fModel_best_50 : w_gt am_c210 50 18 := rfl
theorem fModel_best_51 : w_fe am_c210 51 52 (.iload 2) := ⟨rfl, rfl⟩
theorem fModel_best_52 : w_if am_c210 52 53 .ne 55 := ⟨rfl, rfl⟩
theorem fModel_best_53 : w_fe am_c210 53 54 (.iload 4) := ⟨rfl, rfl⟩
theorem fModel_best_54 : w_gt am_c210 54 56 := rfl
theorem fModel_best_55 : w_fe am_c210 55 56 (.iload 3) := ⟨rfl, rfl⟩
theorem fModel_best_56 : w_fe am_c210 56 57 (.ireturn) := ⟨rfl, rfl⟩
noncomputable def LModel_best_18 (xs : List Int) (d : Nat) (Q : Option w_V → w_M → Prop) (v1 : Int) (v2 : Int) (v3 : Int) (v4 : Int) (v5 : Int) (σ : w_M) : Prop := w_Ex (xs, d) 1 am_c210 Q 18 [some (.inr (.inr (9, 122))), some (.inl v1), some (.inl v2), some (.inl v3), some (.inl v4), some (.inl v5)] [] σ
set_option maxRecDepth 20000 in
theorem bModel_best_0 {xs : List Int} {d : Nat} {Q : Option w_V → w_M → Prop} {x1 : Int} {x2 : Int} {σ : w_M}
    (h : p_Model_isReaper x1 σ ∧ ((¬ (0 ≤ x1 ∧ x1 < σ 122 5) → Q (some (.inl (-1))) σ) ∧ ((0 ≤ x1 ∧ x1 < σ 122 5) → (((0 ≤ x2 ∧ x2 ≤ 1) → LModel_best_18 xs (d + 6) Q x1 x2 1000000 (-4) 0 σ) ∧ (¬ (0 ≤ x2 ∧ x2 ≤ 1) → Q (some (.inl (-1))) σ))))) : w_Call (xs, (d + 6)) 210 [.inr (.inr (9, 122)), .inl x1, .inl x2] σ Q :=
  (w_mk (mid := 210) (by decide) rfl rfl rfl rfl rfl (Nat.le_of_ble_eq_true rfl) ⟨rfl, Or.inl (by decide)⟩ (wi_aload0 fModel_best_0 (wi_iload1 fModel_best_1 (wi_call2 fModel_best_2 (Nat.le_of_ble_eq_true rfl) (k_Model_isReaper h.1 (wi_ifb_eq fModel_best_3 (fun c2 => (wi_bipush fModel_best_10 (wi_ret1 fModel_best_11 (h.2.1 c2)))) (fun c2 => (wi_iload2 fModel_best_4 (wi_i2l fModel_best_5 (wi_sipush fModel_best_6 (wi_sipush fModel_best_7 (wi_call3 fModel_best_8 (Nat.le_of_ble_eq_true rfl) (k_Model_in (wi_ifb_ne fModel_best_9 (fun c1 => (wi_bipush fModel_best_12 (wi_istore3 fModel_best_13 trivial (wi_bipush fModel_best_14 (wi_istore4 fModel_best_15 trivial (wi_bipush fModel_best_16 (wi_istore5 fModel_best_17 trivial ((h.2.2 c2).1 c1)))))))) (fun c1 => (wi_bipush fModel_best_10 (wi_ret1 fModel_best_11 ((h.2.2 c2).2 c1))))))))))))))))))
set_option maxRecDepth 20000 in
theorem bModel_best_18 {xs : List Int} {d : Nat} {Q : Option w_V → w_M → Prop} {v1 : Int} {v2 : Int} {v3 : Int} {v4 : Int} {v5 : Int} {σ : w_M}
    (h : ((σ 122 4) ≤ v5 → ((¬ v2 = 0 → Q (some (.inl v3)) σ) ∧ (v2 = 0 → Q (some (.inl v4)) σ))) ∧ (v5 < (σ 122 4) → (p_Model_starts σ ∧ (∀ (τ2 : w_M), q_Model_starts σ τ2 → (p_Model_becomesOf v1 3 v5 τ2 ∧ (∀ (τ3 : w_M), q_Model_becomesOf v1 3 v5 τ2 τ3 → (p_Model_goesTo 12 τ3 ∧ (∀ (τ4 : w_M), q_Model_goesTo 12 τ3 τ4 → (p_Model_standing τ4 ∧ (∀ (y5 : Int), y5 = v_Model_standing τ4 → ((v3 ≤ y5 → ∀ (y6 : Int), y6 = v_Model_standing τ4 → ((v3 ≤ y6 → (w_in (v5 + 1) ∧ LModel_best_18 xs (d + 6) Q v1 v2 v3 v4 (v5 + 1) τ4)) ∧ (y6 < v3 → ∀ (y7 : Int), y7 = v_Model_standing τ4 → (w_in (v5 + 1) ∧ LModel_best_18 xs (d + 6) Q v1 v2 y7 v4 (v5 + 1) τ4)))) ∧ (y5 < v3 → ∀ (y9 : Int), y9 = v_Model_standing τ4 → ((v3 ≤ y9 → (w_in (v5 + 1) ∧ LModel_best_18 xs (d + 6) Q v1 v2 v3 v5 (v5 + 1) τ4)) ∧ (y9 < v3 → ∀ (y10 : Int), y10 = v_Model_standing τ4 → (w_in (v5 + 1) ∧ LModel_best_18 xs (d + 6) Q v1 v2 y10 v5 (v5 + 1) τ4))))))))))))))) : LModel_best_18 xs (d + 6) Q v1 v2 v3 v4 v5 σ :=
  (wi_iload5 fModel_best_18 (wi_aload0 fModel_best_19 (wi_getf904 fModel_best_20 (wi_ic_ge fModel_best_21 (fun c13 => (wi_iload2 fModel_best_51 (wi_if_ne fModel_best_52 (fun c1 => (wi_iload3 fModel_best_55 (wi_ret1 fModel_best_56 ((h.1 c13).1 c1)))) (fun c1 => (wi_iload4 fModel_best_53 (wi_goto fModel_best_54 (wi_ret1 fModel_best_56 ((h.1 c13).2 c1)))))))) (fun c13 => (wi_aload0 fModel_best_22 (wi_call1 fModel_best_23 (Nat.le_of_ble_eq_true rfl) (k_Model_starts (h.2 c13).1 (fun τ2 eτ2 => (wi_aload0 fModel_best_24 (wi_iload1 fModel_best_25 (wi_bipush fModel_best_26 (wi_iload5 fModel_best_27 (wi_call4 fModel_best_28 (Nat.le_of_ble_eq_true rfl) (k_Model_becomesOf ((h.2 c13).2 τ2 eτ2).1 (fun τ3 eτ3 => (wi_aload0 fModel_best_29 (wi_bipush fModel_best_30 (wi_call2 fModel_best_31 (Nat.le_of_ble_eq_true rfl) (k_Model_goesTo (((h.2 c13).2 τ2 eτ2).2 τ3 eτ3).1 (fun τ4 eτ4 => (wi_aload0 fModel_best_32 (wi_call1 fModel_best_33 (Nat.le_of_ble_eq_true rfl) (k_Model_standing ((((h.2 c13).2 τ2 eτ2).2 τ3 eτ3).2 τ4 eτ4).1 (wi_iload3 fModel_best_34 (wi_ic_ge fModel_best_35 (fun c12 => (wi_iload4 fModel_best_38 (wi_istore4 fModel_best_39 trivial (wi_aload0 fModel_best_40 (wi_call1 fModel_best_41 (Nat.le_of_ble_eq_true rfl) (k_Model_standing ((((h.2 c13).2 τ2 eτ2).2 τ3 eτ3).2 τ4 eτ4).1 (wi_iload3 fModel_best_42 (wi_ic_ge fModel_best_43 (fun c8 => (wi_iload3 fModel_best_47 (wi_istore3 fModel_best_48 trivial (wi_iinc5 fModel_best_49 trivial ((((((((h.2 c13).2 τ2 eτ2).2 τ3 eτ3).2 τ4 eτ4).2 _ rfl).1 c12) _ rfl).1 c8).1 (wi_goto fModel_best_50 ((((((((h.2 c13).2 τ2 eτ2).2 τ3 eτ3).2 τ4 eτ4).2 _ rfl).1 c12) _ rfl).1 c8).2))))) (fun c8 => (wi_aload0 fModel_best_44 (wi_call1 fModel_best_45 (Nat.le_of_ble_eq_true rfl) (k_Model_standing ((((h.2 c13).2 τ2 eτ2).2 τ3 eτ3).2 τ4 eτ4).1 (wi_goto fModel_best_46 (wi_istore3 fModel_best_48 trivial (wi_iinc5 fModel_best_49 trivial (((((((((h.2 c13).2 τ2 eτ2).2 τ3 eτ3).2 τ4 eτ4).2 _ rfl).1 c12) _ rfl).2 c8) _ rfl).1 (wi_goto fModel_best_50 (((((((((h.2 c13).2 τ2 eτ2).2 τ3 eτ3).2 τ4 eτ4).2 _ rfl).1 c12) _ rfl).2 c8) _ rfl).2)))))))))))))))) (fun c12 => (wi_iload5 fModel_best_36 (wi_goto fModel_best_37 (wi_istore4 fModel_best_39 trivial (wi_aload0 fModel_best_40 (wi_call1 fModel_best_41 (Nat.le_of_ble_eq_true rfl) (k_Model_standing ((((h.2 c13).2 τ2 eτ2).2 τ3 eτ3).2 τ4 eτ4).1 (wi_iload3 fModel_best_42 (wi_ic_ge fModel_best_43 (fun c11 => (wi_iload3 fModel_best_47 (wi_istore3 fModel_best_48 trivial (wi_iinc5 fModel_best_49 trivial ((((((((h.2 c13).2 τ2 eτ2).2 τ3 eτ3).2 τ4 eτ4).2 _ rfl).2 c12) _ rfl).1 c11).1 (wi_goto fModel_best_50 ((((((((h.2 c13).2 τ2 eτ2).2 τ3 eτ3).2 τ4 eτ4).2 _ rfl).2 c12) _ rfl).1 c11).2))))) (fun c11 => (wi_aload0 fModel_best_44 (wi_call1 fModel_best_45 (Nat.le_of_ble_eq_true rfl) (k_Model_standing ((((h.2 c13).2 τ2 eτ2).2 τ3 eτ3).2 τ4 eτ4).1 (wi_goto fModel_best_46 (wi_istore3 fModel_best_48 trivial (wi_iinc5 fModel_best_49 trivial (((((((((h.2 c13).2 τ2 eτ2).2 τ3 eτ3).2 τ4 eτ4).2 _ rfl).2 c12) _ rfl).2 c11) _ rfl).1 (wi_goto fModel_best_50 (((((((((h.2 c13).2 τ2 eτ2).2 τ3 eτ3).2 τ4 eτ4).2 _ rfl).2 c12) _ rfl).2 c11) _ rfl).2)))))))))))))))))))))))))))))))))))))))))))
theorem k_Model_best {xs : List Int} {d : Nat} {Q : Option w_V → w_M → Prop} {x1 : Int} {x2 : Int} {σ : w_M} (hp : p_Model_best x1 x2 σ) (hQ : ∀ (x : Int) (σ' : w_M), q_Model_best x1 x2 σ x σ' → Q (some (.inl x)) σ') : w_Call (xs, d + 6) 210 [.inr (.inr (9, 122)), .inl x1, .inl x2] σ Q := by
  have hM : MI σ := hp
  have hok := hM.ok
  have hs := hM.s
  have hn := hM.n
  unfold q_Model_best F_best at hQ
  have e5 : mS σ 0 0 5 = σ 122 5 := rfl
  have eA : mS σ 0 = w_am σ 123 0 := rfl
  rw [e5, eA] at hQ
  refine bModel_best_0 ⟨hn, fun c => ?_, fun c => ⟨fun c2 => ?_, fun c2 => ?_⟩⟩
  · rw [if_neg (fun q => c q.1)] at hQ
    exact hQ _ _ (m_qr hM rfl)
  · rw [if_pos ⟨c, c2⟩] at hQ
    have hrn : x1.toNat < n_n (w_am σ 123 0) := by rw [n_n_am]; omega
    have es : n_s (w_am σ 123 0) = (σ 122 4).toNat := rfl
    have h04 : w_am σ 123 0 0 4 = σ 122 4 := rfl
    generalize hf : bs_f (w_am σ 123 0) x1.toNat = f at hQ
    refine (w_loop (n := (σ 122 4).toNat) (P := fun i => ∀ τ : w_M, w_f1 σ τ 124 → LModel_best_18 xs (d + 6) Q x1 x2 (bs_F f i).2 (bs_F f i).1 (i : Int) τ) ?_ ?_) σ w_f1.rfl'
    · intro τ F
      have z2 : τ 122 = σ 122 := F 122 (by decide)
      refine bModel_best_18 ⟨fun _ => ⟨fun c3 => ?_, fun c3 => ?_⟩, fun h => by rw [z2] at h; omega⟩
      · rw [if_neg c3] at hQ
        exact hQ _ _ (m_qs hM F rfl)
      · rw [if_pos c3] at hQ
        exact hQ _ _ (m_qs hM F rfl)
    · intro i hi ih τ F
      have z2 : τ 122 = σ 122 := F 122 (by decide)
      simp only [bs_F] at ih
      rw [w_cs1] at ih
      refine bModel_best_18 ⟨fun h => by rw [z2] at h; omega, fun _ => ⟨(m_starts (τ1 := τ) hM F).1, fun τ2 hq2 => ?_⟩⟩
      obtain ⟨a2, F2, -⟩ := (m_starts hM F).2 hq2
      refine ⟨⟨by omega, by decide⟩, fun τ3 hq3 => ?_⟩
      obtain ⟨a3, F3⟩ := m_becomes (d := 6) hM F2 (by decide) (by decide) (by decide) c a2 hq3
      have W3 : n_WF (w_up (w_am σ 123 0) 6 x1.toNat (i : Int)) := n_WF6 hok (by omega)
      have ok3 : m_ok τ3 124 0 := by unfold m_ok; rw [a3]; exact W3
      refine ⟨⟨ok3, by decide⟩, fun τ4 hq4 => ?_⟩
      obtain ⟨a4, F4⟩ := hq4
      rw [a3] at a4
      have ok4 : m_ok τ4 124 0 := by unfold m_ok; rw [a4]; exact (n_goes_all W3 _).1
      have F4' : w_f1 σ τ4 124 := F3.tr F4.1
      have ef : v_Model_standing τ4 = f i := by
        unfold v_Model_standing
        rw [a4, ← hf]
        rfl
      rw [ef]
      refine ⟨ok4, fun y5 e5' => ⟨fun c3 y6 e6 => ⟨fun c4 => ⟨⟨by omega, by omega⟩, ?_⟩, fun c4 => by omega⟩, fun c3 y9 e9 => ⟨fun c4 => by omega, fun c4 y10 e10 => ⟨⟨by omega, by omega⟩, ?_⟩⟩⟩⟩
      · rw [if_neg (by omega)] at ih
        exact ih τ4 F4'
      · rw [if_pos (by omega)] at ih
        rw [e10]
        exact ih τ4 F4'
  · rw [if_neg (fun q => c2 q.2)] at hQ
    exact hQ _ _ (m_qr hM rfl)
/-- the first below k at which it is not -4 -/
noncomputable def ol_g (f : Nat → Int) : Nat → Int
  | 0 => -4
  | k + 1 => if ol_g f k = -4 then (if f k = -4 then -4 else (k : Int)) else ol_g f k
theorem ol_stay {f : Nat → Int} {m : Nat} (h : ¬ ol_g f m = -4) : ∀ n, ol_g f (m + n) = ol_g f m := by
  intro n
  induction n with
  | zero => rfl
  | succ n ih =>
    show (if ol_g f (m + n) = -4 then _ else ol_g f (m + n)) = _
    rw [ih, if_neg h]
noncomputable def ol_f (A : w_M) (r v : Nat) : Int := n_done (w_up A 4 r (v : Int))
noncomputable def F_oil (S : w_S) (r : Int) : Int := if 0 ≤ r ∧ r < S 0 0 5 then ol_g (ol_f (S 0) r.toNat) 10 else -1
noncomputable def p_Plan_leastOilOf (b : Nat) (r : Int) (σ : w_M) : Prop := (n_ok σ b ∧ (32 + 9 ≤ b ∨ b + 9 ≤ 32)) ∧ (0 ≤ r ∧ r < σ b 5)
noncomputable def q_Plan_leastOilOf (b : Nat) (r : Int) (σ : w_M) (x : Int) (σ' : w_M) : Prop := x = ol_g (ol_f (w_ab σ b) r.toNat) 10 ∧ w_fr σ σ' 32 41
theorem fPlan_leastOilOf_0 : w_fe am_c75 0 1 (.bipush 0) := ⟨rfl, rfl⟩
theorem fPlan_leastOilOf_1 : w_fe am_c75 1 2 (.istore 3) := ⟨rfl, rfl⟩
theorem fPlan_leastOilOf_2 : w_fe am_c75 2 3 (.iload 3) := ⟨rfl, rfl⟩
theorem fPlan_leastOilOf_3 : w_fe am_c75 3 4 (.bipush 9) := ⟨rfl, rfl⟩
theorem fPlan_leastOilOf_4 : w_ic am_c75 4 5 .gt 31 := ⟨rfl, rfl⟩
theorem fPlan_leastOilOf_5 : w_fe am_c75 5 6 (.aload 0) := ⟨rfl, rfl⟩
theorem fPlan_leastOilOf_6 : w_fe am_c75 6 7 (.getfield 600) := ⟨rfl, rfl⟩
theorem fPlan_leastOilOf_7 : w_fe am_c75 7 8 (.aload 1) := ⟨rfl, rfl⟩
theorem fPlan_leastOilOf_8 : w_fe am_c75 8 9 (.invokestatic 34) := ⟨rfl, rfl⟩
theorem fPlan_leastOilOf_9 : w_fe am_c75 9 10 (.aload 0) := ⟨rfl, rfl⟩
theorem fPlan_leastOilOf_10 : w_fe am_c75 10 11 (.getfield 600) := ⟨rfl, rfl⟩
theorem fPlan_leastOilOf_11 : w_fe am_c75 11 12 (.iload 2) := ⟨rfl, rfl⟩
theorem fPlan_leastOilOf_12 : w_fe am_c75 12 13 (.invokestatic 38) := ⟨rfl, rfl⟩
theorem fPlan_leastOilOf_13 : w_if am_c75 13 14 .eq 20 := ⟨rfl, rfl⟩
theorem fPlan_leastOilOf_14 : w_fe am_c75 14 15 (.aload 0) := ⟨rfl, rfl⟩
theorem fPlan_leastOilOf_15 : w_fe am_c75 15 16 (.getfield 600) := ⟨rfl, rfl⟩
theorem fPlan_leastOilOf_16 : w_fe am_c75 16 17 (.getfield 210) := ⟨rfl, rfl⟩
theorem fPlan_leastOilOf_17 : w_fe am_c75 17 18 (.iload 2) := ⟨rfl, rfl⟩
theorem fPlan_leastOilOf_18 : w_fe am_c75 18 19 (.iload 3) := ⟨rfl, rfl⟩
theorem fPlan_leastOilOf_19 : w_fe am_c75 19 20 (.iastore) := ⟨rfl, rfl⟩
theorem fPlan_leastOilOf_20 : w_fe am_c75 20 21 (.aload 0) := ⟨rfl, rfl⟩
theorem fPlan_leastOilOf_21 : w_fe am_c75 21 22 (.getfield 600) := ⟨rfl, rfl⟩
theorem fPlan_leastOilOf_22 : w_fe am_c75 22 23 (.bipush 12) := ⟨rfl, rfl⟩
theorem fPlan_leastOilOf_23 : w_fe am_c75 23 24 (.bipush 1000000) := ⟨rfl, rfl⟩
theorem fPlan_leastOilOf_24 : w_fe am_c75 24 25 (.invokestatic 45) := ⟨rfl, rfl⟩
theorem fPlan_leastOilOf_25 : w_fe am_c75 25 26 (.bipush (-4)) := ⟨rfl, rfl⟩
theorem fPlan_leastOilOf_26 : w_ic am_c75 26 27 .eq 29 := ⟨rfl, rfl⟩
theorem fPlan_leastOilOf_27 : w_fe am_c75 27 28 (.iload 3) := ⟨rfl, rfl⟩
theorem fPlan_leastOilOf_28 : w_fe am_c75 28 29 (.ireturn) := ⟨rfl, rfl⟩
theorem fPlan_leastOilOf_29 : w_fe am_c75 29 30 (.iinc 3 1) := ⟨rfl, rfl⟩
theorem fPlan_leastOilOf_30 : w_gt am_c75 30 2 := rfl
theorem fPlan_leastOilOf_31 : w_fe am_c75 31 32 (.bipush (-4)) := ⟨rfl, rfl⟩
theorem fPlan_leastOilOf_32 : w_fe am_c75 32 33 (.ireturn) := ⟨rfl, rfl⟩
noncomputable def LPlan_leastOilOf_2 (xs : List Int) (d : Nat) (Q : Option w_V → w_M → Prop) (r1 : Nat) (v2 : Int) (v3 : Int) (σ : w_M) : Prop := w_Ex (xs, d) 1 am_c75 Q 2 [some (.inr (.inr (6, 31))), some (.inr (.inr (2, r1))), some (.inl v2), some (.inl v3)] [] σ
set_option maxRecDepth 20000 in
theorem bPlan_leastOilOf_0 {xs : List Int} {d : Nat} {Q : Option w_V → w_M → Prop} {b : Nat} {x2 : Int} {σ : w_M}
    (h : LPlan_leastOilOf_2 xs (d + 5) Q b x2 0 σ) : w_Call (xs, (d + 5)) 75 [.inr (.inr (6, 31)), .inr (.inr (2, b)), .inl x2] σ Q :=
  (w_mk (mid := 75) (by decide) rfl rfl rfl rfl rfl (Nat.le_of_ble_eq_true rfl) ⟨rfl, Or.inl (by decide)⟩ (wi_bipush fPlan_leastOilOf_0 (wi_istore3 fPlan_leastOilOf_1 trivial h)))
set_option maxRecDepth 20000 in
theorem bPlan_leastOilOf_2 {xs : List Int} {d : Nat} {Q : Option w_V → w_M → Prop} {r1 : Nat} {v2 : Int} {v3 : Int} {σ : w_M}
    (h : (9 < v3 → Q (some (.inl (-4))) σ) ∧ (v3 ≤ 9 → (p_Field_copyFrom 32 r1 σ ∧ (∀ (τ1 : w_M), q_Field_copyFrom 32 r1 σ τ1 → ((¬ (0 ≤ v2 ∧ v2 < τ1 32 5) → (p_Field_passUntilDone 32 12 1000000 τ1 ∧ (∀ (y2 : Int) (τ3 : w_M), q_Field_passUntilDone 32 12 1000000 τ1 y2 τ3 → ((y2 = (-4) → (w_in (v3 + 1) ∧ LPlan_leastOilOf_2 xs (d + 5) Q r1 v2 (v3 + 1) τ3)) ∧ (¬ y2 = (-4) → Q (some (.inl v3)) τ3))))) ∧ ((0 ≤ v2 ∧ v2 < τ1 32 5) → (0 ≤ v2 ∧ v2 < 4 ∧ (∀ (τ5 : w_M), τ5 = w_up τ1 36 v2.toNat v3 → (p_Field_passUntilDone 32 12 1000000 τ5 ∧ (∀ (y6 : Int) (τ7 : w_M), q_Field_passUntilDone 32 12 1000000 τ5 y6 τ7 → ((y6 = (-4) → (w_in (v3 + 1) ∧ LPlan_leastOilOf_2 xs (d + 5) Q r1 v2 (v3 + 1) τ7)) ∧ (¬ y6 = (-4) → Q (some (.inl v3)) τ7)))))))))))) : LPlan_leastOilOf_2 xs (d + 5) Q r1 v2 v3 σ :=
  (wi_iload3 fPlan_leastOilOf_2 (wi_bipush fPlan_leastOilOf_3 (wi_ic_gt fPlan_leastOilOf_4 (fun c10 => (wi_bipush fPlan_leastOilOf_31 (wi_ret1 fPlan_leastOilOf_32 (h.1 c10)))) (fun c10 => (wi_aload0 fPlan_leastOilOf_5 (wi_getf600 fPlan_leastOilOf_6 (wi_aload1 fPlan_leastOilOf_7 (wi_call2 fPlan_leastOilOf_8 (Nat.le_of_ble_eq_true rfl) (k_Field_copyFrom (h.2 c10).1 (fun τ1 eτ1 => (wi_aload0 fPlan_leastOilOf_9 (wi_getf600 fPlan_leastOilOf_10 (wi_iload2 fPlan_leastOilOf_11 (wi_call2 fPlan_leastOilOf_12 (Nat.le_of_ble_eq_true rfl) (k_Field_isReaper (wi_ifb_eq fPlan_leastOilOf_13 (fun c9 => (wi_aload0 fPlan_leastOilOf_20 (wi_getf600 fPlan_leastOilOf_21 (wi_bipush fPlan_leastOilOf_22 (wi_bipush fPlan_leastOilOf_23 (wi_call3 fPlan_leastOilOf_24 (Nat.le_of_ble_eq_true rfl) (k_Field_passUntilDone (((h.2 c10).2 τ1 eτ1).1 c9).1 (fun y2 τ3 eτ3 => (wi_bipush fPlan_leastOilOf_25 (wi_ic_eq fPlan_leastOilOf_26 (fun c4 => (wi_iinc3 fPlan_leastOilOf_29 trivial (((((h.2 c10).2 τ1 eτ1).1 c9).2 y2 τ3 eτ3).1 c4).1 (wi_goto fPlan_leastOilOf_30 (((((h.2 c10).2 τ1 eτ1).1 c9).2 y2 τ3 eτ3).1 c4).2))) (fun c4 => (wi_iload3 fPlan_leastOilOf_27 (wi_ret1 fPlan_leastOilOf_28 (((((h.2 c10).2 τ1 eτ1).1 c9).2 y2 τ3 eτ3).2 c4)))))))))))))) (fun c9 => (wi_aload0 fPlan_leastOilOf_14 (wi_getf600 fPlan_leastOilOf_15 (wi_getf210 fPlan_leastOilOf_16 (wi_iload2 fPlan_leastOilOf_17 (wi_iload3 fPlan_leastOilOf_18 (wi_iast1004 fPlan_leastOilOf_19 (((h.2 c10).2 τ1 eτ1).2 c9).1 (((h.2 c10).2 τ1 eτ1).2 c9).2.1 (wi_aload0 fPlan_leastOilOf_20 (wi_getf600 fPlan_leastOilOf_21 (wi_bipush fPlan_leastOilOf_22 (wi_bipush fPlan_leastOilOf_23 (wi_call3 fPlan_leastOilOf_24 (Nat.le_of_ble_eq_true rfl) (k_Field_passUntilDone ((((h.2 c10).2 τ1 eτ1).2 c9).2.2 _ rfl).1 (fun y6 τ7 eτ7 => (wi_bipush fPlan_leastOilOf_25 (wi_ic_eq fPlan_leastOilOf_26 (fun c8 => (wi_iinc3 fPlan_leastOilOf_29 trivial ((((((h.2 c10).2 τ1 eτ1).2 c9).2.2 _ rfl).2 y6 τ7 eτ7).1 c8).1 (wi_goto fPlan_leastOilOf_30 ((((((h.2 c10).2 τ1 eτ1).2 c9).2.2 _ rfl).2 y6 τ7 eτ7).1 c8).2))) (fun c8 => (wi_iload3 fPlan_leastOilOf_27 (wi_ret1 fPlan_leastOilOf_28 ((((((h.2 c10).2 τ1 eτ1).2 c9).2.2 _ rfl).2 y6 τ7 eτ7).2 c8))))))))))))))))))))))))))))))))))))
theorem k_Plan_leastOilOf {xs : List Int} {d : Nat} {Q : Option w_V → w_M → Prop} {b : Nat} {x2 : Int} {σ : w_M} (hp : p_Plan_leastOilOf b x2 σ) (hQ : ∀ (x : Int) (σ' : w_M), q_Plan_leastOilOf b x2 σ x σ' → Q (some (.inl x)) σ') : w_Call (xs, d + 5) 75 [.inr (.inr (6, 31)), .inr (.inr (2, b)), .inl x2] σ Q := by
  obtain ⟨⟨hok, hb⟩, hr⟩ := hp
  have hn := n_ok.n hok
  obtain ⟨r, rfl⟩ := Int.eq_ofNat_of_zero_le hr.1
  unfold q_Plan_leastOilOf at hQ
  rw [Int.toNat_natCast] at hQ
  generalize hf : ol_f (w_ab σ b) r = f at hQ
  refine bPlan_leastOilOf_0 ?_
  refine (w_loop (n := 10) (P := fun v => ∀ τ : w_M, w_fr σ τ 32 41 → ol_g f v = -4 → LPlan_leastOilOf_2 xs (d + 5) Q b (r : Int) (v : Int) τ) ?_ ?_) σ w_fr.rfl' rfl
  · intro τ F hg
    exact bPlan_leastOilOf_2 ⟨fun _ => hQ _ _ ⟨hg.symm, F⟩, fun h => by omega⟩
  · intro v hv ih τ F hg
    have zb : τ b = σ b := F b (by omega)
    have abb : w_ab τ b = w_ab σ b := w_ab_fr (fun d hd => F _ (by omega))
    have okb : n_ok τ b := n_ok.of abb hok
    refine bPlan_leastOilOf_2 ⟨fun h => by omega, fun _ => ⟨⟨okb, hb⟩, fun τ2 hq2 => ?_⟩⟩
    obtain ⟨q1, q2, q3⟩ := hq2
    rw [abb] at q1
    have z5 : τ2 32 5 = σ b 5 := congrFun (congrFun q1 0) 5
    refine ⟨fun c => by omega, fun c => ⟨by omega, by omega, fun τ8 t8 => ?_⟩⟩
    rw [Int.toNat_natCast] at t8
    have ab8 : w_ab τ8 32 = w_up (w_ab σ b) 4 r (v : Int) := by
      rw [t8, show (36 : Nat) = 32 + 4 from rfl, w_ab_up (by decide) (by decide) (by rw [w_rl37 (by decide) (by decide), z5]; omega), q1]
    have W8 : n_WF (w_up (w_ab σ b) 4 r (v : Int)) := n_WF4 hok (by omega)
    have F8 : w_fr σ τ8 32 41 := by rw [t8]; exact (F.tr q3).up (by decide) (by decide)
    refine ⟨⟨n_ok.of ab8 W8, by decide, by decide⟩, fun y9 τ10 hq10 => ?_⟩
    obtain ⟨j, p1, p2, p3⟩ := hq10
    rw [ab8] at p1 p2
    obtain ⟨-, ey⟩ := n_pud_done W8 p2
    have ef : y9 = f v := by rw [ey, ← hf]; rfl
    refine ⟨fun c2 => ⟨⟨by omega, by omega⟩, ?_⟩, fun c2 => hQ _ _ ⟨?_, F8.tr p3⟩⟩
    · rw [← w_cs1]
      refine ih τ10 (F8.tr p3) ?_
      show (if ol_g f v = -4 then (if f v = -4 then -4 else (v : Int)) else ol_g f v) = -4
      rw [if_pos hg, if_pos (by omega)]
    · have h1 : ol_g f (v + 1) = (v : Int) := by
        show (if ol_g f v = -4 then (if f v = -4 then -4 else (v : Int)) else ol_g f v) = (v : Int)
        rw [if_pos hg, if_neg (by omega)]
      have h2 := ol_stay (f := f) (m := v + 1) (by omega) (10 - (v + 1))
      rw [show v + 1 + (10 - (v + 1)) = 10 by omega, h1] at h2
      exact h2.symm
noncomputable def p_Moon_oil (_x1 : Int) (σ : w_M) : Prop := CI σ
noncomputable def q_Moon_oil (x1 : Int) (σ : w_M) (x : Int) (σ' : w_M) : Prop := c_q (F_oil (cS σ) x1) (cS σ) σ x σ'
theorem fMoon_oil_0 : w_fe am_c132 0 1 (.aload 0) := ⟨rfl, rfl⟩
theorem fMoon_oil_1 : w_fe am_c132 1 2 (.getfield 2) := ⟨rfl, rfl⟩
theorem fMoon_oil_2 : w_fe am_c132 2 3 (.iload 1) := ⟨rfl, rfl⟩
theorem fMoon_oil_3 : w_fe am_c132 3 4 (.invokestatic 38) := ⟨rfl, rfl⟩
theorem fMoon_oil_4 : w_if am_c132 4 5 .eq 12 := ⟨rfl, rfl⟩
theorem fMoon_oil_5 : w_fe am_c132 5 6 (.aload 0) := ⟨rfl, rfl⟩
theorem fMoon_oil_6 : w_fe am_c132 6 7 (.getfield 4) := ⟨rfl, rfl⟩
theorem fMoon_oil_7 : w_fe am_c132 7 8 (.aload 0) := ⟨rfl, rfl⟩
theorem fMoon_oil_8 : w_fe am_c132 8 9 (.getfield 2) := ⟨rfl, rfl⟩
theorem fMoon_oil_9 : w_fe am_c132 9 10 (.iload 1) := ⟨rfl, rfl⟩
theorem fMoon_oil_10 : w_fe am_c132 10 11 (.invokestatic 75) := ⟨rfl, rfl⟩
theorem fMoon_oil_11 : w_gt am_c132 11 13 := rfl
theorem fMoon_oil_12 : w_fe am_c132 12 13 (.bipush (-1)) := ⟨rfl, rfl⟩
theorem fMoon_oil_13 : w_fe am_c132 13 14 (.ireturn) := ⟨rfl, rfl⟩
set_option maxRecDepth 20000 in
theorem bMoon_oil_0 {xs : List Int} {d : Nat} {Q : Option w_V → w_M → Prop} {x1 : Int} {σ : w_M}
    (h : (¬ (0 ≤ x1 ∧ x1 < σ 14 5) → Q (some (.inl (-1))) σ) ∧ ((0 ≤ x1 ∧ x1 < σ 14 5) → (p_Plan_leastOilOf 14 x1 σ ∧ (∀ (y1 : Int) (τ2 : w_M), q_Plan_leastOilOf 14 x1 σ y1 τ2 → Q (some (.inl y1)) τ2)))) : w_Call (xs, (d + 6)) 132 [.inr (.inr (0, 0)), .inl x1] σ Q :=
  (w_mk (mid := 132) (by decide) rfl rfl rfl rfl rfl (Nat.le_of_ble_eq_true rfl) ⟨rfl, Or.inl (by decide)⟩ (wi_aload0 fMoon_oil_0 (wi_getf2 fMoon_oil_1 (wi_iload1 fMoon_oil_2 (wi_call2 fMoon_oil_3 (Nat.le_of_ble_eq_true rfl) (k_Field_isReaper (wi_ifb_eq fMoon_oil_4 (fun c3 => (wi_bipush fMoon_oil_12 (wi_ret1 fMoon_oil_13 (h.1 c3)))) (fun c3 => (wi_aload0 fMoon_oil_5 (wi_getf4 fMoon_oil_6 (wi_aload0 fMoon_oil_7 (wi_getf2 fMoon_oil_8 (wi_iload1 fMoon_oil_9 (wi_call3 fMoon_oil_10 (Nat.le_of_ble_eq_true rfl) (k_Plan_leastOilOf (h.2 c3).1 (fun y1 τ2 eτ2 => (wi_goto fMoon_oil_11 (wi_ret1 fMoon_oil_13 ((h.2 c3).2 y1 τ2 eτ2)))))))))))))))))))
theorem k_Moon_oil {xs : List Int} {d : Nat} {Q : Option w_V → w_M → Prop} {x1 : Int} {σ : w_M} (hp : p_Moon_oil x1 σ) (hQ : ∀ (x : Int) (σ' : w_M), q_Moon_oil x1 σ x σ' → Q (some (.inl x)) σ') : w_Call (xs, d + 6) 132 [.inr (.inr (0, 0)), .inl x1] σ Q := by
  have hC : CI σ := hp
  have hok := hC.ok
  unfold q_Moon_oil F_oil at hQ
  have e5 : cS σ 0 0 5 = σ 14 5 := rfl
  have eA : cS σ 0 = w_ab σ 14 := rfl
  rw [e5, eA] at hQ
  refine bMoon_oil_0 ⟨fun c => ?_, fun c => ⟨⟨⟨hok, by decide⟩, c⟩, fun y τ hq => ?_⟩⟩
  · rw [if_neg c] at hQ
    exact hQ _ _ (c_qr hC rfl)
  · rw [if_pos c] at hQ
    exact hQ _ _ (c_qs hC (hq.2.wide (by decide) (by decide)) hq.1)
noncomputable def p_Model_oil (_x1 : Int) (σ : w_M) : Prop := MI σ
noncomputable def q_Model_oil (x1 : Int) (σ : w_M) (x : Int) (σ' : w_M) : Prop := m_q (F_oil (mS σ) x1) (mS σ) σ x σ'
theorem fModel_oil_0 : w_fe am_c211 0 1 (.aload 0) := ⟨rfl, rfl⟩
theorem fModel_oil_1 : w_fe am_c211 1 2 (.iload 1) := ⟨rfl, rfl⟩
theorem fModel_oil_2 : w_fe am_c211 2 3 (.invokestatic 181) := ⟨rfl, rfl⟩
theorem fModel_oil_3 : w_if am_c211 3 4 .ne 6 := ⟨rfl, rfl⟩
theorem fModel_oil_4 : w_fe am_c211 4 5 (.bipush (-1)) := ⟨rfl, rfl⟩
theorem fModel_oil_5 : w_fe am_c211 5 6 (.ireturn) := ⟨rfl, rfl⟩
theorem fModel_oil_6 : w_fe am_c211 6 7 (.bipush 0) := ⟨rfl, rfl⟩
theorem fModel_oil_7 : w_fe am_c211 7 8 (.istore 2) := ⟨rfl, rfl⟩
theorem fModel_oil_8 : w_fe am_c211 8 9 (.iload 2) := ⟨rfl, rfl⟩
theorem fModel_oil_9 : w_fe am_c211 9 10 (.bipush 9) := ⟨rfl, rfl⟩
theorem fModel_oil_10 : w_ic am_c211 10 11 .gt 26 := ⟨rfl, rfl⟩
theorem fModel_oil_11 : w_fe am_c211 11 12 (.aload 0) := ⟨rfl, rfl⟩
theorem fModel_oil_12 : w_fe am_c211 12 13 (.invokestatic 174) := ⟨rfl, rfl⟩
theorem fModel_oil_13 : w_fe am_c211 13 14 (.aload 0) := ⟨rfl, rfl⟩
theorem fModel_oil_14 : w_fe am_c211 14 15 (.iload 1) := ⟨rfl, rfl⟩
theorem fModel_oil_15 : w_fe am_c211 15 16 (.bipush 1) := ⟨rfl, rfl⟩
theorem fModel_oil_16 : w_fe am_c211 16 17 (.iload 2) := ⟨rfl, rfl⟩
theorem fModel_oil_17 : w_fe am_c211 17 18 (.invokestatic 199) := ⟨rfl, rfl⟩
theorem fModel_oil_18 : w_fe am_c211 18 19 (.aload 0) := ⟨rfl, rfl⟩
theorem fModel_oil_19 : w_fe am_c211 19 20 (.invokestatic 204) := ⟨rfl, rfl⟩
theorem fModel_oil_20 : w_fe am_c211 20 21 (.bipush (-4)) := ⟨rfl, rfl⟩
theorem fModel_oil_21 : w_ic am_c211 21 22 .eq 24 := ⟨rfl, rfl⟩
theorem fModel_oil_22 : w_fe am_c211 22 23 (.iload 2) := ⟨rfl, rfl⟩
theorem fModel_oil_23 : w_fe am_c211 23 24 (.ireturn) := ⟨rfl, rfl⟩
theorem fModel_oil_24 : w_fe am_c211 24 25 (.iinc 2 1) := ⟨rfl, rfl⟩
theorem fModel_oil_25 : w_gt am_c211 25 8 := rfl
theorem fModel_oil_26 : w_fe am_c211 26 27 (.bipush (-4)) := ⟨rfl, rfl⟩
theorem fModel_oil_27 : w_fe am_c211 27 28 (.ireturn) := ⟨rfl, rfl⟩
noncomputable def LModel_oil_8 (xs : List Int) (d : Nat) (Q : Option w_V → w_M → Prop) (v1 : Int) (v2 : Int) (σ : w_M) : Prop := w_Ex (xs, d) 1 am_c211 Q 8 [some (.inr (.inr (9, 122))), some (.inl v1), some (.inl v2)] [] σ
set_option maxRecDepth 20000 in
theorem bModel_oil_0 {xs : List Int} {d : Nat} {Q : Option w_V → w_M → Prop} {x1 : Int} {σ : w_M}
    (h : p_Model_isReaper x1 σ ∧ (((0 ≤ x1 ∧ x1 < σ 122 5) → LModel_oil_8 xs (d + 6) Q x1 0 σ) ∧ (¬ (0 ≤ x1 ∧ x1 < σ 122 5) → Q (some (.inl (-1))) σ))) : w_Call (xs, (d + 6)) 211 [.inr (.inr (9, 122)), .inl x1] σ Q :=
  (w_mk (mid := 211) (by decide) rfl rfl rfl rfl rfl (Nat.le_of_ble_eq_true rfl) ⟨rfl, Or.inl (by decide)⟩ (wi_aload0 fModel_oil_0 (wi_iload1 fModel_oil_1 (wi_call2 fModel_oil_2 (Nat.le_of_ble_eq_true rfl) (k_Model_isReaper h.1 (wi_ifb_ne fModel_oil_3 (fun c1 => (wi_bipush fModel_oil_6 (wi_istore2 fModel_oil_7 trivial (h.2.1 c1)))) (fun c1 => (wi_bipush fModel_oil_4 (wi_ret1 fModel_oil_5 (h.2.2 c1))))))))))
set_option maxRecDepth 20000 in
theorem bModel_oil_8 {xs : List Int} {d : Nat} {Q : Option w_V → w_M → Prop} {v1 : Int} {v2 : Int} {σ : w_M}
    (h : (9 < v2 → Q (some (.inl (-4))) σ) ∧ (v2 ≤ 9 → (p_Model_starts σ ∧ (∀ (τ1 : w_M), q_Model_starts σ τ1 → (p_Model_becomesOf v1 1 v2 τ1 ∧ (∀ (τ2 : w_M), q_Model_becomesOf v1 1 v2 τ1 τ2 → (p_Model_doneBehind τ2 ∧ (∀ (y3 : Int) (τ4 : w_M), q_Model_doneBehind τ2 y3 τ4 → ((y3 = (-4) → (w_in (v2 + 1) ∧ LModel_oil_8 xs (d + 6) Q v1 (v2 + 1) τ4)) ∧ (¬ y3 = (-4) → Q (some (.inl v2)) τ4)))))))))) : LModel_oil_8 xs (d + 6) Q v1 v2 σ :=
  (wi_iload2 fModel_oil_8 (wi_bipush fModel_oil_9 (wi_ic_gt fModel_oil_10 (fun c6 => (wi_bipush fModel_oil_26 (wi_ret1 fModel_oil_27 (h.1 c6)))) (fun c6 => (wi_aload0 fModel_oil_11 (wi_call1 fModel_oil_12 (Nat.le_of_ble_eq_true rfl) (k_Model_starts (h.2 c6).1 (fun τ1 eτ1 => (wi_aload0 fModel_oil_13 (wi_iload1 fModel_oil_14 (wi_bipush fModel_oil_15 (wi_iload2 fModel_oil_16 (wi_call4 fModel_oil_17 (Nat.le_of_ble_eq_true rfl) (k_Model_becomesOf ((h.2 c6).2 τ1 eτ1).1 (fun τ2 eτ2 => (wi_aload0 fModel_oil_18 (wi_call1 fModel_oil_19 (Nat.le_of_ble_eq_true rfl) (k_Model_doneBehind (((h.2 c6).2 τ1 eτ1).2 τ2 eτ2).1 (fun y3 τ4 eτ4 => (wi_bipush fModel_oil_20 (wi_ic_eq fModel_oil_21 (fun c5 => (wi_iinc2 fModel_oil_24 trivial (((((h.2 c6).2 τ1 eτ1).2 τ2 eτ2).2 y3 τ4 eτ4).1 c5).1 (wi_goto fModel_oil_25 (((((h.2 c6).2 τ1 eτ1).2 τ2 eτ2).2 y3 τ4 eτ4).1 c5).2))) (fun c5 => (wi_iload2 fModel_oil_22 (wi_ret1 fModel_oil_23 (((((h.2 c6).2 τ1 eτ1).2 τ2 eτ2).2 y3 τ4 eτ4).2 c5)))))))))))))))))))))))))
theorem k_Model_oil {xs : List Int} {d : Nat} {Q : Option w_V → w_M → Prop} {x1 : Int} {σ : w_M} (hp : p_Model_oil x1 σ) (hQ : ∀ (x : Int) (σ' : w_M), q_Model_oil x1 σ x σ' → Q (some (.inl x)) σ') : w_Call (xs, d + 6) 211 [.inr (.inr (9, 122)), .inl x1] σ Q := by
  have hM : MI σ := hp
  have hok := hM.ok
  have hn := hM.n
  unfold q_Model_oil F_oil at hQ
  have e5 : mS σ 0 0 5 = σ 122 5 := rfl
  have eA : mS σ 0 = w_am σ 123 0 := rfl
  rw [e5, eA] at hQ
  refine bModel_oil_0 ⟨hn, fun c => ?_, fun c => ?_⟩
  · rw [if_pos c] at hQ
    generalize hf : ol_f (w_am σ 123 0) x1.toNat = f at hQ
    refine (w_loop (n := 10) (P := fun v => ∀ τ : w_M, w_f1 σ τ 124 → ol_g f v = -4 → LModel_oil_8 xs (d + 6) Q x1 (v : Int) τ) ?_ ?_) σ w_f1.rfl' rfl
    · intro τ F hg
      exact bModel_oil_8 ⟨fun _ => hQ _ _ (m_qs hM F hg.symm), fun h => by omega⟩
    · intro v hv ih τ F hg
      refine bModel_oil_8 ⟨fun h => by omega, fun _ => ⟨(m_starts (τ1 := τ) hM F).1, fun τ2 hq2 => ?_⟩⟩
      obtain ⟨a2, F2, -⟩ := (m_starts hM F).2 hq2
      refine ⟨⟨by omega, by decide⟩, fun τ3 hq3 => ?_⟩
      obtain ⟨a3, F3⟩ := m_becomes (d := 4) hM F2 (by decide) (by decide) (by decide) c a2 hq3
      have W3 : n_WF (w_up (w_am σ 123 0) 4 x1.toNat (v : Int)) := n_WF4 hok (by omega)
      have ok3 : m_ok τ3 124 0 := by unfold m_ok; rw [a3]; exact W3
      refine ⟨ok3, fun y τ4 hq4 => ?_⟩
      obtain ⟨-, ey, F4⟩ := hq4
      rw [a3] at ey
      have ef : y = f v := by rw [ey, ← hf]; rfl
      refine ⟨fun c2 => ⟨⟨by omega, by omega⟩, ?_⟩, fun c2 => hQ _ _ (m_qs hM (F3.tr F4) ?_)⟩
      · rw [← w_cs1]
        refine ih τ4 (F3.tr F4) ?_
        show (if ol_g f v = -4 then (if f v = -4 then -4 else (v : Int)) else ol_g f v) = -4
        rw [if_pos hg, if_pos (by omega)]
      · have h1 : ol_g f (v + 1) = (v : Int) := by
          show (if ol_g f v = -4 then (if f v = -4 then -4 else (v : Int)) else ol_g f v) = (v : Int)
          rw [if_pos hg, if_neg (by omega)]
        have h2 := ol_stay (f := f) (m := v + 1) (by omega) (10 - (v + 1))
        rw [show v + 1 + (10 - (v + 1)) = 10 by omega, h1] at h2
        exact h2.symm
  · rw [if_neg c] at hQ
    exact hQ _ _ (m_qr hM rfl)
end
