noncomputable def w_cqo (op : Instr) : Bool := match op with
  | .bipush x => decide (-2147483648 ≤ x) && decide (x ≤ 2147483647)
  | .sipush x => decide (-9223372036854775808 ≤ x) && decide (x ≤ 9223372036854775807)
  | .ldc a => decide (1000 ≤ a) && decide (a < 1010) && decide (a % 2 = 0)
  | _ => true
theorem w_cq_at {mid pc : Nat} {op : Instr} (hm : mid < 240) (h : (am_mq mid).1[pc]? = some op) : w_cqo op = true := by
  have h1 := List.all_eq_true.mp w_cq_c mid (List.mem_range.mpr hm)
  unfold w_cq at h1
  exact List.all_eq_true.mp h1 op (List.mem_of_getElem? h)
set_option maxHeartbeats 4000000 in
/-- the second layer is sound -/
theorem w_sound {mid : Nat} (hm : mid < 240) (hP : am_P mid = some (am_mq mid)) {code : List Instr} (hc : code.map w_un = (am_mq mid).1) {E : w_C} {rt : Nat} (hrt : rt = (am_mq mid).2.2.2.2) (hxs : w_xs E.1) {Q : Option w_V → w_M → Prop} {pc : Nat} {ls : w_L} {st : List w_V} {σ : w_M}
    (h : w_Ex E rt code Q pc ls st σ) : w_Sem (am_cst (E.1.map Int32.ofInt)) E.2 mid Q pc ls st σ := by
  refine h (w_Sem (am_cst (E.1.map Int32.ofInt)) E.2 mid Q) (fun pc op ls st σ hop hw => ?_)
  have hop' : (am_mq mid).1[pc]? = some (w_un op) := by rw [← hc, List.getElem?_map, hop]; rfl
  have hq := w_cq_at hm hop'
  cases op
  case iadd => exact wS_iadd hP hop' hw
  case isub => exact wS_isub hP hop' hw
  case imul => exact wS_imul hP hop' hw
  case fadd => exact wS_fadd hP hop' hw
  case fsub => exact wS_fsub hP hop' hw
  case fmul => exact wS_fmul hP hop' hw
  case iand => exact wS_iand hP hop' hw
  case ior => exact wS_ior hP hop' hw
  case ixor => exact wS_ixor hP hop' hw
  case ishl => exact wS_ishl hP hop' hw
  case ishr => exact wS_ishr hP hop' hw
  case iushr => exact wS_iushr hP hop' hw
  case ladd => exact wS_ladd hP hop' hw
  case lmul => exact wS_lmul hP hop' hw
  case idiv => exact wS_idiv hP hop' hw
  case irem => exact wS_irem hP hop' hw
  case ldiv => exact wS_ldiv hP hop' hw
  case lrem => exact wS_lrem hP hop' hw
  case ineg => exact wS_ineg hP hop' hw
  case i2l => exact wS_i2l hP hop' hw
  case i2b => exact wS_i2b hP hop' hw
  case i2s => exact wS_i2s hP hop' hw
  case i2c => exact wS_i2c hP hop' hw
  case lcmp => exact wS_lcmp hP hop' hw
  case dup => exact wS_dup hP hop' hw
  case dup2 => exact wS_dup2 hP hop' hw
  case pop => exact wS_pop hP hop' hw
  case pop2 => exact wS_pop2 hP hop' hw
  case iload => exact wS_iload hP hop' hw
  case lload => exact wS_lload hP hop' hw
  case aload => exact wS_aload hP hop' hw
  case istore => exact wS_istore hP hop' hw
  case astore => exact wS_astore hP hop' hw
  case lstore => exact wS_lstore hP hop' hw
  case iinc => exact wS_iinc hP hop' hw
  case goto => exact wS_goto hP hop' hw
  case ifCond => exact wS_ifCond hP hop' hw
  case if_icmp => exact wS_if_icmp hP hop' hw
  case tableswitch => exact wS_tableswitch hP hop' hw
  case lookupswitch => exact wS_lookupswitch hP hop' hw
  case getstatic => exact wS_getstatic hP hop' hw
  case iaload => exact wS_iaload hP hop' hxs.1 hw
  case baload => exact wS_baload hP hop' hxs.1 hw
  case iastore => exact wS_iastore hP hop' hw
  case bastore => exact wS_bastore hP hop' hw
  case aaload => exact wS_aaload hP hop' hw
  case arraylength => exact wS_arraylength hP hop' hxs.2 hw
  case getfield => exact wS_getfield hP hop' (w_gf hm hop') hw
  case putfield => exact wS_putfield hP hop' (w_pf hm hop') hw
  case invokedynamic => exact wS_acopy hP hop' hw
  case invokestatic => exact wS_call hP hop' hxs hw
  case monitorexit => exact wS_monitorexit hP hop' hw
  case ireturn => exact wS_ireturn hP hrt hop' hw
  case return_ => exact wS_return hP hrt hop' hw
  case bipush => simp only [w_un, w_cqo, Bool.and_eq_true, decide_eq_true_eq] at hq; exact wS_bipush hP hq hop' hw
  case sipush => simp only [w_un, w_cqo, Bool.and_eq_true, decide_eq_true_eq] at hq; exact wS_sipush hP hq hop' hw
  case ldc => simp only [w_un, w_cqo, Bool.and_eq_true, decide_eq_true_eq] at hq; exact wS_ldc hP ⟨hq.1.1, hq.1.2, hq.2⟩ hop' hw
  all_goals exact False.elim hw
noncomputable def w_place : List w_V → w_L
  | [] => []
  | .inr (.inl x) :: r => some (.inr (.inl x)) :: none :: w_place r
  | v :: r => some v :: w_place r
noncomputable def w_args (as : List w_V) (ml : Nat) : w_L := w_place as ++ List.replicate (ml - (w_place as).length) none
theorem w_place_ok : ∀ as : List w_V, w_tl (w_place as) = am_place (as.map w_tv)
  | [] => rfl
  | .inl x :: r => by
    have := w_place_ok r
    simp only [w_place, w_tl, List.map_cons, am_place, w_tv] at this ⊢
    rw [this]
    rfl
  | .inr (.inr x) :: r => by
    have := w_place_ok r
    simp only [w_place, w_tl, List.map_cons, am_place, w_tv] at this ⊢
    rw [this]
    rfl
  | .inr (.inl x) :: r => by
    have := w_place_ok r
    simp only [w_place, w_tl, List.map_cons, am_place, w_tv] at this ⊢
    rw [this]
    rfl
theorem w_args_ok (as : List w_V) (ml : Nat) : w_tl (w_args as ml) = am_args (as.map w_tv) ml := by
  have h := w_place_ok as
  have h2 : (w_place as).length = (am_place (as.map w_tv)).length := by rw [← h]; unfold w_tl; rw [List.length_map]
  unfold w_args am_args
  rw [← h, h2, h]
  unfold w_tl at h ⊢
  rw [List.map_append, h, List.map_replicate]
  rfl
theorem w_place_vl : ∀ {as : List w_V}, w_vs as → ∀ l ∈ w_place as, ∀ v, l = some v → w_vv v
  | [], _, l, hl, _, _ => by cases hl
  | .inl x :: r, h, l, hl, v, hv => by
    rcases List.mem_cons.mp hl with e | e
    · rw [e] at hv; cases hv; exact w_vs_hd h
    · exact w_place_vl (w_vs_tl h) l e v hv
  | .inr (.inr x) :: r, h, l, hl, v, hv => by
    rcases List.mem_cons.mp hl with e | e
    · rw [e] at hv; cases hv; exact w_vs_hd h
    · exact w_place_vl (w_vs_tl h) l e v hv
  | .inr (.inl x) :: r, h, l, hl, v, hv => by
    rcases List.mem_cons.mp hl with e | e
    · rw [e] at hv; cases hv; exact w_vs_hd h
    · rcases List.mem_cons.mp e with e | e
      · rw [e] at hv; cases hv
      · exact w_place_vl (w_vs_tl h) l e v hv
theorem w_args_vl {as : List w_V} (h : w_vs as) (ml : Nat) : w_vl (w_args as ml) := fun i v hv => by
  have hm := List.mem_of_getElem? hv
  unfold w_args at hm
  rcases List.mem_append.mp hm with hm | hm
  · exact w_place_vl h _ hm v rfl
  · have := List.eq_of_mem_replicate hm
    cases this
/-- the receiver is of the method's class -/
noncomputable def w_rc (rc : Option Nat) (as : List w_V) : Prop := match rc with
  | none => True
  | some ci => match as with
    | .inr (.inr q) :: _ => q.1 = ci ∧ (ci < 10 ∨ ci = 20)
    | _ => False
theorem w_rc_ok {rc : Option Nat} {as : List w_V} (h : w_rc rc as) (hv : w_vs as) {xs : List Int} {σ : w_M} : am_recv (am_cst (xs.map Int32.ofInt)) (w_mem σ) rc (as.map w_tv) = true := by
  unfold w_rc at h
  unfold am_recv
  cases rc with
  | none => rfl
  | some ci =>
    match as, h with
    | .inr (.inr q) :: r, h =>
      obtain ⟨h1, h2⟩ := h
      have hr : w_rv q.1 q.2 := w_vs_hd hv
      rw [h1] at hr
      simp only [List.map_cons, w_tv]
      rcases h2 with h2 | h2
      · have ha : q.2 < 134 ∧ w_kind q.2 = ci := by unfold w_rv at hr; omega
        rw [w_look_lo ha.1, w_mem_get ha.1, ha.2, w_cell_o (by omega)]
        simp only [decide_true]
      · subst h2
        have hs : 1000 ≤ q.2 ∧ q.2 < 1010 ∧ q.2 % 2 = 0 := by
          unfold w_rv at hr
          rcases hr with ⟨q1, q2⟩ | q
          · have := (w_rf_ok _ q1 (by omega)).1
            omega
          · omega
        rw [w_carr_s hs]
        simp only [decide_true]
/-- a method's call out of its body -/
theorem w_mk {mid : Nat} (hm : mid < 240) (hP : am_P mid = some (am_mq mid)) {code : List Instr} (hc : code.map w_un = (am_mq mid).1) {E : w_C} {rt : Nat} (hrt : rt = (am_mq mid).2.2.2.2) {Q : Option w_V → w_M → Prop} {as : List w_V} {σ : w_M} {ls : w_L} (hn : (am_mq mid).2.2.1 = as.length) (hl : ls = w_args as (am_mq mid).2.1) (hp : (w_place as).length ≤ (am_mq mid).2.1) (hr : w_rc (am_mq mid).2.2.2.1 as)
    (h : w_Ex E rt code Q 0 ls [] σ) : w_Call E mid as σ Q := fun h1 h2 h3 => by
  refine ⟨am_mq mid, hP, hn, ?_, w_rc_ok hr h2, ?_⟩
  · rw [← w_place_ok]
    unfold w_tl
    rw [List.length_map]
    exact hp
  · rw [hl] at h
    obtain ⟨n, r, s, e⟩ := w_sound hm hP hc hrt h1 h (w_args_vl h2 _) w_vs_nil h3
    rw [w_args_ok] at e
    exact ⟨n, r, s, e⟩
