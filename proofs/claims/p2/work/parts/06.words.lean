def am_wq (i : Nat) (w : Cond) : Bool := decide (lw_tbl[i]? = some w) && goodWord w
theorem am_wq_ok {i : Nat} {w : Cond} (h : am_wq i w = true) : w ∈ am_big := by
  unfold am_wq at h
  rw [Bool.and_eq_true, decide_eq_true_eq] at h
  exact am_big_at i h.1 h.2
def am_fw (o i f : Nat) : Cond := .fieldLink (am_ownS o) i ((am_clq (f / 100)).2.1 (f % 100)).1 ((am_clq (f / 100)).2.1 (f % 100)).2.1 ((am_clq (f / 100)).2.1 (f % 100)).2.2.1
theorem am_lf_c : (am_lf.all fun q => am_wq q.2.2.2 (am_fw q.1 q.2.1 q.2.2.1)) = true := by decide +kernel
theorem am_lm_c : (am_lm.all fun q => decide (3 ≤ q.2.2.2.1) || am_wq q.2.2.2.2 (.methodLink (am_ownS q.1) q.2.1 (am_infq q.2.2.1).1)) = true := by decide +kernel
/-- a nest mate's method: its word isn't among the good ones, it goes its own way -/
def am_nw (q : Nat × Nat × Nat × Nat × Nat) : Cond := .methodLinkNest (am_ownS q.1) q.2.1 (am_infq q.2.2.1).1 "MoonReapers"
theorem am_lx_c : (am_lm.all fun q => decide (q.2.2.2.1 < 3) || decide (lw_tbl[q.2.2.2.2]? = some (am_nw q))) = true := by decide +kernel
theorem am_ln_c : (am_ln.all fun q => am_wq q.2.2.2 (.classLink (am_ownS q.1) q.2.1 (am_clq q.2.2.1).1)) = true := by decide +kernel
theorem am_lc_c : (am_lc.all fun q => am_wq q.2.2.2 (.constant (am_ownS q.1) q.2.1 (Int32.ofInt q.2.2.1))) = true := by decide +kernel
theorem am_ll_c : (am_ll.all fun q => am_wq q.2.2.2 (.constantLong (am_ownS q.1) q.2.1 (Int64.ofInt q.2.2.1))) = true := by decide +kernel
theorem am_lo_c : (am_lo.all fun q => am_wq q.2.2 (.methodLink (am_ownS q.1) q.2.1 Lib.objectInit)) = true := by decide +kernel
theorem am_la_c : (am_la.all fun q => am_wq q.2.2 (.methodLink (am_ownS q.1) q.2.1 arraycopyName)) = true := by decide +kernel
def ck_yS : MethodName := ⟨"java/lang/String", "checkIndex", "(II)V"⟩
theorem am_lck_c : (am_lck.all fun q => am_wq q.2.2 (.methodLink (am_ownS q.1) q.2.1 ck_yS)) = true := by decide +kernel
theorem am_lan_c : (am_lan.all fun q => am_wq q.2.2 (.classLink (am_ownS q.1) q.2.1 "MoonReapers$State")) = true := by decide +kernel
theorem am_lma_c : (am_lma.all fun q => am_wq q.2.2 (.classLink (am_ownS q.1) q.2.1 ("[" ++ (FieldType.array .int).toString))) = true := by decide +kernel
/-- the method's own words: its code, its class's initialisation, static or of an object, its selection -/
def am_mwq (k : Nat) : Bool := let w := am_mw.getD k (0, 0, 0, 0); let y := (am_infq k).1
  (match lw_tbl[w.1]? with | some (.code y' _ m' r') => decide (y' = y) && m' == (am_mq k).2.1 && decide (r' = (am_infq k).2) | _ => false) && am_wq w.2.1 (.initialized y.cls) && (match (am_mq k).2.2.2.1 with
    | none => am_wq w.2.2.1 (.static y)
    | some _ => am_wq w.2.2.1 (.instanceMethod y) && (decide (y.name = "<init>") || am_wq w.2.2.2 (.selects y.cls y y)))
theorem am_mw_c0 : ((List.range 20).all fun i => am_mwq (0 + i)) = true := by decide +kernel
theorem am_mw_c1 : ((List.range 20).all fun i => am_mwq (20 + i)) = true := by decide +kernel
theorem am_mw_c2 : ((List.range 20).all fun i => am_mwq (40 + i)) = true := by decide +kernel
theorem am_mw_c3 : ((List.range 20).all fun i => am_mwq (60 + i)) = true := by decide +kernel
theorem am_mw_c4 : ((List.range 20).all fun i => am_mwq (80 + i)) = true := by decide +kernel
theorem am_mw_c5 : ((List.range 20).all fun i => am_mwq (100 + i)) = true := by decide +kernel
theorem am_mw_c6 : ((List.range 20).all fun i => am_mwq (120 + i)) = true := by decide +kernel
theorem am_mw_c7 : ((List.range 20).all fun i => am_mwq (140 + i)) = true := by decide +kernel
theorem am_mw_c8 : ((List.range 20).all fun i => am_mwq (160 + i)) = true := by decide +kernel
theorem am_mw_c9 : ((List.range 20).all fun i => am_mwq (180 + i)) = true := by decide +kernel
theorem am_mw_c10 : ((List.range 20).all fun i => am_mwq (200 + i)) = true := by decide +kernel
theorem am_mw_c11 : ((List.range 19).all fun i => am_mwq (220 + i)) = true := by decide +kernel
/-- names, parameters, classes -/
def am_nmq (k : Nat) : Bool := let y := (am_infq k).1; let M := am_mq k
  plainFor y && decide (y.cls ≠ "java/lang/invoke/MethodHandle") && decide (y.cls ≠ "java/lang/invoke/VarHandle") && decide (am_ownS (am_on.getD k 0) = y.cls) &&
  decide ((parseMethodDescriptor y.desc).map (fun d => d.parameters.length) = some (M.2.2.1 - (if M.2.2.2.1 = none then 0 else 1))) && decide (M.2.1 ≤ 13) &&
  (match M.2.2.2.1 with | none => true | some ci => decide (1 ≤ M.2.2.1) && decide (y.cls = (if ci = 20 then "java/lang/String" else (am_clq ci).1)) && decide (ci = 20 ∨ ci < 10)) &&
  (match (am_infq k).2 with
    | none => M.2.2.2.2 == 0
    | some .int => M.2.2.2.2 == 1
    | some .boolean => M.2.2.2.2 == 2
    | some .long => M.2.2.2.2 == 3
    | some (.object _) => M.2.2.2.2 == 4
    | some .char => M.2.2.2.2 == 5
    | some .byte => M.2.2.2.2 == 6
    | _ => false)
theorem am_nm_c : ((List.range 240).all am_nmq) = true := by decide +kernel
