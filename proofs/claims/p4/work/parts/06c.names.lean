/-- names, parameters, classes -/
noncomputable def am_nmq (k : Nat) : Bool := let y := (am_infq k).1; let M := am_mq k
  plainFor y && decide (y.cls ≠ "java/lang/invoke/MethodHandle") && decide (y.cls ≠ "java/lang/invoke/VarHandle") && decide (am_ownS (am_on.getD k 0) = y.cls) &&
  decide ((parseMethodDescriptor y.desc).map (fun d => d.parameters.length) = some (M.2.2.1 - (if M.2.2.2.1 = none then 0 else 1))) && decide (M.2.1 ≤ 13) &&
  (match M.2.2.2.1 with | none => true | some ci => decide (1 ≤ M.2.2.1) && decide (y.cls = (if ci = 20 then "java/lang/String" else (am_clq ci).1)) && decide (ci = 20 ∨ ci < 10)) &&
  (match (am_infq k).2 with
    | none => M.2.2.2.2 == 0
    | some .int => M.2.2.2.2 == 1
    | some .boolean => M.2.2.2.2 == 2
    | some .long => M.2.2.2.2 == 3
    | some (.object _) => M.2.2.2.2 == 4
    | some .char => M.2.2.2.2 == 5
    | some .byte => M.2.2.2.2 == 6
    | _ => false)
theorem am_nm_c : ((List.range 240).all am_nmq) = true := by decide +kernel
