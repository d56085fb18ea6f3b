/-- names, parameters, classes -/
noncomputable def am_nmy (z : MethodName × Option FieldType) (M : am_M) (o : Nat) : Bool := plainFor z.1 && (decide (z.1.cls ≠ "java/lang/invoke/MethodHandle") && (decide (z.1.cls ≠ "java/lang/invoke/VarHandle") && (decide (am_ownS o = z.1.cls) &&
  (decide ((parseMethodDescriptor z.1.desc).map (fun d => d.parameters.length) = some (M.2.2.1 - (if M.2.2.2.1 = none then 0 else 1))) && (decide (M.2.1 ≤ 13) &&
  ((match M.2.2.2.1 with | none => true | some ci => decide (1 ≤ M.2.2.1) && decide (z.1.cls = (if ci = 20 then "java/lang/String" else (am_clq ci).1)) && decide (ci = 20 ∨ ci < 10)) &&
  (match z.2 with
    | none => M.2.2.2.2 == 0
    | some .int => M.2.2.2.2 == 1
    | some .boolean => M.2.2.2.2 == 2
    | some .long => M.2.2.2.2 == 3
    | some (.object _) => M.2.2.2.2 == 4
    | some .char => M.2.2.2.2 == 5
    | some .byte => M.2.2.2.2 == 6
    | _ => false)))))))
noncomputable def am_nmq (k : Nat) : Bool := am_nmy (am_infq k) (am_mq k) (am_on.getD k 0)
noncomputable def am_pd (d : String) : Option Nat := (parseMethodDescriptor d).map (fun d => d.parameters.length)
noncomputable def am_np (c : String) : Bool := decide (c ≠ "java/lang/invoke/MethodHandle") && decide (c ≠ "java/lang/invoke/VarHandle")
/-- the same; what hangs on a class's name or on a descriptor alone stands as a row of these alone -/
noncomputable def am_nmz : MethodName × Option FieldType → am_M → Nat → Bool
  | (⟨c, n, d⟩, r), M, o => (plainName c || plainFor ⟨c, n, d⟩) && (am_np c && (decide (am_ownS o = c) &&
  (decide (am_pd d = some (M.2.2.1 - (if M.2.2.2.1 = none then 0 else 1))) && (decide (M.2.1 ≤ 13) &&
  ((match M.2.2.2.1 with | none => true | some ci => decide (1 ≤ M.2.2.1) && decide (c = (if ci = 20 then "java/lang/String" else (am_clq ci).1)) && decide (ci = 20 ∨ ci < 10)) &&
  (match r with
    | none => M.2.2.2.2 == 0
    | some .int => M.2.2.2.2 == 1
    | some .boolean => M.2.2.2.2 == 2
    | some .long => M.2.2.2.2 == 3
    | some (.object _) => M.2.2.2.2 == 4
    | some .char => M.2.2.2.2 == 5
    | some .byte => M.2.2.2.2 == 6
    | _ => false))))))
theorem am_nmz_ok : ∀ (z : MethodName × Option FieldType) (M : am_M) (o : Nat), am_nmz z M o = true → am_nmy z M o = true
  | (⟨c, n, d⟩, r), M, o, h => by
    unfold am_nmz at h
    obtain ⟨h1, h⟩ := am_and h
    obtain ⟨h2, h⟩ := am_and h
    obtain ⟨h2, h3⟩ := am_and h2
    have hp : plainFor ⟨c, n, d⟩ = true := by
      rcases Bool.or_eq_true_iff.mp h1 with q | q
      · exact plainFor_of_name (x := ⟨c, n, d⟩) q
      · exact q
    unfold am_nmy
    rw [Bool.and_eq_true, Bool.and_eq_true, Bool.and_eq_true]
    exact ⟨hp, h2, h3, h⟩
theorem am_nz_c : ((List.range 240).all fun k => am_nmz (am_infq k) (am_mq k) (am_on.getD k 0)) = true := by decide +kernel
theorem am_nm_c : ((List.range 240).all am_nmq) = true := List.all_eq_true.mpr fun k hk => am_nmz_ok _ _ _ (List.all_eq_true.mp am_nz_c k hk)
