/-! One call on a fresh object. The text is read by the kernel -/
def tx_q (x : Option (Option Value × List am_E)) : Bool := match x with
  | some (some (.int z), m) => decide (z = 0) && decide (w_mem (w_bk m) = m)
  | _ => false
def tx_o (x : Option (Option Value × List am_E)) : List am_E := match x with
  | some (_, m) => m
  | _ => []
theorem tx_of {x : Option (Option Value × List am_E)} (h : tx_q x = true) : x = some (some (.int 0), tx_o x) ∧ w_mem (w_bk (tx_o x)) = tx_o x := by
  unfold tx_q at h
  split at h
  · simp only [Bool.and_eq_true, decide_eq_true_eq] at h
    rw [h.1]
    exact ⟨rfl, h.2⟩
  · cases h
def tx_1 : Option (Option Value × List am_E) := am_exec am_ft am_P [] 9000 6 109 0 (am_args [.ref 0] 2) [] ini_B
def tx_2 : Option (Option Value × List am_E) := am_exec am_ft am_P [] 9000 6 159 0 (am_args [.ref 122] 2) [] (tx_o tx_1)
theorem tx_q1 : tx_q tx_1 = true := by decide +kernel
theorem tx_q2 : tx_q tx_2 = true := by decide +kernel
def p_Moon_text (σ : w_M) : Prop := σ = w_s0
def q_Moon_text (_ : w_M) (x : Int) (σ' : w_M) : Prop := x = 0 ∧ σ' = w_bk (tx_o tx_1)
def p_Model_text (σ : w_M) : Prop := σ = w_bk (tx_o tx_1)
def q_Model_text (_ : w_M) (x : Int) (_ : w_M) : Prop := x = 0
theorem tx_call {xs : List Int} {d mid : Nat} {as : List w_V} {σ : w_M} {x : Option (Option Value × List am_E)} {Q : Option w_V → w_M → Prop} (hP : am_P mid = some (am_mq mid)) (hl : (am_mq mid).2.2.1 = as.length) (hp : (am_place (as.map w_tv)).length ≤ (am_mq mid).2.1) (hr : am_recv [] (w_mem σ) (am_mq mid).2.2.2.1 (as.map w_tv) = true)
    (hx : am_exec am_ft am_P [] 9000 6 mid 0 (am_args (as.map w_tv) (am_mq mid).2.1) [] (w_mem σ) = x) (h : tx_q x = true) (hQ : Q (some (.inl 0)) (w_bk (tx_o x))) : w_Call (xs, d + 6) mid as σ Q := fun _ _ _ => by
  obtain ⟨e1, e2⟩ := tx_of h
  refine ⟨am_mq mid, hP, hl, hp, am_recv_cst hr, 9000, some (.inl 0), w_bk (tx_o x), ?_, hQ, w_bk_ms _, fun v hv => by cases hv; exact w_in0⟩
  rw [e2]
  exact am_exec_deep_le (by omega) (am_exec_cst (hx.trans e1))
theorem k_Moon_text {xs : List Int} {d : Nat} {Q : Option w_V → w_M → Prop}  {σ : w_M} (hp : p_Moon_text σ) (hQ : ∀ (x : Int) (σ' : w_M), q_Moon_text σ x σ' → Q (some (.inl x)) σ') : w_Call (xs, d + 6) 109 [.inr (.inr (0, 0))] σ Q := by
  have e : σ = w_s0 := hp
  subst e
  refine tx_call rfl rfl (Nat.le_of_ble_eq_true rfl) (by rw [ini_mem]; decide +kernel) (by rw [ini_mem]; rfl) tx_q1 (hQ _ _ ⟨rfl, rfl⟩)
theorem k_Model_text {xs : List Int} {d : Nat} {Q : Option w_V → w_M → Prop}  {σ : w_M} (hp : p_Model_text σ) (hQ : ∀ (x : Int) (σ' : w_M), q_Model_text σ x σ' → Q (some (.inl x)) σ') : w_Call (xs, d + 6) 159 [.inr (.inr (9, 122))] σ Q := by
  have e : σ = w_bk (tx_o tx_1) := hp
  subst e
  refine tx_call rfl rfl (Nat.le_of_ble_eq_true rfl) (by rw [(tx_of tx_q1).2]; decide +kernel) (by rw [(tx_of tx_q1).2]; rfl) tx_q2 (hQ _ _ rfl)
theorem i_text (h : w_s0 = w_s0) : p_Moon_text w_s0 := h
theorem e_text {σ τ : w_M} {y : Int} (hq : q_Moon_text σ y τ) : p_Model_text τ ∧ ∀ (y' : Int) (τ' : w_M), q_Model_text τ y' τ' → y = y' ∧ True := ⟨hq.2, fun y' τ' h => ⟨by rw [hq.1]; exact h.symm, trivial⟩⟩
theorem torn_eq {τ τ' : w_M} {y y' : Int} (hq : q_Moon_torn w_s0 y τ) (hr : q_Model_torn τ y' τ') : y = y' := by
  rw [hq.1, hr.1, hq.2]
  rfl
set_option maxRecDepth 20000 in
theorem fLaw_law_1 : w_fe am_c239 1 2 (.dup) := ⟨rfl, rfl⟩
set_option maxRecDepth 20000 in
theorem fLaw_law_2 : w_fe am_c239 2 3 (.invokestatic 105) := ⟨rfl, rfl⟩
set_option maxRecDepth 20000 in
theorem fLaw_law_3 : w_fe am_c239 3 4 (.astore 1) := ⟨rfl, rfl⟩
set_option maxRecDepth 20000 in
theorem fLaw_law_5 : w_fe am_c239 5 6 (.dup) := ⟨rfl, rfl⟩
set_option maxRecDepth 20000 in
theorem fLaw_law_6 : w_fe am_c239 6 7 (.invokestatic 153) := ⟨rfl, rfl⟩
set_option maxRecDepth 20000 in
theorem fLaw_law_7 : w_fe am_c239 7 8 (.astore 2) := ⟨rfl, rfl⟩
set_option maxRecDepth 20000 in
theorem fLaw_law_8 : w_fe am_c239 8 9 (.bipush 0) := ⟨rfl, rfl⟩
set_option maxRecDepth 20000 in
theorem fLaw_law_9 : w_fe am_c239 9 10 (.istore 3) := ⟨rfl, rfl⟩
set_option maxRecDepth 20000 in
theorem fLaw_law_10 : w_fe am_c239 10 11 (.iload 3) := ⟨rfl, rfl⟩
set_option maxRecDepth 20000 in
theorem fLaw_law_11 : w_fe am_c239 11 12 (.aload 0) := ⟨rfl, rfl⟩
set_option maxRecDepth 20000 in
theorem fLaw_law_12 : w_fe am_c239 12 13 (.arraylength) := ⟨rfl, rfl⟩
set_option maxRecDepth 20000 in
theorem fLaw_law_13 : w_fe am_c239 13 14 (.bipush 5) := ⟨rfl, rfl⟩
set_option maxRecDepth 20000 in
theorem fLaw_law_14 : w_fe am_c239 14 15 (.isub) := ⟨rfl, rfl⟩
set_option maxRecDepth 20000 in
theorem fLaw_law_15 : w_ic am_c239 15 16 .gt 1003 := ⟨rfl, rfl⟩
set_option maxRecDepth 20000 in
theorem fLaw_law_16 : w_fe am_c239 16 17 (.aload 0) := ⟨rfl, rfl⟩
set_option maxRecDepth 20000 in
theorem fLaw_law_17 : w_fe am_c239 17 18 (.iload 3) := ⟨rfl, rfl⟩
set_option maxRecDepth 20000 in
theorem fLaw_law_18 : w_fe am_c239 18 19 (.iaload) := ⟨rfl, rfl⟩
set_option maxRecDepth 20000 in
theorem fLaw_law_19 : w_fe am_c239 19 20 (.bipush 63) := ⟨rfl, rfl⟩
set_option maxRecDepth 20000 in
theorem fLaw_law_20 : w_fe am_c239 20 21 (.iand) := ⟨rfl, rfl⟩
theorem fLaw_law_21 {E : w_C} {rt : Nat} {Q : Option w_V → w_M → Prop} {ls : w_L} {st : List w_V} {σ : w_M} {x : Int} (h0 : x = 0 → w_Ex E rt am_c239 Q 22 ls st σ) (h1 : x = 1 → w_Ex E rt am_c239 Q 39 ls st σ) (h2 : x = 2 → w_Ex E rt am_c239 Q 56 ls st σ) (h3 : x = 3 → w_Ex E rt am_c239 Q 63 ls st σ) (h4 : x = 4 → w_Ex E rt am_c239 Q 70 ls st σ) (h5 : x = 5 → w_Ex E rt am_c239 Q 87 ls st σ) (h6 : x = 6 → w_Ex E rt am_c239 Q 114 ls st σ) (h7 : x = 7 → w_Ex E rt am_c239 Q 141 ls st σ) (h8 : x = 8 → w_Ex E rt am_c239 Q 158 ls st σ) (h9 : x = 9 → w_Ex E rt am_c239 Q 185 ls st σ) (h10 : x = 10 → w_Ex E rt am_c239 Q 222 ls st σ) (h11 : x = 11 → w_Ex E rt am_c239 Q 249 ls st σ) (h12 : x = 12 → w_Ex E rt am_c239 Q 276 ls st σ) (h13 : x = 13 → w_Ex E rt am_c239 Q 311 ls st σ) (h14 : x = 14 → w_Ex E rt am_c239 Q 346 ls st σ) (h15 : x = 15 → w_Ex E rt am_c239 Q 373 ls st σ) (h16 : x = 16 → w_Ex E rt am_c239 Q 400 ls st σ) (h17 : x = 17 → w_Ex E rt am_c239 Q 417 ls st σ) (h18 : x = 18 → w_Ex E rt am_c239 Q 454 ls st σ) (h19 : x = 19 → w_Ex E rt am_c239 Q 481 ls st σ) (h20 : x = 20 → w_Ex E rt am_c239 Q 498 ls st σ) (h21 : x = 21 → w_Ex E rt am_c239 Q 505 ls st σ) (h22 : x = 22 → w_Ex E rt am_c239 Q 522 ls st σ) (h23 : x = 23 → w_Ex E rt am_c239 Q 549 ls st σ) (h24 : x = 24 → w_Ex E rt am_c239 Q 566 ls st σ) (h25 : x = 25 → w_Ex E rt am_c239 Q 583 ls st σ) (h26 : x = 26 → w_Ex E rt am_c239 Q 611 ls st σ) (h27 : x = 27 → w_Ex E rt am_c239 Q 656 ls st σ) (h28 : x = 28 → w_Ex E rt am_c239 Q 673 ls st σ) (h29 : x = 29 → w_Ex E rt am_c239 Q 690 ls st σ) (h30 : x = 30 → w_Ex E rt am_c239 Q 697 ls st σ) (h31 : x = 31 → w_Ex E rt am_c239 Q 724 ls st σ) (h32 : x = 32 → w_Ex E rt am_c239 Q 751 ls st σ) (h33 : x = 33 → w_Ex E rt am_c239 Q 768 ls st σ) (h34 : x = 34 → w_Ex E rt am_c239 Q 785 ls st σ) (h35 : x = 35 → w_Ex E rt am_c239 Q 822 ls st σ) (h36 : x = 36 → w_Ex E rt am_c239 Q 839 ls st σ) (h37 : x = 37 → w_Ex E rt am_c239 Q 856 ls st σ) (h38 : x = 38 → w_Ex E rt am_c239 Q 893 ls st σ) (h39 : x = 39 → w_Ex E rt am_c239 Q 930 ls st σ) (h40 : x = 40 → w_Ex E rt am_c239 Q 977 ls st σ) (h41 : x = 41 → w_Ex E rt am_c239 Q 984 ls st σ) (hd : x < 0 ∨ 41 < x → w_Ex E rt am_c239 Q 1001 ls st σ) : w_Ex E rt am_c239 Q 21 ls (.inl x :: st) σ :=
  w_Ex_in (op := .tableswitch 1001 0 41 #[22, 39, 56, 63, 70, 87, 114, 141, 158, 185, 222, 249, 276, 311, 346, 373, 400, 417, 454, 481, 498, 505, 522, 549, 566, 583, 611, 656, 673, 690, 697, 724, 751, 768, 785, 822, 839, 856, 893, 930, 977, 984]) rfl ⟨rfl, hd, And.intro h0 (And.intro h1 (And.intro h2 (And.intro h3 (And.intro h4 (And.intro h5 (And.intro h6 (And.intro h7 (And.intro h8 (And.intro h9 (And.intro h10 (And.intro h11 (And.intro h12 (And.intro h13 (And.intro h14 (And.intro h15 (And.intro h16 (And.intro h17 (And.intro h18 (And.intro h19 (And.intro h20 (And.intro h21 (And.intro h22 (And.intro h23 (And.intro h24 (And.intro h25 (And.intro h26 (And.intro h27 (And.intro h28 (And.intro h29 (And.intro h30 (And.intro h31 (And.intro h32 (And.intro h33 (And.intro h34 (And.intro h35 (And.intro h36 (And.intro h37 (And.intro h38 (And.intro h39 (And.intro h40 (And.intro h41 ( trivial))))))))))))))))))))))))))))))))))))))))))⟩
set_option maxRecDepth 20000 in
theorem fLaw_law_22 : w_fe am_c239 22 23 (.aload 1) := ⟨rfl, rfl⟩
set_option maxRecDepth 20000 in
theorem fLaw_law_23 : w_fe am_c239 23 24 (.aload 0) := ⟨rfl, rfl⟩
set_option maxRecDepth 20000 in
theorem fLaw_law_24 : w_fe am_c239 24 25 (.iload 3) := ⟨rfl, rfl⟩
set_option maxRecDepth 20000 in
theorem fLaw_law_25 : w_fe am_c239 25 26 (.bipush 1) := ⟨rfl, rfl⟩
set_option maxRecDepth 20000 in
theorem fLaw_law_26 : w_fe am_c239 26 27 (.iadd) := ⟨rfl, rfl⟩
set_option maxRecDepth 20000 in
theorem fLaw_law_27 : w_fe am_c239 27 28 (.iaload) := ⟨rfl, rfl⟩
set_option maxRecDepth 20000 in
theorem fLaw_law_28 : w_fe am_c239 28 29 (.invokestatic 106) := ⟨rfl, rfl⟩
set_option maxRecDepth 20000 in
theorem fLaw_law_29 : w_fe am_c239 29 30 (.aload 2) := ⟨rfl, rfl⟩
set_option maxRecDepth 20000 in
theorem fLaw_law_30 : w_fe am_c239 30 31 (.aload 0) := ⟨rfl, rfl⟩
set_option maxRecDepth 20000 in
theorem fLaw_law_31 : w_fe am_c239 31 32 (.iload 3) := ⟨rfl, rfl⟩
set_option maxRecDepth 20000 in
theorem fLaw_law_32 : w_fe am_c239 32 33 (.bipush 1) := ⟨rfl, rfl⟩
set_option maxRecDepth 20000 in
theorem fLaw_law_33 : w_fe am_c239 33 34 (.iadd) := ⟨rfl, rfl⟩
set_option maxRecDepth 20000 in
theorem fLaw_law_34 : w_fe am_c239 34 35 (.iaload) := ⟨rfl, rfl⟩
set_option maxRecDepth 20000 in
theorem fLaw_law_35 : w_fe am_c239 35 36 (.invokestatic 156) := ⟨rfl, rfl⟩
set_option maxRecDepth 20000 in
theorem fLaw_law_36 : w_ic am_c239 36 37 .eq 1001 := ⟨rfl, rfl⟩
set_option maxRecDepth 20000 in
theorem fLaw_law_37 : w_fe am_c239 37 38 (.bipush 0) := ⟨rfl, rfl⟩
set_option maxRecDepth 20000 in
theorem fLaw_law_38 : w_fe am_c239 38 39 (.ireturn) := ⟨rfl, rfl⟩
set_option maxRecDepth 20000 in
theorem fLaw_law_39 : w_fe am_c239 39 40 (.aload 1) := ⟨rfl, rfl⟩
set_option maxRecDepth 20000 in
theorem fLaw_law_40 : w_fe am_c239 40 41 (.aload 0) := ⟨rfl, rfl⟩
set_option maxRecDepth 20000 in
theorem fLaw_law_41 : w_fe am_c239 41 42 (.iload 3) := ⟨rfl, rfl⟩
set_option maxRecDepth 20000 in
theorem fLaw_law_42 : w_fe am_c239 42 43 (.bipush 1) := ⟨rfl, rfl⟩
set_option maxRecDepth 20000 in
theorem fLaw_law_43 : w_fe am_c239 43 44 (.iadd) := ⟨rfl, rfl⟩
set_option maxRecDepth 20000 in
theorem fLaw_law_44 : w_fe am_c239 44 45 (.iaload) := ⟨rfl, rfl⟩
set_option maxRecDepth 20000 in
theorem fLaw_law_45 : w_fe am_c239 45 46 (.invokestatic 108) := ⟨rfl, rfl⟩
set_option maxRecDepth 20000 in
theorem fLaw_law_46 : w_fe am_c239 46 47 (.aload 2) := ⟨rfl, rfl⟩
set_option maxRecDepth 20000 in
theorem fLaw_law_47 : w_fe am_c239 47 48 (.aload 0) := ⟨rfl, rfl⟩
set_option maxRecDepth 20000 in
theorem fLaw_law_48 : w_fe am_c239 48 49 (.iload 3) := ⟨rfl, rfl⟩
set_option maxRecDepth 20000 in
theorem fLaw_law_49 : w_fe am_c239 49 50 (.bipush 1) := ⟨rfl, rfl⟩
set_option maxRecDepth 20000 in
theorem fLaw_law_50 : w_fe am_c239 50 51 (.iadd) := ⟨rfl, rfl⟩
set_option maxRecDepth 20000 in
theorem fLaw_law_51 : w_fe am_c239 51 52 (.iaload) := ⟨rfl, rfl⟩
set_option maxRecDepth 20000 in
theorem fLaw_law_52 : w_fe am_c239 52 53 (.invokestatic 158) := ⟨rfl, rfl⟩
set_option maxRecDepth 20000 in
theorem fLaw_law_53 : w_ic am_c239 53 54 .eq 1001 := ⟨rfl, rfl⟩
set_option maxRecDepth 20000 in
theorem fLaw_law_54 : w_fe am_c239 54 55 (.bipush 0) := ⟨rfl, rfl⟩
set_option maxRecDepth 20000 in
theorem fLaw_law_55 : w_fe am_c239 55 56 (.ireturn) := ⟨rfl, rfl⟩
set_option maxRecDepth 20000 in
theorem fLaw_law_56 : w_fe am_c239 56 57 (.aload 1) := ⟨rfl, rfl⟩
set_option maxRecDepth 20000 in
theorem fLaw_law_57 : w_fe am_c239 57 58 (.invokestatic 109) := ⟨rfl, rfl⟩
set_option maxRecDepth 20000 in
theorem fLaw_law_58 : w_fe am_c239 58 59 (.aload 2) := ⟨rfl, rfl⟩
set_option maxRecDepth 20000 in
theorem fLaw_law_59 : w_fe am_c239 59 60 (.invokestatic 159) := ⟨rfl, rfl⟩
set_option maxRecDepth 20000 in
theorem fLaw_law_60 : w_ic am_c239 60 61 .eq 1001 := ⟨rfl, rfl⟩
set_option maxRecDepth 20000 in
theorem fLaw_law_61 : w_fe am_c239 61 62 (.bipush 0) := ⟨rfl, rfl⟩
set_option maxRecDepth 20000 in
theorem fLaw_law_62 : w_fe am_c239 62 63 (.ireturn) := ⟨rfl, rfl⟩
set_option maxRecDepth 20000 in
theorem fLaw_law_63 : w_fe am_c239 63 64 (.aload 1) := ⟨rfl, rfl⟩
set_option maxRecDepth 20000 in
theorem fLaw_law_64 : w_fe am_c239 64 65 (.invokestatic 111) := ⟨rfl, rfl⟩
set_option maxRecDepth 20000 in
theorem fLaw_law_65 : w_fe am_c239 65 66 (.aload 2) := ⟨rfl, rfl⟩
set_option maxRecDepth 20000 in
theorem fLaw_law_66 : w_fe am_c239 66 67 (.invokestatic 172) := ⟨rfl, rfl⟩
set_option maxRecDepth 20000 in
theorem fLaw_law_67 : w_ic am_c239 67 68 .eq 1001 := ⟨rfl, rfl⟩
set_option maxRecDepth 20000 in
theorem fLaw_law_68 : w_fe am_c239 68 69 (.bipush 0) := ⟨rfl, rfl⟩
set_option maxRecDepth 20000 in
theorem fLaw_law_69 : w_fe am_c239 69 70 (.ireturn) := ⟨rfl, rfl⟩
set_option maxRecDepth 20000 in
theorem fLaw_law_70 : w_fe am_c239 70 71 (.aload 1) := ⟨rfl, rfl⟩
set_option maxRecDepth 20000 in
theorem fLaw_law_71 : w_fe am_c239 71 72 (.aload 0) := ⟨rfl, rfl⟩
set_option maxRecDepth 20000 in
theorem fLaw_law_72 : w_fe am_c239 72 73 (.iload 3) := ⟨rfl, rfl⟩
set_option maxRecDepth 20000 in
theorem fLaw_law_73 : w_fe am_c239 73 74 (.bipush 1) := ⟨rfl, rfl⟩
set_option maxRecDepth 20000 in
theorem fLaw_law_74 : w_fe am_c239 74 75 (.iadd) := ⟨rfl, rfl⟩
set_option maxRecDepth 20000 in
theorem fLaw_law_75 : w_fe am_c239 75 76 (.iaload) := ⟨rfl, rfl⟩
set_option maxRecDepth 20000 in
theorem fLaw_law_76 : w_fe am_c239 76 77 (.invokestatic 112) := ⟨rfl, rfl⟩
set_option maxRecDepth 20000 in
theorem fLaw_law_77 : w_fe am_c239 77 78 (.aload 2) := ⟨rfl, rfl⟩
set_option maxRecDepth 20000 in
theorem fLaw_law_78 : w_fe am_c239 78 79 (.aload 0) := ⟨rfl, rfl⟩
set_option maxRecDepth 20000 in
theorem fLaw_law_79 : w_fe am_c239 79 80 (.iload 3) := ⟨rfl, rfl⟩
set_option maxRecDepth 20000 in
theorem fLaw_law_80 : w_fe am_c239 80 81 (.bipush 1) := ⟨rfl, rfl⟩
set_option maxRecDepth 20000 in
theorem fLaw_law_81 : w_fe am_c239 81 82 (.iadd) := ⟨rfl, rfl⟩
set_option maxRecDepth 20000 in
theorem fLaw_law_82 : w_fe am_c239 82 83 (.iaload) := ⟨rfl, rfl⟩
set_option maxRecDepth 20000 in
theorem fLaw_law_83 : w_fe am_c239 83 84 (.invokestatic 173) := ⟨rfl, rfl⟩
set_option maxRecDepth 20000 in
theorem fLaw_law_84 : w_ic am_c239 84 85 .eq 1001 := ⟨rfl, rfl⟩
set_option maxRecDepth 20000 in
theorem fLaw_law_85 : w_fe am_c239 85 86 (.bipush 0) := ⟨rfl, rfl⟩
set_option maxRecDepth 20000 in
theorem fLaw_law_86 : w_fe am_c239 86 87 (.ireturn) := ⟨rfl, rfl⟩
set_option maxRecDepth 20000 in
theorem fLaw_law_87 : w_fe am_c239 87 88 (.aload 1) := ⟨rfl, rfl⟩
set_option maxRecDepth 20000 in
theorem fLaw_law_88 : w_fe am_c239 88 89 (.aload 0) := ⟨rfl, rfl⟩
set_option maxRecDepth 20000 in
theorem fLaw_law_89 : w_fe am_c239 89 90 (.iload 3) := ⟨rfl, rfl⟩
set_option maxRecDepth 20000 in
theorem fLaw_law_90 : w_fe am_c239 90 91 (.bipush 1) := ⟨rfl, rfl⟩
set_option maxRecDepth 20000 in
theorem fLaw_law_91 : w_fe am_c239 91 92 (.iadd) := ⟨rfl, rfl⟩
set_option maxRecDepth 20000 in
theorem fLaw_law_92 : w_fe am_c239 92 93 (.iaload) := ⟨rfl, rfl⟩
set_option maxRecDepth 20000 in
theorem fLaw_law_93 : w_fe am_c239 93 94 (.aload 0) := ⟨rfl, rfl⟩
set_option maxRecDepth 20000 in
theorem fLaw_law_94 : w_fe am_c239 94 95 (.iload 3) := ⟨rfl, rfl⟩
set_option maxRecDepth 20000 in
theorem fLaw_law_95 : w_fe am_c239 95 96 (.bipush 2) := ⟨rfl, rfl⟩
set_option maxRecDepth 20000 in
theorem fLaw_law_96 : w_fe am_c239 96 97 (.iadd) := ⟨rfl, rfl⟩
set_option maxRecDepth 20000 in
theorem fLaw_law_97 : w_fe am_c239 97 98 (.iaload) := ⟨rfl, rfl⟩
set_option maxRecDepth 20000 in
theorem fLaw_law_98 : w_fe am_c239 98 99 (.invokestatic 113) := ⟨rfl, rfl⟩
set_option maxRecDepth 20000 in
theorem fLaw_law_99 : w_fe am_c239 99 100 (.aload 2) := ⟨rfl, rfl⟩
set_option maxRecDepth 20000 in
theorem fLaw_law_100 : w_fe am_c239 100 101 (.aload 0) := ⟨rfl, rfl⟩
set_option maxRecDepth 20000 in
theorem fLaw_law_101 : w_fe am_c239 101 102 (.iload 3) := ⟨rfl, rfl⟩
set_option maxRecDepth 20000 in
theorem fLaw_law_102 : w_fe am_c239 102 103 (.bipush 1) := ⟨rfl, rfl⟩
set_option maxRecDepth 20000 in
theorem fLaw_law_103 : w_fe am_c239 103 104 (.iadd) := ⟨rfl, rfl⟩
set_option maxRecDepth 20000 in
theorem fLaw_law_104 : w_fe am_c239 104 105 (.iaload) := ⟨rfl, rfl⟩
set_option maxRecDepth 20000 in
theorem fLaw_law_105 : w_fe am_c239 105 106 (.aload 0) := ⟨rfl, rfl⟩
set_option maxRecDepth 20000 in
theorem fLaw_law_106 : w_fe am_c239 106 107 (.iload 3) := ⟨rfl, rfl⟩
set_option maxRecDepth 20000 in
theorem fLaw_law_107 : w_fe am_c239 107 108 (.bipush 2) := ⟨rfl, rfl⟩
set_option maxRecDepth 20000 in
theorem fLaw_law_108 : w_fe am_c239 108 109 (.iadd) := ⟨rfl, rfl⟩
set_option maxRecDepth 20000 in
theorem fLaw_law_109 : w_fe am_c239 109 110 (.iaload) := ⟨rfl, rfl⟩
set_option maxRecDepth 20000 in
theorem fLaw_law_110 : w_fe am_c239 110 111 (.invokestatic 176) := ⟨rfl, rfl⟩
set_option maxRecDepth 20000 in
theorem fLaw_law_111 : w_ic am_c239 111 112 .eq 1001 := ⟨rfl, rfl⟩
set_option maxRecDepth 20000 in
theorem fLaw_law_112 : w_fe am_c239 112 113 (.bipush 0) := ⟨rfl, rfl⟩
set_option maxRecDepth 20000 in
theorem fLaw_law_113 : w_fe am_c239 113 114 (.ireturn) := ⟨rfl, rfl⟩
set_option maxRecDepth 20000 in
theorem fLaw_law_114 : w_fe am_c239 114 115 (.aload 1) := ⟨rfl, rfl⟩
set_option maxRecDepth 20000 in
theorem fLaw_law_115 : w_fe am_c239 115 116 (.aload 0) := ⟨rfl, rfl⟩
set_option maxRecDepth 20000 in
theorem fLaw_law_116 : w_fe am_c239 116 117 (.iload 3) := ⟨rfl, rfl⟩
set_option maxRecDepth 20000 in
theorem fLaw_law_117 : w_fe am_c239 117 118 (.bipush 1) := ⟨rfl, rfl⟩
set_option maxRecDepth 20000 in
theorem fLaw_law_118 : w_fe am_c239 118 119 (.iadd) := ⟨rfl, rfl⟩
set_option maxRecDepth 20000 in
theorem fLaw_law_119 : w_fe am_c239 119 120 (.iaload) := ⟨rfl, rfl⟩
set_option maxRecDepth 20000 in
theorem fLaw_law_120 : w_fe am_c239 120 121 (.aload 0) := ⟨rfl, rfl⟩
set_option maxRecDepth 20000 in
theorem fLaw_law_121 : w_fe am_c239 121 122 (.iload 3) := ⟨rfl, rfl⟩
set_option maxRecDepth 20000 in
theorem fLaw_law_122 : w_fe am_c239 122 123 (.bipush 2) := ⟨rfl, rfl⟩
set_option maxRecDepth 20000 in
theorem fLaw_law_123 : w_fe am_c239 123 124 (.iadd) := ⟨rfl, rfl⟩
set_option maxRecDepth 20000 in
theorem fLaw_law_124 : w_fe am_c239 124 125 (.iaload) := ⟨rfl, rfl⟩
set_option maxRecDepth 20000 in
theorem fLaw_law_125 : w_fe am_c239 125 126 (.invokestatic 114) := ⟨rfl, rfl⟩
set_option maxRecDepth 20000 in
theorem fLaw_law_126 : w_fe am_c239 126 127 (.aload 2) := ⟨rfl, rfl⟩
set_option maxRecDepth 20000 in
theorem fLaw_law_127 : w_fe am_c239 127 128 (.aload 0) := ⟨rfl, rfl⟩
set_option maxRecDepth 20000 in
theorem fLaw_law_128 : w_fe am_c239 128 129 (.iload 3) := ⟨rfl, rfl⟩
set_option maxRecDepth 20000 in
theorem fLaw_law_129 : w_fe am_c239 129 130 (.bipush 1) := ⟨rfl, rfl⟩
set_option maxRecDepth 20000 in
theorem fLaw_law_130 : w_fe am_c239 130 131 (.iadd) := ⟨rfl, rfl⟩
set_option maxRecDepth 20000 in
theorem fLaw_law_131 : w_fe am_c239 131 132 (.iaload) := ⟨rfl, rfl⟩
set_option maxRecDepth 20000 in
theorem fLaw_law_132 : w_fe am_c239 132 133 (.aload 0) := ⟨rfl, rfl⟩
set_option maxRecDepth 20000 in
theorem fLaw_law_133 : w_fe am_c239 133 134 (.iload 3) := ⟨rfl, rfl⟩
set_option maxRecDepth 20000 in
theorem fLaw_law_134 : w_fe am_c239 134 135 (.bipush 2) := ⟨rfl, rfl⟩
set_option maxRecDepth 20000 in
theorem fLaw_law_135 : w_fe am_c239 135 136 (.iadd) := ⟨rfl, rfl⟩
set_option maxRecDepth 20000 in
theorem fLaw_law_136 : w_fe am_c239 136 137 (.iaload) := ⟨rfl, rfl⟩
set_option maxRecDepth 20000 in
theorem fLaw_law_137 : w_fe am_c239 137 138 (.invokestatic 180) := ⟨rfl, rfl⟩
set_option maxRecDepth 20000 in
theorem fLaw_law_138 : w_ic am_c239 138 139 .eq 1001 := ⟨rfl, rfl⟩
set_option maxRecDepth 20000 in
theorem fLaw_law_139 : w_fe am_c239 139 140 (.bipush 0) := ⟨rfl, rfl⟩
set_option maxRecDepth 20000 in
theorem fLaw_law_140 : w_fe am_c239 140 141 (.ireturn) := ⟨rfl, rfl⟩
set_option maxRecDepth 20000 in
theorem fLaw_law_141 : w_fe am_c239 141 142 (.aload 1) := ⟨rfl, rfl⟩
set_option maxRecDepth 20000 in
theorem fLaw_law_142 : w_fe am_c239 142 143 (.aload 0) := ⟨rfl, rfl⟩
set_option maxRecDepth 20000 in
theorem fLaw_law_143 : w_fe am_c239 143 144 (.iload 3) := ⟨rfl, rfl⟩
set_option maxRecDepth 20000 in
theorem fLaw_law_144 : w_fe am_c239 144 145 (.bipush 1) := ⟨rfl, rfl⟩
set_option maxRecDepth 20000 in
theorem fLaw_law_145 : w_fe am_c239 145 146 (.iadd) := ⟨rfl, rfl⟩
set_option maxRecDepth 20000 in
theorem fLaw_law_146 : w_fe am_c239 146 147 (.iaload) := ⟨rfl, rfl⟩
set_option maxRecDepth 20000 in
theorem fLaw_law_147 : w_fe am_c239 147 148 (.invokestatic 115) := ⟨rfl, rfl⟩
set_option maxRecDepth 20000 in
theorem fLaw_law_148 : w_fe am_c239 148 149 (.aload 2) := ⟨rfl, rfl⟩
set_option maxRecDepth 20000 in
theorem fLaw_law_149 : w_fe am_c239 149 150 (.aload 0) := ⟨rfl, rfl⟩
set_option maxRecDepth 20000 in
theorem fLaw_law_150 : w_fe am_c239 150 151 (.iload 3) := ⟨rfl, rfl⟩
set_option maxRecDepth 20000 in
theorem fLaw_law_151 : w_fe am_c239 151 152 (.bipush 1) := ⟨rfl, rfl⟩
set_option maxRecDepth 20000 in
theorem fLaw_law_152 : w_fe am_c239 152 153 (.iadd) := ⟨rfl, rfl⟩
set_option maxRecDepth 20000 in
theorem fLaw_law_153 : w_fe am_c239 153 154 (.iaload) := ⟨rfl, rfl⟩
set_option maxRecDepth 20000 in
theorem fLaw_law_154 : w_fe am_c239 154 155 (.invokestatic 182) := ⟨rfl, rfl⟩
set_option maxRecDepth 20000 in
theorem fLaw_law_155 : w_ic am_c239 155 156 .eq 1001 := ⟨rfl, rfl⟩
set_option maxRecDepth 20000 in
theorem fLaw_law_156 : w_fe am_c239 156 157 (.bipush 0) := ⟨rfl, rfl⟩
set_option maxRecDepth 20000 in
theorem fLaw_law_157 : w_fe am_c239 157 158 (.ireturn) := ⟨rfl, rfl⟩
set_option maxRecDepth 20000 in
theorem fLaw_law_158 : w_fe am_c239 158 159 (.aload 1) := ⟨rfl, rfl⟩
set_option maxRecDepth 20000 in
theorem fLaw_law_159 : w_fe am_c239 159 160 (.aload 0) := ⟨rfl, rfl⟩
set_option maxRecDepth 20000 in
theorem fLaw_law_160 : w_fe am_c239 160 161 (.iload 3) := ⟨rfl, rfl⟩
set_option maxRecDepth 20000 in
theorem fLaw_law_161 : w_fe am_c239 161 162 (.bipush 1) := ⟨rfl, rfl⟩
set_option maxRecDepth 20000 in
theorem fLaw_law_162 : w_fe am_c239 162 163 (.iadd) := ⟨rfl, rfl⟩
set_option maxRecDepth 20000 in
theorem fLaw_law_163 : w_fe am_c239 163 164 (.iaload) := ⟨rfl, rfl⟩
set_option maxRecDepth 20000 in
theorem fLaw_law_164 : w_fe am_c239 164 165 (.aload 0) := ⟨rfl, rfl⟩
set_option maxRecDepth 20000 in
theorem fLaw_law_165 : w_fe am_c239 165 166 (.iload 3) := ⟨rfl, rfl⟩
set_option maxRecDepth 20000 in
theorem fLaw_law_166 : w_fe am_c239 166 167 (.bipush 2) := ⟨rfl, rfl⟩
set_option maxRecDepth 20000 in
theorem fLaw_law_167 : w_fe am_c239 167 168 (.iadd) := ⟨rfl, rfl⟩
set_option maxRecDepth 20000 in
theorem fLaw_law_168 : w_fe am_c239 168 169 (.iaload) := ⟨rfl, rfl⟩
set_option maxRecDepth 20000 in
theorem fLaw_law_169 : w_fe am_c239 169 170 (.invokestatic 116) := ⟨rfl, rfl⟩
set_option maxRecDepth 20000 in
theorem fLaw_law_170 : w_fe am_c239 170 171 (.aload 2) := ⟨rfl, rfl⟩
set_option maxRecDepth 20000 in
theorem fLaw_law_171 : w_fe am_c239 171 172 (.aload 0) := ⟨rfl, rfl⟩
set_option maxRecDepth 20000 in
theorem fLaw_law_172 : w_fe am_c239 172 173 (.iload 3) := ⟨rfl, rfl⟩
set_option maxRecDepth 20000 in
theorem fLaw_law_173 : w_fe am_c239 173 174 (.bipush 1) := ⟨rfl, rfl⟩
set_option maxRecDepth 20000 in
theorem fLaw_law_174 : w_fe am_c239 174 175 (.iadd) := ⟨rfl, rfl⟩
set_option maxRecDepth 20000 in
theorem fLaw_law_175 : w_fe am_c239 175 176 (.iaload) := ⟨rfl, rfl⟩
set_option maxRecDepth 20000 in
theorem fLaw_law_176 : w_fe am_c239 176 177 (.aload 0) := ⟨rfl, rfl⟩
set_option maxRecDepth 20000 in
theorem fLaw_law_177 : w_fe am_c239 177 178 (.iload 3) := ⟨rfl, rfl⟩
set_option maxRecDepth 20000 in
theorem fLaw_law_178 : w_fe am_c239 178 179 (.bipush 2) := ⟨rfl, rfl⟩
set_option maxRecDepth 20000 in
theorem fLaw_law_179 : w_fe am_c239 179 180 (.iadd) := ⟨rfl, rfl⟩
set_option maxRecDepth 20000 in
theorem fLaw_law_180 : w_fe am_c239 180 181 (.iaload) := ⟨rfl, rfl⟩
set_option maxRecDepth 20000 in
theorem fLaw_law_181 : w_fe am_c239 181 182 (.invokestatic 184) := ⟨rfl, rfl⟩
set_option maxRecDepth 20000 in
theorem fLaw_law_182 : w_ic am_c239 182 183 .eq 1001 := ⟨rfl, rfl⟩
set_option maxRecDepth 20000 in
theorem fLaw_law_183 : w_fe am_c239 183 184 (.bipush 0) := ⟨rfl, rfl⟩
set_option maxRecDepth 20000 in
theorem fLaw_law_184 : w_fe am_c239 184 185 (.ireturn) := ⟨rfl, rfl⟩
set_option maxRecDepth 20000 in
theorem fLaw_law_185 : w_fe am_c239 185 186 (.aload 1) := ⟨rfl, rfl⟩
set_option maxRecDepth 20000 in
theorem fLaw_law_186 : w_fe am_c239 186 187 (.aload 0) := ⟨rfl, rfl⟩
set_option maxRecDepth 20000 in
theorem fLaw_law_187 : w_fe am_c239 187 188 (.iload 3) := ⟨rfl, rfl⟩
set_option maxRecDepth 20000 in
theorem fLaw_law_188 : w_fe am_c239 188 189 (.bipush 1) := ⟨rfl, rfl⟩
set_option maxRecDepth 20000 in
theorem fLaw_law_189 : w_fe am_c239 189 190 (.iadd) := ⟨rfl, rfl⟩
set_option maxRecDepth 20000 in
theorem fLaw_law_190 : w_fe am_c239 190 191 (.iaload) := ⟨rfl, rfl⟩
set_option maxRecDepth 20000 in
theorem fLaw_law_191 : w_fe am_c239 191 192 (.aload 0) := ⟨rfl, rfl⟩
set_option maxRecDepth 20000 in
theorem fLaw_law_192 : w_fe am_c239 192 193 (.iload 3) := ⟨rfl, rfl⟩
set_option maxRecDepth 20000 in
theorem fLaw_law_193 : w_fe am_c239 193 194 (.bipush 2) := ⟨rfl, rfl⟩
set_option maxRecDepth 20000 in
theorem fLaw_law_194 : w_fe am_c239 194 195 (.iadd) := ⟨rfl, rfl⟩
set_option maxRecDepth 20000 in
theorem fLaw_law_195 : w_fe am_c239 195 196 (.iaload) := ⟨rfl, rfl⟩
set_option maxRecDepth 20000 in
theorem fLaw_law_196 : w_fe am_c239 196 197 (.aload 0) := ⟨rfl, rfl⟩
set_option maxRecDepth 20000 in
theorem fLaw_law_197 : w_fe am_c239 197 198 (.iload 3) := ⟨rfl, rfl⟩
set_option maxRecDepth 20000 in
theorem fLaw_law_198 : w_fe am_c239 198 199 (.bipush 3) := ⟨rfl, rfl⟩
set_option maxRecDepth 20000 in
theorem fLaw_law_199 : w_fe am_c239 199 200 (.iadd) := ⟨rfl, rfl⟩
set_option maxRecDepth 20000 in
theorem fLaw_law_200 : w_fe am_c239 200 201 (.iaload) := ⟨rfl, rfl⟩
set_option maxRecDepth 20000 in
theorem fLaw_law_201 : w_fe am_c239 201 202 (.invokestatic 117) := ⟨rfl, rfl⟩
set_option maxRecDepth 20000 in
theorem fLaw_law_202 : w_fe am_c239 202 203 (.aload 2) := ⟨rfl, rfl⟩
set_option maxRecDepth 20000 in
theorem fLaw_law_203 : w_fe am_c239 203 204 (.aload 0) := ⟨rfl, rfl⟩
set_option maxRecDepth 20000 in
theorem fLaw_law_204 : w_fe am_c239 204 205 (.iload 3) := ⟨rfl, rfl⟩
set_option maxRecDepth 20000 in
theorem fLaw_law_205 : w_fe am_c239 205 206 (.bipush 1) := ⟨rfl, rfl⟩
set_option maxRecDepth 20000 in
theorem fLaw_law_206 : w_fe am_c239 206 207 (.iadd) := ⟨rfl, rfl⟩
set_option maxRecDepth 20000 in
theorem fLaw_law_207 : w_fe am_c239 207 208 (.iaload) := ⟨rfl, rfl⟩
set_option maxRecDepth 20000 in
theorem fLaw_law_208 : w_fe am_c239 208 209 (.aload 0) := ⟨rfl, rfl⟩
set_option maxRecDepth 20000 in
theorem fLaw_law_209 : w_fe am_c239 209 210 (.iload 3) := ⟨rfl, rfl⟩
set_option maxRecDepth 20000 in
theorem fLaw_law_210 : w_fe am_c239 210 211 (.bipush 2) := ⟨rfl, rfl⟩
set_option maxRecDepth 20000 in
theorem fLaw_law_211 : w_fe am_c239 211 212 (.iadd) := ⟨rfl, rfl⟩
set_option maxRecDepth 20000 in
theorem fLaw_law_212 : w_fe am_c239 212 213 (.iaload) := ⟨rfl, rfl⟩
set_option maxRecDepth 20000 in
theorem fLaw_law_213 : w_fe am_c239 213 214 (.aload 0) := ⟨rfl, rfl⟩
set_option maxRecDepth 20000 in
theorem fLaw_law_214 : w_fe am_c239 214 215 (.iload 3) := ⟨rfl, rfl⟩
set_option maxRecDepth 20000 in
theorem fLaw_law_215 : w_fe am_c239 215 216 (.bipush 3) := ⟨rfl, rfl⟩
set_option maxRecDepth 20000 in
theorem fLaw_law_216 : w_fe am_c239 216 217 (.iadd) := ⟨rfl, rfl⟩
set_option maxRecDepth 20000 in
theorem fLaw_law_217 : w_fe am_c239 217 218 (.iaload) := ⟨rfl, rfl⟩
set_option maxRecDepth 20000 in
theorem fLaw_law_218 : w_fe am_c239 218 219 (.invokestatic 186) := ⟨rfl, rfl⟩
set_option maxRecDepth 20000 in
theorem fLaw_law_219 : w_ic am_c239 219 220 .eq 1001 := ⟨rfl, rfl⟩
set_option maxRecDepth 20000 in
theorem fLaw_law_220 : w_fe am_c239 220 221 (.bipush 0) := ⟨rfl, rfl⟩
set_option maxRecDepth 20000 in
theorem fLaw_law_221 : w_fe am_c239 221 222 (.ireturn) := ⟨rfl, rfl⟩
set_option maxRecDepth 20000 in
theorem fLaw_law_222 : w_fe am_c239 222 223 (.aload 1) := ⟨rfl, rfl⟩
set_option maxRecDepth 20000 in
theorem fLaw_law_223 : w_fe am_c239 223 224 (.aload 0) := ⟨rfl, rfl⟩
set_option maxRecDepth 20000 in
theorem fLaw_law_224 : w_fe am_c239 224 225 (.iload 3) := ⟨rfl, rfl⟩
set_option maxRecDepth 20000 in
theorem fLaw_law_225 : w_fe am_c239 225 226 (.bipush 1) := ⟨rfl, rfl⟩
set_option maxRecDepth 20000 in
theorem fLaw_law_226 : w_fe am_c239 226 227 (.iadd) := ⟨rfl, rfl⟩
set_option maxRecDepth 20000 in
theorem fLaw_law_227 : w_fe am_c239 227 228 (.iaload) := ⟨rfl, rfl⟩
set_option maxRecDepth 20000 in
theorem fLaw_law_228 : w_fe am_c239 228 229 (.aload 0) := ⟨rfl, rfl⟩
set_option maxRecDepth 20000 in
theorem fLaw_law_229 : w_fe am_c239 229 230 (.iload 3) := ⟨rfl, rfl⟩
set_option maxRecDepth 20000 in
theorem fLaw_law_230 : w_fe am_c239 230 231 (.bipush 2) := ⟨rfl, rfl⟩
set_option maxRecDepth 20000 in
theorem fLaw_law_231 : w_fe am_c239 231 232 (.iadd) := ⟨rfl, rfl⟩
set_option maxRecDepth 20000 in
theorem fLaw_law_232 : w_fe am_c239 232 233 (.iaload) := ⟨rfl, rfl⟩
set_option maxRecDepth 20000 in
theorem fLaw_law_233 : w_fe am_c239 233 234 (.invokestatic 118) := ⟨rfl, rfl⟩
set_option maxRecDepth 20000 in
theorem fLaw_law_234 : w_fe am_c239 234 235 (.aload 2) := ⟨rfl, rfl⟩
set_option maxRecDepth 20000 in
theorem fLaw_law_235 : w_fe am_c239 235 236 (.aload 0) := ⟨rfl, rfl⟩
set_option maxRecDepth 20000 in
theorem fLaw_law_236 : w_fe am_c239 236 237 (.iload 3) := ⟨rfl, rfl⟩
set_option maxRecDepth 20000 in
theorem fLaw_law_237 : w_fe am_c239 237 238 (.bipush 1) := ⟨rfl, rfl⟩
set_option maxRecDepth 20000 in
theorem fLaw_law_238 : w_fe am_c239 238 239 (.iadd) := ⟨rfl, rfl⟩
set_option maxRecDepth 20000 in
theorem fLaw_law_239 : w_fe am_c239 239 240 (.iaload) := ⟨rfl, rfl⟩
set_option maxRecDepth 20000 in
theorem fLaw_law_240 : w_fe am_c239 240 241 (.aload 0) := ⟨rfl, rfl⟩
set_option maxRecDepth 20000 in
theorem fLaw_law_241 : w_fe am_c239 241 242 (.iload 3) := ⟨rfl, rfl⟩
set_option maxRecDepth 20000 in
theorem fLaw_law_242 : w_fe am_c239 242 243 (.bipush 2) := ⟨rfl, rfl⟩
set_option maxRecDepth 20000 in
theorem fLaw_law_243 : w_fe am_c239 243 244 (.iadd) := ⟨rfl, rfl⟩
set_option maxRecDepth 20000 in
theorem fLaw_law_244 : w_fe am_c239 244 245 (.iaload) := ⟨rfl, rfl⟩
set_option maxRecDepth 20000 in
theorem fLaw_law_245 : w_fe am_c239 245 246 (.invokestatic 187) := ⟨rfl, rfl⟩
set_option maxRecDepth 20000 in
theorem fLaw_law_246 : w_ic am_c239 246 247 .eq 1001 := ⟨rfl, rfl⟩
set_option maxRecDepth 20000 in
theorem fLaw_law_247 : w_fe am_c239 247 248 (.bipush 0) := ⟨rfl, rfl⟩
set_option maxRecDepth 20000 in
theorem fLaw_law_248 : w_fe am_c239 248 249 (.ireturn) := ⟨rfl, rfl⟩
set_option maxRecDepth 20000 in
theorem fLaw_law_249 : w_fe am_c239 249 250 (.aload 1) := ⟨rfl, rfl⟩
set_option maxRecDepth 20000 in
theorem fLaw_law_250 : w_fe am_c239 250 251 (.aload 0) := ⟨rfl, rfl⟩
set_option maxRecDepth 20000 in
theorem fLaw_law_251 : w_fe am_c239 251 252 (.iload 3) := ⟨rfl, rfl⟩
set_option maxRecDepth 20000 in
theorem fLaw_law_252 : w_fe am_c239 252 253 (.bipush 1) := ⟨rfl, rfl⟩
set_option maxRecDepth 20000 in
theorem fLaw_law_253 : w_fe am_c239 253 254 (.iadd) := ⟨rfl, rfl⟩
set_option maxRecDepth 20000 in
theorem fLaw_law_254 : w_fe am_c239 254 255 (.iaload) := ⟨rfl, rfl⟩
set_option maxRecDepth 20000 in
theorem fLaw_law_255 : w_fe am_c239 255 256 (.aload 0) := ⟨rfl, rfl⟩
set_option maxRecDepth 20000 in
theorem fLaw_law_256 : w_fe am_c239 256 257 (.iload 3) := ⟨rfl, rfl⟩
set_option maxRecDepth 20000 in
theorem fLaw_law_257 : w_fe am_c239 257 258 (.bipush 2) := ⟨rfl, rfl⟩
set_option maxRecDepth 20000 in
theorem fLaw_law_258 : w_fe am_c239 258 259 (.iadd) := ⟨rfl, rfl⟩
set_option maxRecDepth 20000 in
theorem fLaw_law_259 : w_fe am_c239 259 260 (.iaload) := ⟨rfl, rfl⟩
set_option maxRecDepth 20000 in
theorem fLaw_law_260 : w_fe am_c239 260 261 (.invokestatic 119) := ⟨rfl, rfl⟩
set_option maxRecDepth 20000 in
theorem fLaw_law_261 : w_fe am_c239 261 262 (.aload 2) := ⟨rfl, rfl⟩
set_option maxRecDepth 20000 in
theorem fLaw_law_262 : w_fe am_c239 262 263 (.aload 0) := ⟨rfl, rfl⟩
set_option maxRecDepth 20000 in
theorem fLaw_law_263 : w_fe am_c239 263 264 (.iload 3) := ⟨rfl, rfl⟩
set_option maxRecDepth 20000 in
theorem fLaw_law_264 : w_fe am_c239 264 265 (.bipush 1) := ⟨rfl, rfl⟩
set_option maxRecDepth 20000 in
theorem fLaw_law_265 : w_fe am_c239 265 266 (.iadd) := ⟨rfl, rfl⟩
set_option maxRecDepth 20000 in
theorem fLaw_law_266 : w_fe am_c239 266 267 (.iaload) := ⟨rfl, rfl⟩
set_option maxRecDepth 20000 in
theorem fLaw_law_267 : w_fe am_c239 267 268 (.aload 0) := ⟨rfl, rfl⟩
set_option maxRecDepth 20000 in
theorem fLaw_law_268 : w_fe am_c239 268 269 (.iload 3) := ⟨rfl, rfl⟩
set_option maxRecDepth 20000 in
theorem fLaw_law_269 : w_fe am_c239 269 270 (.bipush 2) := ⟨rfl, rfl⟩
set_option maxRecDepth 20000 in
theorem fLaw_law_270 : w_fe am_c239 270 271 (.iadd) := ⟨rfl, rfl⟩
set_option maxRecDepth 20000 in
theorem fLaw_law_271 : w_fe am_c239 271 272 (.iaload) := ⟨rfl, rfl⟩
set_option maxRecDepth 20000 in
theorem fLaw_law_272 : w_fe am_c239 272 273 (.invokestatic 188) := ⟨rfl, rfl⟩
set_option maxRecDepth 20000 in
theorem fLaw_law_273 : w_ic am_c239 273 274 .eq 1001 := ⟨rfl, rfl⟩
set_option maxRecDepth 20000 in
theorem fLaw_law_274 : w_fe am_c239 274 275 (.bipush 0) := ⟨rfl, rfl⟩
set_option maxRecDepth 20000 in
theorem fLaw_law_275 : w_fe am_c239 275 276 (.ireturn) := ⟨rfl, rfl⟩
set_option maxRecDepth 20000 in
theorem fLaw_law_276 : w_fe am_c239 276 277 (.aload 1) := ⟨rfl, rfl⟩
set_option maxRecDepth 20000 in
theorem fLaw_law_277 : w_fe am_c239 277 278 (.aload 0) := ⟨rfl, rfl⟩
set_option maxRecDepth 20000 in
theorem fLaw_law_278 : w_fe am_c239 278 279 (.iload 3) := ⟨rfl, rfl⟩
set_option maxRecDepth 20000 in
theorem fLaw_law_279 : w_fe am_c239 279 280 (.bipush 1) := ⟨rfl, rfl⟩
set_option maxRecDepth 20000 in
theorem fLaw_law_280 : w_fe am_c239 280 281 (.iadd) := ⟨rfl, rfl⟩
set_option maxRecDepth 20000 in
theorem fLaw_law_281 : w_fe am_c239 281 282 (.iaload) := ⟨rfl, rfl⟩
set_option maxRecDepth 20000 in
theorem fLaw_law_282 : w_fe am_c239 282 283 (.aload 0) := ⟨rfl, rfl⟩
set_option maxRecDepth 20000 in
theorem fLaw_law_283 : w_fe am_c239 283 284 (.iload 3) := ⟨rfl, rfl⟩
set_option maxRecDepth 20000 in
theorem fLaw_law_284 : w_fe am_c239 284 285 (.bipush 2) := ⟨rfl, rfl⟩
set_option maxRecDepth 20000 in
theorem fLaw_law_285 : w_fe am_c239 285 286 (.iadd) := ⟨rfl, rfl⟩
set_option maxRecDepth 20000 in
theorem fLaw_law_286 : w_fe am_c239 286 287 (.iaload) := ⟨rfl, rfl⟩
set_option maxRecDepth 20000 in
theorem fLaw_law_287 : w_if am_c239 287 288 .eq 290 := ⟨rfl, rfl⟩
set_option maxRecDepth 20000 in
theorem fLaw_law_288 : w_fe am_c239 288 289 (.bipush 1) := ⟨rfl, rfl⟩
set_option maxRecDepth 20000 in
theorem fLaw_law_289 : w_gt am_c239 289 291 := rfl
set_option maxRecDepth 20000 in
theorem fLaw_law_290 : w_fe am_c239 290 291 (.bipush 0) := ⟨rfl, rfl⟩
set_option maxRecDepth 20000 in
theorem fLaw_law_291 : w_fe am_c239 291 292 (.invokestatic 120) := ⟨rfl, rfl⟩
set_option maxRecDepth 20000 in
theorem fLaw_law_292 : w_fe am_c239 292 293 (.aload 2) := ⟨rfl, rfl⟩
set_option maxRecDepth 20000 in
theorem fLaw_law_293 : w_fe am_c239 293 294 (.aload 0) := ⟨rfl, rfl⟩
set_option maxRecDepth 20000 in
theorem fLaw_law_294 : w_fe am_c239 294 295 (.iload 3) := ⟨rfl, rfl⟩
set_option maxRecDepth 20000 in
theorem fLaw_law_295 : w_fe am_c239 295 296 (.bipush 1) := ⟨rfl, rfl⟩
set_option maxRecDepth 20000 in
theorem fLaw_law_296 : w_fe am_c239 296 297 (.iadd) := ⟨rfl, rfl⟩
set_option maxRecDepth 20000 in
theorem fLaw_law_297 : w_fe am_c239 297 298 (.iaload) := ⟨rfl, rfl⟩
set_option maxRecDepth 20000 in
theorem fLaw_law_298 : w_fe am_c239 298 299 (.aload 0) := ⟨rfl, rfl⟩
set_option maxRecDepth 20000 in
theorem fLaw_law_299 : w_fe am_c239 299 300 (.iload 3) := ⟨rfl, rfl⟩
set_option maxRecDepth 20000 in
theorem fLaw_law_300 : w_fe am_c239 300 301 (.bipush 2) := ⟨rfl, rfl⟩
set_option maxRecDepth 20000 in
theorem fLaw_law_301 : w_fe am_c239 301 302 (.iadd) := ⟨rfl, rfl⟩
set_option maxRecDepth 20000 in
theorem fLaw_law_302 : w_fe am_c239 302 303 (.iaload) := ⟨rfl, rfl⟩
set_option maxRecDepth 20000 in
theorem fLaw_law_303 : w_if am_c239 303 304 .eq 306 := ⟨rfl, rfl⟩
set_option maxRecDepth 20000 in
theorem fLaw_law_304 : w_fe am_c239 304 305 (.bipush 1) := ⟨rfl, rfl⟩
set_option maxRecDepth 20000 in
theorem fLaw_law_305 : w_gt am_c239 305 307 := rfl
set_option maxRecDepth 20000 in
theorem fLaw_law_306 : w_fe am_c239 306 307 (.bipush 0) := ⟨rfl, rfl⟩
set_option maxRecDepth 20000 in
theorem fLaw_law_307 : w_fe am_c239 307 308 (.invokestatic 189) := ⟨rfl, rfl⟩
set_option maxRecDepth 20000 in
theorem fLaw_law_308 : w_ic am_c239 308 309 .eq 1001 := ⟨rfl, rfl⟩
set_option maxRecDepth 20000 in
theorem fLaw_law_309 : w_fe am_c239 309 310 (.bipush 0) := ⟨rfl, rfl⟩
set_option maxRecDepth 20000 in
theorem fLaw_law_310 : w_fe am_c239 310 311 (.ireturn) := ⟨rfl, rfl⟩
set_option maxRecDepth 20000 in
theorem fLaw_law_311 : w_fe am_c239 311 312 (.aload 1) := ⟨rfl, rfl⟩
set_option maxRecDepth 20000 in
theorem fLaw_law_312 : w_fe am_c239 312 313 (.aload 0) := ⟨rfl, rfl⟩
set_option maxRecDepth 20000 in
theorem fLaw_law_313 : w_fe am_c239 313 314 (.iload 3) := ⟨rfl, rfl⟩
set_option maxRecDepth 20000 in
theorem fLaw_law_314 : w_fe am_c239 314 315 (.bipush 1) := ⟨rfl, rfl⟩
set_option maxRecDepth 20000 in
theorem fLaw_law_315 : w_fe am_c239 315 316 (.iadd) := ⟨rfl, rfl⟩
set_option maxRecDepth 20000 in
theorem fLaw_law_316 : w_fe am_c239 316 317 (.iaload) := ⟨rfl, rfl⟩
set_option maxRecDepth 20000 in
theorem fLaw_law_317 : w_fe am_c239 317 318 (.aload 0) := ⟨rfl, rfl⟩
set_option maxRecDepth 20000 in
theorem fLaw_law_318 : w_fe am_c239 318 319 (.iload 3) := ⟨rfl, rfl⟩
set_option maxRecDepth 20000 in
theorem fLaw_law_319 : w_fe am_c239 319 320 (.bipush 2) := ⟨rfl, rfl⟩
set_option maxRecDepth 20000 in
theorem fLaw_law_320 : w_fe am_c239 320 321 (.iadd) := ⟨rfl, rfl⟩
set_option maxRecDepth 20000 in
theorem fLaw_law_321 : w_fe am_c239 321 322 (.iaload) := ⟨rfl, rfl⟩
set_option maxRecDepth 20000 in
theorem fLaw_law_322 : w_if am_c239 322 323 .eq 325 := ⟨rfl, rfl⟩
set_option maxRecDepth 20000 in
theorem fLaw_law_323 : w_fe am_c239 323 324 (.bipush 1) := ⟨rfl, rfl⟩
set_option maxRecDepth 20000 in
theorem fLaw_law_324 : w_gt am_c239 324 326 := rfl
set_option maxRecDepth 20000 in
theorem fLaw_law_325 : w_fe am_c239 325 326 (.bipush 0) := ⟨rfl, rfl⟩
set_option maxRecDepth 20000 in
theorem fLaw_law_326 : w_fe am_c239 326 327 (.invokestatic 121) := ⟨rfl, rfl⟩
set_option maxRecDepth 20000 in
theorem fLaw_law_327 : w_fe am_c239 327 328 (.aload 2) := ⟨rfl, rfl⟩
set_option maxRecDepth 20000 in
theorem fLaw_law_328 : w_fe am_c239 328 329 (.aload 0) := ⟨rfl, rfl⟩
set_option maxRecDepth 20000 in
theorem fLaw_law_329 : w_fe am_c239 329 330 (.iload 3) := ⟨rfl, rfl⟩
set_option maxRecDepth 20000 in
theorem fLaw_law_330 : w_fe am_c239 330 331 (.bipush 1) := ⟨rfl, rfl⟩
set_option maxRecDepth 20000 in
theorem fLaw_law_331 : w_fe am_c239 331 332 (.iadd) := ⟨rfl, rfl⟩
set_option maxRecDepth 20000 in
theorem fLaw_law_332 : w_fe am_c239 332 333 (.iaload) := ⟨rfl, rfl⟩
set_option maxRecDepth 20000 in
theorem fLaw_law_333 : w_fe am_c239 333 334 (.aload 0) := ⟨rfl, rfl⟩
set_option maxRecDepth 20000 in
theorem fLaw_law_334 : w_fe am_c239 334 335 (.iload 3) := ⟨rfl, rfl⟩
set_option maxRecDepth 20000 in
theorem fLaw_law_335 : w_fe am_c239 335 336 (.bipush 2) := ⟨rfl, rfl⟩
set_option maxRecDepth 20000 in
theorem fLaw_law_336 : w_fe am_c239 336 337 (.iadd) := ⟨rfl, rfl⟩
set_option maxRecDepth 20000 in
theorem fLaw_law_337 : w_fe am_c239 337 338 (.iaload) := ⟨rfl, rfl⟩
set_option maxRecDepth 20000 in
theorem fLaw_law_338 : w_if am_c239 338 339 .eq 341 := ⟨rfl, rfl⟩
set_option maxRecDepth 20000 in
theorem fLaw_law_339 : w_fe am_c239 339 340 (.bipush 1) := ⟨rfl, rfl⟩
set_option maxRecDepth 20000 in
theorem fLaw_law_340 : w_gt am_c239 340 342 := rfl
set_option maxRecDepth 20000 in
theorem fLaw_law_341 : w_fe am_c239 341 342 (.bipush 0) := ⟨rfl, rfl⟩
set_option maxRecDepth 20000 in
theorem fLaw_law_342 : w_fe am_c239 342 343 (.invokestatic 190) := ⟨rfl, rfl⟩
set_option maxRecDepth 20000 in
theorem fLaw_law_343 : w_ic am_c239 343 344 .eq 1001 := ⟨rfl, rfl⟩
set_option maxRecDepth 20000 in
theorem fLaw_law_344 : w_fe am_c239 344 345 (.bipush 0) := ⟨rfl, rfl⟩
set_option maxRecDepth 20000 in
theorem fLaw_law_345 : w_fe am_c239 345 346 (.ireturn) := ⟨rfl, rfl⟩
set_option maxRecDepth 20000 in
theorem fLaw_law_346 : w_fe am_c239 346 347 (.aload 1) := ⟨rfl, rfl⟩
set_option maxRecDepth 20000 in
theorem fLaw_law_347 : w_fe am_c239 347 348 (.aload 0) := ⟨rfl, rfl⟩
set_option maxRecDepth 20000 in
theorem fLaw_law_348 : w_fe am_c239 348 349 (.iload 3) := ⟨rfl, rfl⟩
set_option maxRecDepth 20000 in
theorem fLaw_law_349 : w_fe am_c239 349 350 (.bipush 1) := ⟨rfl, rfl⟩
set_option maxRecDepth 20000 in
theorem fLaw_law_350 : w_fe am_c239 350 351 (.iadd) := ⟨rfl, rfl⟩
set_option maxRecDepth 20000 in
theorem fLaw_law_351 : w_fe am_c239 351 352 (.iaload) := ⟨rfl, rfl⟩
set_option maxRecDepth 20000 in
theorem fLaw_law_352 : w_fe am_c239 352 353 (.aload 0) := ⟨rfl, rfl⟩
set_option maxRecDepth 20000 in
theorem fLaw_law_353 : w_fe am_c239 353 354 (.iload 3) := ⟨rfl, rfl⟩
set_option maxRecDepth 20000 in
theorem fLaw_law_354 : w_fe am_c239 354 355 (.bipush 2) := ⟨rfl, rfl⟩
set_option maxRecDepth 20000 in
theorem fLaw_law_355 : w_fe am_c239 355 356 (.iadd) := ⟨rfl, rfl⟩
set_option maxRecDepth 20000 in
theorem fLaw_law_356 : w_fe am_c239 356 357 (.iaload) := ⟨rfl, rfl⟩
set_option maxRecDepth 20000 in
theorem fLaw_law_357 : w_fe am_c239 357 358 (.invokestatic 122) := ⟨rfl, rfl⟩
set_option maxRecDepth 20000 in
theorem fLaw_law_358 : w_fe am_c239 358 359 (.aload 2) := ⟨rfl, rfl⟩
set_option maxRecDepth 20000 in
theorem fLaw_law_359 : w_fe am_c239 359 360 (.aload 0) := ⟨rfl, rfl⟩
set_option maxRecDepth 20000 in
theorem fLaw_law_360 : w_fe am_c239 360 361 (.iload 3) := ⟨rfl, rfl⟩
set_option maxRecDepth 20000 in
theorem fLaw_law_361 : w_fe am_c239 361 362 (.bipush 1) := ⟨rfl, rfl⟩
set_option maxRecDepth 20000 in
theorem fLaw_law_362 : w_fe am_c239 362 363 (.iadd) := ⟨rfl, rfl⟩
set_option maxRecDepth 20000 in
theorem fLaw_law_363 : w_fe am_c239 363 364 (.iaload) := ⟨rfl, rfl⟩
set_option maxRecDepth 20000 in
theorem fLaw_law_364 : w_fe am_c239 364 365 (.aload 0) := ⟨rfl, rfl⟩
set_option maxRecDepth 20000 in
theorem fLaw_law_365 : w_fe am_c239 365 366 (.iload 3) := ⟨rfl, rfl⟩
set_option maxRecDepth 20000 in
theorem fLaw_law_366 : w_fe am_c239 366 367 (.bipush 2) := ⟨rfl, rfl⟩
set_option maxRecDepth 20000 in
theorem fLaw_law_367 : w_fe am_c239 367 368 (.iadd) := ⟨rfl, rfl⟩
set_option maxRecDepth 20000 in
theorem fLaw_law_368 : w_fe am_c239 368 369 (.iaload) := ⟨rfl, rfl⟩
set_option maxRecDepth 20000 in
theorem fLaw_law_369 : w_fe am_c239 369 370 (.invokestatic 191) := ⟨rfl, rfl⟩
set_option maxRecDepth 20000 in
theorem fLaw_law_370 : w_ic am_c239 370 371 .eq 1001 := ⟨rfl, rfl⟩
set_option maxRecDepth 20000 in
theorem fLaw_law_371 : w_fe am_c239 371 372 (.bipush 0) := ⟨rfl, rfl⟩
set_option maxRecDepth 20000 in
theorem fLaw_law_372 : w_fe am_c239 372 373 (.ireturn) := ⟨rfl, rfl⟩
set_option maxRecDepth 20000 in
theorem fLaw_law_373 : w_fe am_c239 373 374 (.aload 1) := ⟨rfl, rfl⟩
set_option maxRecDepth 20000 in
theorem fLaw_law_374 : w_fe am_c239 374 375 (.aload 0) := ⟨rfl, rfl⟩
set_option maxRecDepth 20000 in
theorem fLaw_law_375 : w_fe am_c239 375 376 (.iload 3) := ⟨rfl, rfl⟩
set_option maxRecDepth 20000 in
theorem fLaw_law_376 : w_fe am_c239 376 377 (.bipush 1) := ⟨rfl, rfl⟩
set_option maxRecDepth 20000 in
theorem fLaw_law_377 : w_fe am_c239 377 378 (.iadd) := ⟨rfl, rfl⟩
set_option maxRecDepth 20000 in
theorem fLaw_law_378 : w_fe am_c239 378 379 (.iaload) := ⟨rfl, rfl⟩
set_option maxRecDepth 20000 in
theorem fLaw_law_379 : w_fe am_c239 379 380 (.aload 0) := ⟨rfl, rfl⟩
set_option maxRecDepth 20000 in
theorem fLaw_law_380 : w_fe am_c239 380 381 (.iload 3) := ⟨rfl, rfl⟩
set_option maxRecDepth 20000 in
theorem fLaw_law_381 : w_fe am_c239 381 382 (.bipush 2) := ⟨rfl, rfl⟩
set_option maxRecDepth 20000 in
theorem fLaw_law_382 : w_fe am_c239 382 383 (.iadd) := ⟨rfl, rfl⟩
set_option maxRecDepth 20000 in
theorem fLaw_law_383 : w_fe am_c239 383 384 (.iaload) := ⟨rfl, rfl⟩
set_option maxRecDepth 20000 in
theorem fLaw_law_384 : w_fe am_c239 384 385 (.invokestatic 123) := ⟨rfl, rfl⟩
set_option maxRecDepth 20000 in
theorem fLaw_law_385 : w_fe am_c239 385 386 (.aload 2) := ⟨rfl, rfl⟩
set_option maxRecDepth 20000 in
theorem fLaw_law_386 : w_fe am_c239 386 387 (.aload 0) := ⟨rfl, rfl⟩
set_option maxRecDepth 20000 in
theorem fLaw_law_387 : w_fe am_c239 387 388 (.iload 3) := ⟨rfl, rfl⟩
set_option maxRecDepth 20000 in
theorem fLaw_law_388 : w_fe am_c239 388 389 (.bipush 1) := ⟨rfl, rfl⟩
set_option maxRecDepth 20000 in
theorem fLaw_law_389 : w_fe am_c239 389 390 (.iadd) := ⟨rfl, rfl⟩
set_option maxRecDepth 20000 in
theorem fLaw_law_390 : w_fe am_c239 390 391 (.iaload) := ⟨rfl, rfl⟩
set_option maxRecDepth 20000 in
theorem fLaw_law_391 : w_fe am_c239 391 392 (.aload 0) := ⟨rfl, rfl⟩
set_option maxRecDepth 20000 in
theorem fLaw_law_392 : w_fe am_c239 392 393 (.iload 3) := ⟨rfl, rfl⟩
set_option maxRecDepth 20000 in
theorem fLaw_law_393 : w_fe am_c239 393 394 (.bipush 2) := ⟨rfl, rfl⟩
set_option maxRecDepth 20000 in
theorem fLaw_law_394 : w_fe am_c239 394 395 (.iadd) := ⟨rfl, rfl⟩
set_option maxRecDepth 20000 in
theorem fLaw_law_395 : w_fe am_c239 395 396 (.iaload) := ⟨rfl, rfl⟩
set_option maxRecDepth 20000 in
theorem fLaw_law_396 : w_fe am_c239 396 397 (.invokestatic 192) := ⟨rfl, rfl⟩
set_option maxRecDepth 20000 in
theorem fLaw_law_397 : w_ic am_c239 397 398 .eq 1001 := ⟨rfl, rfl⟩
set_option maxRecDepth 20000 in
theorem fLaw_law_398 : w_fe am_c239 398 399 (.bipush 0) := ⟨rfl, rfl⟩
set_option maxRecDepth 20000 in
theorem fLaw_law_399 : w_fe am_c239 399 400 (.ireturn) := ⟨rfl, rfl⟩
set_option maxRecDepth 20000 in
theorem fLaw_law_400 : w_fe am_c239 400 401 (.aload 1) := ⟨rfl, rfl⟩
set_option maxRecDepth 20000 in
theorem fLaw_law_401 : w_fe am_c239 401 402 (.aload 0) := ⟨rfl, rfl⟩
set_option maxRecDepth 20000 in
theorem fLaw_law_402 : w_fe am_c239 402 403 (.iload 3) := ⟨rfl, rfl⟩
set_option maxRecDepth 20000 in
theorem fLaw_law_403 : w_fe am_c239 403 404 (.bipush 1) := ⟨rfl, rfl⟩
set_option maxRecDepth 20000 in
theorem fLaw_law_404 : w_fe am_c239 404 405 (.iadd) := ⟨rfl, rfl⟩
set_option maxRecDepth 20000 in
theorem fLaw_law_405 : w_fe am_c239 405 406 (.iaload) := ⟨rfl, rfl⟩
set_option maxRecDepth 20000 in
theorem fLaw_law_406 : w_fe am_c239 406 407 (.invokestatic 124) := ⟨rfl, rfl⟩
set_option maxRecDepth 20000 in
theorem fLaw_law_407 : w_fe am_c239 407 408 (.aload 2) := ⟨rfl, rfl⟩
set_option maxRecDepth 20000 in
theorem fLaw_law_408 : w_fe am_c239 408 409 (.aload 0) := ⟨rfl, rfl⟩
set_option maxRecDepth 20000 in
theorem fLaw_law_409 : w_fe am_c239 409 410 (.iload 3) := ⟨rfl, rfl⟩
set_option maxRecDepth 20000 in
theorem fLaw_law_410 : w_fe am_c239 410 411 (.bipush 1) := ⟨rfl, rfl⟩
set_option maxRecDepth 20000 in
theorem fLaw_law_411 : w_fe am_c239 411 412 (.iadd) := ⟨rfl, rfl⟩
set_option maxRecDepth 20000 in
theorem fLaw_law_412 : w_fe am_c239 412 413 (.iaload) := ⟨rfl, rfl⟩
set_option maxRecDepth 20000 in
theorem fLaw_law_413 : w_fe am_c239 413 414 (.invokestatic 193) := ⟨rfl, rfl⟩
set_option maxRecDepth 20000 in
theorem fLaw_law_414 : w_ic am_c239 414 415 .eq 1001 := ⟨rfl, rfl⟩
set_option maxRecDepth 20000 in
theorem fLaw_law_415 : w_fe am_c239 415 416 (.bipush 0) := ⟨rfl, rfl⟩
set_option maxRecDepth 20000 in
theorem fLaw_law_416 : w_fe am_c239 416 417 (.ireturn) := ⟨rfl, rfl⟩
set_option maxRecDepth 20000 in
theorem fLaw_law_417 : w_fe am_c239 417 418 (.aload 1) := ⟨rfl, rfl⟩
set_option maxRecDepth 20000 in
theorem fLaw_law_418 : w_fe am_c239 418 419 (.aload 0) := ⟨rfl, rfl⟩
set_option maxRecDepth 20000 in
theorem fLaw_law_419 : w_fe am_c239 419 420 (.iload 3) := ⟨rfl, rfl⟩
set_option maxRecDepth 20000 in
theorem fLaw_law_420 : w_fe am_c239 420 421 (.bipush 1) := ⟨rfl, rfl⟩
set_option maxRecDepth 20000 in
theorem fLaw_law_421 : w_fe am_c239 421 422 (.iadd) := ⟨rfl, rfl⟩
set_option maxRecDepth 20000 in
theorem fLaw_law_422 : w_fe am_c239 422 423 (.iaload) := ⟨rfl, rfl⟩
set_option maxRecDepth 20000 in
theorem fLaw_law_423 : w_fe am_c239 423 424 (.aload 0) := ⟨rfl, rfl⟩
set_option maxRecDepth 20000 in
theorem fLaw_law_424 : w_fe am_c239 424 425 (.iload 3) := ⟨rfl, rfl⟩
set_option maxRecDepth 20000 in
theorem fLaw_law_425 : w_fe am_c239 425 426 (.bipush 2) := ⟨rfl, rfl⟩
set_option maxRecDepth 20000 in
theorem fLaw_law_426 : w_fe am_c239 426 427 (.iadd) := ⟨rfl, rfl⟩
set_option maxRecDepth 20000 in
theorem fLaw_law_427 : w_fe am_c239 427 428 (.iaload) := ⟨rfl, rfl⟩
set_option maxRecDepth 20000 in
theorem fLaw_law_428 : w_fe am_c239 428 429 (.aload 0) := ⟨rfl, rfl⟩
set_option maxRecDepth 20000 in
theorem fLaw_law_429 : w_fe am_c239 429 430 (.iload 3) := ⟨rfl, rfl⟩
set_option maxRecDepth 20000 in
theorem fLaw_law_430 : w_fe am_c239 430 431 (.bipush 3) := ⟨rfl, rfl⟩
set_option maxRecDepth 20000 in
theorem fLaw_law_431 : w_fe am_c239 431 432 (.iadd) := ⟨rfl, rfl⟩
set_option maxRecDepth 20000 in
theorem fLaw_law_432 : w_fe am_c239 432 433 (.iaload) := ⟨rfl, rfl⟩
set_option maxRecDepth 20000 in
theorem fLaw_law_433 : w_fe am_c239 433 434 (.invokestatic 125) := ⟨rfl, rfl⟩
set_option maxRecDepth 20000 in
theorem fLaw_law_434 : w_fe am_c239 434 435 (.aload 2) := ⟨rfl, rfl⟩
set_option maxRecDepth 20000 in
theorem fLaw_law_435 : w_fe am_c239 435 436 (.aload 0) := ⟨rfl, rfl⟩
set_option maxRecDepth 20000 in
theorem fLaw_law_436 : w_fe am_c239 436 437 (.iload 3) := ⟨rfl, rfl⟩
set_option maxRecDepth 20000 in
theorem fLaw_law_437 : w_fe am_c239 437 438 (.bipush 1) := ⟨rfl, rfl⟩
set_option maxRecDepth 20000 in
theorem fLaw_law_438 : w_fe am_c239 438 439 (.iadd) := ⟨rfl, rfl⟩
set_option maxRecDepth 20000 in
theorem fLaw_law_439 : w_fe am_c239 439 440 (.iaload) := ⟨rfl, rfl⟩
set_option maxRecDepth 20000 in
theorem fLaw_law_440 : w_fe am_c239 440 441 (.aload 0) := ⟨rfl, rfl⟩
set_option maxRecDepth 20000 in
theorem fLaw_law_441 : w_fe am_c239 441 442 (.iload 3) := ⟨rfl, rfl⟩
set_option maxRecDepth 20000 in
theorem fLaw_law_442 : w_fe am_c239 442 443 (.bipush 2) := ⟨rfl, rfl⟩
set_option maxRecDepth 20000 in
theorem fLaw_law_443 : w_fe am_c239 443 444 (.iadd) := ⟨rfl, rfl⟩
set_option maxRecDepth 20000 in
theorem fLaw_law_444 : w_fe am_c239 444 445 (.iaload) := ⟨rfl, rfl⟩
set_option maxRecDepth 20000 in
theorem fLaw_law_445 : w_fe am_c239 445 446 (.aload 0) := ⟨rfl, rfl⟩
set_option maxRecDepth 20000 in
theorem fLaw_law_446 : w_fe am_c239 446 447 (.iload 3) := ⟨rfl, rfl⟩
set_option maxRecDepth 20000 in
theorem fLaw_law_447 : w_fe am_c239 447 448 (.bipush 3) := ⟨rfl, rfl⟩
set_option maxRecDepth 20000 in
theorem fLaw_law_448 : w_fe am_c239 448 449 (.iadd) := ⟨rfl, rfl⟩
set_option maxRecDepth 20000 in
theorem fLaw_law_449 : w_fe am_c239 449 450 (.iaload) := ⟨rfl, rfl⟩
set_option maxRecDepth 20000 in
theorem fLaw_law_450 : w_fe am_c239 450 451 (.invokestatic 201) := ⟨rfl, rfl⟩
set_option maxRecDepth 20000 in
theorem fLaw_law_451 : w_ic am_c239 451 452 .eq 1001 := ⟨rfl, rfl⟩
set_option maxRecDepth 20000 in
theorem fLaw_law_452 : w_fe am_c239 452 453 (.bipush 0) := ⟨rfl, rfl⟩
set_option maxRecDepth 20000 in
theorem fLaw_law_453 : w_fe am_c239 453 454 (.ireturn) := ⟨rfl, rfl⟩
set_option maxRecDepth 20000 in
theorem fLaw_law_454 : w_fe am_c239 454 455 (.aload 1) := ⟨rfl, rfl⟩
set_option maxRecDepth 20000 in
theorem fLaw_law_455 : w_fe am_c239 455 456 (.aload 0) := ⟨rfl, rfl⟩
set_option maxRecDepth 20000 in
theorem fLaw_law_456 : w_fe am_c239 456 457 (.iload 3) := ⟨rfl, rfl⟩
set_option maxRecDepth 20000 in
theorem fLaw_law_457 : w_fe am_c239 457 458 (.bipush 1) := ⟨rfl, rfl⟩
set_option maxRecDepth 20000 in
theorem fLaw_law_458 : w_fe am_c239 458 459 (.iadd) := ⟨rfl, rfl⟩
set_option maxRecDepth 20000 in
theorem fLaw_law_459 : w_fe am_c239 459 460 (.iaload) := ⟨rfl, rfl⟩
set_option maxRecDepth 20000 in
theorem fLaw_law_460 : w_fe am_c239 460 461 (.aload 0) := ⟨rfl, rfl⟩
set_option maxRecDepth 20000 in
theorem fLaw_law_461 : w_fe am_c239 461 462 (.iload 3) := ⟨rfl, rfl⟩
set_option maxRecDepth 20000 in
theorem fLaw_law_462 : w_fe am_c239 462 463 (.bipush 2) := ⟨rfl, rfl⟩
set_option maxRecDepth 20000 in
theorem fLaw_law_463 : w_fe am_c239 463 464 (.iadd) := ⟨rfl, rfl⟩
set_option maxRecDepth 20000 in
theorem fLaw_law_464 : w_fe am_c239 464 465 (.iaload) := ⟨rfl, rfl⟩
set_option maxRecDepth 20000 in
theorem fLaw_law_465 : w_fe am_c239 465 466 (.invokestatic 126) := ⟨rfl, rfl⟩
set_option maxRecDepth 20000 in
theorem fLaw_law_466 : w_fe am_c239 466 467 (.aload 2) := ⟨rfl, rfl⟩
set_option maxRecDepth 20000 in
theorem fLaw_law_467 : w_fe am_c239 467 468 (.aload 0) := ⟨rfl, rfl⟩
set_option maxRecDepth 20000 in
theorem fLaw_law_468 : w_fe am_c239 468 469 (.iload 3) := ⟨rfl, rfl⟩
set_option maxRecDepth 20000 in
theorem fLaw_law_469 : w_fe am_c239 469 470 (.bipush 1) := ⟨rfl, rfl⟩
set_option maxRecDepth 20000 in
theorem fLaw_law_470 : w_fe am_c239 470 471 (.iadd) := ⟨rfl, rfl⟩
set_option maxRecDepth 20000 in
theorem fLaw_law_471 : w_fe am_c239 471 472 (.iaload) := ⟨rfl, rfl⟩
set_option maxRecDepth 20000 in
theorem fLaw_law_472 : w_fe am_c239 472 473 (.aload 0) := ⟨rfl, rfl⟩
set_option maxRecDepth 20000 in
theorem fLaw_law_473 : w_fe am_c239 473 474 (.iload 3) := ⟨rfl, rfl⟩
set_option maxRecDepth 20000 in
theorem fLaw_law_474 : w_fe am_c239 474 475 (.bipush 2) := ⟨rfl, rfl⟩
set_option maxRecDepth 20000 in
theorem fLaw_law_475 : w_fe am_c239 475 476 (.iadd) := ⟨rfl, rfl⟩
set_option maxRecDepth 20000 in
theorem fLaw_law_476 : w_fe am_c239 476 477 (.iaload) := ⟨rfl, rfl⟩
set_option maxRecDepth 20000 in
theorem fLaw_law_477 : w_fe am_c239 477 478 (.invokestatic 202) := ⟨rfl, rfl⟩
set_option maxRecDepth 20000 in
theorem fLaw_law_478 : w_ic am_c239 478 479 .eq 1001 := ⟨rfl, rfl⟩
set_option maxRecDepth 20000 in
theorem fLaw_law_479 : w_fe am_c239 479 480 (.bipush 0) := ⟨rfl, rfl⟩
set_option maxRecDepth 20000 in
theorem fLaw_law_480 : w_fe am_c239 480 481 (.ireturn) := ⟨rfl, rfl⟩
set_option maxRecDepth 20000 in
theorem fLaw_law_481 : w_fe am_c239 481 482 (.aload 1) := ⟨rfl, rfl⟩
set_option maxRecDepth 20000 in
theorem fLaw_law_482 : w_fe am_c239 482 483 (.aload 0) := ⟨rfl, rfl⟩
set_option maxRecDepth 20000 in
theorem fLaw_law_483 : w_fe am_c239 483 484 (.iload 3) := ⟨rfl, rfl⟩
set_option maxRecDepth 20000 in
theorem fLaw_law_484 : w_fe am_c239 484 485 (.bipush 1) := ⟨rfl, rfl⟩
set_option maxRecDepth 20000 in
theorem fLaw_law_485 : w_fe am_c239 485 486 (.iadd) := ⟨rfl, rfl⟩
set_option maxRecDepth 20000 in
theorem fLaw_law_486 : w_fe am_c239 486 487 (.iaload) := ⟨rfl, rfl⟩
set_option maxRecDepth 20000 in
theorem fLaw_law_487 : w_fe am_c239 487 488 (.invokestatic 127) := ⟨rfl, rfl⟩
set_option maxRecDepth 20000 in
theorem fLaw_law_488 : w_fe am_c239 488 489 (.aload 2) := ⟨rfl, rfl⟩
set_option maxRecDepth 20000 in
theorem fLaw_law_489 : w_fe am_c239 489 490 (.aload 0) := ⟨rfl, rfl⟩
set_option maxRecDepth 20000 in
theorem fLaw_law_490 : w_fe am_c239 490 491 (.iload 3) := ⟨rfl, rfl⟩
set_option maxRecDepth 20000 in
theorem fLaw_law_491 : w_fe am_c239 491 492 (.bipush 1) := ⟨rfl, rfl⟩
set_option maxRecDepth 20000 in
theorem fLaw_law_492 : w_fe am_c239 492 493 (.iadd) := ⟨rfl, rfl⟩
set_option maxRecDepth 20000 in
theorem fLaw_law_493 : w_fe am_c239 493 494 (.iaload) := ⟨rfl, rfl⟩
set_option maxRecDepth 20000 in
theorem fLaw_law_494 : w_fe am_c239 494 495 (.invokestatic 203) := ⟨rfl, rfl⟩
set_option maxRecDepth 20000 in
theorem fLaw_law_495 : w_ic am_c239 495 496 .eq 1001 := ⟨rfl, rfl⟩
set_option maxRecDepth 20000 in
theorem fLaw_law_496 : w_fe am_c239 496 497 (.bipush 0) := ⟨rfl, rfl⟩
set_option maxRecDepth 20000 in
theorem fLaw_law_497 : w_fe am_c239 497 498 (.ireturn) := ⟨rfl, rfl⟩
set_option maxRecDepth 20000 in
theorem fLaw_law_498 : w_fe am_c239 498 499 (.aload 1) := ⟨rfl, rfl⟩
set_option maxRecDepth 20000 in
theorem fLaw_law_499 : w_fe am_c239 499 500 (.invokestatic 128) := ⟨rfl, rfl⟩
set_option maxRecDepth 20000 in
theorem fLaw_law_500 : w_fe am_c239 500 501 (.aload 2) := ⟨rfl, rfl⟩
set_option maxRecDepth 20000 in
theorem fLaw_law_501 : w_fe am_c239 501 502 (.invokestatic 205) := ⟨rfl, rfl⟩
set_option maxRecDepth 20000 in
theorem fLaw_law_502 : w_ic am_c239 502 503 .eq 1001 := ⟨rfl, rfl⟩
set_option maxRecDepth 20000 in
theorem fLaw_law_503 : w_fe am_c239 503 504 (.bipush 0) := ⟨rfl, rfl⟩
set_option maxRecDepth 20000 in
theorem fLaw_law_504 : w_fe am_c239 504 505 (.ireturn) := ⟨rfl, rfl⟩
set_option maxRecDepth 20000 in
theorem fLaw_law_505 : w_fe am_c239 505 506 (.aload 1) := ⟨rfl, rfl⟩
set_option maxRecDepth 20000 in
theorem fLaw_law_506 : w_fe am_c239 506 507 (.aload 0) := ⟨rfl, rfl⟩
set_option maxRecDepth 20000 in
theorem fLaw_law_507 : w_fe am_c239 507 508 (.iload 3) := ⟨rfl, rfl⟩
set_option maxRecDepth 20000 in
theorem fLaw_law_508 : w_fe am_c239 508 509 (.bipush 1) := ⟨rfl, rfl⟩
set_option maxRecDepth 20000 in
theorem fLaw_law_509 : w_fe am_c239 509 510 (.iadd) := ⟨rfl, rfl⟩
set_option maxRecDepth 20000 in
theorem fLaw_law_510 : w_fe am_c239 510 511 (.iaload) := ⟨rfl, rfl⟩
set_option maxRecDepth 20000 in
theorem fLaw_law_511 : w_fe am_c239 511 512 (.invokestatic 129) := ⟨rfl, rfl⟩
set_option maxRecDepth 20000 in
theorem fLaw_law_512 : w_fe am_c239 512 513 (.aload 2) := ⟨rfl, rfl⟩
set_option maxRecDepth 20000 in
theorem fLaw_law_513 : w_fe am_c239 513 514 (.aload 0) := ⟨rfl, rfl⟩
set_option maxRecDepth 20000 in
theorem fLaw_law_514 : w_fe am_c239 514 515 (.iload 3) := ⟨rfl, rfl⟩
set_option maxRecDepth 20000 in
theorem fLaw_law_515 : w_fe am_c239 515 516 (.bipush 1) := ⟨rfl, rfl⟩
set_option maxRecDepth 20000 in
theorem fLaw_law_516 : w_fe am_c239 516 517 (.iadd) := ⟨rfl, rfl⟩
set_option maxRecDepth 20000 in
theorem fLaw_law_517 : w_fe am_c239 517 518 (.iaload) := ⟨rfl, rfl⟩
set_option maxRecDepth 20000 in
theorem fLaw_law_518 : w_fe am_c239 518 519 (.invokestatic 206) := ⟨rfl, rfl⟩
set_option maxRecDepth 20000 in
theorem fLaw_law_519 : w_ic am_c239 519 520 .eq 1001 := ⟨rfl, rfl⟩
set_option maxRecDepth 20000 in
theorem fLaw_law_520 : w_fe am_c239 520 521 (.bipush 0) := ⟨rfl, rfl⟩
set_option maxRecDepth 20000 in
theorem fLaw_law_521 : w_fe am_c239 521 522 (.ireturn) := ⟨rfl, rfl⟩
set_option maxRecDepth 20000 in
theorem fLaw_law_522 : w_fe am_c239 522 523 (.aload 1) := ⟨rfl, rfl⟩
set_option maxRecDepth 20000 in
theorem fLaw_law_523 : w_fe am_c239 523 524 (.aload 0) := ⟨rfl, rfl⟩
set_option maxRecDepth 20000 in
theorem fLaw_law_524 : w_fe am_c239 524 525 (.iload 3) := ⟨rfl, rfl⟩
set_option maxRecDepth 20000 in
theorem fLaw_law_525 : w_fe am_c239 525 526 (.bipush 1) := ⟨rfl, rfl⟩
set_option maxRecDepth 20000 in
theorem fLaw_law_526 : w_fe am_c239 526 527 (.iadd) := ⟨rfl, rfl⟩
set_option maxRecDepth 20000 in
theorem fLaw_law_527 : w_fe am_c239 527 528 (.iaload) := ⟨rfl, rfl⟩
set_option maxRecDepth 20000 in
theorem fLaw_law_528 : w_fe am_c239 528 529 (.aload 0) := ⟨rfl, rfl⟩
set_option maxRecDepth 20000 in
theorem fLaw_law_529 : w_fe am_c239 529 530 (.iload 3) := ⟨rfl, rfl⟩
set_option maxRecDepth 20000 in
theorem fLaw_law_530 : w_fe am_c239 530 531 (.bipush 2) := ⟨rfl, rfl⟩
set_option maxRecDepth 20000 in
theorem fLaw_law_531 : w_fe am_c239 531 532 (.iadd) := ⟨rfl, rfl⟩
set_option maxRecDepth 20000 in
theorem fLaw_law_532 : w_fe am_c239 532 533 (.iaload) := ⟨rfl, rfl⟩
set_option maxRecDepth 20000 in
theorem fLaw_law_533 : w_fe am_c239 533 534 (.invokestatic 131) := ⟨rfl, rfl⟩
set_option maxRecDepth 20000 in
theorem fLaw_law_534 : w_fe am_c239 534 535 (.aload 2) := ⟨rfl, rfl⟩
set_option maxRecDepth 20000 in
theorem fLaw_law_535 : w_fe am_c239 535 536 (.aload 0) := ⟨rfl, rfl⟩
set_option maxRecDepth 20000 in
theorem fLaw_law_536 : w_fe am_c239 536 537 (.iload 3) := ⟨rfl, rfl⟩
set_option maxRecDepth 20000 in
theorem fLaw_law_537 : w_fe am_c239 537 538 (.bipush 1) := ⟨rfl, rfl⟩
set_option maxRecDepth 20000 in
theorem fLaw_law_538 : w_fe am_c239 538 539 (.iadd) := ⟨rfl, rfl⟩
set_option maxRecDepth 20000 in
theorem fLaw_law_539 : w_fe am_c239 539 540 (.iaload) := ⟨rfl, rfl⟩
set_option maxRecDepth 20000 in
theorem fLaw_law_540 : w_fe am_c239 540 541 (.aload 0) := ⟨rfl, rfl⟩
set_option maxRecDepth 20000 in
theorem fLaw_law_541 : w_fe am_c239 541 542 (.iload 3) := ⟨rfl, rfl⟩
set_option maxRecDepth 20000 in
theorem fLaw_law_542 : w_fe am_c239 542 543 (.bipush 2) := ⟨rfl, rfl⟩
set_option maxRecDepth 20000 in
theorem fLaw_law_543 : w_fe am_c239 543 544 (.iadd) := ⟨rfl, rfl⟩
set_option maxRecDepth 20000 in
theorem fLaw_law_544 : w_fe am_c239 544 545 (.iaload) := ⟨rfl, rfl⟩
set_option maxRecDepth 20000 in
theorem fLaw_law_545 : w_fe am_c239 545 546 (.invokestatic 210) := ⟨rfl, rfl⟩
set_option maxRecDepth 20000 in
theorem fLaw_law_546 : w_ic am_c239 546 547 .eq 1001 := ⟨rfl, rfl⟩
set_option maxRecDepth 20000 in
theorem fLaw_law_547 : w_fe am_c239 547 548 (.bipush 0) := ⟨rfl, rfl⟩
set_option maxRecDepth 20000 in
theorem fLaw_law_548 : w_fe am_c239 548 549 (.ireturn) := ⟨rfl, rfl⟩
set_option maxRecDepth 20000 in
theorem fLaw_law_549 : w_fe am_c239 549 550 (.aload 1) := ⟨rfl, rfl⟩
set_option maxRecDepth 20000 in
theorem fLaw_law_550 : w_fe am_c239 550 551 (.aload 0) := ⟨rfl, rfl⟩
set_option maxRecDepth 20000 in
theorem fLaw_law_551 : w_fe am_c239 551 552 (.iload 3) := ⟨rfl, rfl⟩
set_option maxRecDepth 20000 in
theorem fLaw_law_552 : w_fe am_c239 552 553 (.bipush 1) := ⟨rfl, rfl⟩
set_option maxRecDepth 20000 in
theorem fLaw_law_553 : w_fe am_c239 553 554 (.iadd) := ⟨rfl, rfl⟩
set_option maxRecDepth 20000 in
theorem fLaw_law_554 : w_fe am_c239 554 555 (.iaload) := ⟨rfl, rfl⟩
set_option maxRecDepth 20000 in
theorem fLaw_law_555 : w_fe am_c239 555 556 (.invokestatic 132) := ⟨rfl, rfl⟩
set_option maxRecDepth 20000 in
theorem fLaw_law_556 : w_fe am_c239 556 557 (.aload 2) := ⟨rfl, rfl⟩
set_option maxRecDepth 20000 in
theorem fLaw_law_557 : w_fe am_c239 557 558 (.aload 0) := ⟨rfl, rfl⟩
set_option maxRecDepth 20000 in
theorem fLaw_law_558 : w_fe am_c239 558 559 (.iload 3) := ⟨rfl, rfl⟩
set_option maxRecDepth 20000 in
theorem fLaw_law_559 : w_fe am_c239 559 560 (.bipush 1) := ⟨rfl, rfl⟩
set_option maxRecDepth 20000 in
theorem fLaw_law_560 : w_fe am_c239 560 561 (.iadd) := ⟨rfl, rfl⟩
set_option maxRecDepth 20000 in
theorem fLaw_law_561 : w_fe am_c239 561 562 (.iaload) := ⟨rfl, rfl⟩
set_option maxRecDepth 20000 in
theorem fLaw_law_562 : w_fe am_c239 562 563 (.invokestatic 211) := ⟨rfl, rfl⟩
set_option maxRecDepth 20000 in
theorem fLaw_law_563 : w_ic am_c239 563 564 .eq 1001 := ⟨rfl, rfl⟩
set_option maxRecDepth 20000 in
theorem fLaw_law_564 : w_fe am_c239 564 565 (.bipush 0) := ⟨rfl, rfl⟩
set_option maxRecDepth 20000 in
theorem fLaw_law_565 : w_fe am_c239 565 566 (.ireturn) := ⟨rfl, rfl⟩
set_option maxRecDepth 20000 in
theorem fLaw_law_566 : w_fe am_c239 566 567 (.aload 1) := ⟨rfl, rfl⟩
set_option maxRecDepth 20000 in
theorem fLaw_law_567 : w_fe am_c239 567 568 (.aload 0) := ⟨rfl, rfl⟩
set_option maxRecDepth 20000 in
theorem fLaw_law_568 : w_fe am_c239 568 569 (.iload 3) := ⟨rfl, rfl⟩
set_option maxRecDepth 20000 in
theorem fLaw_law_569 : w_fe am_c239 569 570 (.bipush 1) := ⟨rfl, rfl⟩
set_option maxRecDepth 20000 in
theorem fLaw_law_570 : w_fe am_c239 570 571 (.iadd) := ⟨rfl, rfl⟩
set_option maxRecDepth 20000 in
theorem fLaw_law_571 : w_fe am_c239 571 572 (.iaload) := ⟨rfl, rfl⟩
set_option maxRecDepth 20000 in
theorem fLaw_law_572 : w_fe am_c239 572 573 (.invokestatic 133) := ⟨rfl, rfl⟩
set_option maxRecDepth 20000 in
theorem fLaw_law_573 : w_fe am_c239 573 574 (.aload 2) := ⟨rfl, rfl⟩
set_option maxRecDepth 20000 in
theorem fLaw_law_574 : w_fe am_c239 574 575 (.aload 0) := ⟨rfl, rfl⟩
set_option maxRecDepth 20000 in
theorem fLaw_law_575 : w_fe am_c239 575 576 (.iload 3) := ⟨rfl, rfl⟩
set_option maxRecDepth 20000 in
theorem fLaw_law_576 : w_fe am_c239 576 577 (.bipush 1) := ⟨rfl, rfl⟩
set_option maxRecDepth 20000 in
theorem fLaw_law_577 : w_fe am_c239 577 578 (.iadd) := ⟨rfl, rfl⟩
set_option maxRecDepth 20000 in
theorem fLaw_law_578 : w_fe am_c239 578 579 (.iaload) := ⟨rfl, rfl⟩
set_option maxRecDepth 20000 in
theorem fLaw_law_579 : w_fe am_c239 579 580 (.invokestatic 212) := ⟨rfl, rfl⟩
set_option maxRecDepth 20000 in
theorem fLaw_law_580 : w_ic am_c239 580 581 .eq 1001 := ⟨rfl, rfl⟩
set_option maxRecDepth 20000 in
theorem fLaw_law_581 : w_fe am_c239 581 582 (.bipush 0) := ⟨rfl, rfl⟩
set_option maxRecDepth 20000 in
theorem fLaw_law_582 : w_fe am_c239 582 583 (.ireturn) := ⟨rfl, rfl⟩
set_option maxRecDepth 20000 in
theorem fLaw_law_583 : w_fe am_c239 583 584 (.aload 1) := ⟨rfl, rfl⟩
set_option maxRecDepth 20000 in
theorem fLaw_law_584 : w_fe am_c239 584 585 (.aload 0) := ⟨rfl, rfl⟩
set_option maxRecDepth 20000 in
theorem fLaw_law_585 : w_fe am_c239 585 586 (.iload 3) := ⟨rfl, rfl⟩
set_option maxRecDepth 20000 in
theorem fLaw_law_586 : w_fe am_c239 586 587 (.bipush 1) := ⟨rfl, rfl⟩
set_option maxRecDepth 20000 in
theorem fLaw_law_587 : w_fe am_c239 587 588 (.iadd) := ⟨rfl, rfl⟩
set_option maxRecDepth 20000 in
theorem fLaw_law_588 : w_fe am_c239 588 589 (.iaload) := ⟨rfl, rfl⟩
set_option maxRecDepth 20000 in
theorem fLaw_law_589 : w_fe am_c239 589 590 (.aload 0) := ⟨rfl, rfl⟩
set_option maxRecDepth 20000 in
theorem fLaw_law_590 : w_fe am_c239 590 591 (.iload 3) := ⟨rfl, rfl⟩
set_option maxRecDepth 20000 in
theorem fLaw_law_591 : w_fe am_c239 591 592 (.bipush 2) := ⟨rfl, rfl⟩
set_option maxRecDepth 20000 in
theorem fLaw_law_592 : w_fe am_c239 592 593 (.iadd) := ⟨rfl, rfl⟩
set_option maxRecDepth 20000 in
theorem fLaw_law_593 : w_fe am_c239 593 594 (.iaload) := ⟨rfl, rfl⟩
set_option maxRecDepth 20000 in
theorem fLaw_law_594 : w_fe am_c239 594 595 (.invokestatic 134) := ⟨rfl, rfl⟩
set_option maxRecDepth 20000 in
theorem fLaw_law_595 : w_fe am_c239 595 596 (.aload 2) := ⟨rfl, rfl⟩
set_option maxRecDepth 20000 in
theorem fLaw_law_596 : w_fe am_c239 596 597 (.aload 0) := ⟨rfl, rfl⟩
set_option maxRecDepth 20000 in
theorem fLaw_law_597 : w_fe am_c239 597 598 (.iload 3) := ⟨rfl, rfl⟩
set_option maxRecDepth 20000 in
theorem fLaw_law_598 : w_fe am_c239 598 599 (.bipush 1) := ⟨rfl, rfl⟩
set_option maxRecDepth 20000 in
theorem fLaw_law_599 : w_fe am_c239 599 600 (.iadd) := ⟨rfl, rfl⟩
set_option maxRecDepth 20000 in
theorem fLaw_law_600 : w_fe am_c239 600 601 (.iaload) := ⟨rfl, rfl⟩
set_option maxRecDepth 20000 in
theorem fLaw_law_601 : w_fe am_c239 601 602 (.aload 0) := ⟨rfl, rfl⟩
set_option maxRecDepth 20000 in
theorem fLaw_law_602 : w_fe am_c239 602 603 (.iload 3) := ⟨rfl, rfl⟩
set_option maxRecDepth 20000 in
theorem fLaw_law_603 : w_fe am_c239 603 604 (.bipush 2) := ⟨rfl, rfl⟩
set_option maxRecDepth 20000 in
theorem fLaw_law_604 : w_fe am_c239 604 605 (.iadd) := ⟨rfl, rfl⟩
set_option maxRecDepth 20000 in
theorem fLaw_law_605 : w_fe am_c239 605 606 (.iaload) := ⟨rfl, rfl⟩
set_option maxRecDepth 20000 in
theorem fLaw_law_606 : w_fe am_c239 606 607 (.invokestatic 213) := ⟨rfl, rfl⟩
set_option maxRecDepth 20000 in
theorem fLaw_law_607 : w_fe am_c239 607 608 (.lcmp) := ⟨rfl, rfl⟩
set_option maxRecDepth 20000 in
theorem fLaw_law_608 : w_if am_c239 608 609 .eq 1001 := ⟨rfl, rfl⟩
set_option maxRecDepth 20000 in
theorem fLaw_law_609 : w_fe am_c239 609 610 (.bipush 0) := ⟨rfl, rfl⟩
set_option maxRecDepth 20000 in
theorem fLaw_law_610 : w_fe am_c239 610 611 (.ireturn) := ⟨rfl, rfl⟩
set_option maxRecDepth 20000 in
theorem fLaw_law_611 : w_fe am_c239 611 612 (.aload 1) := ⟨rfl, rfl⟩
set_option maxRecDepth 20000 in
theorem fLaw_law_612 : w_fe am_c239 612 613 (.aload 0) := ⟨rfl, rfl⟩
set_option maxRecDepth 20000 in
theorem fLaw_law_613 : w_fe am_c239 613 614 (.iload 3) := ⟨rfl, rfl⟩
set_option maxRecDepth 20000 in
theorem fLaw_law_614 : w_fe am_c239 614 615 (.bipush 1) := ⟨rfl, rfl⟩
set_option maxRecDepth 20000 in
theorem fLaw_law_615 : w_fe am_c239 615 616 (.iadd) := ⟨rfl, rfl⟩
set_option maxRecDepth 20000 in
theorem fLaw_law_616 : w_fe am_c239 616 617 (.iaload) := ⟨rfl, rfl⟩
set_option maxRecDepth 20000 in
theorem fLaw_law_617 : w_fe am_c239 617 618 (.aload 0) := ⟨rfl, rfl⟩
set_option maxRecDepth 20000 in
theorem fLaw_law_618 : w_fe am_c239 618 619 (.iload 3) := ⟨rfl, rfl⟩
set_option maxRecDepth 20000 in
theorem fLaw_law_619 : w_fe am_c239 619 620 (.bipush 2) := ⟨rfl, rfl⟩
set_option maxRecDepth 20000 in
theorem fLaw_law_620 : w_fe am_c239 620 621 (.iadd) := ⟨rfl, rfl⟩
set_option maxRecDepth 20000 in
theorem fLaw_law_621 : w_fe am_c239 621 622 (.iaload) := ⟨rfl, rfl⟩
set_option maxRecDepth 20000 in
theorem fLaw_law_622 : w_fe am_c239 622 623 (.aload 0) := ⟨rfl, rfl⟩
set_option maxRecDepth 20000 in
theorem fLaw_law_623 : w_fe am_c239 623 624 (.iload 3) := ⟨rfl, rfl⟩
set_option maxRecDepth 20000 in
theorem fLaw_law_624 : w_fe am_c239 624 625 (.bipush 3) := ⟨rfl, rfl⟩
set_option maxRecDepth 20000 in
theorem fLaw_law_625 : w_fe am_c239 625 626 (.iadd) := ⟨rfl, rfl⟩
set_option maxRecDepth 20000 in
theorem fLaw_law_626 : w_fe am_c239 626 627 (.iaload) := ⟨rfl, rfl⟩
set_option maxRecDepth 20000 in
theorem fLaw_law_627 : w_if am_c239 627 628 .eq 630 := ⟨rfl, rfl⟩
set_option maxRecDepth 20000 in
theorem fLaw_law_628 : w_fe am_c239 628 629 (.bipush 1) := ⟨rfl, rfl⟩
set_option maxRecDepth 20000 in
theorem fLaw_law_629 : w_gt am_c239 629 631 := rfl
set_option maxRecDepth 20000 in
theorem fLaw_law_630 : w_fe am_c239 630 631 (.bipush 0) := ⟨rfl, rfl⟩
set_option maxRecDepth 20000 in
theorem fLaw_law_631 : w_fe am_c239 631 632 (.invokestatic 137) := ⟨rfl, rfl⟩
set_option maxRecDepth 20000 in
theorem fLaw_law_632 : w_fe am_c239 632 633 (.aload 2) := ⟨rfl, rfl⟩
set_option maxRecDepth 20000 in
theorem fLaw_law_633 : w_fe am_c239 633 634 (.aload 0) := ⟨rfl, rfl⟩
set_option maxRecDepth 20000 in
theorem fLaw_law_634 : w_fe am_c239 634 635 (.iload 3) := ⟨rfl, rfl⟩
set_option maxRecDepth 20000 in
theorem fLaw_law_635 : w_fe am_c239 635 636 (.bipush 1) := ⟨rfl, rfl⟩
set_option maxRecDepth 20000 in
theorem fLaw_law_636 : w_fe am_c239 636 637 (.iadd) := ⟨rfl, rfl⟩
set_option maxRecDepth 20000 in
theorem fLaw_law_637 : w_fe am_c239 637 638 (.iaload) := ⟨rfl, rfl⟩
set_option maxRecDepth 20000 in
theorem fLaw_law_638 : w_fe am_c239 638 639 (.aload 0) := ⟨rfl, rfl⟩
set_option maxRecDepth 20000 in
theorem fLaw_law_639 : w_fe am_c239 639 640 (.iload 3) := ⟨rfl, rfl⟩
set_option maxRecDepth 20000 in
theorem fLaw_law_640 : w_fe am_c239 640 641 (.bipush 2) := ⟨rfl, rfl⟩
set_option maxRecDepth 20000 in
theorem fLaw_law_641 : w_fe am_c239 641 642 (.iadd) := ⟨rfl, rfl⟩
set_option maxRecDepth 20000 in
theorem fLaw_law_642 : w_fe am_c239 642 643 (.iaload) := ⟨rfl, rfl⟩
set_option maxRecDepth 20000 in
theorem fLaw_law_643 : w_fe am_c239 643 644 (.aload 0) := ⟨rfl, rfl⟩
set_option maxRecDepth 20000 in
theorem fLaw_law_644 : w_fe am_c239 644 645 (.iload 3) := ⟨rfl, rfl⟩
set_option maxRecDepth 20000 in
theorem fLaw_law_645 : w_fe am_c239 645 646 (.bipush 3) := ⟨rfl, rfl⟩
set_option maxRecDepth 20000 in
theorem fLaw_law_646 : w_fe am_c239 646 647 (.iadd) := ⟨rfl, rfl⟩
set_option maxRecDepth 20000 in
theorem fLaw_law_647 : w_fe am_c239 647 648 (.iaload) := ⟨rfl, rfl⟩
set_option maxRecDepth 20000 in
theorem fLaw_law_648 : w_if am_c239 648 649 .eq 651 := ⟨rfl, rfl⟩
set_option maxRecDepth 20000 in
theorem fLaw_law_649 : w_fe am_c239 649 650 (.bipush 1) := ⟨rfl, rfl⟩
set_option maxRecDepth 20000 in
theorem fLaw_law_650 : w_gt am_c239 650 652 := rfl
set_option maxRecDepth 20000 in
theorem fLaw_law_651 : w_fe am_c239 651 652 (.bipush 0) := ⟨rfl, rfl⟩
set_option maxRecDepth 20000 in
theorem fLaw_law_652 : w_fe am_c239 652 653 (.invokestatic 215) := ⟨rfl, rfl⟩
set_option maxRecDepth 20000 in
theorem fLaw_law_653 : w_ic am_c239 653 654 .eq 1001 := ⟨rfl, rfl⟩
set_option maxRecDepth 20000 in
theorem fLaw_law_654 : w_fe am_c239 654 655 (.bipush 0) := ⟨rfl, rfl⟩
set_option maxRecDepth 20000 in
theorem fLaw_law_655 : w_fe am_c239 655 656 (.ireturn) := ⟨rfl, rfl⟩
set_option maxRecDepth 20000 in
theorem fLaw_law_656 : w_fe am_c239 656 657 (.aload 1) := ⟨rfl, rfl⟩
set_option maxRecDepth 20000 in
theorem fLaw_law_657 : w_fe am_c239 657 658 (.aload 0) := ⟨rfl, rfl⟩
set_option maxRecDepth 20000 in
theorem fLaw_law_658 : w_fe am_c239 658 659 (.iload 3) := ⟨rfl, rfl⟩
set_option maxRecDepth 20000 in
theorem fLaw_law_659 : w_fe am_c239 659 660 (.bipush 1) := ⟨rfl, rfl⟩
set_option maxRecDepth 20000 in
theorem fLaw_law_660 : w_fe am_c239 660 661 (.iadd) := ⟨rfl, rfl⟩
set_option maxRecDepth 20000 in
theorem fLaw_law_661 : w_fe am_c239 661 662 (.iaload) := ⟨rfl, rfl⟩
set_option maxRecDepth 20000 in
theorem fLaw_law_662 : w_fe am_c239 662 663 (.invokestatic 138) := ⟨rfl, rfl⟩
set_option maxRecDepth 20000 in
theorem fLaw_law_663 : w_fe am_c239 663 664 (.aload 2) := ⟨rfl, rfl⟩
set_option maxRecDepth 20000 in
theorem fLaw_law_664 : w_fe am_c239 664 665 (.aload 0) := ⟨rfl, rfl⟩
set_option maxRecDepth 20000 in
theorem fLaw_law_665 : w_fe am_c239 665 666 (.iload 3) := ⟨rfl, rfl⟩
set_option maxRecDepth 20000 in
theorem fLaw_law_666 : w_fe am_c239 666 667 (.bipush 1) := ⟨rfl, rfl⟩
set_option maxRecDepth 20000 in
theorem fLaw_law_667 : w_fe am_c239 667 668 (.iadd) := ⟨rfl, rfl⟩
set_option maxRecDepth 20000 in
theorem fLaw_law_668 : w_fe am_c239 668 669 (.iaload) := ⟨rfl, rfl⟩
set_option maxRecDepth 20000 in
theorem fLaw_law_669 : w_fe am_c239 669 670 (.invokestatic 216) := ⟨rfl, rfl⟩
set_option maxRecDepth 20000 in
theorem fLaw_law_670 : w_ic am_c239 670 671 .eq 1001 := ⟨rfl, rfl⟩
set_option maxRecDepth 20000 in
theorem fLaw_law_671 : w_fe am_c239 671 672 (.bipush 0) := ⟨rfl, rfl⟩
set_option maxRecDepth 20000 in
theorem fLaw_law_672 : w_fe am_c239 672 673 (.ireturn) := ⟨rfl, rfl⟩
set_option maxRecDepth 20000 in
theorem fLaw_law_673 : w_fe am_c239 673 674 (.aload 1) := ⟨rfl, rfl⟩
set_option maxRecDepth 20000 in
theorem fLaw_law_674 : w_fe am_c239 674 675 (.aload 0) := ⟨rfl, rfl⟩
set_option maxRecDepth 20000 in
theorem fLaw_law_675 : w_fe am_c239 675 676 (.iload 3) := ⟨rfl, rfl⟩
set_option maxRecDepth 20000 in
theorem fLaw_law_676 : w_fe am_c239 676 677 (.bipush 1) := ⟨rfl, rfl⟩
set_option maxRecDepth 20000 in
theorem fLaw_law_677 : w_fe am_c239 677 678 (.iadd) := ⟨rfl, rfl⟩
set_option maxRecDepth 20000 in
theorem fLaw_law_678 : w_fe am_c239 678 679 (.iaload) := ⟨rfl, rfl⟩
set_option maxRecDepth 20000 in
theorem fLaw_law_679 : w_fe am_c239 679 680 (.invokestatic 139) := ⟨rfl, rfl⟩
set_option maxRecDepth 20000 in
theorem fLaw_law_680 : w_fe am_c239 680 681 (.aload 2) := ⟨rfl, rfl⟩
set_option maxRecDepth 20000 in
theorem fLaw_law_681 : w_fe am_c239 681 682 (.aload 0) := ⟨rfl, rfl⟩
set_option maxRecDepth 20000 in
theorem fLaw_law_682 : w_fe am_c239 682 683 (.iload 3) := ⟨rfl, rfl⟩
set_option maxRecDepth 20000 in
theorem fLaw_law_683 : w_fe am_c239 683 684 (.bipush 1) := ⟨rfl, rfl⟩
set_option maxRecDepth 20000 in
theorem fLaw_law_684 : w_fe am_c239 684 685 (.iadd) := ⟨rfl, rfl⟩
set_option maxRecDepth 20000 in
theorem fLaw_law_685 : w_fe am_c239 685 686 (.iaload) := ⟨rfl, rfl⟩
set_option maxRecDepth 20000 in
theorem fLaw_law_686 : w_fe am_c239 686 687 (.invokestatic 217) := ⟨rfl, rfl⟩
set_option maxRecDepth 20000 in
theorem fLaw_law_687 : w_ic am_c239 687 688 .eq 1001 := ⟨rfl, rfl⟩
set_option maxRecDepth 20000 in
theorem fLaw_law_688 : w_fe am_c239 688 689 (.bipush 0) := ⟨rfl, rfl⟩
set_option maxRecDepth 20000 in
theorem fLaw_law_689 : w_fe am_c239 689 690 (.ireturn) := ⟨rfl, rfl⟩
set_option maxRecDepth 20000 in
theorem fLaw_law_690 : w_fe am_c239 690 691 (.aload 1) := ⟨rfl, rfl⟩
set_option maxRecDepth 20000 in
theorem fLaw_law_691 : w_fe am_c239 691 692 (.invokestatic 140) := ⟨rfl, rfl⟩
set_option maxRecDepth 20000 in
theorem fLaw_law_692 : w_fe am_c239 692 693 (.aload 2) := ⟨rfl, rfl⟩
set_option maxRecDepth 20000 in
theorem fLaw_law_693 : w_fe am_c239 693 694 (.invokestatic 223) := ⟨rfl, rfl⟩
set_option maxRecDepth 20000 in
theorem fLaw_law_694 : w_ic am_c239 694 695 .eq 1001 := ⟨rfl, rfl⟩
set_option maxRecDepth 20000 in
theorem fLaw_law_695 : w_fe am_c239 695 696 (.bipush 0) := ⟨rfl, rfl⟩
set_option maxRecDepth 20000 in
theorem fLaw_law_696 : w_fe am_c239 696 697 (.ireturn) := ⟨rfl, rfl⟩
set_option maxRecDepth 20000 in
theorem fLaw_law_697 : w_fe am_c239 697 698 (.aload 1) := ⟨rfl, rfl⟩
set_option maxRecDepth 20000 in
theorem fLaw_law_698 : w_fe am_c239 698 699 (.aload 0) := ⟨rfl, rfl⟩
set_option maxRecDepth 20000 in
theorem fLaw_law_699 : w_fe am_c239 699 700 (.iload 3) := ⟨rfl, rfl⟩
set_option maxRecDepth 20000 in
theorem fLaw_law_700 : w_fe am_c239 700 701 (.bipush 1) := ⟨rfl, rfl⟩
set_option maxRecDepth 20000 in
theorem fLaw_law_701 : w_fe am_c239 701 702 (.iadd) := ⟨rfl, rfl⟩
set_option maxRecDepth 20000 in
theorem fLaw_law_702 : w_fe am_c239 702 703 (.iaload) := ⟨rfl, rfl⟩
set_option maxRecDepth 20000 in
theorem fLaw_law_703 : w_fe am_c239 703 704 (.aload 0) := ⟨rfl, rfl⟩
set_option maxRecDepth 20000 in
theorem fLaw_law_704 : w_fe am_c239 704 705 (.iload 3) := ⟨rfl, rfl⟩
set_option maxRecDepth 20000 in
theorem fLaw_law_705 : w_fe am_c239 705 706 (.bipush 2) := ⟨rfl, rfl⟩
set_option maxRecDepth 20000 in
theorem fLaw_law_706 : w_fe am_c239 706 707 (.iadd) := ⟨rfl, rfl⟩
set_option maxRecDepth 20000 in
theorem fLaw_law_707 : w_fe am_c239 707 708 (.iaload) := ⟨rfl, rfl⟩
set_option maxRecDepth 20000 in
theorem fLaw_law_708 : w_fe am_c239 708 709 (.invokestatic 141) := ⟨rfl, rfl⟩
set_option maxRecDepth 20000 in
theorem fLaw_law_709 : w_fe am_c239 709 710 (.aload 2) := ⟨rfl, rfl⟩
set_option maxRecDepth 20000 in
theorem fLaw_law_710 : w_fe am_c239 710 711 (.aload 0) := ⟨rfl, rfl⟩
set_option maxRecDepth 20000 in
theorem fLaw_law_711 : w_fe am_c239 711 712 (.iload 3) := ⟨rfl, rfl⟩
set_option maxRecDepth 20000 in
theorem fLaw_law_712 : w_fe am_c239 712 713 (.bipush 1) := ⟨rfl, rfl⟩
set_option maxRecDepth 20000 in
theorem fLaw_law_713 : w_fe am_c239 713 714 (.iadd) := ⟨rfl, rfl⟩
set_option maxRecDepth 20000 in
theorem fLaw_law_714 : w_fe am_c239 714 715 (.iaload) := ⟨rfl, rfl⟩
set_option maxRecDepth 20000 in
theorem fLaw_law_715 : w_fe am_c239 715 716 (.aload 0) := ⟨rfl, rfl⟩
set_option maxRecDepth 20000 in
theorem fLaw_law_716 : w_fe am_c239 716 717 (.iload 3) := ⟨rfl, rfl⟩
set_option maxRecDepth 20000 in
theorem fLaw_law_717 : w_fe am_c239 717 718 (.bipush 2) := ⟨rfl, rfl⟩
set_option maxRecDepth 20000 in
theorem fLaw_law_718 : w_fe am_c239 718 719 (.iadd) := ⟨rfl, rfl⟩
set_option maxRecDepth 20000 in
theorem fLaw_law_719 : w_fe am_c239 719 720 (.iaload) := ⟨rfl, rfl⟩
set_option maxRecDepth 20000 in
theorem fLaw_law_720 : w_fe am_c239 720 721 (.invokestatic 225) := ⟨rfl, rfl⟩
set_option maxRecDepth 20000 in
theorem fLaw_law_721 : w_ic am_c239 721 722 .eq 1001 := ⟨rfl, rfl⟩
set_option maxRecDepth 20000 in
theorem fLaw_law_722 : w_fe am_c239 722 723 (.bipush 0) := ⟨rfl, rfl⟩
set_option maxRecDepth 20000 in
theorem fLaw_law_723 : w_fe am_c239 723 724 (.ireturn) := ⟨rfl, rfl⟩
set_option maxRecDepth 20000 in
theorem fLaw_law_724 : w_fe am_c239 724 725 (.aload 1) := ⟨rfl, rfl⟩
set_option maxRecDepth 20000 in
theorem fLaw_law_725 : w_fe am_c239 725 726 (.aload 0) := ⟨rfl, rfl⟩
set_option maxRecDepth 20000 in
theorem fLaw_law_726 : w_fe am_c239 726 727 (.iload 3) := ⟨rfl, rfl⟩
set_option maxRecDepth 20000 in
theorem fLaw_law_727 : w_fe am_c239 727 728 (.bipush 1) := ⟨rfl, rfl⟩
set_option maxRecDepth 20000 in
theorem fLaw_law_728 : w_fe am_c239 728 729 (.iadd) := ⟨rfl, rfl⟩
set_option maxRecDepth 20000 in
theorem fLaw_law_729 : w_fe am_c239 729 730 (.iaload) := ⟨rfl, rfl⟩
set_option maxRecDepth 20000 in
theorem fLaw_law_730 : w_fe am_c239 730 731 (.aload 0) := ⟨rfl, rfl⟩
set_option maxRecDepth 20000 in
theorem fLaw_law_731 : w_fe am_c239 731 732 (.iload 3) := ⟨rfl, rfl⟩
set_option maxRecDepth 20000 in
theorem fLaw_law_732 : w_fe am_c239 732 733 (.bipush 2) := ⟨rfl, rfl⟩
set_option maxRecDepth 20000 in
theorem fLaw_law_733 : w_fe am_c239 733 734 (.iadd) := ⟨rfl, rfl⟩
set_option maxRecDepth 20000 in
theorem fLaw_law_734 : w_fe am_c239 734 735 (.iaload) := ⟨rfl, rfl⟩
set_option maxRecDepth 20000 in
theorem fLaw_law_735 : w_fe am_c239 735 736 (.invokestatic 142) := ⟨rfl, rfl⟩
set_option maxRecDepth 20000 in
theorem fLaw_law_736 : w_fe am_c239 736 737 (.aload 2) := ⟨rfl, rfl⟩
set_option maxRecDepth 20000 in
theorem fLaw_law_737 : w_fe am_c239 737 738 (.aload 0) := ⟨rfl, rfl⟩
set_option maxRecDepth 20000 in
theorem fLaw_law_738 : w_fe am_c239 738 739 (.iload 3) := ⟨rfl, rfl⟩
set_option maxRecDepth 20000 in
theorem fLaw_law_739 : w_fe am_c239 739 740 (.bipush 1) := ⟨rfl, rfl⟩
set_option maxRecDepth 20000 in
theorem fLaw_law_740 : w_fe am_c239 740 741 (.iadd) := ⟨rfl, rfl⟩
set_option maxRecDepth 20000 in
theorem fLaw_law_741 : w_fe am_c239 741 742 (.iaload) := ⟨rfl, rfl⟩
set_option maxRecDepth 20000 in
theorem fLaw_law_742 : w_fe am_c239 742 743 (.aload 0) := ⟨rfl, rfl⟩
set_option maxRecDepth 20000 in
theorem fLaw_law_743 : w_fe am_c239 743 744 (.iload 3) := ⟨rfl, rfl⟩
set_option maxRecDepth 20000 in
theorem fLaw_law_744 : w_fe am_c239 744 745 (.bipush 2) := ⟨rfl, rfl⟩
set_option maxRecDepth 20000 in
theorem fLaw_law_745 : w_fe am_c239 745 746 (.iadd) := ⟨rfl, rfl⟩
set_option maxRecDepth 20000 in
theorem fLaw_law_746 : w_fe am_c239 746 747 (.iaload) := ⟨rfl, rfl⟩
set_option maxRecDepth 20000 in
theorem fLaw_law_747 : w_fe am_c239 747 748 (.invokestatic 226) := ⟨rfl, rfl⟩
set_option maxRecDepth 20000 in
theorem fLaw_law_748 : w_ic am_c239 748 749 .eq 1001 := ⟨rfl, rfl⟩
set_option maxRecDepth 20000 in
theorem fLaw_law_749 : w_fe am_c239 749 750 (.bipush 0) := ⟨rfl, rfl⟩
set_option maxRecDepth 20000 in
theorem fLaw_law_750 : w_fe am_c239 750 751 (.ireturn) := ⟨rfl, rfl⟩
set_option maxRecDepth 20000 in
theorem fLaw_law_751 : w_fe am_c239 751 752 (.aload 1) := ⟨rfl, rfl⟩
set_option maxRecDepth 20000 in
theorem fLaw_law_752 : w_fe am_c239 752 753 (.aload 0) := ⟨rfl, rfl⟩
set_option maxRecDepth 20000 in
theorem fLaw_law_753 : w_fe am_c239 753 754 (.iload 3) := ⟨rfl, rfl⟩
set_option maxRecDepth 20000 in
theorem fLaw_law_754 : w_fe am_c239 754 755 (.bipush 1) := ⟨rfl, rfl⟩
set_option maxRecDepth 20000 in
theorem fLaw_law_755 : w_fe am_c239 755 756 (.iadd) := ⟨rfl, rfl⟩
set_option maxRecDepth 20000 in
theorem fLaw_law_756 : w_fe am_c239 756 757 (.iaload) := ⟨rfl, rfl⟩
set_option maxRecDepth 20000 in
theorem fLaw_law_757 : w_fe am_c239 757 758 (.invokestatic 143) := ⟨rfl, rfl⟩
set_option maxRecDepth 20000 in
theorem fLaw_law_758 : w_fe am_c239 758 759 (.aload 2) := ⟨rfl, rfl⟩
set_option maxRecDepth 20000 in
theorem fLaw_law_759 : w_fe am_c239 759 760 (.aload 0) := ⟨rfl, rfl⟩
set_option maxRecDepth 20000 in
theorem fLaw_law_760 : w_fe am_c239 760 761 (.iload 3) := ⟨rfl, rfl⟩
set_option maxRecDepth 20000 in
theorem fLaw_law_761 : w_fe am_c239 761 762 (.bipush 1) := ⟨rfl, rfl⟩
set_option maxRecDepth 20000 in
theorem fLaw_law_762 : w_fe am_c239 762 763 (.iadd) := ⟨rfl, rfl⟩
set_option maxRecDepth 20000 in
theorem fLaw_law_763 : w_fe am_c239 763 764 (.iaload) := ⟨rfl, rfl⟩
set_option maxRecDepth 20000 in
theorem fLaw_law_764 : w_fe am_c239 764 765 (.invokestatic 227) := ⟨rfl, rfl⟩
set_option maxRecDepth 20000 in
theorem fLaw_law_765 : w_ic am_c239 765 766 .eq 1001 := ⟨rfl, rfl⟩
set_option maxRecDepth 20000 in
theorem fLaw_law_766 : w_fe am_c239 766 767 (.bipush 0) := ⟨rfl, rfl⟩
set_option maxRecDepth 20000 in
theorem fLaw_law_767 : w_fe am_c239 767 768 (.ireturn) := ⟨rfl, rfl⟩
set_option maxRecDepth 20000 in
theorem fLaw_law_768 : w_fe am_c239 768 769 (.aload 1) := ⟨rfl, rfl⟩
set_option maxRecDepth 20000 in
theorem fLaw_law_769 : w_fe am_c239 769 770 (.aload 0) := ⟨rfl, rfl⟩
set_option maxRecDepth 20000 in
theorem fLaw_law_770 : w_fe am_c239 770 771 (.iload 3) := ⟨rfl, rfl⟩
set_option maxRecDepth 20000 in
theorem fLaw_law_771 : w_fe am_c239 771 772 (.bipush 1) := ⟨rfl, rfl⟩
set_option maxRecDepth 20000 in
theorem fLaw_law_772 : w_fe am_c239 772 773 (.iadd) := ⟨rfl, rfl⟩
set_option maxRecDepth 20000 in
theorem fLaw_law_773 : w_fe am_c239 773 774 (.iaload) := ⟨rfl, rfl⟩
set_option maxRecDepth 20000 in
theorem fLaw_law_774 : w_fe am_c239 774 775 (.invokestatic 144) := ⟨rfl, rfl⟩
set_option maxRecDepth 20000 in
theorem fLaw_law_775 : w_fe am_c239 775 776 (.aload 2) := ⟨rfl, rfl⟩
set_option maxRecDepth 20000 in
theorem fLaw_law_776 : w_fe am_c239 776 777 (.aload 0) := ⟨rfl, rfl⟩
set_option maxRecDepth 20000 in
theorem fLaw_law_777 : w_fe am_c239 777 778 (.iload 3) := ⟨rfl, rfl⟩
set_option maxRecDepth 20000 in
theorem fLaw_law_778 : w_fe am_c239 778 779 (.bipush 1) := ⟨rfl, rfl⟩
set_option maxRecDepth 20000 in
theorem fLaw_law_779 : w_fe am_c239 779 780 (.iadd) := ⟨rfl, rfl⟩
set_option maxRecDepth 20000 in
theorem fLaw_law_780 : w_fe am_c239 780 781 (.iaload) := ⟨rfl, rfl⟩
set_option maxRecDepth 20000 in
theorem fLaw_law_781 : w_fe am_c239 781 782 (.invokestatic 228) := ⟨rfl, rfl⟩
set_option maxRecDepth 20000 in
theorem fLaw_law_782 : w_ic am_c239 782 783 .eq 1001 := ⟨rfl, rfl⟩
set_option maxRecDepth 20000 in
theorem fLaw_law_783 : w_fe am_c239 783 784 (.bipush 0) := ⟨rfl, rfl⟩
set_option maxRecDepth 20000 in
theorem fLaw_law_784 : w_fe am_c239 784 785 (.ireturn) := ⟨rfl, rfl⟩
set_option maxRecDepth 20000 in
theorem fLaw_law_785 : w_fe am_c239 785 786 (.aload 1) := ⟨rfl, rfl⟩
set_option maxRecDepth 20000 in
theorem fLaw_law_786 : w_fe am_c239 786 787 (.aload 0) := ⟨rfl, rfl⟩
set_option maxRecDepth 20000 in
theorem fLaw_law_787 : w_fe am_c239 787 788 (.iload 3) := ⟨rfl, rfl⟩
set_option maxRecDepth 20000 in
theorem fLaw_law_788 : w_fe am_c239 788 789 (.bipush 1) := ⟨rfl, rfl⟩
set_option maxRecDepth 20000 in
theorem fLaw_law_789 : w_fe am_c239 789 790 (.iadd) := ⟨rfl, rfl⟩
set_option maxRecDepth 20000 in
theorem fLaw_law_790 : w_fe am_c239 790 791 (.iaload) := ⟨rfl, rfl⟩
set_option maxRecDepth 20000 in
theorem fLaw_law_791 : w_fe am_c239 791 792 (.aload 0) := ⟨rfl, rfl⟩
set_option maxRecDepth 20000 in
theorem fLaw_law_792 : w_fe am_c239 792 793 (.iload 3) := ⟨rfl, rfl⟩
set_option maxRecDepth 20000 in
theorem fLaw_law_793 : w_fe am_c239 793 794 (.bipush 2) := ⟨rfl, rfl⟩
set_option maxRecDepth 20000 in
theorem fLaw_law_794 : w_fe am_c239 794 795 (.iadd) := ⟨rfl, rfl⟩
set_option maxRecDepth 20000 in
theorem fLaw_law_795 : w_fe am_c239 795 796 (.iaload) := ⟨rfl, rfl⟩
set_option maxRecDepth 20000 in
theorem fLaw_law_796 : w_fe am_c239 796 797 (.aload 0) := ⟨rfl, rfl⟩
set_option maxRecDepth 20000 in
theorem fLaw_law_797 : w_fe am_c239 797 798 (.iload 3) := ⟨rfl, rfl⟩
set_option maxRecDepth 20000 in
theorem fLaw_law_798 : w_fe am_c239 798 799 (.bipush 3) := ⟨rfl, rfl⟩
set_option maxRecDepth 20000 in
theorem fLaw_law_799 : w_fe am_c239 799 800 (.iadd) := ⟨rfl, rfl⟩
set_option maxRecDepth 20000 in
theorem fLaw_law_800 : w_fe am_c239 800 801 (.iaload) := ⟨rfl, rfl⟩
set_option maxRecDepth 20000 in
theorem fLaw_law_801 : w_fe am_c239 801 802 (.invokestatic 145) := ⟨rfl, rfl⟩
set_option maxRecDepth 20000 in
theorem fLaw_law_802 : w_fe am_c239 802 803 (.aload 2) := ⟨rfl, rfl⟩
set_option maxRecDepth 20000 in
theorem fLaw_law_803 : w_fe am_c239 803 804 (.aload 0) := ⟨rfl, rfl⟩
set_option maxRecDepth 20000 in
theorem fLaw_law_804 : w_fe am_c239 804 805 (.iload 3) := ⟨rfl, rfl⟩
set_option maxRecDepth 20000 in
theorem fLaw_law_805 : w_fe am_c239 805 806 (.bipush 1) := ⟨rfl, rfl⟩
set_option maxRecDepth 20000 in
theorem fLaw_law_806 : w_fe am_c239 806 807 (.iadd) := ⟨rfl, rfl⟩
set_option maxRecDepth 20000 in
theorem fLaw_law_807 : w_fe am_c239 807 808 (.iaload) := ⟨rfl, rfl⟩
set_option maxRecDepth 20000 in
theorem fLaw_law_808 : w_fe am_c239 808 809 (.aload 0) := ⟨rfl, rfl⟩
set_option maxRecDepth 20000 in
theorem fLaw_law_809 : w_fe am_c239 809 810 (.iload 3) := ⟨rfl, rfl⟩
set_option maxRecDepth 20000 in
theorem fLaw_law_810 : w_fe am_c239 810 811 (.bipush 2) := ⟨rfl, rfl⟩
set_option maxRecDepth 20000 in
theorem fLaw_law_811 : w_fe am_c239 811 812 (.iadd) := ⟨rfl, rfl⟩
set_option maxRecDepth 20000 in
theorem fLaw_law_812 : w_fe am_c239 812 813 (.iaload) := ⟨rfl, rfl⟩
set_option maxRecDepth 20000 in
theorem fLaw_law_813 : w_fe am_c239 813 814 (.aload 0) := ⟨rfl, rfl⟩
set_option maxRecDepth 20000 in
theorem fLaw_law_814 : w_fe am_c239 814 815 (.iload 3) := ⟨rfl, rfl⟩
set_option maxRecDepth 20000 in
theorem fLaw_law_815 : w_fe am_c239 815 816 (.bipush 3) := ⟨rfl, rfl⟩
set_option maxRecDepth 20000 in
theorem fLaw_law_816 : w_fe am_c239 816 817 (.iadd) := ⟨rfl, rfl⟩
set_option maxRecDepth 20000 in
theorem fLaw_law_817 : w_fe am_c239 817 818 (.iaload) := ⟨rfl, rfl⟩
set_option maxRecDepth 20000 in
theorem fLaw_law_818 : w_fe am_c239 818 819 (.invokestatic 229) := ⟨rfl, rfl⟩
set_option maxRecDepth 20000 in
theorem fLaw_law_819 : w_ic am_c239 819 820 .eq 1001 := ⟨rfl, rfl⟩
set_option maxRecDepth 20000 in
theorem fLaw_law_820 : w_fe am_c239 820 821 (.bipush 0) := ⟨rfl, rfl⟩
set_option maxRecDepth 20000 in
theorem fLaw_law_821 : w_fe am_c239 821 822 (.ireturn) := ⟨rfl, rfl⟩
set_option maxRecDepth 20000 in
theorem fLaw_law_822 : w_fe am_c239 822 823 (.aload 1) := ⟨rfl, rfl⟩
set_option maxRecDepth 20000 in
theorem fLaw_law_823 : w_fe am_c239 823 824 (.aload 0) := ⟨rfl, rfl⟩
set_option maxRecDepth 20000 in
theorem fLaw_law_824 : w_fe am_c239 824 825 (.iload 3) := ⟨rfl, rfl⟩
set_option maxRecDepth 20000 in
theorem fLaw_law_825 : w_fe am_c239 825 826 (.bipush 1) := ⟨rfl, rfl⟩
set_option maxRecDepth 20000 in
theorem fLaw_law_826 : w_fe am_c239 826 827 (.iadd) := ⟨rfl, rfl⟩
set_option maxRecDepth 20000 in
theorem fLaw_law_827 : w_fe am_c239 827 828 (.iaload) := ⟨rfl, rfl⟩
set_option maxRecDepth 20000 in
theorem fLaw_law_828 : w_fe am_c239 828 829 (.invokestatic 146) := ⟨rfl, rfl⟩
set_option maxRecDepth 20000 in
theorem fLaw_law_829 : w_fe am_c239 829 830 (.aload 2) := ⟨rfl, rfl⟩
set_option maxRecDepth 20000 in
theorem fLaw_law_830 : w_fe am_c239 830 831 (.aload 0) := ⟨rfl, rfl⟩
set_option maxRecDepth 20000 in
theorem fLaw_law_831 : w_fe am_c239 831 832 (.iload 3) := ⟨rfl, rfl⟩
set_option maxRecDepth 20000 in
theorem fLaw_law_832 : w_fe am_c239 832 833 (.bipush 1) := ⟨rfl, rfl⟩
set_option maxRecDepth 20000 in
theorem fLaw_law_833 : w_fe am_c239 833 834 (.iadd) := ⟨rfl, rfl⟩
set_option maxRecDepth 20000 in
theorem fLaw_law_834 : w_fe am_c239 834 835 (.iaload) := ⟨rfl, rfl⟩
set_option maxRecDepth 20000 in
theorem fLaw_law_835 : w_fe am_c239 835 836 (.invokestatic 230) := ⟨rfl, rfl⟩
set_option maxRecDepth 20000 in
theorem fLaw_law_836 : w_ic am_c239 836 837 .eq 1001 := ⟨rfl, rfl⟩
set_option maxRecDepth 20000 in
theorem fLaw_law_837 : w_fe am_c239 837 838 (.bipush 0) := ⟨rfl, rfl⟩
set_option maxRecDepth 20000 in
theorem fLaw_law_838 : w_fe am_c239 838 839 (.ireturn) := ⟨rfl, rfl⟩
set_option maxRecDepth 20000 in
theorem fLaw_law_839 : w_fe am_c239 839 840 (.aload 1) := ⟨rfl, rfl⟩
set_option maxRecDepth 20000 in
theorem fLaw_law_840 : w_fe am_c239 840 841 (.aload 0) := ⟨rfl, rfl⟩
set_option maxRecDepth 20000 in
theorem fLaw_law_841 : w_fe am_c239 841 842 (.iload 3) := ⟨rfl, rfl⟩
set_option maxRecDepth 20000 in
theorem fLaw_law_842 : w_fe am_c239 842 843 (.bipush 1) := ⟨rfl, rfl⟩
set_option maxRecDepth 20000 in
theorem fLaw_law_843 : w_fe am_c239 843 844 (.iadd) := ⟨rfl, rfl⟩
set_option maxRecDepth 20000 in
theorem fLaw_law_844 : w_fe am_c239 844 845 (.iaload) := ⟨rfl, rfl⟩
set_option maxRecDepth 20000 in
theorem fLaw_law_845 : w_fe am_c239 845 846 (.invokestatic 147) := ⟨rfl, rfl⟩
set_option maxRecDepth 20000 in
theorem fLaw_law_846 : w_fe am_c239 846 847 (.aload 2) := ⟨rfl, rfl⟩
set_option maxRecDepth 20000 in
theorem fLaw_law_847 : w_fe am_c239 847 848 (.aload 0) := ⟨rfl, rfl⟩
set_option maxRecDepth 20000 in
theorem fLaw_law_848 : w_fe am_c239 848 849 (.iload 3) := ⟨rfl, rfl⟩
set_option maxRecDepth 20000 in
theorem fLaw_law_849 : w_fe am_c239 849 850 (.bipush 1) := ⟨rfl, rfl⟩
set_option maxRecDepth 20000 in
theorem fLaw_law_850 : w_fe am_c239 850 851 (.iadd) := ⟨rfl, rfl⟩
set_option maxRecDepth 20000 in
theorem fLaw_law_851 : w_fe am_c239 851 852 (.iaload) := ⟨rfl, rfl⟩
set_option maxRecDepth 20000 in
theorem fLaw_law_852 : w_fe am_c239 852 853 (.invokestatic 232) := ⟨rfl, rfl⟩
set_option maxRecDepth 20000 in
theorem fLaw_law_853 : w_ic am_c239 853 854 .eq 1001 := ⟨rfl, rfl⟩
set_option maxRecDepth 20000 in
theorem fLaw_law_854 : w_fe am_c239 854 855 (.bipush 0) := ⟨rfl, rfl⟩
set_option maxRecDepth 20000 in
theorem fLaw_law_855 : w_fe am_c239 855 856 (.ireturn) := ⟨rfl, rfl⟩
set_option maxRecDepth 20000 in
theorem fLaw_law_856 : w_fe am_c239 856 857 (.aload 1) := ⟨rfl, rfl⟩
set_option maxRecDepth 20000 in
theorem fLaw_law_857 : w_fe am_c239 857 858 (.aload 0) := ⟨rfl, rfl⟩
set_option maxRecDepth 20000 in
theorem fLaw_law_858 : w_fe am_c239 858 859 (.iload 3) := ⟨rfl, rfl⟩
set_option maxRecDepth 20000 in
theorem fLaw_law_859 : w_fe am_c239 859 860 (.bipush 1) := ⟨rfl, rfl⟩
set_option maxRecDepth 20000 in
theorem fLaw_law_860 : w_fe am_c239 860 861 (.iadd) := ⟨rfl, rfl⟩
set_option maxRecDepth 20000 in
theorem fLaw_law_861 : w_fe am_c239 861 862 (.iaload) := ⟨rfl, rfl⟩
set_option maxRecDepth 20000 in
theorem fLaw_law_862 : w_fe am_c239 862 863 (.aload 0) := ⟨rfl, rfl⟩
set_option maxRecDepth 20000 in
theorem fLaw_law_863 : w_fe am_c239 863 864 (.iload 3) := ⟨rfl, rfl⟩
set_option maxRecDepth 20000 in
theorem fLaw_law_864 : w_fe am_c239 864 865 (.bipush 2) := ⟨rfl, rfl⟩
set_option maxRecDepth 20000 in
theorem fLaw_law_865 : w_fe am_c239 865 866 (.iadd) := ⟨rfl, rfl⟩
set_option maxRecDepth 20000 in
theorem fLaw_law_866 : w_fe am_c239 866 867 (.iaload) := ⟨rfl, rfl⟩
set_option maxRecDepth 20000 in
theorem fLaw_law_867 : w_fe am_c239 867 868 (.aload 0) := ⟨rfl, rfl⟩
set_option maxRecDepth 20000 in
theorem fLaw_law_868 : w_fe am_c239 868 869 (.iload 3) := ⟨rfl, rfl⟩
set_option maxRecDepth 20000 in
theorem fLaw_law_869 : w_fe am_c239 869 870 (.bipush 3) := ⟨rfl, rfl⟩
set_option maxRecDepth 20000 in
theorem fLaw_law_870 : w_fe am_c239 870 871 (.iadd) := ⟨rfl, rfl⟩
set_option maxRecDepth 20000 in
theorem fLaw_law_871 : w_fe am_c239 871 872 (.iaload) := ⟨rfl, rfl⟩
set_option maxRecDepth 20000 in
theorem fLaw_law_872 : w_fe am_c239 872 873 (.invokestatic 148) := ⟨rfl, rfl⟩
set_option maxRecDepth 20000 in
theorem fLaw_law_873 : w_fe am_c239 873 874 (.aload 2) := ⟨rfl, rfl⟩
set_option maxRecDepth 20000 in
theorem fLaw_law_874 : w_fe am_c239 874 875 (.aload 0) := ⟨rfl, rfl⟩
set_option maxRecDepth 20000 in
theorem fLaw_law_875 : w_fe am_c239 875 876 (.iload 3) := ⟨rfl, rfl⟩
set_option maxRecDepth 20000 in
theorem fLaw_law_876 : w_fe am_c239 876 877 (.bipush 1) := ⟨rfl, rfl⟩
set_option maxRecDepth 20000 in
theorem fLaw_law_877 : w_fe am_c239 877 878 (.iadd) := ⟨rfl, rfl⟩
set_option maxRecDepth 20000 in
theorem fLaw_law_878 : w_fe am_c239 878 879 (.iaload) := ⟨rfl, rfl⟩
set_option maxRecDepth 20000 in
theorem fLaw_law_879 : w_fe am_c239 879 880 (.aload 0) := ⟨rfl, rfl⟩
set_option maxRecDepth 20000 in
theorem fLaw_law_880 : w_fe am_c239 880 881 (.iload 3) := ⟨rfl, rfl⟩
set_option maxRecDepth 20000 in
theorem fLaw_law_881 : w_fe am_c239 881 882 (.bipush 2) := ⟨rfl, rfl⟩
set_option maxRecDepth 20000 in
theorem fLaw_law_882 : w_fe am_c239 882 883 (.iadd) := ⟨rfl, rfl⟩
set_option maxRecDepth 20000 in
theorem fLaw_law_883 : w_fe am_c239 883 884 (.iaload) := ⟨rfl, rfl⟩
set_option maxRecDepth 20000 in
theorem fLaw_law_884 : w_fe am_c239 884 885 (.aload 0) := ⟨rfl, rfl⟩
set_option maxRecDepth 20000 in
theorem fLaw_law_885 : w_fe am_c239 885 886 (.iload 3) := ⟨rfl, rfl⟩
set_option maxRecDepth 20000 in
theorem fLaw_law_886 : w_fe am_c239 886 887 (.bipush 3) := ⟨rfl, rfl⟩
set_option maxRecDepth 20000 in
theorem fLaw_law_887 : w_fe am_c239 887 888 (.iadd) := ⟨rfl, rfl⟩
set_option maxRecDepth 20000 in
theorem fLaw_law_888 : w_fe am_c239 888 889 (.iaload) := ⟨rfl, rfl⟩
set_option maxRecDepth 20000 in
theorem fLaw_law_889 : w_fe am_c239 889 890 (.invokestatic 233) := ⟨rfl, rfl⟩
set_option maxRecDepth 20000 in
theorem fLaw_law_890 : w_ic am_c239 890 891 .eq 1001 := ⟨rfl, rfl⟩
set_option maxRecDepth 20000 in
theorem fLaw_law_891 : w_fe am_c239 891 892 (.bipush 0) := ⟨rfl, rfl⟩
set_option maxRecDepth 20000 in
theorem fLaw_law_892 : w_fe am_c239 892 893 (.ireturn) := ⟨rfl, rfl⟩
set_option maxRecDepth 20000 in
theorem fLaw_law_893 : w_fe am_c239 893 894 (.aload 1) := ⟨rfl, rfl⟩
set_option maxRecDepth 20000 in
theorem fLaw_law_894 : w_fe am_c239 894 895 (.aload 0) := ⟨rfl, rfl⟩
set_option maxRecDepth 20000 in
theorem fLaw_law_895 : w_fe am_c239 895 896 (.iload 3) := ⟨rfl, rfl⟩
set_option maxRecDepth 20000 in
theorem fLaw_law_896 : w_fe am_c239 896 897 (.bipush 1) := ⟨rfl, rfl⟩
set_option maxRecDepth 20000 in
theorem fLaw_law_897 : w_fe am_c239 897 898 (.iadd) := ⟨rfl, rfl⟩
set_option maxRecDepth 20000 in
theorem fLaw_law_898 : w_fe am_c239 898 899 (.iaload) := ⟨rfl, rfl⟩
set_option maxRecDepth 20000 in
theorem fLaw_law_899 : w_fe am_c239 899 900 (.aload 0) := ⟨rfl, rfl⟩
set_option maxRecDepth 20000 in
theorem fLaw_law_900 : w_fe am_c239 900 901 (.iload 3) := ⟨rfl, rfl⟩
set_option maxRecDepth 20000 in
theorem fLaw_law_901 : w_fe am_c239 901 902 (.bipush 2) := ⟨rfl, rfl⟩
set_option maxRecDepth 20000 in
theorem fLaw_law_902 : w_fe am_c239 902 903 (.iadd) := ⟨rfl, rfl⟩
set_option maxRecDepth 20000 in
theorem fLaw_law_903 : w_fe am_c239 903 904 (.iaload) := ⟨rfl, rfl⟩
set_option maxRecDepth 20000 in
theorem fLaw_law_904 : w_fe am_c239 904 905 (.aload 0) := ⟨rfl, rfl⟩
set_option maxRecDepth 20000 in
theorem fLaw_law_905 : w_fe am_c239 905 906 (.iload 3) := ⟨rfl, rfl⟩
set_option maxRecDepth 20000 in
theorem fLaw_law_906 : w_fe am_c239 906 907 (.bipush 3) := ⟨rfl, rfl⟩
set_option maxRecDepth 20000 in
theorem fLaw_law_907 : w_fe am_c239 907 908 (.iadd) := ⟨rfl, rfl⟩
set_option maxRecDepth 20000 in
theorem fLaw_law_908 : w_fe am_c239 908 909 (.iaload) := ⟨rfl, rfl⟩
set_option maxRecDepth 20000 in
theorem fLaw_law_909 : w_fe am_c239 909 910 (.invokestatic 149) := ⟨rfl, rfl⟩
set_option maxRecDepth 20000 in
theorem fLaw_law_910 : w_fe am_c239 910 911 (.aload 2) := ⟨rfl, rfl⟩
set_option maxRecDepth 20000 in
theorem fLaw_law_911 : w_fe am_c239 911 912 (.aload 0) := ⟨rfl, rfl⟩
set_option maxRecDepth 20000 in
theorem fLaw_law_912 : w_fe am_c239 912 913 (.iload 3) := ⟨rfl, rfl⟩
set_option maxRecDepth 20000 in
theorem fLaw_law_913 : w_fe am_c239 913 914 (.bipush 1) := ⟨rfl, rfl⟩
set_option maxRecDepth 20000 in
theorem fLaw_law_914 : w_fe am_c239 914 915 (.iadd) := ⟨rfl, rfl⟩
set_option maxRecDepth 20000 in
theorem fLaw_law_915 : w_fe am_c239 915 916 (.iaload) := ⟨rfl, rfl⟩
set_option maxRecDepth 20000 in
theorem fLaw_law_916 : w_fe am_c239 916 917 (.aload 0) := ⟨rfl, rfl⟩
set_option maxRecDepth 20000 in
theorem fLaw_law_917 : w_fe am_c239 917 918 (.iload 3) := ⟨rfl, rfl⟩
set_option maxRecDepth 20000 in
theorem fLaw_law_918 : w_fe am_c239 918 919 (.bipush 2) := ⟨rfl, rfl⟩
set_option maxRecDepth 20000 in
theorem fLaw_law_919 : w_fe am_c239 919 920 (.iadd) := ⟨rfl, rfl⟩
set_option maxRecDepth 20000 in
theorem fLaw_law_920 : w_fe am_c239 920 921 (.iaload) := ⟨rfl, rfl⟩
set_option maxRecDepth 20000 in
theorem fLaw_law_921 : w_fe am_c239 921 922 (.aload 0) := ⟨rfl, rfl⟩
set_option maxRecDepth 20000 in
theorem fLaw_law_922 : w_fe am_c239 922 923 (.iload 3) := ⟨rfl, rfl⟩
set_option maxRecDepth 20000 in
theorem fLaw_law_923 : w_fe am_c239 923 924 (.bipush 3) := ⟨rfl, rfl⟩
set_option maxRecDepth 20000 in
theorem fLaw_law_924 : w_fe am_c239 924 925 (.iadd) := ⟨rfl, rfl⟩
set_option maxRecDepth 20000 in
theorem fLaw_law_925 : w_fe am_c239 925 926 (.iaload) := ⟨rfl, rfl⟩
set_option maxRecDepth 20000 in
theorem fLaw_law_926 : w_fe am_c239 926 927 (.invokestatic 235) := ⟨rfl, rfl⟩
set_option maxRecDepth 20000 in
theorem fLaw_law_927 : w_ic am_c239 927 928 .eq 1001 := ⟨rfl, rfl⟩
set_option maxRecDepth 20000 in
theorem fLaw_law_928 : w_fe am_c239 928 929 (.bipush 0) := ⟨rfl, rfl⟩
set_option maxRecDepth 20000 in
theorem fLaw_law_929 : w_fe am_c239 929 930 (.ireturn) := ⟨rfl, rfl⟩
set_option maxRecDepth 20000 in
theorem fLaw_law_930 : w_fe am_c239 930 931 (.aload 1) := ⟨rfl, rfl⟩
set_option maxRecDepth 20000 in
theorem fLaw_law_931 : w_fe am_c239 931 932 (.aload 0) := ⟨rfl, rfl⟩
set_option maxRecDepth 20000 in
theorem fLaw_law_932 : w_fe am_c239 932 933 (.iload 3) := ⟨rfl, rfl⟩
set_option maxRecDepth 20000 in
theorem fLaw_law_933 : w_fe am_c239 933 934 (.bipush 1) := ⟨rfl, rfl⟩
set_option maxRecDepth 20000 in
theorem fLaw_law_934 : w_fe am_c239 934 935 (.iadd) := ⟨rfl, rfl⟩
set_option maxRecDepth 20000 in
theorem fLaw_law_935 : w_fe am_c239 935 936 (.iaload) := ⟨rfl, rfl⟩
set_option maxRecDepth 20000 in
theorem fLaw_law_936 : w_fe am_c239 936 937 (.aload 0) := ⟨rfl, rfl⟩
set_option maxRecDepth 20000 in
theorem fLaw_law_937 : w_fe am_c239 937 938 (.iload 3) := ⟨rfl, rfl⟩
set_option maxRecDepth 20000 in
theorem fLaw_law_938 : w_fe am_c239 938 939 (.bipush 2) := ⟨rfl, rfl⟩
set_option maxRecDepth 20000 in
theorem fLaw_law_939 : w_fe am_c239 939 940 (.iadd) := ⟨rfl, rfl⟩
set_option maxRecDepth 20000 in
theorem fLaw_law_940 : w_fe am_c239 940 941 (.iaload) := ⟨rfl, rfl⟩
set_option maxRecDepth 20000 in
theorem fLaw_law_941 : w_fe am_c239 941 942 (.aload 0) := ⟨rfl, rfl⟩
set_option maxRecDepth 20000 in
theorem fLaw_law_942 : w_fe am_c239 942 943 (.iload 3) := ⟨rfl, rfl⟩
set_option maxRecDepth 20000 in
theorem fLaw_law_943 : w_fe am_c239 943 944 (.bipush 3) := ⟨rfl, rfl⟩
set_option maxRecDepth 20000 in
theorem fLaw_law_944 : w_fe am_c239 944 945 (.iadd) := ⟨rfl, rfl⟩
set_option maxRecDepth 20000 in
theorem fLaw_law_945 : w_fe am_c239 945 946 (.iaload) := ⟨rfl, rfl⟩
set_option maxRecDepth 20000 in
theorem fLaw_law_946 : w_fe am_c239 946 947 (.aload 0) := ⟨rfl, rfl⟩
set_option maxRecDepth 20000 in
theorem fLaw_law_947 : w_fe am_c239 947 948 (.iload 3) := ⟨rfl, rfl⟩
set_option maxRecDepth 20000 in
theorem fLaw_law_948 : w_fe am_c239 948 949 (.bipush 4) := ⟨rfl, rfl⟩
set_option maxRecDepth 20000 in
theorem fLaw_law_949 : w_fe am_c239 949 950 (.iadd) := ⟨rfl, rfl⟩
set_option maxRecDepth 20000 in
theorem fLaw_law_950 : w_fe am_c239 950 951 (.iaload) := ⟨rfl, rfl⟩
set_option maxRecDepth 20000 in
theorem fLaw_law_951 : w_fe am_c239 951 952 (.invokestatic 150) := ⟨rfl, rfl⟩
set_option maxRecDepth 20000 in
theorem fLaw_law_952 : w_fe am_c239 952 953 (.aload 2) := ⟨rfl, rfl⟩
set_option maxRecDepth 20000 in
theorem fLaw_law_953 : w_fe am_c239 953 954 (.aload 0) := ⟨rfl, rfl⟩
set_option maxRecDepth 20000 in
theorem fLaw_law_954 : w_fe am_c239 954 955 (.iload 3) := ⟨rfl, rfl⟩
set_option maxRecDepth 20000 in
theorem fLaw_law_955 : w_fe am_c239 955 956 (.bipush 1) := ⟨rfl, rfl⟩
set_option maxRecDepth 20000 in
theorem fLaw_law_956 : w_fe am_c239 956 957 (.iadd) := ⟨rfl, rfl⟩
set_option maxRecDepth 20000 in
theorem fLaw_law_957 : w_fe am_c239 957 958 (.iaload) := ⟨rfl, rfl⟩
set_option maxRecDepth 20000 in
theorem fLaw_law_958 : w_fe am_c239 958 959 (.aload 0) := ⟨rfl, rfl⟩
set_option maxRecDepth 20000 in
theorem fLaw_law_959 : w_fe am_c239 959 960 (.iload 3) := ⟨rfl, rfl⟩
set_option maxRecDepth 20000 in
theorem fLaw_law_960 : w_fe am_c239 960 961 (.bipush 2) := ⟨rfl, rfl⟩
set_option maxRecDepth 20000 in
theorem fLaw_law_961 : w_fe am_c239 961 962 (.iadd) := ⟨rfl, rfl⟩
set_option maxRecDepth 20000 in
theorem fLaw_law_962 : w_fe am_c239 962 963 (.iaload) := ⟨rfl, rfl⟩
set_option maxRecDepth 20000 in
theorem fLaw_law_963 : w_fe am_c239 963 964 (.aload 0) := ⟨rfl, rfl⟩
set_option maxRecDepth 20000 in
theorem fLaw_law_964 : w_fe am_c239 964 965 (.iload 3) := ⟨rfl, rfl⟩
set_option maxRecDepth 20000 in
theorem fLaw_law_965 : w_fe am_c239 965 966 (.bipush 3) := ⟨rfl, rfl⟩
set_option maxRecDepth 20000 in
theorem fLaw_law_966 : w_fe am_c239 966 967 (.iadd) := ⟨rfl, rfl⟩
set_option maxRecDepth 20000 in
theorem fLaw_law_967 : w_fe am_c239 967 968 (.iaload) := ⟨rfl, rfl⟩
set_option maxRecDepth 20000 in
theorem fLaw_law_968 : w_fe am_c239 968 969 (.aload 0) := ⟨rfl, rfl⟩
set_option maxRecDepth 20000 in
theorem fLaw_law_969 : w_fe am_c239 969 970 (.iload 3) := ⟨rfl, rfl⟩
set_option maxRecDepth 20000 in
theorem fLaw_law_970 : w_fe am_c239 970 971 (.bipush 4) := ⟨rfl, rfl⟩
set_option maxRecDepth 20000 in
theorem fLaw_law_971 : w_fe am_c239 971 972 (.iadd) := ⟨rfl, rfl⟩
set_option maxRecDepth 20000 in
theorem fLaw_law_972 : w_fe am_c239 972 973 (.iaload) := ⟨rfl, rfl⟩
set_option maxRecDepth 20000 in
theorem fLaw_law_973 : w_fe am_c239 973 974 (.invokestatic 236) := ⟨rfl, rfl⟩
set_option maxRecDepth 20000 in
theorem fLaw_law_974 : w_ic am_c239 974 975 .eq 1001 := ⟨rfl, rfl⟩
set_option maxRecDepth 20000 in
theorem fLaw_law_975 : w_fe am_c239 975 976 (.bipush 0) := ⟨rfl, rfl⟩
set_option maxRecDepth 20000 in
theorem fLaw_law_976 : w_fe am_c239 976 977 (.ireturn) := ⟨rfl, rfl⟩
set_option maxRecDepth 20000 in
theorem fLaw_law_977 : w_fe am_c239 977 978 (.aload 1) := ⟨rfl, rfl⟩
set_option maxRecDepth 20000 in
theorem fLaw_law_978 : w_fe am_c239 978 979 (.invokestatic 151) := ⟨rfl, rfl⟩
set_option maxRecDepth 20000 in
theorem fLaw_law_979 : w_fe am_c239 979 980 (.aload 2) := ⟨rfl, rfl⟩
set_option maxRecDepth 20000 in
theorem fLaw_law_980 : w_fe am_c239 980 981 (.invokestatic 237) := ⟨rfl, rfl⟩
set_option maxRecDepth 20000 in
theorem fLaw_law_981 : w_ic am_c239 981 982 .eq 1001 := ⟨rfl, rfl⟩
set_option maxRecDepth 20000 in
theorem fLaw_law_982 : w_fe am_c239 982 983 (.bipush 0) := ⟨rfl, rfl⟩
set_option maxRecDepth 20000 in
theorem fLaw_law_983 : w_fe am_c239 983 984 (.ireturn) := ⟨rfl, rfl⟩
set_option maxRecDepth 20000 in
theorem fLaw_law_984 : w_fe am_c239 984 985 (.aload 1) := ⟨rfl, rfl⟩
set_option maxRecDepth 20000 in
theorem fLaw_law_985 : w_fe am_c239 985 986 (.aload 0) := ⟨rfl, rfl⟩
set_option maxRecDepth 20000 in
theorem fLaw_law_986 : w_fe am_c239 986 987 (.iload 3) := ⟨rfl, rfl⟩
set_option maxRecDepth 20000 in
theorem fLaw_law_987 : w_fe am_c239 987 988 (.bipush 1) := ⟨rfl, rfl⟩
set_option maxRecDepth 20000 in
theorem fLaw_law_988 : w_fe am_c239 988 989 (.iadd) := ⟨rfl, rfl⟩
set_option maxRecDepth 20000 in
theorem fLaw_law_989 : w_fe am_c239 989 990 (.iaload) := ⟨rfl, rfl⟩
set_option maxRecDepth 20000 in
theorem fLaw_law_990 : w_fe am_c239 990 991 (.invokestatic 152) := ⟨rfl, rfl⟩
set_option maxRecDepth 20000 in
theorem fLaw_law_991 : w_fe am_c239 991 992 (.aload 2) := ⟨rfl, rfl⟩
set_option maxRecDepth 20000 in
theorem fLaw_law_992 : w_fe am_c239 992 993 (.aload 0) := ⟨rfl, rfl⟩
set_option maxRecDepth 20000 in
theorem fLaw_law_993 : w_fe am_c239 993 994 (.iload 3) := ⟨rfl, rfl⟩
set_option maxRecDepth 20000 in
theorem fLaw_law_994 : w_fe am_c239 994 995 (.bipush 1) := ⟨rfl, rfl⟩
set_option maxRecDepth 20000 in
theorem fLaw_law_995 : w_fe am_c239 995 996 (.iadd) := ⟨rfl, rfl⟩
set_option maxRecDepth 20000 in
theorem fLaw_law_996 : w_fe am_c239 996 997 (.iaload) := ⟨rfl, rfl⟩
set_option maxRecDepth 20000 in
theorem fLaw_law_997 : w_fe am_c239 997 998 (.invokestatic 238) := ⟨rfl, rfl⟩
set_option maxRecDepth 20000 in
theorem fLaw_law_998 : w_ic am_c239 998 999 .eq 1001 := ⟨rfl, rfl⟩
set_option maxRecDepth 20000 in
theorem fLaw_law_999 : w_fe am_c239 999 1000 (.bipush 0) := ⟨rfl, rfl⟩
set_option maxRecDepth 20000 in
theorem fLaw_law_1000 : w_fe am_c239 1000 1001 (.ireturn) := ⟨rfl, rfl⟩
set_option maxRecDepth 20000 in
theorem fLaw_law_1001 : w_fe am_c239 1001 1002 (.iinc 3 5) := ⟨rfl, rfl⟩
set_option maxRecDepth 20000 in
theorem fLaw_law_1002 : w_gt am_c239 1002 10 := rfl
set_option maxRecDepth 20000 in
theorem fLaw_law_1003 : w_fe am_c239 1003 1004 (.bipush 1) := ⟨rfl, rfl⟩
set_option maxRecDepth 20000 in
theorem fLaw_law_1004 : w_fe am_c239 1004 1005 (.ireturn) := ⟨rfl, rfl⟩
def LLaw_law_10 (xs : List Int) (d : Nat) (Q : Option w_V → w_M → Prop) (v3 : Int) (σ : w_M) : Prop := w_Ex (xs, d) 2 am_c239 Q 10 [some (.inr (.inr (8000, 1013))), some (.inr (.inr (0, 0))), some (.inr (.inr (9, 122))), some (.inl v3)] [] σ

set_option maxRecDepth 20000 in
theorem bLaw_law_10 {xs : List Int} {d : Nat} {Q : Option w_V → w_M → Prop} {v3 : Int} {σ : w_M}
    (h : w_in (((w_carr xs 1013).length : Int) - 5) ∧ (((((w_carr xs 1013).length : Int) - 5) < v3 → Q (some (.inl 1)) σ) ∧ (v3 ≤ (((w_carr xs 1013).length : Int) - 5) → (0 ≤ v3 ∧ v3 < ((w_carr xs 1013).length : Int) ∧ (((w_and ((w_carr xs 1013).getD v3.toNat 0) 63) = 0 → (w_in (v3 + 1) ∧ 0 ≤ (v3 + 1) ∧ (v3 + 1) < ((w_carr xs 1013).length : Int) ∧ p_Moon_feed ((w_carr xs 1013).getD (v3 + 1).toNat 0) σ ∧ (∀ (y1 : Int) (τ2 : w_M), q_Moon_feed ((w_carr xs 1013).getD (v3 + 1).toNat 0) σ y1 τ2 → (p_Model_feed ((w_carr xs 1013).getD (v3 + 1).toNat 0) τ2 ∧ (∀ (y3 : Int) (τ4 : w_M), q_Model_feed ((w_carr xs 1013).getD (v3 + 1).toNat 0) τ2 y3 τ4 → ((y1 = y3 → (w_in (v3 + 5) ∧ LLaw_law_10 xs (d + 20) Q (v3 + 5) τ4)) ∧ (¬ y1 = y3 → Q (some (.inl 0)) τ4))))))) ∧ ((w_and ((w_carr xs 1013).getD v3.toNat 0) 63) = 1 → (w_in (v3 + 1) ∧ 0 ≤ (v3 + 1) ∧ (v3 + 1) < ((w_carr xs 1013).length : Int) ∧ p_Moon_end ((w_carr xs 1013).getD (v3 + 1).toNat 0) σ ∧ (∀ (y6 : Int) (τ7 : w_M), q_Moon_end ((w_carr xs 1013).getD (v3 + 1).toNat 0) σ y6 τ7 → (p_Model_end ((w_carr xs 1013).getD (v3 + 1).toNat 0) τ7 ∧ (∀ (y8 : Int) (τ9 : w_M), q_Model_end ((w_carr xs 1013).getD (v3 + 1).toNat 0) τ7 y8 τ9 → ((y6 = y8 → (w_in (v3 + 5) ∧ LLaw_law_10 xs (d + 20) Q (v3 + 5) τ9)) ∧ (¬ y6 = y8 → Q (some (.inl 0)) τ9))))))) ∧ ((w_and ((w_carr xs 1013).getD v3.toNat 0) 63) = 2 → (p_Moon_text σ ∧ (∀ (y11 : Int) (τ12 : w_M), q_Moon_text σ y11 τ12 → (p_Model_text τ12 ∧ (∀ (y13 : Int) (τ14 : w_M), q_Model_text τ12 y13 τ14 → ((y11 = y13 → (w_in (v3 + 5) ∧ LLaw_law_10 xs (d + 20) Q (v3 + 5) τ14)) ∧ (¬ y11 = y13 → Q (some (.inl 0)) τ14))))))) ∧ ((w_and ((w_carr xs 1013).getD v3.toNat 0) 63) = 3 → (p_Moon_fault σ ∧ (∀ (y16 : Int) (τ17 : w_M), q_Moon_fault σ y16 τ17 → (p_Model_fault τ17 ∧ (∀ (y18 : Int) (τ19 : w_M), q_Model_fault τ17 y18 τ19 → ((y16 = y18 → (w_in (v3 + 5) ∧ LLaw_law_10 xs (d + 20) Q (v3 + 5) τ19)) ∧ (¬ y16 = y18 → Q (some (.inl 0)) τ19))))))) ∧ ((w_and ((w_carr xs 1013).getD v3.toNat 0) 63) = 4 → (w_in (v3 + 1) ∧ 0 ≤ (v3 + 1) ∧ (v3 + 1) < ((w_carr xs 1013).length : Int) ∧ p_Moon_rule ((w_carr xs 1013).getD (v3 + 1).toNat 0) σ ∧ (∀ (y21 : Int) (τ22 : w_M), q_Moon_rule ((w_carr xs 1013).getD (v3 + 1).toNat 0) σ y21 τ22 → (p_Model_rule ((w_carr xs 1013).getD (v3 + 1).toNat 0) τ22 ∧ (∀ (y23 : Int) (τ24 : w_M), q_Model_rule ((w_carr xs 1013).getD (v3 + 1).toNat 0) τ22 y23 τ24 → ((y21 = y23 → (w_in (v3 + 5) ∧ LLaw_law_10 xs (d + 20) Q (v3 + 5) τ24)) ∧ (¬ y21 = y23 → Q (some (.inl 0)) τ24))))))) ∧ ((w_and ((w_carr xs 1013).getD v3.toNat 0) 63) = 5 → (w_in (v3 + 1) ∧ 0 ≤ (v3 + 1) ∧ (v3 + 1) < ((w_carr xs 1013).length : Int) ∧ w_in (v3 + 2) ∧ 0 ≤ (v3 + 2) ∧ (v3 + 2) < ((w_carr xs 1013).length : Int) ∧ p_Moon_strip ((w_carr xs 1013).getD (v3 + 1).toNat 0) ((w_carr xs 1013).getD (v3 + 2).toNat 0) σ ∧ (∀ (y26 : Int) (τ27 : w_M), q_Moon_strip ((w_carr xs 1013).getD (v3 + 1).toNat 0) ((w_carr xs 1013).getD (v3 + 2).toNat 0) σ y26 τ27 → (p_Model_strip ((w_carr xs 1013).getD (v3 + 1).toNat 0) ((w_carr xs 1013).getD (v3 + 2).toNat 0) τ27 ∧ (∀ (y28 : Int) (τ29 : w_M), q_Model_strip ((w_carr xs 1013).getD (v3 + 1).toNat 0) ((w_carr xs 1013).getD (v3 + 2).toNat 0) τ27 y28 τ29 → ((y26 = y28 → (w_in (v3 + 5) ∧ LLaw_law_10 xs (d + 20) Q (v3 + 5) τ29)) ∧ (¬ y26 = y28 → Q (some (.inl 0)) τ29))))))) ∧ ((w_and ((w_carr xs 1013).getD v3.toNat 0) 63) = 6 → (w_in (v3 + 1) ∧ 0 ≤ (v3 + 1) ∧ (v3 + 1) < ((w_carr xs 1013).length : Int) ∧ w_in (v3 + 2) ∧ 0 ≤ (v3 + 2) ∧ (v3 + 2) < ((w_carr xs 1013).length : Int) ∧ p_Moon_reaper ((w_carr xs 1013).getD (v3 + 1).toNat 0) ((w_carr xs 1013).getD (v3 + 2).toNat 0) σ ∧ (∀ (y31 : Int) (τ32 : w_M), q_Moon_reaper ((w_carr xs 1013).getD (v3 + 1).toNat 0) ((w_carr xs 1013).getD (v3 + 2).toNat 0) σ y31 τ32 → (p_Model_reaper ((w_carr xs 1013).getD (v3 + 1).toNat 0) ((w_carr xs 1013).getD (v3 + 2).toNat 0) τ32 ∧ (∀ (y33 : Int) (τ34 : w_M), q_Model_reaper ((w_carr xs 1013).getD (v3 + 1).toNat 0) ((w_carr xs 1013).getD (v3 + 2).toNat 0) τ32 y33 τ34 → ((y31 = y33 → (w_in (v3 + 5) ∧ LLaw_law_10 xs (d + 20) Q (v3 + 5) τ34)) ∧ (¬ y31 = y33 → Q (some (.inl 0)) τ34))))))) ∧ ((w_and ((w_carr xs 1013).getD v3.toNat 0) 63) = 7 → (w_in (v3 + 1) ∧ 0 ≤ (v3 + 1) ∧ (v3 + 1) < ((w_carr xs 1013).length : Int) ∧ p_Moon_harvest ((w_carr xs 1013).getD (v3 + 1).toNat 0) σ ∧ (∀ (y36 : Int) (τ37 : w_M), q_Moon_harvest ((w_carr xs 1013).getD (v3 + 1).toNat 0) σ y36 τ37 → (p_Model_harvest ((w_carr xs 1013).getD (v3 + 1).toNat 0) τ37 ∧ (∀ (y38 : Int) (τ39 : w_M), q_Model_harvest ((w_carr xs 1013).getD (v3 + 1).toNat 0) τ37 y38 τ39 → ((y36 = y38 → (w_in (v3 + 5) ∧ LLaw_law_10 xs (d + 20) Q (v3 + 5) τ39)) ∧ (¬ y36 = y38 → Q (some (.inl 0)) τ39))))))) ∧ ((w_and ((w_carr xs 1013).getD v3.toNat 0) 63) = 8 → (w_in (v3 + 1) ∧ 0 ≤ (v3 + 1) ∧ (v3 + 1) < ((w_carr xs 1013).length : Int) ∧ w_in (v3 + 2) ∧ 0 ≤ (v3 + 2) ∧ (v3 + 2) < ((w_carr xs 1013).length : Int) ∧ p_Moon_send ((w_carr xs 1013).getD (v3 + 1).toNat 0) ((w_carr xs 1013).getD (v3 + 2).toNat 0) σ ∧ (∀ (y41 : Int) (τ42 : w_M), q_Moon_send ((w_carr xs 1013).getD (v3 + 1).toNat 0) ((w_carr xs 1013).getD (v3 + 2).toNat 0) σ y41 τ42 → (p_Model_send ((w_carr xs 1013).getD (v3 + 1).toNat 0) ((w_carr xs 1013).getD (v3 + 2).toNat 0) τ42 ∧ (∀ (y43 : Int) (τ44 : w_M), q_Model_send ((w_carr xs 1013).getD (v3 + 1).toNat 0) ((w_carr xs 1013).getD (v3 + 2).toNat 0) τ42 y43 τ44 → ((y41 = y43 → (w_in (v3 + 5) ∧ LLaw_law_10 xs (d + 20) Q (v3 + 5) τ44)) ∧ (¬ y41 = y43 → Q (some (.inl 0)) τ44))))))) ∧ ((w_and ((w_carr xs 1013).getD v3.toNat 0) 63) = 9 → (w_in (v3 + 1) ∧ 0 ≤ (v3 + 1) ∧ (v3 + 1) < ((w_carr xs 1013).length : Int) ∧ w_in (v3 + 2) ∧ 0 ≤ (v3 + 2) ∧ (v3 + 2) < ((w_carr xs 1013).length : Int) ∧ w_in (v3 + 3) ∧ 0 ≤ (v3 + 3) ∧ (v3 + 3) < ((w_carr xs 1013).length : Int) ∧ p_Moon_lend ((w_carr xs 1013).getD (v3 + 1).toNat 0) ((w_carr xs 1013).getD (v3 + 2).toNat 0) ((w_carr xs 1013).getD (v3 + 3).toNat 0) σ ∧ (∀ (y46 : Int) (τ47 : w_M), q_Moon_lend ((w_carr xs 1013).getD (v3 + 1).toNat 0) ((w_carr xs 1013).getD (v3 + 2).toNat 0) ((w_carr xs 1013).getD (v3 + 3).toNat 0) σ y46 τ47 → (p_Model_lend ((w_carr xs 1013).getD (v3 + 1).toNat 0) ((w_carr xs 1013).getD (v3 + 2).toNat 0) ((w_carr xs 1013).getD (v3 + 3).toNat 0) τ47 ∧ (∀ (y48 : Int) (τ49 : w_M), q_Model_lend ((w_carr xs 1013).getD (v3 + 1).toNat 0) ((w_carr xs 1013).getD (v3 + 2).toNat 0) ((w_carr xs 1013).getD (v3 + 3).toNat 0) τ47 y48 τ49 → ((y46 = y48 → (w_in (v3 + 5) ∧ LLaw_law_10 xs (d + 20) Q (v3 + 5) τ49)) ∧ (¬ y46 = y48 → Q (some (.inl 0)) τ49))))))) ∧ ((w_and ((w_carr xs 1013).getD v3.toNat 0) 63) = 10 → (w_in (v3 + 1) ∧ 0 ≤ (v3 + 1) ∧ (v3 + 1) < ((w_carr xs 1013).length : Int) ∧ w_in (v3 + 2) ∧ 0 ≤ (v3 + 2) ∧ (v3 + 2) < ((w_carr xs 1013).length : Int) ∧ p_Moon_whet ((w_carr xs 1013).getD (v3 + 1).toNat 0) ((w_carr xs 1013).getD (v3 + 2).toNat 0) σ ∧ (∀ (y51 : Int) (τ52 : w_M), q_Moon_whet ((w_carr xs 1013).getD (v3 + 1).toNat 0) ((w_carr xs 1013).getD (v3 + 2).toNat 0) σ y51 τ52 → (p_Model_whet ((w_carr xs 1013).getD (v3 + 1).toNat 0) ((w_carr xs 1013).getD (v3 + 2).toNat 0) τ52 ∧ (∀ (y53 : Int) (τ54 : w_M), q_Model_whet ((w_carr xs 1013).getD (v3 + 1).toNat 0) ((w_carr xs 1013).getD (v3 + 2).toNat 0) τ52 y53 τ54 → ((y51 = y53 → (w_in (v3 + 5) ∧ LLaw_law_10 xs (d + 20) Q (v3 + 5) τ54)) ∧ (¬ y51 = y53 → Q (some (.inl 0)) τ54))))))) ∧ ((w_and ((w_carr xs 1013).getD v3.toNat 0) 63) = 11 → (w_in (v3 + 1) ∧ 0 ≤ (v3 + 1) ∧ (v3 + 1) < ((w_carr xs 1013).length : Int) ∧ w_in (v3 + 2) ∧ 0 ≤ (v3 + 2) ∧ (v3 + 2) < ((w_carr xs 1013).length : Int) ∧ p_Moon_fill ((w_carr xs 1013).getD (v3 + 1).toNat 0) ((w_carr xs 1013).getD (v3 + 2).toNat 0) σ ∧ (∀ (y56 : Int) (τ57 : w_M), q_Moon_fill ((w_carr xs 1013).getD (v3 + 1).toNat 0) ((w_carr xs 1013).getD (v3 + 2).toNat 0) σ y56 τ57 → (p_Model_fill ((w_carr xs 1013).getD (v3 + 1).toNat 0) ((w_carr xs 1013).getD (v3 + 2).toNat 0) τ57 ∧ (∀ (y58 : Int) (τ59 : w_M), q_Model_fill ((w_carr xs 1013).getD (v3 + 1).toNat 0) ((w_carr xs 1013).getD (v3 + 2).toNat 0) τ57 y58 τ59 → ((y56 = y58 → (w_in (v3 + 5) ∧ LLaw_law_10 xs (d + 20) Q (v3 + 5) τ59)) ∧ (¬ y56 = y58 → Q (some (.inl 0)) τ59))))))) ∧ ((w_and ((w_carr xs 1013).getD v3.toNat 0) 63) = 12 → (w_in (v3 + 1) ∧ 0 ≤ (v3 + 1) ∧ (v3 + 1) < ((w_carr xs 1013).length : Int) ∧ w_in (v3 + 2) ∧ 0 ≤ (v3 + 2) ∧ (v3 + 2) < ((w_carr xs 1013).length : Int) ∧ ((((w_carr xs 1013).getD (v3 + 2).toNat 0) = 0 → (p_Moon_cloud ((w_carr xs 1013).getD (v3 + 1).toNat 0) 0 σ ∧ (∀ (y61 : Int) (τ62 : w_M), q_Moon_cloud ((w_carr xs 1013).getD (v3 + 1).toNat 0) 0 σ y61 τ62 → (p_Model_cloud ((w_carr xs 1013).getD (v3 + 1).toNat 0) 0 τ62 ∧ (∀ (y63 : Int) (τ64 : w_M), q_Model_cloud ((w_carr xs 1013).getD (v3 + 1).toNat 0) 0 τ62 y63 τ64 → ((y61 = y63 → (w_in (v3 + 5) ∧ LLaw_law_10 xs (d + 20) Q (v3 + 5) τ64)) ∧ (¬ y61 = y63 → Q (some (.inl 0)) τ64))))))) ∧ (¬ ((w_carr xs 1013).getD (v3 + 2).toNat 0) = 0 → (p_Moon_cloud ((w_carr xs 1013).getD (v3 + 1).toNat 0) 1 σ ∧ (∀ (y66 : Int) (τ67 : w_M), q_Moon_cloud ((w_carr xs 1013).getD (v3 + 1).toNat 0) 1 σ y66 τ67 → (p_Model_cloud ((w_carr xs 1013).getD (v3 + 1).toNat 0) 1 τ67 ∧ (∀ (y68 : Int) (τ69 : w_M), q_Model_cloud ((w_carr xs 1013).getD (v3 + 1).toNat 0) 1 τ67 y68 τ69 → ((y66 = y68 → (w_in (v3 + 5) ∧ LLaw_law_10 xs (d + 20) Q (v3 + 5) τ69)) ∧ (¬ y66 = y68 → Q (some (.inl 0)) τ69)))))))))) ∧ ((w_and ((w_carr xs 1013).getD v3.toNat 0) 63) = 13 → (w_in (v3 + 1) ∧ 0 ≤ (v3 + 1) ∧ (v3 + 1) < ((w_carr xs 1013).length : Int) ∧ w_in (v3 + 2) ∧ 0 ≤ (v3 + 2) ∧ (v3 + 2) < ((w_carr xs 1013).length : Int) ∧ ((((w_carr xs 1013).getD (v3 + 2).toNat 0) = 0 → (p_Moon_thistle ((w_carr xs 1013).getD (v3 + 1).toNat 0) 0 σ ∧ (∀ (y72 : Int) (τ73 : w_M), q_Moon_thistle ((w_carr xs 1013).getD (v3 + 1).toNat 0) 0 σ y72 τ73 → (p_Model_thistle ((w_carr xs 1013).getD (v3 + 1).toNat 0) 0 τ73 ∧ (∀ (y74 : Int) (τ75 : w_M), q_Model_thistle ((w_carr xs 1013).getD (v3 + 1).toNat 0) 0 τ73 y74 τ75 → ((y72 = y74 → (w_in (v3 + 5) ∧ LLaw_law_10 xs (d + 20) Q (v3 + 5) τ75)) ∧ (¬ y72 = y74 → Q (some (.inl 0)) τ75))))))) ∧ (¬ ((w_carr xs 1013).getD (v3 + 2).toNat 0) = 0 → (p_Moon_thistle ((w_carr xs 1013).getD (v3 + 1).toNat 0) 1 σ ∧ (∀ (y77 : Int) (τ78 : w_M), q_Moon_thistle ((w_carr xs 1013).getD (v3 + 1).toNat 0) 1 σ y77 τ78 → (p_Model_thistle ((w_carr xs 1013).getD (v3 + 1).toNat 0) 1 τ78 ∧ (∀ (y79 : Int) (τ80 : w_M), q_Model_thistle ((w_carr xs 1013).getD (v3 + 1).toNat 0) 1 τ78 y79 τ80 → ((y77 = y79 → (w_in (v3 + 5) ∧ LLaw_law_10 xs (d + 20) Q (v3 + 5) τ80)) ∧ (¬ y77 = y79 → Q (some (.inl 0)) τ80)))))))))) ∧ ((w_and ((w_carr xs 1013).getD v3.toNat 0) 63) = 14 → (w_in (v3 + 1) ∧ 0 ≤ (v3 + 1) ∧ (v3 + 1) < ((w_carr xs 1013).length : Int) ∧ w_in (v3 + 2) ∧ 0 ≤ (v3 + 2) ∧ (v3 + 2) < ((w_carr xs 1013).length : Int) ∧ p_Moon_own ((w_carr xs 1013).getD (v3 + 1).toNat 0) ((w_carr xs 1013).getD (v3 + 2).toNat 0) σ ∧ (∀ (y83 : Int) (τ84 : w_M), q_Moon_own ((w_carr xs 1013).getD (v3 + 1).toNat 0) ((w_carr xs 1013).getD (v3 + 2).toNat 0) σ y83 τ84 → (p_Model_own ((w_carr xs 1013).getD (v3 + 1).toNat 0) ((w_carr xs 1013).getD (v3 + 2).toNat 0) τ84 ∧ (∀ (y85 : Int) (τ86 : w_M), q_Model_own ((w_carr xs 1013).getD (v3 + 1).toNat 0) ((w_carr xs 1013).getD (v3 + 2).toNat 0) τ84 y85 τ86 → ((y83 = y85 → (w_in (v3 + 5) ∧ LLaw_law_10 xs (d + 20) Q (v3 + 5) τ86)) ∧ (¬ y83 = y85 → Q (some (.inl 0)) τ86))))))) ∧ ((w_and ((w_carr xs 1013).getD v3.toNat 0) 63) = 15 → (w_in (v3 + 1) ∧ 0 ≤ (v3 + 1) ∧ (v3 + 1) < ((w_carr xs 1013).length : Int) ∧ w_in (v3 + 2) ∧ 0 ≤ (v3 + 2) ∧ (v3 + 2) < ((w_carr xs 1013).length : Int) ∧ p_Moon_grow ((w_carr xs 1013).getD (v3 + 1).toNat 0) ((w_carr xs 1013).getD (v3 + 2).toNat 0) σ ∧ (∀ (y88 : Int) (τ89 : w_M), q_Moon_grow ((w_carr xs 1013).getD (v3 + 1).toNat 0) ((w_carr xs 1013).getD (v3 + 2).toNat 0) σ y88 τ89 → (p_Model_grow ((w_carr xs 1013).getD (v3 + 1).toNat 0) ((w_carr xs 1013).getD (v3 + 2).toNat 0) τ89 ∧ (∀ (y90 : Int) (τ91 : w_M), q_Model_grow ((w_carr xs 1013).getD (v3 + 1).toNat 0) ((w_carr xs 1013).getD (v3 + 2).toNat 0) τ89 y90 τ91 → ((y88 = y90 → (w_in (v3 + 5) ∧ LLaw_law_10 xs (d + 20) Q (v3 + 5) τ91)) ∧ (¬ y88 = y90 → Q (some (.inl 0)) τ91))))))) ∧ ((w_and ((w_carr xs 1013).getD v3.toNat 0) 63) = 16 → (w_in (v3 + 1) ∧ 0 ≤ (v3 + 1) ∧ (v3 + 1) < ((w_carr xs 1013).length : Int) ∧ p_Moon_go ((w_carr xs 1013).getD (v3 + 1).toNat 0) σ ∧ (∀ (y93 : Int) (τ94 : w_M), q_Moon_go ((w_carr xs 1013).getD (v3 + 1).toNat 0) σ y93 τ94 → (p_Model_go ((w_carr xs 1013).getD (v3 + 1).toNat 0) τ94 ∧ (∀ (y95 : Int) (τ96 : w_M), q_Model_go ((w_carr xs 1013).getD (v3 + 1).toNat 0) τ94 y95 τ96 → ((y93 = y95 → (w_in (v3 + 5) ∧ LLaw_law_10 xs (d + 20) Q (v3 + 5) τ96)) ∧ (¬ y93 = y95 → Q (some (.inl 0)) τ96))))))) ∧ ((w_and ((w_carr xs 1013).getD v3.toNat 0) 63) = 17 → (w_in (v3 + 1) ∧ 0 ≤ (v3 + 1) ∧ (v3 + 1) < ((w_carr xs 1013).length : Int) ∧ w_in (v3 + 2) ∧ 0 ≤ (v3 + 2) ∧ (v3 + 2) < ((w_carr xs 1013).length : Int) ∧ w_in (v3 + 3) ∧ 0 ≤ (v3 + 3) ∧ (v3 + 3) < ((w_carr xs 1013).length : Int) ∧ p_Moon_ahead ((w_carr xs 1013).getD (v3 + 1).toNat 0) ((w_carr xs 1013).getD (v3 + 2).toNat 0) ((w_carr xs 1013).getD (v3 + 3).toNat 0) σ ∧ (∀ (y98 : Int) (τ99 : w_M), q_Moon_ahead ((w_carr xs 1013).getD (v3 + 1).toNat 0) ((w_carr xs 1013).getD (v3 + 2).toNat 0) ((w_carr xs 1013).getD (v3 + 3).toNat 0) σ y98 τ99 → (p_Model_ahead ((w_carr xs 1013).getD (v3 + 1).toNat 0) ((w_carr xs 1013).getD (v3 + 2).toNat 0) ((w_carr xs 1013).getD (v3 + 3).toNat 0) τ99 ∧ (∀ (y100 : Int) (τ101 : w_M), q_Model_ahead ((w_carr xs 1013).getD (v3 + 1).toNat 0) ((w_carr xs 1013).getD (v3 + 2).toNat 0) ((w_carr xs 1013).getD (v3 + 3).toNat 0) τ99 y100 τ101 → ((y98 = y100 → (w_in (v3 + 5) ∧ LLaw_law_10 xs (d + 20) Q (v3 + 5) τ101)) ∧ (¬ y98 = y100 → Q (some (.inl 0)) τ101))))))) ∧ ((w_and ((w_carr xs 1013).getD v3.toNat 0) 63) = 18 → (w_in (v3 + 1) ∧ 0 ≤ (v3 + 1) ∧ (v3 + 1) < ((w_carr xs 1013).length : Int) ∧ w_in (v3 + 2) ∧ 0 ≤ (v3 + 2) ∧ (v3 + 2) < ((w_carr xs 1013).length : Int) ∧ p_Moon_stands ((w_carr xs 1013).getD (v3 + 1).toNat 0) ((w_carr xs 1013).getD (v3 + 2).toNat 0) σ ∧ (∀ (y103 : Int) (τ104 : w_M), q_Moon_stands ((w_carr xs 1013).getD (v3 + 1).toNat 0) ((w_carr xs 1013).getD (v3 + 2).toNat 0) σ y103 τ104 → (p_Model_stands ((w_carr xs 1013).getD (v3 + 1).toNat 0) ((w_carr xs 1013).getD (v3 + 2).toNat 0) τ104 ∧ (∀ (y105 : Int) (τ106 : w_M), q_Model_stands ((w_carr xs 1013).getD (v3 + 1).toNat 0) ((w_carr xs 1013).getD (v3 + 2).toNat 0) τ104 y105 τ106 → ((y103 = y105 → (w_in (v3 + 5) ∧ LLaw_law_10 xs (d + 20) Q (v3 + 5) τ106)) ∧ (¬ y103 = y105 → Q (some (.inl 0)) τ106))))))) ∧ ((w_and ((w_carr xs 1013).getD v3.toNat 0) 63) = 19 → (w_in (v3 + 1) ∧ 0 ≤ (v3 + 1) ∧ (v3 + 1) < ((w_carr xs 1013).length : Int) ∧ p_Moon_done ((w_carr xs 1013).getD (v3 + 1).toNat 0) σ ∧ (∀ (y108 : Int) (τ109 : w_M), q_Moon_done ((w_carr xs 1013).getD (v3 + 1).toNat 0) σ y108 τ109 → (p_Model_done ((w_carr xs 1013).getD (v3 + 1).toNat 0) τ109 ∧ (∀ (y110 : Int) (τ111 : w_M), q_Model_done ((w_carr xs 1013).getD (v3 + 1).toNat 0) τ109 y110 τ111 → ((y108 = y110 → (w_in (v3 + 5) ∧ LLaw_law_10 xs (d + 20) Q (v3 + 5) τ111)) ∧ (¬ y108 = y110 → Q (some (.inl 0)) τ111))))))) ∧ ((w_and ((w_carr xs 1013).getD v3.toNat 0) 63) = 20 → (p_Moon_left σ ∧ (∀ (y113 : Int) (τ114 : w_M), q_Moon_left σ y113 τ114 → (p_Model_left τ114 ∧ (∀ (y115 : Int) (τ116 : w_M), q_Model_left τ114 y115 τ116 → ((y113 = y115 → (w_in (v3 + 5) ∧ LLaw_law_10 xs (d + 20) Q (v3 + 5) τ116)) ∧ (¬ y113 = y115 → Q (some (.inl 0)) τ116))))))) ∧ ((w_and ((w_carr xs 1013).getD v3.toNat 0) 63) = 21 → (w_in (v3 + 1) ∧ 0 ≤ (v3 + 1) ∧ (v3 + 1) < ((w_carr xs 1013).length : Int) ∧ p_Moon_begin ((w_carr xs 1013).getD (v3 + 1).toNat 0) σ ∧ (∀ (y118 : Int) (τ119 : w_M), q_Moon_begin ((w_carr xs 1013).getD (v3 + 1).toNat 0) σ y118 τ119 → (p_Model_begin ((w_carr xs 1013).getD (v3 + 1).toNat 0) τ119 ∧ (∀ (y120 : Int) (τ121 : w_M), q_Model_begin ((w_carr xs 1013).getD (v3 + 1).toNat 0) τ119 y120 τ121 → ((y118 = y120 → (w_in (v3 + 5) ∧ LLaw_law_10 xs (d + 20) Q (v3 + 5) τ121)) ∧ (¬ y118 = y120 → Q (some (.inl 0)) τ121))))))) ∧ ((w_and ((w_carr xs 1013).getD v3.toNat 0) 63) = 22 → (w_in (v3 + 1) ∧ 0 ≤ (v3 + 1) ∧ (v3 + 1) < ((w_carr xs 1013).length : Int) ∧ w_in (v3 + 2) ∧ 0 ≤ (v3 + 2) ∧ (v3 + 2) < ((w_carr xs 1013).length : Int) ∧ p_Moon_best ((w_carr xs 1013).getD (v3 + 1).toNat 0) ((w_carr xs 1013).getD (v3 + 2).toNat 0) σ ∧ (∀ (y123 : Int) (τ124 : w_M), q_Moon_best ((w_carr xs 1013).getD (v3 + 1).toNat 0) ((w_carr xs 1013).getD (v3 + 2).toNat 0) σ y123 τ124 → (p_Model_best ((w_carr xs 1013).getD (v3 + 1).toNat 0) ((w_carr xs 1013).getD (v3 + 2).toNat 0) τ124 ∧ (∀ (y125 : Int) (τ126 : w_M), q_Model_best ((w_carr xs 1013).getD (v3 + 1).toNat 0) ((w_carr xs 1013).getD (v3 + 2).toNat 0) τ124 y125 τ126 → ((y123 = y125 → (w_in (v3 + 5) ∧ LLaw_law_10 xs (d + 20) Q (v3 + 5) τ126)) ∧ (¬ y123 = y125 → Q (some (.inl 0)) τ126))))))) ∧ ((w_and ((w_carr xs 1013).getD v3.toNat 0) 63) = 23 → (w_in (v3 + 1) ∧ 0 ≤ (v3 + 1) ∧ (v3 + 1) < ((w_carr xs 1013).length : Int) ∧ p_Moon_oil ((w_carr xs 1013).getD (v3 + 1).toNat 0) σ ∧ (∀ (y128 : Int) (τ129 : w_M), q_Moon_oil ((w_carr xs 1013).getD (v3 + 1).toNat 0) σ y128 τ129 → (p_Model_oil ((w_carr xs 1013).getD (v3 + 1).toNat 0) τ129 ∧ (∀ (y130 : Int) (τ131 : w_M), q_Model_oil ((w_carr xs 1013).getD (v3 + 1).toNat 0) τ129 y130 τ131 → ((y128 = y130 → (w_in (v3 + 5) ∧ LLaw_law_10 xs (d + 20) Q (v3 + 5) τ131)) ∧ (¬ y128 = y130 → Q (some (.inl 0)) τ131))))))) ∧ ((w_and ((w_carr xs 1013).getD v3.toNat 0) 63) = 24 → (w_in (v3 + 1) ∧ 0 ≤ (v3 + 1) ∧ (v3 + 1) < ((w_carr xs 1013).length : Int) ∧ p_Moon_least ((w_carr xs 1013).getD (v3 + 1).toNat 0) σ ∧ (∀ (y133 : Int) (τ134 : w_M), q_Moon_least ((w_carr xs 1013).getD (v3 + 1).toNat 0) σ y133 τ134 → (p_Model_least ((w_carr xs 1013).getD (v3 + 1).toNat 0) τ134 ∧ (∀ (y135 : Int) (τ136 : w_M), q_Model_least ((w_carr xs 1013).getD (v3 + 1).toNat 0) τ134 y135 τ136 → ((y133 = y135 → (w_in (v3 + 5) ∧ LLaw_law_10 xs (d + 20) Q (v3 + 5) τ136)) ∧ (¬ y133 = y135 → Q (some (.inl 0)) τ136))))))) ∧ ((w_and ((w_carr xs 1013).getD v3.toNat 0) 63) = 25 → (w_in (v3 + 1) ∧ 0 ≤ (v3 + 1) ∧ (v3 + 1) < ((w_carr xs 1013).length : Int) ∧ w_in (v3 + 2) ∧ 0 ≤ (v3 + 2) ∧ (v3 + 2) < ((w_carr xs 1013).length : Int) ∧ p_Moon_luck ((w_carr xs 1013).getD (v3 + 1).toNat 0) ((w_carr xs 1013).getD (v3 + 2).toNat 0) σ ∧ (∀ (y138 : Int) (τ139 : w_M), q_Moon_luck ((w_carr xs 1013).getD (v3 + 1).toNat 0) ((w_carr xs 1013).getD (v3 + 2).toNat 0) σ y138 τ139 → (p_Model_luck ((w_carr xs 1013).getD (v3 + 1).toNat 0) ((w_carr xs 1013).getD (v3 + 2).toNat 0) τ139 ∧ (∀ (y140 : Int) (τ141 : w_M), q_Model_luck ((w_carr xs 1013).getD (v3 + 1).toNat 0) ((w_carr xs 1013).getD (v3 + 2).toNat 0) τ139 y140 τ141 → ((y138 = y140 → (w_in (v3 + 5) ∧ LLaw_law_10 xs (d + 20) Q (v3 + 5) τ141)) ∧ (¬ y138 = y140 → Q (some (.inl 0)) τ141))))))) ∧ ((w_and ((w_carr xs 1013).getD v3.toNat 0) 63) = 26 → (w_in (v3 + 1) ∧ 0 ≤ (v3 + 1) ∧ (v3 + 1) < ((w_carr xs 1013).length : Int) ∧ w_in (v3 + 2) ∧ 0 ≤ (v3 + 2) ∧ (v3 + 2) < ((w_carr xs 1013).length : Int) ∧ w_in (v3 + 3) ∧ 0 ≤ (v3 + 3) ∧ (v3 + 3) < ((w_carr xs 1013).length : Int) ∧ ((((w_carr xs 1013).getD (v3 + 3).toNat 0) = 0 → (p_Moon_see ((w_carr xs 1013).getD (v3 + 1).toNat 0) ((w_carr xs 1013).getD (v3 + 2).toNat 0) 0 σ ∧ (∀ (y143 : Int) (τ144 : w_M), q_Moon_see ((w_carr xs 1013).getD (v3 + 1).toNat 0) ((w_carr xs 1013).getD (v3 + 2).toNat 0) 0 σ y143 τ144 → (p_Model_see ((w_carr xs 1013).getD (v3 + 1).toNat 0) ((w_carr xs 1013).getD (v3 + 2).toNat 0) 0 τ144 ∧ (∀ (y145 : Int) (τ146 : w_M), q_Model_see ((w_carr xs 1013).getD (v3 + 1).toNat 0) ((w_carr xs 1013).getD (v3 + 2).toNat 0) 0 τ144 y145 τ146 → ((y143 = y145 → (w_in (v3 + 5) ∧ LLaw_law_10 xs (d + 20) Q (v3 + 5) τ146)) ∧ (¬ y143 = y145 → Q (some (.inl 0)) τ146))))))) ∧ (¬ ((w_carr xs 1013).getD (v3 + 3).toNat 0) = 0 → (p_Moon_see ((w_carr xs 1013).getD (v3 + 1).toNat 0) ((w_carr xs 1013).getD (v3 + 2).toNat 0) 1 σ ∧ (∀ (y148 : Int) (τ149 : w_M), q_Moon_see ((w_carr xs 1013).getD (v3 + 1).toNat 0) ((w_carr xs 1013).getD (v3 + 2).toNat 0) 1 σ y148 τ149 → (p_Model_see ((w_carr xs 1013).getD (v3 + 1).toNat 0) ((w_carr xs 1013).getD (v3 + 2).toNat 0) 1 τ149 ∧ (∀ (y150 : Int) (τ151 : w_M), q_Model_see ((w_carr xs 1013).getD (v3 + 1).toNat 0) ((w_carr xs 1013).getD (v3 + 2).toNat 0) 1 τ149 y150 τ151 → ((y148 = y150 → (w_in (v3 + 5) ∧ LLaw_law_10 xs (d + 20) Q (v3 + 5) τ151)) ∧ (¬ y148 = y150 → Q (some (.inl 0)) τ151)))))))))) ∧ ((w_and ((w_carr xs 1013).getD v3.toNat 0) 63) = 27 → (w_in (v3 + 1) ∧ 0 ≤ (v3 + 1) ∧ (v3 + 1) < ((w_carr xs 1013).length : Int) ∧ p_Moon_forget ((w_carr xs 1013).getD (v3 + 1).toNat 0) σ ∧ (∀ (y154 : Int) (τ155 : w_M), q_Moon_forget ((w_carr xs 1013).getD (v3 + 1).toNat 0) σ y154 τ155 → (p_Model_forget ((w_carr xs 1013).getD (v3 + 1).toNat 0) τ155 ∧ (∀ (y156 : Int) (τ157 : w_M), q_Model_forget ((w_carr xs 1013).getD (v3 + 1).toNat 0) τ155 y156 τ157 → ((y154 = y156 → (w_in (v3 + 5) ∧ LLaw_law_10 xs (d + 20) Q (v3 + 5) τ157)) ∧ (¬ y154 = y156 → Q (some (.inl 0)) τ157))))))) ∧ ((w_and ((w_carr xs 1013).getD v3.toNat 0) 63) = 28 → (w_in (v3 + 1) ∧ 0 ≤ (v3 + 1) ∧ (v3 + 1) < ((w_carr xs 1013).length : Int) ∧ p_Moon_hare ((w_carr xs 1013).getD (v3 + 1).toNat 0) σ ∧ (∀ (y159 : Int) (τ160 : w_M), q_Moon_hare ((w_carr xs 1013).getD (v3 + 1).toNat 0) σ y159 τ160 → (p_Model_hare ((w_carr xs 1013).getD (v3 + 1).toNat 0) τ160 ∧ (∀ (y161 : Int) (τ162 : w_M), q_Model_hare ((w_carr xs 1013).getD (v3 + 1).toNat 0) τ160 y161 τ162 → ((y159 = y161 → (w_in (v3 + 5) ∧ LLaw_law_10 xs (d + 20) Q (v3 + 5) τ162)) ∧ (¬ y159 = y161 → Q (some (.inl 0)) τ162))))))) ∧ ((w_and ((w_carr xs 1013).getD v3.toNat 0) 63) = 29 → (p_Moon_runs σ ∧ (∀ (y164 : Int) (τ165 : w_M), q_Moon_runs σ y164 τ165 → (p_Model_runs τ165 ∧ (∀ (y166 : Int) (τ167 : w_M), q_Model_runs τ165 y166 τ167 → ((y164 = y166 → (w_in (v3 + 5) ∧ LLaw_law_10 xs (d + 20) Q (v3 + 5) τ167)) ∧ (¬ y164 = y166 → Q (some (.inl 0)) τ167))))))) ∧ ((w_and ((w_carr xs 1013).getD v3.toNat 0) 63) = 30 → (w_in (v3 + 1) ∧ 0 ≤ (v3 + 1) ∧ (v3 + 1) < ((w_carr xs 1013).length : Int) ∧ w_in (v3 + 2) ∧ 0 ≤ (v3 + 2) ∧ (v3 + 2) < ((w_carr xs 1013).length : Int) ∧ p_Moon_look ((w_carr xs 1013).getD (v3 + 1).toNat 0) ((w_carr xs 1013).getD (v3 + 2).toNat 0) σ ∧ (∀ (y169 : Int) (τ170 : w_M), q_Moon_look ((w_carr xs 1013).getD (v3 + 1).toNat 0) ((w_carr xs 1013).getD (v3 + 2).toNat 0) σ y169 τ170 → (p_Model_look ((w_carr xs 1013).getD (v3 + 1).toNat 0) ((w_carr xs 1013).getD (v3 + 2).toNat 0) τ170 ∧ (∀ (y171 : Int) (τ172 : w_M), q_Model_look ((w_carr xs 1013).getD (v3 + 1).toNat 0) ((w_carr xs 1013).getD (v3 + 2).toNat 0) τ170 y171 τ172 → ((y169 = y171 → (w_in (v3 + 5) ∧ LLaw_law_10 xs (d + 20) Q (v3 + 5) τ172)) ∧ (¬ y169 = y171 → Q (some (.inl 0)) τ172))))))) ∧ ((w_and ((w_carr xs 1013).getD v3.toNat 0) 63) = 31 → (w_in (v3 + 1) ∧ 0 ≤ (v3 + 1) ∧ (v3 + 1) < ((w_carr xs 1013).length : Int) ∧ w_in (v3 + 2) ∧ 0 ≤ (v3 + 2) ∧ (v3 + 2) < ((w_carr xs 1013).length : Int) ∧ p_Moon_pay ((w_carr xs 1013).getD (v3 + 1).toNat 0) ((w_carr xs 1013).getD (v3 + 2).toNat 0) σ ∧ (∀ (y174 : Int) (τ175 : w_M), q_Moon_pay ((w_carr xs 1013).getD (v3 + 1).toNat 0) ((w_carr xs 1013).getD (v3 + 2).toNat 0) σ y174 τ175 → (p_Model_pay ((w_carr xs 1013).getD (v3 + 1).toNat 0) ((w_carr xs 1013).getD (v3 + 2).toNat 0) τ175 ∧ (∀ (y176 : Int) (τ177 : w_M), q_Model_pay ((w_carr xs 1013).getD (v3 + 1).toNat 0) ((w_carr xs 1013).getD (v3 + 2).toNat 0) τ175 y176 τ177 → ((y174 = y176 → (w_in (v3 + 5) ∧ LLaw_law_10 xs (d + 20) Q (v3 + 5) τ177)) ∧ (¬ y174 = y176 → Q (some (.inl 0)) τ177))))))) ∧ ((w_and ((w_carr xs 1013).getD v3.toNat 0) 63) = 32 → (w_in (v3 + 1) ∧ 0 ≤ (v3 + 1) ∧ (v3 + 1) < ((w_carr xs 1013).length : Int) ∧ p_Moon_owe ((w_carr xs 1013).getD (v3 + 1).toNat 0) σ ∧ (∀ (y179 : Int) (τ180 : w_M), q_Moon_owe ((w_carr xs 1013).getD (v3 + 1).toNat 0) σ y179 τ180 → (p_Model_owe ((w_carr xs 1013).getD (v3 + 1).toNat 0) τ180 ∧ (∀ (y181 : Int) (τ182 : w_M), q_Model_owe ((w_carr xs 1013).getD (v3 + 1).toNat 0) τ180 y181 τ182 → ((y179 = y181 → (w_in (v3 + 5) ∧ LLaw_law_10 xs (d + 20) Q (v3 + 5) τ182)) ∧ (¬ y179 = y181 → Q (some (.inl 0)) τ182))))))) ∧ ((w_and ((w_carr xs 1013).getD v3.toNat 0) 63) = 33 → (w_in (v3 + 1) ∧ 0 ≤ (v3 + 1) ∧ (v3 + 1) < ((w_carr xs 1013).length : Int) ∧ p_Moon_fits ((w_carr xs 1013).getD (v3 + 1).toNat 0) σ ∧ (∀ (y184 : Int) (τ185 : w_M), q_Moon_fits ((w_carr xs 1013).getD (v3 + 1).toNat 0) σ y184 τ185 → (p_Model_fits ((w_carr xs 1013).getD (v3 + 1).toNat 0) τ185 ∧ (∀ (y186 : Int) (τ187 : w_M), q_Model_fits ((w_carr xs 1013).getD (v3 + 1).toNat 0) τ185 y186 τ187 → ((y184 = y186 → (w_in (v3 + 5) ∧ LLaw_law_10 xs (d + 20) Q (v3 + 5) τ187)) ∧ (¬ y184 = y186 → Q (some (.inl 0)) τ187))))))) ∧ ((w_and ((w_carr xs 1013).getD v3.toNat 0) 63) = 34 → (w_in (v3 + 1) ∧ 0 ≤ (v3 + 1) ∧ (v3 + 1) < ((w_carr xs 1013).length : Int) ∧ w_in (v3 + 2) ∧ 0 ≤ (v3 + 2) ∧ (v3 + 2) < ((w_carr xs 1013).length : Int) ∧ w_in (v3 + 3) ∧ 0 ≤ (v3 + 3) ∧ (v3 + 3) < ((w_carr xs 1013).length : Int) ∧ p_Moon_drift ((w_carr xs 1013).getD (v3 + 1).toNat 0) ((w_carr xs 1013).getD (v3 + 2).toNat 0) ((w_carr xs 1013).getD (v3 + 3).toNat 0) σ ∧ (∀ (y189 : Int) (τ190 : w_M), q_Moon_drift ((w_carr xs 1013).getD (v3 + 1).toNat 0) ((w_carr xs 1013).getD (v3 + 2).toNat 0) ((w_carr xs 1013).getD (v3 + 3).toNat 0) σ y189 τ190 → (p_Model_drift ((w_carr xs 1013).getD (v3 + 1).toNat 0) ((w_carr xs 1013).getD (v3 + 2).toNat 0) ((w_carr xs 1013).getD (v3 + 3).toNat 0) τ190 ∧ (∀ (y191 : Int) (τ192 : w_M), q_Model_drift ((w_carr xs 1013).getD (v3 + 1).toNat 0) ((w_carr xs 1013).getD (v3 + 2).toNat 0) ((w_carr xs 1013).getD (v3 + 3).toNat 0) τ190 y191 τ192 → ((y189 = y191 → (w_in (v3 + 5) ∧ LLaw_law_10 xs (d + 20) Q (v3 + 5) τ192)) ∧ (¬ y189 = y191 → Q (some (.inl 0)) τ192))))))) ∧ ((w_and ((w_carr xs 1013).getD v3.toNat 0) 63) = 35 → (w_in (v3 + 1) ∧ 0 ≤ (v3 + 1) ∧ (v3 + 1) < ((w_carr xs 1013).length : Int) ∧ p_Moon_keep ((w_carr xs 1013).getD (v3 + 1).toNat 0) σ ∧ (∀ (y194 : Int) (τ195 : w_M), q_Moon_keep ((w_carr xs 1013).getD (v3 + 1).toNat 0) σ y194 τ195 → (p_Model_keep ((w_carr xs 1013).getD (v3 + 1).toNat 0) τ195 ∧ (∀ (y196 : Int) (τ197 : w_M), q_Model_keep ((w_carr xs 1013).getD (v3 + 1).toNat 0) τ195 y196 τ197 → ((y194 = y196 → (w_in (v3 + 5) ∧ LLaw_law_10 xs (d + 20) Q (v3 + 5) τ197)) ∧ (¬ y194 = y196 → Q (some (.inl 0)) τ197))))))) ∧ ((w_and ((w_carr xs 1013).getD v3.toNat 0) 63) = 36 → (w_in (v3 + 1) ∧ 0 ≤ (v3 + 1) ∧ (v3 + 1) < ((w_carr xs 1013).length : Int) ∧ p_Moon_back ((w_carr xs 1013).getD (v3 + 1).toNat 0) σ ∧ (∀ (y199 : Int) (τ200 : w_M), q_Moon_back ((w_carr xs 1013).getD (v3 + 1).toNat 0) σ y199 τ200 → (p_Model_back ((w_carr xs 1013).getD (v3 + 1).toNat 0) τ200 ∧ (∀ (y201 : Int) (τ202 : w_M), q_Model_back ((w_carr xs 1013).getD (v3 + 1).toNat 0) τ200 y201 τ202 → ((y199 = y201 → (w_in (v3 + 5) ∧ LLaw_law_10 xs (d + 20) Q (v3 + 5) τ202)) ∧ (¬ y199 = y201 → Q (some (.inl 0)) τ202))))))) ∧ ((w_and ((w_carr xs 1013).getD v3.toNat 0) 63) = 37 → (w_in (v3 + 1) ∧ 0 ≤ (v3 + 1) ∧ (v3 + 1) < ((w_carr xs 1013).length : Int) ∧ w_in (v3 + 2) ∧ 0 ≤ (v3 + 2) ∧ (v3 + 2) < ((w_carr xs 1013).length : Int) ∧ w_in (v3 + 3) ∧ 0 ≤ (v3 + 3) ∧ (v3 + 3) < ((w_carr xs 1013).length : Int) ∧ p_Moon_sheet ((w_carr xs 1013).getD (v3 + 1).toNat 0) ((w_carr xs 1013).getD (v3 + 2).toNat 0) ((w_carr xs 1013).getD (v3 + 3).toNat 0) σ ∧ (∀ (y204 : Int) (τ205 : w_M), q_Moon_sheet ((w_carr xs 1013).getD (v3 + 1).toNat 0) ((w_carr xs 1013).getD (v3 + 2).toNat 0) ((w_carr xs 1013).getD (v3 + 3).toNat 0) σ y204 τ205 → (p_Model_sheet ((w_carr xs 1013).getD (v3 + 1).toNat 0) ((w_carr xs 1013).getD (v3 + 2).toNat 0) ((w_carr xs 1013).getD (v3 + 3).toNat 0) τ205 ∧ (∀ (y206 : Int) (τ207 : w_M), q_Model_sheet ((w_carr xs 1013).getD (v3 + 1).toNat 0) ((w_carr xs 1013).getD (v3 + 2).toNat 0) ((w_carr xs 1013).getD (v3 + 3).toNat 0) τ205 y206 τ207 → ((y204 = y206 → (w_in (v3 + 5) ∧ LLaw_law_10 xs (d + 20) Q (v3 + 5) τ207)) ∧ (¬ y204 = y206 → Q (some (.inl 0)) τ207))))))) ∧ ((w_and ((w_carr xs 1013).getD v3.toNat 0) 63) = 38 → (w_in (v3 + 1) ∧ 0 ≤ (v3 + 1) ∧ (v3 + 1) < ((w_carr xs 1013).length : Int) ∧ w_in (v3 + 2) ∧ 0 ≤ (v3 + 2) ∧ (v3 + 2) < ((w_carr xs 1013).length : Int) ∧ w_in (v3 + 3) ∧ 0 ≤ (v3 + 3) ∧ (v3 + 3) < ((w_carr xs 1013).length : Int) ∧ p_Moon_lay ((w_carr xs 1013).getD (v3 + 1).toNat 0) ((w_carr xs 1013).getD (v3 + 2).toNat 0) ((w_carr xs 1013).getD (v3 + 3).toNat 0) σ ∧ (∀ (y209 : Int) (τ210 : w_M), q_Moon_lay ((w_carr xs 1013).getD (v3 + 1).toNat 0) ((w_carr xs 1013).getD (v3 + 2).toNat 0) ((w_carr xs 1013).getD (v3 + 3).toNat 0) σ y209 τ210 → (p_Model_lay ((w_carr xs 1013).getD (v3 + 1).toNat 0) ((w_carr xs 1013).getD (v3 + 2).toNat 0) ((w_carr xs 1013).getD (v3 + 3).toNat 0) τ210 ∧ (∀ (y211 : Int) (τ212 : w_M), q_Model_lay ((w_carr xs 1013).getD (v3 + 1).toNat 0) ((w_carr xs 1013).getD (v3 + 2).toNat 0) ((w_carr xs 1013).getD (v3 + 3).toNat 0) τ210 y211 τ212 → ((y209 = y211 → (w_in (v3 + 5) ∧ LLaw_law_10 xs (d + 20) Q (v3 + 5) τ212)) ∧ (¬ y209 = y211 → Q (some (.inl 0)) τ212))))))) ∧ ((w_and ((w_carr xs 1013).getD v3.toNat 0) 63) = 39 → (w_in (v3 + 1) ∧ 0 ≤ (v3 + 1) ∧ (v3 + 1) < ((w_carr xs 1013).length : Int) ∧ w_in (v3 + 2) ∧ 0 ≤ (v3 + 2) ∧ (v3 + 2) < ((w_carr xs 1013).length : Int) ∧ w_in (v3 + 3) ∧ 0 ≤ (v3 + 3) ∧ (v3 + 3) < ((w_carr xs 1013).length : Int) ∧ w_in (v3 + 4) ∧ 0 ≤ (v3 + 4) ∧ (v3 + 4) < ((w_carr xs 1013).length : Int) ∧ p_Moon_read ((w_carr xs 1013).getD (v3 + 1).toNat 0) ((w_carr xs 1013).getD (v3 + 2).toNat 0) ((w_carr xs 1013).getD (v3 + 3).toNat 0) ((w_carr xs 1013).getD (v3 + 4).toNat 0) σ ∧ (∀ (y214 : Int) (τ215 : w_M), q_Moon_read ((w_carr xs 1013).getD (v3 + 1).toNat 0) ((w_carr xs 1013).getD (v3 + 2).toNat 0) ((w_carr xs 1013).getD (v3 + 3).toNat 0) ((w_carr xs 1013).getD (v3 + 4).toNat 0) σ y214 τ215 → (p_Model_read ((w_carr xs 1013).getD (v3 + 1).toNat 0) ((w_carr xs 1013).getD (v3 + 2).toNat 0) ((w_carr xs 1013).getD (v3 + 3).toNat 0) ((w_carr xs 1013).getD (v3 + 4).toNat 0) τ215 ∧ (∀ (y216 : Int) (τ217 : w_M), q_Model_read ((w_carr xs 1013).getD (v3 + 1).toNat 0) ((w_carr xs 1013).getD (v3 + 2).toNat 0) ((w_carr xs 1013).getD (v3 + 3).toNat 0) ((w_carr xs 1013).getD (v3 + 4).toNat 0) τ215 y216 τ217 → ((y214 = y216 → (w_in (v3 + 5) ∧ LLaw_law_10 xs (d + 20) Q (v3 + 5) τ217)) ∧ (¬ y214 = y216 → Q (some (.inl 0)) τ217))))))) ∧ ((w_and ((w_carr xs 1013).getD v3.toNat 0) 63) = 40 → (p_Moon_torn σ ∧ (∀ (y219 : Int) (τ220 : w_M), q_Moon_torn σ y219 τ220 → (p_Model_torn τ220 ∧ (∀ (y221 : Int) (τ222 : w_M), q_Model_torn τ220 y221 τ222 → ((y219 = y221 → (w_in (v3 + 5) ∧ LLaw_law_10 xs (d + 20) Q (v3 + 5) τ222)) ∧ (¬ y219 = y221 → Q (some (.inl 0)) τ222))))))) ∧ ((w_and ((w_carr xs 1013).getD v3.toNat 0) 63) = 41 → (w_in (v3 + 1) ∧ 0 ≤ (v3 + 1) ∧ (v3 + 1) < ((w_carr xs 1013).length : Int) ∧ p_Moon_count ((w_carr xs 1013).getD (v3 + 1).toNat 0) σ ∧ (∀ (y224 : Int) (τ225 : w_M), q_Moon_count ((w_carr xs 1013).getD (v3 + 1).toNat 0) σ y224 τ225 → (p_Model_count ((w_carr xs 1013).getD (v3 + 1).toNat 0) τ225 ∧ (∀ (y226 : Int) (τ227 : w_M), q_Model_count ((w_carr xs 1013).getD (v3 + 1).toNat 0) τ225 y226 τ227 → ((y224 = y226 → (w_in (v3 + 5) ∧ LLaw_law_10 xs (d + 20) Q (v3 + 5) τ227)) ∧ (¬ y224 = y226 → Q (some (.inl 0)) τ227))))))) ∧ ((w_and ((w_carr xs 1013).getD v3.toNat 0) 63) < 0 ∨ 41 < (w_and ((w_carr xs 1013).getD v3.toNat 0) 63) → (w_in (v3 + 5) ∧ LLaw_law_10 xs (d + 20) Q (v3 + 5) σ))))))) : LLaw_law_10 xs (d + 20) Q v3 σ :=
  (wi_iload3 fLaw_law_10 (wi_aload0 fLaw_law_11 (wi_alen8000 fLaw_law_12 (wi_bipush fLaw_law_13 (wi_isub fLaw_law_14 h.1 (wi_ic_gt fLaw_law_15 (fun c229 => (wi_bipush fLaw_law_1003 (wi_ret2 fLaw_law_1004 (by decide) (h.2.1 c229)))) (fun c229 => (wi_aload0 fLaw_law_16 (wi_iload3 fLaw_law_17 (wi_iald8000 fLaw_law_18 (h.2.2 c229).1 (h.2.2 c229).2.1 (wi_bipush fLaw_law_19 (wi_iand fLaw_law_20 (fLaw_law_21 (fun c => (wi_aload1 fLaw_law_22 (wi_aload0 fLaw_law_23 (wi_iload3 fLaw_law_24 (wi_bipush fLaw_law_25 (wi_iadd fLaw_law_26 ((h.2.2 c229).2.2.1 c).1 (wi_iald8000 fLaw_law_27 ((h.2.2 c229).2.2.1 c).2.1 ((h.2.2 c229).2.2.1 c).2.2.1 (wi_call2 fLaw_law_28 (Nat.le_of_ble_eq_true rfl) (k_Moon_feed ((h.2.2 c229).2.2.1 c).2.2.2.1 (fun y1 τ2 eτ2 => (wi_aload2 fLaw_law_29 (wi_aload0 fLaw_law_30 (wi_iload3 fLaw_law_31 (wi_bipush fLaw_law_32 (wi_iadd fLaw_law_33 ((h.2.2 c229).2.2.1 c).1 (wi_iald8000 fLaw_law_34 ((h.2.2 c229).2.2.1 c).2.1 ((h.2.2 c229).2.2.1 c).2.2.1 (wi_call2 fLaw_law_35 (Nat.le_of_ble_eq_true rfl) (k_Model_feed (((h.2.2 c229).2.2.1 c).2.2.2.2 y1 τ2 eτ2).1 (fun y3 τ4 eτ4 => (wi_ic_eq fLaw_law_36 (fun c5 => (wi_iinc3 fLaw_law_1001 trivial (((((h.2.2 c229).2.2.1 c).2.2.2.2 y1 τ2 eτ2).2 y3 τ4 eτ4).1 c5).1 (wi_goto fLaw_law_1002 (((((h.2.2 c229).2.2.1 c).2.2.2.2 y1 τ2 eτ2).2 y3 τ4 eτ4).1 c5).2))) (fun c5 => (wi_bipush fLaw_law_37 (wi_ret2 fLaw_law_38 (by decide) (((((h.2.2 c229).2.2.1 c).2.2.2.2 y1 τ2 eτ2).2 y3 τ4 eτ4).2 c5)))))))))))))))))))))))) (fun c => (wi_aload1 fLaw_law_39 (wi_aload0 fLaw_law_40 (wi_iload3 fLaw_law_41 (wi_bipush fLaw_law_42 (wi_iadd fLaw_law_43 ((h.2.2 c229).2.2.2.1 c).1 (wi_iald8000 fLaw_law_44 ((h.2.2 c229).2.2.2.1 c).2.1 ((h.2.2 c229).2.2.2.1 c).2.2.1 (wi_call2 fLaw_law_45 (Nat.le_of_ble_eq_true rfl) (k_Moon_end ((h.2.2 c229).2.2.2.1 c).2.2.2.1 (fun y6 τ7 eτ7 => (wi_aload2 fLaw_law_46 (wi_aload0 fLaw_law_47 (wi_iload3 fLaw_law_48 (wi_bipush fLaw_law_49 (wi_iadd fLaw_law_50 ((h.2.2 c229).2.2.2.1 c).1 (wi_iald8000 fLaw_law_51 ((h.2.2 c229).2.2.2.1 c).2.1 ((h.2.2 c229).2.2.2.1 c).2.2.1 (wi_call2 fLaw_law_52 (Nat.le_of_ble_eq_true rfl) (k_Model_end (((h.2.2 c229).2.2.2.1 c).2.2.2.2 y6 τ7 eτ7).1 (fun y8 τ9 eτ9 => (wi_ic_eq fLaw_law_53 (fun c10 => (wi_iinc3 fLaw_law_1001 trivial (((((h.2.2 c229).2.2.2.1 c).2.2.2.2 y6 τ7 eτ7).2 y8 τ9 eτ9).1 c10).1 (wi_goto fLaw_law_1002 (((((h.2.2 c229).2.2.2.1 c).2.2.2.2 y6 τ7 eτ7).2 y8 τ9 eτ9).1 c10).2))) (fun c10 => (wi_bipush fLaw_law_54 (wi_ret2 fLaw_law_55 (by decide) (((((h.2.2 c229).2.2.2.1 c).2.2.2.2 y6 τ7 eτ7).2 y8 τ9 eτ9).2 c10)))))))))))))))))))))))) (fun c => (wi_aload1 fLaw_law_56 (wi_call1 fLaw_law_57 (Nat.le_of_ble_eq_true rfl) (k_Moon_text ((h.2.2 c229).2.2.2.2.1 c).1 (fun y11 τ12 eτ12 => (wi_aload2 fLaw_law_58 (wi_call1 fLaw_law_59 (Nat.le_of_ble_eq_true rfl) (k_Model_text (((h.2.2 c229).2.2.2.2.1 c).2 y11 τ12 eτ12).1 (fun y13 τ14 eτ14 => (wi_ic_eq fLaw_law_60 (fun c15 => (wi_iinc3 fLaw_law_1001 trivial (((((h.2.2 c229).2.2.2.2.1 c).2 y11 τ12 eτ12).2 y13 τ14 eτ14).1 c15).1 (wi_goto fLaw_law_1002 (((((h.2.2 c229).2.2.2.2.1 c).2 y11 τ12 eτ12).2 y13 τ14 eτ14).1 c15).2))) (fun c15 => (wi_bipush fLaw_law_61 (wi_ret2 fLaw_law_62 (by decide) (((((h.2.2 c229).2.2.2.2.1 c).2 y11 τ12 eτ12).2 y13 τ14 eτ14).2 c15)))))))))))))) (fun c => (wi_aload1 fLaw_law_63 (wi_call1 fLaw_law_64 (Nat.le_of_ble_eq_true rfl) (k_Moon_fault ((h.2.2 c229).2.2.2.2.2.1 c).1 (fun y16 τ17 eτ17 => (wi_aload2 fLaw_law_65 (wi_call1 fLaw_law_66 (Nat.le_of_ble_eq_true rfl) (k_Model_fault (((h.2.2 c229).2.2.2.2.2.1 c).2 y16 τ17 eτ17).1 (fun y18 τ19 eτ19 => (wi_ic_eq fLaw_law_67 (fun c20 => (wi_iinc3 fLaw_law_1001 trivial (((((h.2.2 c229).2.2.2.2.2.1 c).2 y16 τ17 eτ17).2 y18 τ19 eτ19).1 c20).1 (wi_goto fLaw_law_1002 (((((h.2.2 c229).2.2.2.2.2.1 c).2 y16 τ17 eτ17).2 y18 τ19 eτ19).1 c20).2))) (fun c20 => (wi_bipush fLaw_law_68 (wi_ret2 fLaw_law_69 (by decide) (((((h.2.2 c229).2.2.2.2.2.1 c).2 y16 τ17 eτ17).2 y18 τ19 eτ19).2 c20)))))))))))))) (fun c => (wi_aload1 fLaw_law_70 (wi_aload0 fLaw_law_71 (wi_iload3 fLaw_law_72 (wi_bipush fLaw_law_73 (wi_iadd fLaw_law_74 ((h.2.2 c229).2.2.2.2.2.2.1 c).1 (wi_iald8000 fLaw_law_75 ((h.2.2 c229).2.2.2.2.2.2.1 c).2.1 ((h.2.2 c229).2.2.2.2.2.2.1 c).2.2.1 (wi_call2 fLaw_law_76 (Nat.le_of_ble_eq_true rfl) (k_Moon_rule ((h.2.2 c229).2.2.2.2.2.2.1 c).2.2.2.1 (fun y21 τ22 eτ22 => (wi_aload2 fLaw_law_77 (wi_aload0 fLaw_law_78 (wi_iload3 fLaw_law_79 (wi_bipush fLaw_law_80 (wi_iadd fLaw_law_81 ((h.2.2 c229).2.2.2.2.2.2.1 c).1 (wi_iald8000 fLaw_law_82 ((h.2.2 c229).2.2.2.2.2.2.1 c).2.1 ((h.2.2 c229).2.2.2.2.2.2.1 c).2.2.1 (wi_call2 fLaw_law_83 (Nat.le_of_ble_eq_true rfl) (k_Model_rule (((h.2.2 c229).2.2.2.2.2.2.1 c).2.2.2.2 y21 τ22 eτ22).1 (fun y23 τ24 eτ24 => (wi_ic_eq fLaw_law_84 (fun c25 => (wi_iinc3 fLaw_law_1001 trivial (((((h.2.2 c229).2.2.2.2.2.2.1 c).2.2.2.2 y21 τ22 eτ22).2 y23 τ24 eτ24).1 c25).1 (wi_goto fLaw_law_1002 (((((h.2.2 c229).2.2.2.2.2.2.1 c).2.2.2.2 y21 τ22 eτ22).2 y23 τ24 eτ24).1 c25).2))) (fun c25 => (wi_bipush fLaw_law_85 (wi_ret2 fLaw_law_86 (by decide) (((((h.2.2 c229).2.2.2.2.2.2.1 c).2.2.2.2 y21 τ22 eτ22).2 y23 τ24 eτ24).2 c25)))))))))))))))))))))))) (fun c => (wi_aload1 fLaw_law_87 (wi_aload0 fLaw_law_88 (wi_iload3 fLaw_law_89 (wi_bipush fLaw_law_90 (wi_iadd fLaw_law_91 ((h.2.2 c229).2.2.2.2.2.2.2.1 c).1 (wi_iald8000 fLaw_law_92 ((h.2.2 c229).2.2.2.2.2.2.2.1 c).2.1 ((h.2.2 c229).2.2.2.2.2.2.2.1 c).2.2.1 (wi_aload0 fLaw_law_93 (wi_iload3 fLaw_law_94 (wi_bipush fLaw_law_95 (wi_iadd fLaw_law_96 ((h.2.2 c229).2.2.2.2.2.2.2.1 c).2.2.2.1 (wi_iald8000 fLaw_law_97 ((h.2.2 c229).2.2.2.2.2.2.2.1 c).2.2.2.2.1 ((h.2.2 c229).2.2.2.2.2.2.2.1 c).2.2.2.2.2.1 (wi_call3 fLaw_law_98 (Nat.le_of_ble_eq_true rfl) (k_Moon_strip ((h.2.2 c229).2.2.2.2.2.2.2.1 c).2.2.2.2.2.2.1 (fun y26 τ27 eτ27 => (wi_aload2 fLaw_law_99 (wi_aload0 fLaw_law_100 (wi_iload3 fLaw_law_101 (wi_bipush fLaw_law_102 (wi_iadd fLaw_law_103 ((h.2.2 c229).2.2.2.2.2.2.2.1 c).1 (wi_iald8000 fLaw_law_104 ((h.2.2 c229).2.2.2.2.2.2.2.1 c).2.1 ((h.2.2 c229).2.2.2.2.2.2.2.1 c).2.2.1 (wi_aload0 fLaw_law_105 (wi_iload3 fLaw_law_106 (wi_bipush fLaw_law_107 (wi_iadd fLaw_law_108 ((h.2.2 c229).2.2.2.2.2.2.2.1 c).2.2.2.1 (wi_iald8000 fLaw_law_109 ((h.2.2 c229).2.2.2.2.2.2.2.1 c).2.2.2.2.1 ((h.2.2 c229).2.2.2.2.2.2.2.1 c).2.2.2.2.2.1 (wi_call3 fLaw_law_110 (Nat.le_of_ble_eq_true rfl) (k_Model_strip (((h.2.2 c229).2.2.2.2.2.2.2.1 c).2.2.2.2.2.2.2 y26 τ27 eτ27).1 (fun y28 τ29 eτ29 => (wi_ic_eq fLaw_law_111 (fun c30 => (wi_iinc3 fLaw_law_1001 trivial (((((h.2.2 c229).2.2.2.2.2.2.2.1 c).2.2.2.2.2.2.2 y26 τ27 eτ27).2 y28 τ29 eτ29).1 c30).1 (wi_goto fLaw_law_1002 (((((h.2.2 c229).2.2.2.2.2.2.2.1 c).2.2.2.2.2.2.2 y26 τ27 eτ27).2 y28 τ29 eτ29).1 c30).2))) (fun c30 => (wi_bipush fLaw_law_112 (wi_ret2 fLaw_law_113 (by decide) (((((h.2.2 c229).2.2.2.2.2.2.2.1 c).2.2.2.2.2.2.2 y26 τ27 eτ27).2 y28 τ29 eτ29).2 c30)))))))))))))))))))))))))))))))))) (fun c => (wi_aload1 fLaw_law_114 (wi_aload0 fLaw_law_115 (wi_iload3 fLaw_law_116 (wi_bipush fLaw_law_117 (wi_iadd fLaw_law_118 ((h.2.2 c229).2.2.2.2.2.2.2.2.1 c).1 (wi_iald8000 fLaw_law_119 ((h.2.2 c229).2.2.2.2.2.2.2.2.1 c).2.1 ((h.2.2 c229).2.2.2.2.2.2.2.2.1 c).2.2.1 (wi_aload0 fLaw_law_120 (wi_iload3 fLaw_law_121 (wi_bipush fLaw_law_122 (wi_iadd fLaw_law_123 ((h.2.2 c229).2.2.2.2.2.2.2.2.1 c).2.2.2.1 (wi_iald8000 fLaw_law_124 ((h.2.2 c229).2.2.2.2.2.2.2.2.1 c).2.2.2.2.1 ((h.2.2 c229).2.2.2.2.2.2.2.2.1 c).2.2.2.2.2.1 (wi_call3 fLaw_law_125 (Nat.le_of_ble_eq_true rfl) (k_Moon_reaper ((h.2.2 c229).2.2.2.2.2.2.2.2.1 c).2.2.2.2.2.2.1 (fun y31 τ32 eτ32 => (wi_aload2 fLaw_law_126 (wi_aload0 fLaw_law_127 (wi_iload3 fLaw_law_128 (wi_bipush fLaw_law_129 (wi_iadd fLaw_law_130 ((h.2.2 c229).2.2.2.2.2.2.2.2.1 c).1 (wi_iald8000 fLaw_law_131 ((h.2.2 c229).2.2.2.2.2.2.2.2.1 c).2.1 ((h.2.2 c229).2.2.2.2.2.2.2.2.1 c).2.2.1 (wi_aload0 fLaw_law_132 (wi_iload3 fLaw_law_133 (wi_bipush fLaw_law_134 (wi_iadd fLaw_law_135 ((h.2.2 c229).2.2.2.2.2.2.2.2.1 c).2.2.2.1 (wi_iald8000 fLaw_law_136 ((h.2.2 c229).2.2.2.2.2.2.2.2.1 c).2.2.2.2.1 ((h.2.2 c229).2.2.2.2.2.2.2.2.1 c).2.2.2.2.2.1 (wi_call3 fLaw_law_137 (Nat.le_of_ble_eq_true rfl) (k_Model_reaper (((h.2.2 c229).2.2.2.2.2.2.2.2.1 c).2.2.2.2.2.2.2 y31 τ32 eτ32).1 (fun y33 τ34 eτ34 => (wi_ic_eq fLaw_law_138 (fun c35 => (wi_iinc3 fLaw_law_1001 trivial (((((h.2.2 c229).2.2.2.2.2.2.2.2.1 c).2.2.2.2.2.2.2 y31 τ32 eτ32).2 y33 τ34 eτ34).1 c35).1 (wi_goto fLaw_law_1002 (((((h.2.2 c229).2.2.2.2.2.2.2.2.1 c).2.2.2.2.2.2.2 y31 τ32 eτ32).2 y33 τ34 eτ34).1 c35).2))) (fun c35 => (wi_bipush fLaw_law_139 (wi_ret2 fLaw_law_140 (by decide) (((((h.2.2 c229).2.2.2.2.2.2.2.2.1 c).2.2.2.2.2.2.2 y31 τ32 eτ32).2 y33 τ34 eτ34).2 c35)))))))))))))))))))))))))))))))))) (fun c => (wi_aload1 fLaw_law_141 (wi_aload0 fLaw_law_142 (wi_iload3 fLaw_law_143 (wi_bipush fLaw_law_144 (wi_iadd fLaw_law_145 ((h.2.2 c229).2.2.2.2.2.2.2.2.2.1 c).1 (wi_iald8000 fLaw_law_146 ((h.2.2 c229).2.2.2.2.2.2.2.2.2.1 c).2.1 ((h.2.2 c229).2.2.2.2.2.2.2.2.2.1 c).2.2.1 (wi_call2 fLaw_law_147 (Nat.le_of_ble_eq_true rfl) (k_Moon_harvest ((h.2.2 c229).2.2.2.2.2.2.2.2.2.1 c).2.2.2.1 (fun y36 τ37 eτ37 => (wi_aload2 fLaw_law_148 (wi_aload0 fLaw_law_149 (wi_iload3 fLaw_law_150 (wi_bipush fLaw_law_151 (wi_iadd fLaw_law_152 ((h.2.2 c229).2.2.2.2.2.2.2.2.2.1 c).1 (wi_iald8000 fLaw_law_153 ((h.2.2 c229).2.2.2.2.2.2.2.2.2.1 c).2.1 ((h.2.2 c229).2.2.2.2.2.2.2.2.2.1 c).2.2.1 (wi_call2 fLaw_law_154 (Nat.le_of_ble_eq_true rfl) (k_Model_harvest (((h.2.2 c229).2.2.2.2.2.2.2.2.2.1 c).2.2.2.2 y36 τ37 eτ37).1 (fun y38 τ39 eτ39 => (wi_ic_eq fLaw_law_155 (fun c40 => (wi_iinc3 fLaw_law_1001 trivial (((((h.2.2 c229).2.2.2.2.2.2.2.2.2.1 c).2.2.2.2 y36 τ37 eτ37).2 y38 τ39 eτ39).1 c40).1 (wi_goto fLaw_law_1002 (((((h.2.2 c229).2.2.2.2.2.2.2.2.2.1 c).2.2.2.2 y36 τ37 eτ37).2 y38 τ39 eτ39).1 c40).2))) (fun c40 => (wi_bipush fLaw_law_156 (wi_ret2 fLaw_law_157 (by decide) (((((h.2.2 c229).2.2.2.2.2.2.2.2.2.1 c).2.2.2.2 y36 τ37 eτ37).2 y38 τ39 eτ39).2 c40)))))))))))))))))))))))) (fun c => (wi_aload1 fLaw_law_158 (wi_aload0 fLaw_law_159 (wi_iload3 fLaw_law_160 (wi_bipush fLaw_law_161 (wi_iadd fLaw_law_162 ((h.2.2 c229).2.2.2.2.2.2.2.2.2.2.1 c).1 (wi_iald8000 fLaw_law_163 ((h.2.2 c229).2.2.2.2.2.2.2.2.2.2.1 c).2.1 ((h.2.2 c229).2.2.2.2.2.2.2.2.2.2.1 c).2.2.1 (wi_aload0 fLaw_law_164 (wi_iload3 fLaw_law_165 (wi_bipush fLaw_law_166 (wi_iadd fLaw_law_167 ((h.2.2 c229).2.2.2.2.2.2.2.2.2.2.1 c).2.2.2.1 (wi_iald8000 fLaw_law_168 ((h.2.2 c229).2.2.2.2.2.2.2.2.2.2.1 c).2.2.2.2.1 ((h.2.2 c229).2.2.2.2.2.2.2.2.2.2.1 c).2.2.2.2.2.1 (wi_call3 fLaw_law_169 (Nat.le_of_ble_eq_true rfl) (k_Moon_send ((h.2.2 c229).2.2.2.2.2.2.2.2.2.2.1 c).2.2.2.2.2.2.1 (fun y41 τ42 eτ42 => (wi_aload2 fLaw_law_170 (wi_aload0 fLaw_law_171 (wi_iload3 fLaw_law_172 (wi_bipush fLaw_law_173 (wi_iadd fLaw_law_174 ((h.2.2 c229).2.2.2.2.2.2.2.2.2.2.1 c).1 (wi_iald8000 fLaw_law_175 ((h.2.2 c229).2.2.2.2.2.2.2.2.2.2.1 c).2.1 ((h.2.2 c229).2.2.2.2.2.2.2.2.2.2.1 c).2.2.1 (wi_aload0 fLaw_law_176 (wi_iload3 fLaw_law_177 (wi_bipush fLaw_law_178 (wi_iadd fLaw_law_179 ((h.2.2 c229).2.2.2.2.2.2.2.2.2.2.1 c).2.2.2.1 (wi_iald8000 fLaw_law_180 ((h.2.2 c229).2.2.2.2.2.2.2.2.2.2.1 c).2.2.2.2.1 ((h.2.2 c229).2.2.2.2.2.2.2.2.2.2.1 c).2.2.2.2.2.1 (wi_call3 fLaw_law_181 (Nat.le_of_ble_eq_true rfl) (k_Model_send (((h.2.2 c229).2.2.2.2.2.2.2.2.2.2.1 c).2.2.2.2.2.2.2 y41 τ42 eτ42).1 (fun y43 τ44 eτ44 => (wi_ic_eq fLaw_law_182 (fun c45 => (wi_iinc3 fLaw_law_1001 trivial (((((h.2.2 c229).2.2.2.2.2.2.2.2.2.2.1 c).2.2.2.2.2.2.2 y41 τ42 eτ42).2 y43 τ44 eτ44).1 c45).1 (wi_goto fLaw_law_1002 (((((h.2.2 c229).2.2.2.2.2.2.2.2.2.2.1 c).2.2.2.2.2.2.2 y41 τ42 eτ42).2 y43 τ44 eτ44).1 c45).2))) (fun c45 => (wi_bipush fLaw_law_183 (wi_ret2 fLaw_law_184 (by decide) (((((h.2.2 c229).2.2.2.2.2.2.2.2.2.2.1 c).2.2.2.2.2.2.2 y41 τ42 eτ42).2 y43 τ44 eτ44).2 c45)))))))))))))))))))))))))))))))))) (fun c => (wi_aload1 fLaw_law_185 (wi_aload0 fLaw_law_186 (wi_iload3 fLaw_law_187 (wi_bipush fLaw_law_188 (wi_iadd fLaw_law_189 ((h.2.2 c229).2.2.2.2.2.2.2.2.2.2.2.1 c).1 (wi_iald8000 fLaw_law_190 ((h.2.2 c229).2.2.2.2.2.2.2.2.2.2.2.1 c).2.1 ((h.2.2 c229).2.2.2.2.2.2.2.2.2.2.2.1 c).2.2.1 (wi_aload0 fLaw_law_191 (wi_iload3 fLaw_law_192 (wi_bipush fLaw_law_193 (wi_iadd fLaw_law_194 ((h.2.2 c229).2.2.2.2.2.2.2.2.2.2.2.1 c).2.2.2.1 (wi_iald8000 fLaw_law_195 ((h.2.2 c229).2.2.2.2.2.2.2.2.2.2.2.1 c).2.2.2.2.1 ((h.2.2 c229).2.2.2.2.2.2.2.2.2.2.2.1 c).2.2.2.2.2.1 (wi_aload0 fLaw_law_196 (wi_iload3 fLaw_law_197 (wi_bipush fLaw_law_198 (wi_iadd fLaw_law_199 ((h.2.2 c229).2.2.2.2.2.2.2.2.2.2.2.1 c).2.2.2.2.2.2.1 (wi_iald8000 fLaw_law_200 ((h.2.2 c229).2.2.2.2.2.2.2.2.2.2.2.1 c).2.2.2.2.2.2.2.1 ((h.2.2 c229).2.2.2.2.2.2.2.2.2.2.2.1 c).2.2.2.2.2.2.2.2.1 (wi_call4 fLaw_law_201 (Nat.le_of_ble_eq_true rfl) (k_Moon_lend ((h.2.2 c229).2.2.2.2.2.2.2.2.2.2.2.1 c).2.2.2.2.2.2.2.2.2.1 (fun y46 τ47 eτ47 => (wi_aload2 fLaw_law_202 (wi_aload0 fLaw_law_203 (wi_iload3 fLaw_law_204 (wi_bipush fLaw_law_205 (wi_iadd fLaw_law_206 ((h.2.2 c229).2.2.2.2.2.2.2.2.2.2.2.1 c).1 (wi_iald8000 fLaw_law_207 ((h.2.2 c229).2.2.2.2.2.2.2.2.2.2.2.1 c).2.1 ((h.2.2 c229).2.2.2.2.2.2.2.2.2.2.2.1 c).2.2.1 (wi_aload0 fLaw_law_208 (wi_iload3 fLaw_law_209 (wi_bipush fLaw_law_210 (wi_iadd fLaw_law_211 ((h.2.2 c229).2.2.2.2.2.2.2.2.2.2.2.1 c).2.2.2.1 (wi_iald8000 fLaw_law_212 ((h.2.2 c229).2.2.2.2.2.2.2.2.2.2.2.1 c).2.2.2.2.1 ((h.2.2 c229).2.2.2.2.2.2.2.2.2.2.2.1 c).2.2.2.2.2.1 (wi_aload0 fLaw_law_213 (wi_iload3 fLaw_law_214 (wi_bipush fLaw_law_215 (wi_iadd fLaw_law_216 ((h.2.2 c229).2.2.2.2.2.2.2.2.2.2.2.1 c).2.2.2.2.2.2.1 (wi_iald8000 fLaw_law_217 ((h.2.2 c229).2.2.2.2.2.2.2.2.2.2.2.1 c).2.2.2.2.2.2.2.1 ((h.2.2 c229).2.2.2.2.2.2.2.2.2.2.2.1 c).2.2.2.2.2.2.2.2.1 (wi_call4 fLaw_law_218 (Nat.le_of_ble_eq_true rfl) (k_Model_lend (((h.2.2 c229).2.2.2.2.2.2.2.2.2.2.2.1 c).2.2.2.2.2.2.2.2.2.2 y46 τ47 eτ47).1 (fun y48 τ49 eτ49 => (wi_ic_eq fLaw_law_219 (fun c50 => (wi_iinc3 fLaw_law_1001 trivial (((((h.2.2 c229).2.2.2.2.2.2.2.2.2.2.2.1 c).2.2.2.2.2.2.2.2.2.2 y46 τ47 eτ47).2 y48 τ49 eτ49).1 c50).1 (wi_goto fLaw_law_1002 (((((h.2.2 c229).2.2.2.2.2.2.2.2.2.2.2.1 c).2.2.2.2.2.2.2.2.2.2 y46 τ47 eτ47).2 y48 τ49 eτ49).1 c50).2))) (fun c50 => (wi_bipush fLaw_law_220 (wi_ret2 fLaw_law_221 (by decide) (((((h.2.2 c229).2.2.2.2.2.2.2.2.2.2.2.1 c).2.2.2.2.2.2.2.2.2.2 y46 τ47 eτ47).2 y48 τ49 eτ49).2 c50)))))))))))))))))))))))))))))))))))))))))))) (fun c => (wi_aload1 fLaw_law_222 (wi_aload0 fLaw_law_223 (wi_iload3 fLaw_law_224 (wi_bipush fLaw_law_225 (wi_iadd fLaw_law_226 ((h.2.2 c229).2.2.2.2.2.2.2.2.2.2.2.2.1 c).1 (wi_iald8000 fLaw_law_227 ((h.2.2 c229).2.2.2.2.2.2.2.2.2.2.2.2.1 c).2.1 ((h.2.2 c229).2.2.2.2.2.2.2.2.2.2.2.2.1 c).2.2.1 (wi_aload0 fLaw_law_228 (wi_iload3 fLaw_law_229 (wi_bipush fLaw_law_230 (wi_iadd fLaw_law_231 ((h.2.2 c229).2.2.2.2.2.2.2.2.2.2.2.2.1 c).2.2.2.1 (wi_iald8000 fLaw_law_232 ((h.2.2 c229).2.2.2.2.2.2.2.2.2.2.2.2.1 c).2.2.2.2.1 ((h.2.2 c229).2.2.2.2.2.2.2.2.2.2.2.2.1 c).2.2.2.2.2.1 (wi_call3 fLaw_law_233 (Nat.le_of_ble_eq_true rfl) (k_Moon_whet ((h.2.2 c229).2.2.2.2.2.2.2.2.2.2.2.2.1 c).2.2.2.2.2.2.1 (fun y51 τ52 eτ52 => (wi_aload2 fLaw_law_234 (wi_aload0 fLaw_law_235 (wi_iload3 fLaw_law_236 (wi_bipush fLaw_law_237 (wi_iadd fLaw_law_238 ((h.2.2 c229).2.2.2.2.2.2.2.2.2.2.2.2.1 c).1 (wi_iald8000 fLaw_law_239 ((h.2.2 c229).2.2.2.2.2.2.2.2.2.2.2.2.1 c).2.1 ((h.2.2 c229).2.2.2.2.2.2.2.2.2.2.2.2.1 c).2.2.1 (wi_aload0 fLaw_law_240 (wi_iload3 fLaw_law_241 (wi_bipush fLaw_law_242 (wi_iadd fLaw_law_243 ((h.2.2 c229).2.2.2.2.2.2.2.2.2.2.2.2.1 c).2.2.2.1 (wi_iald8000 fLaw_law_244 ((h.2.2 c229).2.2.2.2.2.2.2.2.2.2.2.2.1 c).2.2.2.2.1 ((h.2.2 c229).2.2.2.2.2.2.2.2.2.2.2.2.1 c).2.2.2.2.2.1 (wi_call3 fLaw_law_245 (Nat.le_of_ble_eq_true rfl) (k_Model_whet (((h.2.2 c229).2.2.2.2.2.2.2.2.2.2.2.2.1 c).2.2.2.2.2.2.2 y51 τ52 eτ52).1 (fun y53 τ54 eτ54 => (wi_ic_eq fLaw_law_246 (fun c55 => (wi_iinc3 fLaw_law_1001 trivial (((((h.2.2 c229).2.2.2.2.2.2.2.2.2.2.2.2.1 c).2.2.2.2.2.2.2 y51 τ52 eτ52).2 y53 τ54 eτ54).1 c55).1 (wi_goto fLaw_law_1002 (((((h.2.2 c229).2.2.2.2.2.2.2.2.2.2.2.2.1 c).2.2.2.2.2.2.2 y51 τ52 eτ52).2 y53 τ54 eτ54).1 c55).2))) (fun c55 => (wi_bipush fLaw_law_247 (wi_ret2 fLaw_law_248 (by decide) (((((h.2.2 c229).2.2.2.2.2.2.2.2.2.2.2.2.1 c).2.2.2.2.2.2.2 y51 τ52 eτ52).2 y53 τ54 eτ54).2 c55)))))))))))))))))))))))))))))))))) (fun c => (wi_aload1 fLaw_law_249 (wi_aload0 fLaw_law_250 (wi_iload3 fLaw_law_251 (wi_bipush fLaw_law_252 (wi_iadd fLaw_law_253 ((h.2.2 c229).2.2.2.2.2.2.2.2.2.2.2.2.2.1 c).1 (wi_iald8000 fLaw_law_254 ((h.2.2 c229).2.2.2.2.2.2.2.2.2.2.2.2.2.1 c).2.1 ((h.2.2 c229).2.2.2.2.2.2.2.2.2.2.2.2.2.1 c).2.2.1 (wi_aload0 fLaw_law_255 (wi_iload3 fLaw_law_256 (wi_bipush fLaw_law_257 (wi_iadd fLaw_law_258 ((h.2.2 c229).2.2.2.2.2.2.2.2.2.2.2.2.2.1 c).2.2.2.1 (wi_iald8000 fLaw_law_259 ((h.2.2 c229).2.2.2.2.2.2.2.2.2.2.2.2.2.1 c).2.2.2.2.1 ((h.2.2 c229).2.2.2.2.2.2.2.2.2.2.2.2.2.1 c).2.2.2.2.2.1 (wi_call3 fLaw_law_260 (Nat.le_of_ble_eq_true rfl) (k_Moon_fill ((h.2.2 c229).2.2.2.2.2.2.2.2.2.2.2.2.2.1 c).2.2.2.2.2.2.1 (fun y56 τ57 eτ57 => (wi_aload2 fLaw_law_261 (wi_aload0 fLaw_law_262 (wi_iload3 fLaw_law_263 (wi_bipush fLaw_law_264 (wi_iadd fLaw_law_265 ((h.2.2 c229).2.2.2.2.2.2.2.2.2.2.2.2.2.1 c).1 (wi_iald8000 fLaw_law_266 ((h.2.2 c229).2.2.2.2.2.2.2.2.2.2.2.2.2.1 c).2.1 ((h.2.2 c229).2.2.2.2.2.2.2.2.2.2.2.2.2.1 c).2.2.1 (wi_aload0 fLaw_law_267 (wi_iload3 fLaw_law_268 (wi_bipush fLaw_law_269 (wi_iadd fLaw_law_270 ((h.2.2 c229).2.2.2.2.2.2.2.2.2.2.2.2.2.1 c).2.2.2.1 (wi_iald8000 fLaw_law_271 ((h.2.2 c229).2.2.2.2.2.2.2.2.2.2.2.2.2.1 c).2.2.2.2.1 ((h.2.2 c229).2.2.2.2.2.2.2.2.2.2.2.2.2.1 c).2.2.2.2.2.1 (wi_call3 fLaw_law_272 (Nat.le_of_ble_eq_true rfl) (k_Model_fill (((h.2.2 c229).2.2.2.2.2.2.2.2.2.2.2.2.2.1 c).2.2.2.2.2.2.2 y56 τ57 eτ57).1 (fun y58 τ59 eτ59 => (wi_ic_eq fLaw_law_273 (fun c60 => (wi_iinc3 fLaw_law_1001 trivial (((((h.2.2 c229).2.2.2.2.2.2.2.2.2.2.2.2.2.1 c).2.2.2.2.2.2.2 y56 τ57 eτ57).2 y58 τ59 eτ59).1 c60).1 (wi_goto fLaw_law_1002 (((((h.2.2 c229).2.2.2.2.2.2.2.2.2.2.2.2.2.1 c).2.2.2.2.2.2.2 y56 τ57 eτ57).2 y58 τ59 eτ59).1 c60).2))) (fun c60 => (wi_bipush fLaw_law_274 (wi_ret2 fLaw_law_275 (by decide) (((((h.2.2 c229).2.2.2.2.2.2.2.2.2.2.2.2.2.1 c).2.2.2.2.2.2.2 y56 τ57 eτ57).2 y58 τ59 eτ59).2 c60)))))))))))))))))))))))))))))))))) (fun c => (wi_aload1 fLaw_law_276 (wi_aload0 fLaw_law_277 (wi_iload3 fLaw_law_278 (wi_bipush fLaw_law_279 (wi_iadd fLaw_law_280 ((h.2.2 c229).2.2.2.2.2.2.2.2.2.2.2.2.2.2.1 c).1 (wi_iald8000 fLaw_law_281 ((h.2.2 c229).2.2.2.2.2.2.2.2.2.2.2.2.2.2.1 c).2.1 ((h.2.2 c229).2.2.2.2.2.2.2.2.2.2.2.2.2.2.1 c).2.2.1 (wi_aload0 fLaw_law_282 (wi_iload3 fLaw_law_283 (wi_bipush fLaw_law_284 (wi_iadd fLaw_law_285 ((h.2.2 c229).2.2.2.2.2.2.2.2.2.2.2.2.2.2.1 c).2.2.2.1 (wi_iald8000 fLaw_law_286 ((h.2.2 c229).2.2.2.2.2.2.2.2.2.2.2.2.2.2.1 c).2.2.2.2.1 ((h.2.2 c229).2.2.2.2.2.2.2.2.2.2.2.2.2.2.1 c).2.2.2.2.2.1 (wi_if_eq fLaw_law_287 (fun c71 => (wi_bipush fLaw_law_290 (wi_call3 fLaw_law_291 (Nat.le_of_ble_eq_true rfl) (k_Moon_cloud (((h.2.2 c229).2.2.2.2.2.2.2.2.2.2.2.2.2.2.1 c).2.2.2.2.2.2.1 c71).1 (fun y61 τ62 eτ62 => (wi_aload2 fLaw_law_292 (wi_aload0 fLaw_law_293 (wi_iload3 fLaw_law_294 (wi_bipush fLaw_law_295 (wi_iadd fLaw_law_296 ((h.2.2 c229).2.2.2.2.2.2.2.2.2.2.2.2.2.2.1 c).1 (wi_iald8000 fLaw_law_297 ((h.2.2 c229).2.2.2.2.2.2.2.2.2.2.2.2.2.2.1 c).2.1 ((h.2.2 c229).2.2.2.2.2.2.2.2.2.2.2.2.2.2.1 c).2.2.1 (wi_aload0 fLaw_law_298 (wi_iload3 fLaw_law_299 (wi_bipush fLaw_law_300 (wi_iadd fLaw_law_301 ((h.2.2 c229).2.2.2.2.2.2.2.2.2.2.2.2.2.2.1 c).2.2.2.1 (wi_iald8000 fLaw_law_302 ((h.2.2 c229).2.2.2.2.2.2.2.2.2.2.2.2.2.2.1 c).2.2.2.2.1 ((h.2.2 c229).2.2.2.2.2.2.2.2.2.2.2.2.2.2.1 c).2.2.2.2.2.1 (wi_if_eq fLaw_law_303 (fun _ => (wi_bipush fLaw_law_306 (wi_call3 fLaw_law_307 (Nat.le_of_ble_eq_true rfl) (k_Model_cloud ((((h.2.2 c229).2.2.2.2.2.2.2.2.2.2.2.2.2.2.1 c).2.2.2.2.2.2.1 c71).2 y61 τ62 eτ62).1 (fun y63 τ64 eτ64 => (wi_ic_eq fLaw_law_308 (fun c65 => (wi_iinc3 fLaw_law_1001 trivial ((((((h.2.2 c229).2.2.2.2.2.2.2.2.2.2.2.2.2.2.1 c).2.2.2.2.2.2.1 c71).2 y61 τ62 eτ62).2 y63 τ64 eτ64).1 c65).1 (wi_goto fLaw_law_1002 ((((((h.2.2 c229).2.2.2.2.2.2.2.2.2.2.2.2.2.2.1 c).2.2.2.2.2.2.1 c71).2 y61 τ62 eτ62).2 y63 τ64 eτ64).1 c65).2))) (fun c65 => (wi_bipush fLaw_law_309 (wi_ret2 fLaw_law_310 (by decide) ((((((h.2.2 c229).2.2.2.2.2.2.2.2.2.2.2.2.2.2.1 c).2.2.2.2.2.2.1 c71).2 y61 τ62 eτ62).2 y63 τ64 eτ64).2 c65)))))))))) (fun e => absurd c71 (w_n_eq e))))))))))))))))))) (fun c71 => (wi_bipush fLaw_law_288 (wi_goto fLaw_law_289 (wi_call3 fLaw_law_291 (Nat.le_of_ble_eq_true rfl) (k_Moon_cloud (((h.2.2 c229).2.2.2.2.2.2.2.2.2.2.2.2.2.2.1 c).2.2.2.2.2.2.2 c71).1 (fun y66 τ67 eτ67 => (wi_aload2 fLaw_law_292 (wi_aload0 fLaw_law_293 (wi_iload3 fLaw_law_294 (wi_bipush fLaw_law_295 (wi_iadd fLaw_law_296 ((h.2.2 c229).2.2.2.2.2.2.2.2.2.2.2.2.2.2.1 c).1 (wi_iald8000 fLaw_law_297 ((h.2.2 c229).2.2.2.2.2.2.2.2.2.2.2.2.2.2.1 c).2.1 ((h.2.2 c229).2.2.2.2.2.2.2.2.2.2.2.2.2.2.1 c).2.2.1 (wi_aload0 fLaw_law_298 (wi_iload3 fLaw_law_299 (wi_bipush fLaw_law_300 (wi_iadd fLaw_law_301 ((h.2.2 c229).2.2.2.2.2.2.2.2.2.2.2.2.2.2.1 c).2.2.2.1 (wi_iald8000 fLaw_law_302 ((h.2.2 c229).2.2.2.2.2.2.2.2.2.2.2.2.2.2.1 c).2.2.2.2.1 ((h.2.2 c229).2.2.2.2.2.2.2.2.2.2.2.2.2.2.1 c).2.2.2.2.2.1 (wi_if_eq fLaw_law_303 (fun e => absurd c71 (w_m_eq e)) (fun _ => (wi_bipush fLaw_law_304 (wi_goto fLaw_law_305 (wi_call3 fLaw_law_307 (Nat.le_of_ble_eq_true rfl) (k_Model_cloud ((((h.2.2 c229).2.2.2.2.2.2.2.2.2.2.2.2.2.2.1 c).2.2.2.2.2.2.2 c71).2 y66 τ67 eτ67).1 (fun y68 τ69 eτ69 => (wi_ic_eq fLaw_law_308 (fun c70 => (wi_iinc3 fLaw_law_1001 trivial ((((((h.2.2 c229).2.2.2.2.2.2.2.2.2.2.2.2.2.2.1 c).2.2.2.2.2.2.2 c71).2 y66 τ67 eτ67).2 y68 τ69 eτ69).1 c70).1 (wi_goto fLaw_law_1002 ((((((h.2.2 c229).2.2.2.2.2.2.2.2.2.2.2.2.2.2.1 c).2.2.2.2.2.2.2 c71).2 y66 τ67 eτ67).2 y68 τ69 eτ69).1 c70).2))) (fun c70 => (wi_bipush fLaw_law_309 (wi_ret2 fLaw_law_310 (by decide) ((((((h.2.2 c229).2.2.2.2.2.2.2.2.2.2.2.2.2.2.1 c).2.2.2.2.2.2.2 c71).2 y66 τ67 eτ67).2 y68 τ69 eτ69).2 c70)))))))))))))))))))))))))))))))))))))))))) (fun c => (wi_aload1 fLaw_law_311 (wi_aload0 fLaw_law_312 (wi_iload3 fLaw_law_313 (wi_bipush fLaw_law_314 (wi_iadd fLaw_law_315 ((h.2.2 c229).2.2.2.2.2.2.2.2.2.2.2.2.2.2.2.1 c).1 (wi_iald8000 fLaw_law_316 ((h.2.2 c229).2.2.2.2.2.2.2.2.2.2.2.2.2.2.2.1 c).2.1 ((h.2.2 c229).2.2.2.2.2.2.2.2.2.2.2.2.2.2.2.1 c).2.2.1 (wi_aload0 fLaw_law_317 (wi_iload3 fLaw_law_318 (wi_bipush fLaw_law_319 (wi_iadd fLaw_law_320 ((h.2.2 c229).2.2.2.2.2.2.2.2.2.2.2.2.2.2.2.1 c).2.2.2.1 (wi_iald8000 fLaw_law_321 ((h.2.2 c229).2.2.2.2.2.2.2.2.2.2.2.2.2.2.2.1 c).2.2.2.2.1 ((h.2.2 c229).2.2.2.2.2.2.2.2.2.2.2.2.2.2.2.1 c).2.2.2.2.2.1 (wi_if_eq fLaw_law_322 (fun c82 => (wi_bipush fLaw_law_325 (wi_call3 fLaw_law_326 (Nat.le_of_ble_eq_true rfl) (k_Moon_thistle (((h.2.2 c229).2.2.2.2.2.2.2.2.2.2.2.2.2.2.2.1 c).2.2.2.2.2.2.1 c82).1 (fun y72 τ73 eτ73 => (wi_aload2 fLaw_law_327 (wi_aload0 fLaw_law_328 (wi_iload3 fLaw_law_329 (wi_bipush fLaw_law_330 (wi_iadd fLaw_law_331 ((h.2.2 c229).2.2.2.2.2.2.2.2.2.2.2.2.2.2.2.1 c).1 (wi_iald8000 fLaw_law_332 ((h.2.2 c229).2.2.2.2.2.2.2.2.2.2.2.2.2.2.2.1 c).2.1 ((h.2.2 c229).2.2.2.2.2.2.2.2.2.2.2.2.2.2.2.1 c).2.2.1 (wi_aload0 fLaw_law_333 (wi_iload3 fLaw_law_334 (wi_bipush fLaw_law_335 (wi_iadd fLaw_law_336 ((h.2.2 c229).2.2.2.2.2.2.2.2.2.2.2.2.2.2.2.1 c).2.2.2.1 (wi_iald8000 fLaw_law_337 ((h.2.2 c229).2.2.2.2.2.2.2.2.2.2.2.2.2.2.2.1 c).2.2.2.2.1 ((h.2.2 c229).2.2.2.2.2.2.2.2.2.2.2.2.2.2.2.1 c).2.2.2.2.2.1 (wi_if_eq fLaw_law_338 (fun _ => (wi_bipush fLaw_law_341 (wi_call3 fLaw_law_342 (Nat.le_of_ble_eq_true rfl) (k_Model_thistle ((((h.2.2 c229).2.2.2.2.2.2.2.2.2.2.2.2.2.2.2.1 c).2.2.2.2.2.2.1 c82).2 y72 τ73 eτ73).1 (fun y74 τ75 eτ75 => (wi_ic_eq fLaw_law_343 (fun c76 => (wi_iinc3 fLaw_law_1001 trivial ((((((h.2.2 c229).2.2.2.2.2.2.2.2.2.2.2.2.2.2.2.1 c).2.2.2.2.2.2.1 c82).2 y72 τ73 eτ73).2 y74 τ75 eτ75).1 c76).1 (wi_goto fLaw_law_1002 ((((((h.2.2 c229).2.2.2.2.2.2.2.2.2.2.2.2.2.2.2.1 c).2.2.2.2.2.2.1 c82).2 y72 τ73 eτ73).2 y74 τ75 eτ75).1 c76).2))) (fun c76 => (wi_bipush fLaw_law_344 (wi_ret2 fLaw_law_345 (by decide) ((((((h.2.2 c229).2.2.2.2.2.2.2.2.2.2.2.2.2.2.2.1 c).2.2.2.2.2.2.1 c82).2 y72 τ73 eτ73).2 y74 τ75 eτ75).2 c76)))))))))) (fun e => absurd c82 (w_n_eq e))))))))))))))))))) (fun c82 => (wi_bipush fLaw_law_323 (wi_goto fLaw_law_324 (wi_call3 fLaw_law_326 (Nat.le_of_ble_eq_true rfl) (k_Moon_thistle (((h.2.2 c229).2.2.2.2.2.2.2.2.2.2.2.2.2.2.2.1 c).2.2.2.2.2.2.2 c82).1 (fun y77 τ78 eτ78 => (wi_aload2 fLaw_law_327 (wi_aload0 fLaw_law_328 (wi_iload3 fLaw_law_329 (wi_bipush fLaw_law_330 (wi_iadd fLaw_law_331 ((h.2.2 c229).2.2.2.2.2.2.2.2.2.2.2.2.2.2.2.1 c).1 (wi_iald8000 fLaw_law_332 ((h.2.2 c229).2.2.2.2.2.2.2.2.2.2.2.2.2.2.2.1 c).2.1 ((h.2.2 c229).2.2.2.2.2.2.2.2.2.2.2.2.2.2.2.1 c).2.2.1 (wi_aload0 fLaw_law_333 (wi_iload3 fLaw_law_334 (wi_bipush fLaw_law_335 (wi_iadd fLaw_law_336 ((h.2.2 c229).2.2.2.2.2.2.2.2.2.2.2.2.2.2.2.1 c).2.2.2.1 (wi_iald8000 fLaw_law_337 ((h.2.2 c229).2.2.2.2.2.2.2.2.2.2.2.2.2.2.2.1 c).2.2.2.2.1 ((h.2.2 c229).2.2.2.2.2.2.2.2.2.2.2.2.2.2.2.1 c).2.2.2.2.2.1 (wi_if_eq fLaw_law_338 (fun e => absurd c82 (w_m_eq e)) (fun _ => (wi_bipush fLaw_law_339 (wi_goto fLaw_law_340 (wi_call3 fLaw_law_342 (Nat.le_of_ble_eq_true rfl) (k_Model_thistle ((((h.2.2 c229).2.2.2.2.2.2.2.2.2.2.2.2.2.2.2.1 c).2.2.2.2.2.2.2 c82).2 y77 τ78 eτ78).1 (fun y79 τ80 eτ80 => (wi_ic_eq fLaw_law_343 (fun c81 => (wi_iinc3 fLaw_law_1001 trivial ((((((h.2.2 c229).2.2.2.2.2.2.2.2.2.2.2.2.2.2.2.1 c).2.2.2.2.2.2.2 c82).2 y77 τ78 eτ78).2 y79 τ80 eτ80).1 c81).1 (wi_goto fLaw_law_1002 ((((((h.2.2 c229).2.2.2.2.2.2.2.2.2.2.2.2.2.2.2.1 c).2.2.2.2.2.2.2 c82).2 y77 τ78 eτ78).2 y79 τ80 eτ80).1 c81).2))) (fun c81 => (wi_bipush fLaw_law_344 (wi_ret2 fLaw_law_345 (by decide) ((((((h.2.2 c229).2.2.2.2.2.2.2.2.2.2.2.2.2.2.2.1 c).2.2.2.2.2.2.2 c82).2 y77 τ78 eτ78).2 y79 τ80 eτ80).2 c81)))))))))))))))))))))))))))))))))))))))))) (fun c => (wi_aload1 fLaw_law_346 (wi_aload0 fLaw_law_347 (wi_iload3 fLaw_law_348 (wi_bipush fLaw_law_349 (wi_iadd fLaw_law_350 ((h.2.2 c229).2.2.2.2.2.2.2.2.2.2.2.2.2.2.2.2.1 c).1 (wi_iald8000 fLaw_law_351 ((h.2.2 c229).2.2.2.2.2.2.2.2.2.2.2.2.2.2.2.2.1 c).2.1 ((h.2.2 c229).2.2.2.2.2.2.2.2.2.2.2.2.2.2.2.2.1 c).2.2.1 (wi_aload0 fLaw_law_352 (wi_iload3 fLaw_law_353 (wi_bipush fLaw_law_354 (wi_iadd fLaw_law_355 ((h.2.2 c229).2.2.2.2.2.2.2.2.2.2.2.2.2.2.2.2.1 c).2.2.2.1 (wi_iald8000 fLaw_law_356 ((h.2.2 c229).2.2.2.2.2.2.2.2.2.2.2.2.2.2.2.2.1 c).2.2.2.2.1 ((h.2.2 c229).2.2.2.2.2.2.2.2.2.2.2.2.2.2.2.2.1 c).2.2.2.2.2.1 (wi_call3 fLaw_law_357 (Nat.le_of_ble_eq_true rfl) (k_Moon_own ((h.2.2 c229).2.2.2.2.2.2.2.2.2.2.2.2.2.2.2.2.1 c).2.2.2.2.2.2.1 (fun y83 τ84 eτ84 => (wi_aload2 fLaw_law_358 (wi_aload0 fLaw_law_359 (wi_iload3 fLaw_law_360 (wi_bipush fLaw_law_361 (wi_iadd fLaw_law_362 ((h.2.2 c229).2.2.2.2.2.2.2.2.2.2.2.2.2.2.2.2.1 c).1 (wi_iald8000 fLaw_law_363 ((h.2.2 c229).2.2.2.2.2.2.2.2.2.2.2.2.2.2.2.2.1 c).2.1 ((h.2.2 c229).2.2.2.2.2.2.2.2.2.2.2.2.2.2.2.2.1 c).2.2.1 (wi_aload0 fLaw_law_364 (wi_iload3 fLaw_law_365 (wi_bipush fLaw_law_366 (wi_iadd fLaw_law_367 ((h.2.2 c229).2.2.2.2.2.2.2.2.2.2.2.2.2.2.2.2.1 c).2.2.2.1 (wi_iald8000 fLaw_law_368 ((h.2.2 c229).2.2.2.2.2.2.2.2.2.2.2.2.2.2.2.2.1 c).2.2.2.2.1 ((h.2.2 c229).2.2.2.2.2.2.2.2.2.2.2.2.2.2.2.2.1 c).2.2.2.2.2.1 (wi_call3 fLaw_law_369 (Nat.le_of_ble_eq_true rfl) (k_Model_own (((h.2.2 c229).2.2.2.2.2.2.2.2.2.2.2.2.2.2.2.2.1 c).2.2.2.2.2.2.2 y83 τ84 eτ84).1 (fun y85 τ86 eτ86 => (wi_ic_eq fLaw_law_370 (fun c87 => (wi_iinc3 fLaw_law_1001 trivial (((((h.2.2 c229).2.2.2.2.2.2.2.2.2.2.2.2.2.2.2.2.1 c).2.2.2.2.2.2.2 y83 τ84 eτ84).2 y85 τ86 eτ86).1 c87).1 (wi_goto fLaw_law_1002 (((((h.2.2 c229).2.2.2.2.2.2.2.2.2.2.2.2.2.2.2.2.1 c).2.2.2.2.2.2.2 y83 τ84 eτ84).2 y85 τ86 eτ86).1 c87).2))) (fun c87 => (wi_bipush fLaw_law_371 (wi_ret2 fLaw_law_372 (by decide) (((((h.2.2 c229).2.2.2.2.2.2.2.2.2.2.2.2.2.2.2.2.1 c).2.2.2.2.2.2.2 y83 τ84 eτ84).2 y85 τ86 eτ86).2 c87)))))))))))))))))))))))))))))))))) (fun c => (wi_aload1 fLaw_law_373 (wi_aload0 fLaw_law_374 (wi_iload3 fLaw_law_375 (wi_bipush fLaw_law_376 (wi_iadd fLaw_law_377 ((h.2.2 c229).2.2.2.2.2.2.2.2.2.2.2.2.2.2.2.2.2.1 c).1 (wi_iald8000 fLaw_law_378 ((h.2.2 c229).2.2.2.2.2.2.2.2.2.2.2.2.2.2.2.2.2.1 c).2.1 ((h.2.2 c229).2.2.2.2.2.2.2.2.2.2.2.2.2.2.2.2.2.1 c).2.2.1 (wi_aload0 fLaw_law_379 (wi_iload3 fLaw_law_380 (wi_bipush fLaw_law_381 (wi_iadd fLaw_law_382 ((h.2.2 c229).2.2.2.2.2.2.2.2.2.2.2.2.2.2.2.2.2.1 c).2.2.2.1 (wi_iald8000 fLaw_law_383 ((h.2.2 c229).2.2.2.2.2.2.2.2.2.2.2.2.2.2.2.2.2.1 c).2.2.2.2.1 ((h.2.2 c229).2.2.2.2.2.2.2.2.2.2.2.2.2.2.2.2.2.1 c).2.2.2.2.2.1 (wi_call3 fLaw_law_384 (Nat.le_of_ble_eq_true rfl) (k_Moon_grow ((h.2.2 c229).2.2.2.2.2.2.2.2.2.2.2.2.2.2.2.2.2.1 c).2.2.2.2.2.2.1 (fun y88 τ89 eτ89 => (wi_aload2 fLaw_law_385 (wi_aload0 fLaw_law_386 (wi_iload3 fLaw_law_387 (wi_bipush fLaw_law_388 (wi_iadd fLaw_law_389 ((h.2.2 c229).2.2.2.2.2.2.2.2.2.2.2.2.2.2.2.2.2.1 c).1 (wi_iald8000 fLaw_law_390 ((h.2.2 c229).2.2.2.2.2.2.2.2.2.2.2.2.2.2.2.2.2.1 c).2.1 ((h.2.2 c229).2.2.2.2.2.2.2.2.2.2.2.2.2.2.2.2.2.1 c).2.2.1 (wi_aload0 fLaw_law_391 (wi_iload3 fLaw_law_392 (wi_bipush fLaw_law_393 (wi_iadd fLaw_law_394 ((h.2.2 c229).2.2.2.2.2.2.2.2.2.2.2.2.2.2.2.2.2.1 c).2.2.2.1 (wi_iald8000 fLaw_law_395 ((h.2.2 c229).2.2.2.2.2.2.2.2.2.2.2.2.2.2.2.2.2.1 c).2.2.2.2.1 ((h.2.2 c229).2.2.2.2.2.2.2.2.2.2.2.2.2.2.2.2.2.1 c).2.2.2.2.2.1 (wi_call3 fLaw_law_396 (Nat.le_of_ble_eq_true rfl) (k_Model_grow (((h.2.2 c229).2.2.2.2.2.2.2.2.2.2.2.2.2.2.2.2.2.1 c).2.2.2.2.2.2.2 y88 τ89 eτ89).1 (fun y90 τ91 eτ91 => (wi_ic_eq fLaw_law_397 (fun c92 => (wi_iinc3 fLaw_law_1001 trivial (((((h.2.2 c229).2.2.2.2.2.2.2.2.2.2.2.2.2.2.2.2.2.1 c).2.2.2.2.2.2.2 y88 τ89 eτ89).2 y90 τ91 eτ91).1 c92).1 (wi_goto fLaw_law_1002 (((((h.2.2 c229).2.2.2.2.2.2.2.2.2.2.2.2.2.2.2.2.2.1 c).2.2.2.2.2.2.2 y88 τ89 eτ89).2 y90 τ91 eτ91).1 c92).2))) (fun c92 => (wi_bipush fLaw_law_398 (wi_ret2 fLaw_law_399 (by decide) (((((h.2.2 c229).2.2.2.2.2.2.2.2.2.2.2.2.2.2.2.2.2.1 c).2.2.2.2.2.2.2 y88 τ89 eτ89).2 y90 τ91 eτ91).2 c92)))))))))))))))))))))))))))))))))) (fun c => (wi_aload1 fLaw_law_400 (wi_aload0 fLaw_law_401 (wi_iload3 fLaw_law_402 (wi_bipush fLaw_law_403 (wi_iadd fLaw_law_404 ((h.2.2 c229).2.2.2.2.2.2.2.2.2.2.2.2.2.2.2.2.2.2.1 c).1 (wi_iald8000 fLaw_law_405 ((h.2.2 c229).2.2.2.2.2.2.2.2.2.2.2.2.2.2.2.2.2.2.1 c).2.1 ((h.2.2 c229).2.2.2.2.2.2.2.2.2.2.2.2.2.2.2.2.2.2.1 c).2.2.1 (wi_call2 fLaw_law_406 (Nat.le_of_ble_eq_true rfl) (k_Moon_go ((h.2.2 c229).2.2.2.2.2.2.2.2.2.2.2.2.2.2.2.2.2.2.1 c).2.2.2.1 (fun y93 τ94 eτ94 => (wi_aload2 fLaw_law_407 (wi_aload0 fLaw_law_408 (wi_iload3 fLaw_law_409 (wi_bipush fLaw_law_410 (wi_iadd fLaw_law_411 ((h.2.2 c229).2.2.2.2.2.2.2.2.2.2.2.2.2.2.2.2.2.2.1 c).1 (wi_iald8000 fLaw_law_412 ((h.2.2 c229).2.2.2.2.2.2.2.2.2.2.2.2.2.2.2.2.2.2.1 c).2.1 ((h.2.2 c229).2.2.2.2.2.2.2.2.2.2.2.2.2.2.2.2.2.2.1 c).2.2.1 (wi_call2 fLaw_law_413 (Nat.le_of_ble_eq_true rfl) (k_Model_go (((h.2.2 c229).2.2.2.2.2.2.2.2.2.2.2.2.2.2.2.2.2.2.1 c).2.2.2.2 y93 τ94 eτ94).1 (fun y95 τ96 eτ96 => (wi_ic_eq fLaw_law_414 (fun c97 => (wi_iinc3 fLaw_law_1001 trivial (((((h.2.2 c229).2.2.2.2.2.2.2.2.2.2.2.2.2.2.2.2.2.2.1 c).2.2.2.2 y93 τ94 eτ94).2 y95 τ96 eτ96).1 c97).1 (wi_goto fLaw_law_1002 (((((h.2.2 c229).2.2.2.2.2.2.2.2.2.2.2.2.2.2.2.2.2.2.1 c).2.2.2.2 y93 τ94 eτ94).2 y95 τ96 eτ96).1 c97).2))) (fun c97 => (wi_bipush fLaw_law_415 (wi_ret2 fLaw_law_416 (by decide) (((((h.2.2 c229).2.2.2.2.2.2.2.2.2.2.2.2.2.2.2.2.2.2.1 c).2.2.2.2 y93 τ94 eτ94).2 y95 τ96 eτ96).2 c97)))))))))))))))))))))))) (fun c => (wi_aload1 fLaw_law_417 (wi_aload0 fLaw_law_418 (wi_iload3 fLaw_law_419 (wi_bipush fLaw_law_420 (wi_iadd fLaw_law_421 ((h.2.2 c229).2.2.2.2.2.2.2.2.2.2.2.2.2.2.2.2.2.2.2.1 c).1 (wi_iald8000 fLaw_law_422 ((h.2.2 c229).2.2.2.2.2.2.2.2.2.2.2.2.2.2.2.2.2.2.2.1 c).2.1 ((h.2.2 c229).2.2.2.2.2.2.2.2.2.2.2.2.2.2.2.2.2.2.2.1 c).2.2.1 (wi_aload0 fLaw_law_423 (wi_iload3 fLaw_law_424 (wi_bipush fLaw_law_425 (wi_iadd fLaw_law_426 ((h.2.2 c229).2.2.2.2.2.2.2.2.2.2.2.2.2.2.2.2.2.2.2.1 c).2.2.2.1 (wi_iald8000 fLaw_law_427 ((h.2.2 c229).2.2.2.2.2.2.2.2.2.2.2.2.2.2.2.2.2.2.2.1 c).2.2.2.2.1 ((h.2.2 c229).2.2.2.2.2.2.2.2.2.2.2.2.2.2.2.2.2.2.2.1 c).2.2.2.2.2.1 (wi_aload0 fLaw_law_428 (wi_iload3 fLaw_law_429 (wi_bipush fLaw_law_430 (wi_iadd fLaw_law_431 ((h.2.2 c229).2.2.2.2.2.2.2.2.2.2.2.2.2.2.2.2.2.2.2.1 c).2.2.2.2.2.2.1 (wi_iald8000 fLaw_law_432 ((h.2.2 c229).2.2.2.2.2.2.2.2.2.2.2.2.2.2.2.2.2.2.2.1 c).2.2.2.2.2.2.2.1 ((h.2.2 c229).2.2.2.2.2.2.2.2.2.2.2.2.2.2.2.2.2.2.2.1 c).2.2.2.2.2.2.2.2.1 (wi_call4 fLaw_law_433 (Nat.le_of_ble_eq_true rfl) (k_Moon_ahead ((h.2.2 c229).2.2.2.2.2.2.2.2.2.2.2.2.2.2.2.2.2.2.2.1 c).2.2.2.2.2.2.2.2.2.1 (fun y98 τ99 eτ99 => (wi_aload2 fLaw_law_434 (wi_aload0 fLaw_law_435 (wi_iload3 fLaw_law_436 (wi_bipush fLaw_law_437 (wi_iadd fLaw_law_438 ((h.2.2 c229).2.2.2.2.2.2.2.2.2.2.2.2.2.2.2.2.2.2.2.1 c).1 (wi_iald8000 fLaw_law_439 ((h.2.2 c229).2.2.2.2.2.2.2.2.2.2.2.2.2.2.2.2.2.2.2.1 c).2.1 ((h.2.2 c229).2.2.2.2.2.2.2.2.2.2.2.2.2.2.2.2.2.2.2.1 c).2.2.1 (wi_aload0 fLaw_law_440 (wi_iload3 fLaw_law_441 (wi_bipush fLaw_law_442 (wi_iadd fLaw_law_443 ((h.2.2 c229).2.2.2.2.2.2.2.2.2.2.2.2.2.2.2.2.2.2.2.1 c).2.2.2.1 (wi_iald8000 fLaw_law_444 ((h.2.2 c229).2.2.2.2.2.2.2.2.2.2.2.2.2.2.2.2.2.2.2.1 c).2.2.2.2.1 ((h.2.2 c229).2.2.2.2.2.2.2.2.2.2.2.2.2.2.2.2.2.2.2.1 c).2.2.2.2.2.1 (wi_aload0 fLaw_law_445 (wi_iload3 fLaw_law_446 (wi_bipush fLaw_law_447 (wi_iadd fLaw_law_448 ((h.2.2 c229).2.2.2.2.2.2.2.2.2.2.2.2.2.2.2.2.2.2.2.1 c).2.2.2.2.2.2.1 (wi_iald8000 fLaw_law_449 ((h.2.2 c229).2.2.2.2.2.2.2.2.2.2.2.2.2.2.2.2.2.2.2.1 c).2.2.2.2.2.2.2.1 ((h.2.2 c229).2.2.2.2.2.2.2.2.2.2.2.2.2.2.2.2.2.2.2.1 c).2.2.2.2.2.2.2.2.1 (wi_call4 fLaw_law_450 (Nat.le_of_ble_eq_true rfl) (k_Model_ahead (((h.2.2 c229).2.2.2.2.2.2.2.2.2.2.2.2.2.2.2.2.2.2.2.1 c).2.2.2.2.2.2.2.2.2.2 y98 τ99 eτ99).1 (fun y100 τ101 eτ101 => (wi_ic_eq fLaw_law_451 (fun c102 => (wi_iinc3 fLaw_law_1001 trivial (((((h.2.2 c229).2.2.2.2.2.2.2.2.2.2.2.2.2.2.2.2.2.2.2.1 c).2.2.2.2.2.2.2.2.2.2 y98 τ99 eτ99).2 y100 τ101 eτ101).1 c102).1 (wi_goto fLaw_law_1002 (((((h.2.2 c229).2.2.2.2.2.2.2.2.2.2.2.2.2.2.2.2.2.2.2.1 c).2.2.2.2.2.2.2.2.2.2 y98 τ99 eτ99).2 y100 τ101 eτ101).1 c102).2))) (fun c102 => (wi_bipush fLaw_law_452 (wi_ret2 fLaw_law_453 (by decide) (((((h.2.2 c229).2.2.2.2.2.2.2.2.2.2.2.2.2.2.2.2.2.2.2.1 c).2.2.2.2.2.2.2.2.2.2 y98 τ99 eτ99).2 y100 τ101 eτ101).2 c102)))))))))))))))))))))))))))))))))))))))))))) (fun c => (wi_aload1 fLaw_law_454 (wi_aload0 fLaw_law_455 (wi_iload3 fLaw_law_456 (wi_bipush fLaw_law_457 (wi_iadd fLaw_law_458 ((h.2.2 c229).2.2.2.2.2.2.2.2.2.2.2.2.2.2.2.2.2.2.2.2.1 c).1 (wi_iald8000 fLaw_law_459 ((h.2.2 c229).2.2.2.2.2.2.2.2.2.2.2.2.2.2.2.2.2.2.2.2.1 c).2.1 ((h.2.2 c229).2.2.2.2.2.2.2.2.2.2.2.2.2.2.2.2.2.2.2.2.1 c).2.2.1 (wi_aload0 fLaw_law_460 (wi_iload3 fLaw_law_461 (wi_bipush fLaw_law_462 (wi_iadd fLaw_law_463 ((h.2.2 c229).2.2.2.2.2.2.2.2.2.2.2.2.2.2.2.2.2.2.2.2.1 c).2.2.2.1 (wi_iald8000 fLaw_law_464 ((h.2.2 c229).2.2.2.2.2.2.2.2.2.2.2.2.2.2.2.2.2.2.2.2.1 c).2.2.2.2.1 ((h.2.2 c229).2.2.2.2.2.2.2.2.2.2.2.2.2.2.2.2.2.2.2.2.1 c).2.2.2.2.2.1 (wi_call3 fLaw_law_465 (Nat.le_of_ble_eq_true rfl) (k_Moon_stands ((h.2.2 c229).2.2.2.2.2.2.2.2.2.2.2.2.2.2.2.2.2.2.2.2.1 c).2.2.2.2.2.2.1 (fun y103 τ104 eτ104 => (wi_aload2 fLaw_law_466 (wi_aload0 fLaw_law_467 (wi_iload3 fLaw_law_468 (wi_bipush fLaw_law_469 (wi_iadd fLaw_law_470 ((h.2.2 c229).2.2.2.2.2.2.2.2.2.2.2.2.2.2.2.2.2.2.2.2.1 c).1 (wi_iald8000 fLaw_law_471 ((h.2.2 c229).2.2.2.2.2.2.2.2.2.2.2.2.2.2.2.2.2.2.2.2.1 c).2.1 ((h.2.2 c229).2.2.2.2.2.2.2.2.2.2.2.2.2.2.2.2.2.2.2.2.1 c).2.2.1 (wi_aload0 fLaw_law_472 (wi_iload3 fLaw_law_473 (wi_bipush fLaw_law_474 (wi_iadd fLaw_law_475 ((h.2.2 c229).2.2.2.2.2.2.2.2.2.2.2.2.2.2.2.2.2.2.2.2.1 c).2.2.2.1 (wi_iald8000 fLaw_law_476 ((h.2.2 c229).2.2.2.2.2.2.2.2.2.2.2.2.2.2.2.2.2.2.2.2.1 c).2.2.2.2.1 ((h.2.2 c229).2.2.2.2.2.2.2.2.2.2.2.2.2.2.2.2.2.2.2.2.1 c).2.2.2.2.2.1 (wi_call3 fLaw_law_477 (Nat.le_of_ble_eq_true rfl) (k_Model_stands (((h.2.2 c229).2.2.2.2.2.2.2.2.2.2.2.2.2.2.2.2.2.2.2.2.1 c).2.2.2.2.2.2.2 y103 τ104 eτ104).1 (fun y105 τ106 eτ106 => (wi_ic_eq fLaw_law_478 (fun c107 => (wi_iinc3 fLaw_law_1001 trivial (((((h.2.2 c229).2.2.2.2.2.2.2.2.2.2.2.2.2.2.2.2.2.2.2.2.1 c).2.2.2.2.2.2.2 y103 τ104 eτ104).2 y105 τ106 eτ106).1 c107).1 (wi_goto fLaw_law_1002 (((((h.2.2 c229).2.2.2.2.2.2.2.2.2.2.2.2.2.2.2.2.2.2.2.2.1 c).2.2.2.2.2.2.2 y103 τ104 eτ104).2 y105 τ106 eτ106).1 c107).2))) (fun c107 => (wi_bipush fLaw_law_479 (wi_ret2 fLaw_law_480 (by decide) (((((h.2.2 c229).2.2.2.2.2.2.2.2.2.2.2.2.2.2.2.2.2.2.2.2.1 c).2.2.2.2.2.2.2 y103 τ104 eτ104).2 y105 τ106 eτ106).2 c107)))))))))))))))))))))))))))))))))) (fun c => (wi_aload1 fLaw_law_481 (wi_aload0 fLaw_law_482 (wi_iload3 fLaw_law_483 (wi_bipush fLaw_law_484 (wi_iadd fLaw_law_485 ((h.2.2 c229).2.2.2.2.2.2.2.2.2.2.2.2.2.2.2.2.2.2.2.2.2.1 c).1 (wi_iald8000 fLaw_law_486 ((h.2.2 c229).2.2.2.2.2.2.2.2.2.2.2.2.2.2.2.2.2.2.2.2.2.1 c).2.1 ((h.2.2 c229).2.2.2.2.2.2.2.2.2.2.2.2.2.2.2.2.2.2.2.2.2.1 c).2.2.1 (wi_call2 fLaw_law_487 (Nat.le_of_ble_eq_true rfl) (k_Moon_done ((h.2.2 c229).2.2.2.2.2.2.2.2.2.2.2.2.2.2.2.2.2.2.2.2.2.1 c).2.2.2.1 (fun y108 τ109 eτ109 => (wi_aload2 fLaw_law_488 (wi_aload0 fLaw_law_489 (wi_iload3 fLaw_law_490 (wi_bipush fLaw_law_491 (wi_iadd fLaw_law_492 ((h.2.2 c229).2.2.2.2.2.2.2.2.2.2.2.2.2.2.2.2.2.2.2.2.2.1 c).1 (wi_iald8000 fLaw_law_493 ((h.2.2 c229).2.2.2.2.2.2.2.2.2.2.2.2.2.2.2.2.2.2.2.2.2.1 c).2.1 ((h.2.2 c229).2.2.2.2.2.2.2.2.2.2.2.2.2.2.2.2.2.2.2.2.2.1 c).2.2.1 (wi_call2 fLaw_law_494 (Nat.le_of_ble_eq_true rfl) (k_Model_done (((h.2.2 c229).2.2.2.2.2.2.2.2.2.2.2.2.2.2.2.2.2.2.2.2.2.1 c).2.2.2.2 y108 τ109 eτ109).1 (fun y110 τ111 eτ111 => (wi_ic_eq fLaw_law_495 (fun c112 => (wi_iinc3 fLaw_law_1001 trivial (((((h.2.2 c229).2.2.2.2.2.2.2.2.2.2.2.2.2.2.2.2.2.2.2.2.2.1 c).2.2.2.2 y108 τ109 eτ109).2 y110 τ111 eτ111).1 c112).1 (wi_goto fLaw_law_1002 (((((h.2.2 c229).2.2.2.2.2.2.2.2.2.2.2.2.2.2.2.2.2.2.2.2.2.1 c).2.2.2.2 y108 τ109 eτ109).2 y110 τ111 eτ111).1 c112).2))) (fun c112 => (wi_bipush fLaw_law_496 (wi_ret2 fLaw_law_497 (by decide) (((((h.2.2 c229).2.2.2.2.2.2.2.2.2.2.2.2.2.2.2.2.2.2.2.2.2.1 c).2.2.2.2 y108 τ109 eτ109).2 y110 τ111 eτ111).2 c112)))))))))))))))))))))))) (fun c => (wi_aload1 fLaw_law_498 (wi_call1 fLaw_law_499 (Nat.le_of_ble_eq_true rfl) (k_Moon_left ((h.2.2 c229).2.2.2.2.2.2.2.2.2.2.2.2.2.2.2.2.2.2.2.2.2.2.1 c).1 (fun y113 τ114 eτ114 => (wi_aload2 fLaw_law_500 (wi_call1 fLaw_law_501 (Nat.le_of_ble_eq_true rfl) (k_Model_left (((h.2.2 c229).2.2.2.2.2.2.2.2.2.2.2.2.2.2.2.2.2.2.2.2.2.2.1 c).2 y113 τ114 eτ114).1 (fun y115 τ116 eτ116 => (wi_ic_eq fLaw_law_502 (fun c117 => (wi_iinc3 fLaw_law_1001 trivial (((((h.2.2 c229).2.2.2.2.2.2.2.2.2.2.2.2.2.2.2.2.2.2.2.2.2.2.1 c).2 y113 τ114 eτ114).2 y115 τ116 eτ116).1 c117).1 (wi_goto fLaw_law_1002 (((((h.2.2 c229).2.2.2.2.2.2.2.2.2.2.2.2.2.2.2.2.2.2.2.2.2.2.1 c).2 y113 τ114 eτ114).2 y115 τ116 eτ116).1 c117).2))) (fun c117 => (wi_bipush fLaw_law_503 (wi_ret2 fLaw_law_504 (by decide) (((((h.2.2 c229).2.2.2.2.2.2.2.2.2.2.2.2.2.2.2.2.2.2.2.2.2.2.1 c).2 y113 τ114 eτ114).2 y115 τ116 eτ116).2 c117)))))))))))))) (fun c => (wi_aload1 fLaw_law_505 (wi_aload0 fLaw_law_506 (wi_iload3 fLaw_law_507 (wi_bipush fLaw_law_508 (wi_iadd fLaw_law_509 ((h.2.2 c229).2.2.2.2.2.2.2.2.2.2.2.2.2.2.2.2.2.2.2.2.2.2.2.1 c).1 (wi_iald8000 fLaw_law_510 ((h.2.2 c229).2.2.2.2.2.2.2.2.2.2.2.2.2.2.2.2.2.2.2.2.2.2.2.1 c).2.1 ((h.2.2 c229).2.2.2.2.2.2.2.2.2.2.2.2.2.2.2.2.2.2.2.2.2.2.2.1 c).2.2.1 (wi_call2 fLaw_law_511 (Nat.le_of_ble_eq_true rfl) (k_Moon_begin ((h.2.2 c229).2.2.2.2.2.2.2.2.2.2.2.2.2.2.2.2.2.2.2.2.2.2.2.1 c).2.2.2.1 (fun y118 τ119 eτ119 => (wi_aload2 fLaw_law_512 (wi_aload0 fLaw_law_513 (wi_iload3 fLaw_law_514 (wi_bipush fLaw_law_515 (wi_iadd fLaw_law_516 ((h.2.2 c229).2.2.2.2.2.2.2.2.2.2.2.2.2.2.2.2.2.2.2.2.2.2.2.1 c).1 (wi_iald8000 fLaw_law_517 ((h.2.2 c229).2.2.2.2.2.2.2.2.2.2.2.2.2.2.2.2.2.2.2.2.2.2.2.1 c).2.1 ((h.2.2 c229).2.2.2.2.2.2.2.2.2.2.2.2.2.2.2.2.2.2.2.2.2.2.2.1 c).2.2.1 (wi_call2 fLaw_law_518 (Nat.le_of_ble_eq_true rfl) (k_Model_begin (((h.2.2 c229).2.2.2.2.2.2.2.2.2.2.2.2.2.2.2.2.2.2.2.2.2.2.2.1 c).2.2.2.2 y118 τ119 eτ119).1 (fun y120 τ121 eτ121 => (wi_ic_eq fLaw_law_519 (fun c122 => (wi_iinc3 fLaw_law_1001 trivial (((((h.2.2 c229).2.2.2.2.2.2.2.2.2.2.2.2.2.2.2.2.2.2.2.2.2.2.2.1 c).2.2.2.2 y118 τ119 eτ119).2 y120 τ121 eτ121).1 c122).1 (wi_goto fLaw_law_1002 (((((h.2.2 c229).2.2.2.2.2.2.2.2.2.2.2.2.2.2.2.2.2.2.2.2.2.2.2.1 c).2.2.2.2 y118 τ119 eτ119).2 y120 τ121 eτ121).1 c122).2))) (fun c122 => (wi_bipush fLaw_law_520 (wi_ret2 fLaw_law_521 (by decide) (((((h.2.2 c229).2.2.2.2.2.2.2.2.2.2.2.2.2.2.2.2.2.2.2.2.2.2.2.1 c).2.2.2.2 y118 τ119 eτ119).2 y120 τ121 eτ121).2 c122)))))))))))))))))))))))) (fun c => (wi_aload1 fLaw_law_522 (wi_aload0 fLaw_law_523 (wi_iload3 fLaw_law_524 (wi_bipush fLaw_law_525 (wi_iadd fLaw_law_526 ((h.2.2 c229).2.2.2.2.2.2.2.2.2.2.2.2.2.2.2.2.2.2.2.2.2.2.2.2.1 c).1 (wi_iald8000 fLaw_law_527 ((h.2.2 c229).2.2.2.2.2.2.2.2.2.2.2.2.2.2.2.2.2.2.2.2.2.2.2.2.1 c).2.1 ((h.2.2 c229).2.2.2.2.2.2.2.2.2.2.2.2.2.2.2.2.2.2.2.2.2.2.2.2.1 c).2.2.1 (wi_aload0 fLaw_law_528 (wi_iload3 fLaw_law_529 (wi_bipush fLaw_law_530 (wi_iadd fLaw_law_531 ((h.2.2 c229).2.2.2.2.2.2.2.2.2.2.2.2.2.2.2.2.2.2.2.2.2.2.2.2.1 c).2.2.2.1 (wi_iald8000 fLaw_law_532 ((h.2.2 c229).2.2.2.2.2.2.2.2.2.2.2.2.2.2.2.2.2.2.2.2.2.2.2.2.1 c).2.2.2.2.1 ((h.2.2 c229).2.2.2.2.2.2.2.2.2.2.2.2.2.2.2.2.2.2.2.2.2.2.2.2.1 c).2.2.2.2.2.1 (wi_call3 fLaw_law_533 (Nat.le_of_ble_eq_true rfl) (k_Moon_best ((h.2.2 c229).2.2.2.2.2.2.2.2.2.2.2.2.2.2.2.2.2.2.2.2.2.2.2.2.1 c).2.2.2.2.2.2.1 (fun y123 τ124 eτ124 => (wi_aload2 fLaw_law_534 (wi_aload0 fLaw_law_535 (wi_iload3 fLaw_law_536 (wi_bipush fLaw_law_537 (wi_iadd fLaw_law_538 ((h.2.2 c229).2.2.2.2.2.2.2.2.2.2.2.2.2.2.2.2.2.2.2.2.2.2.2.2.1 c).1 (wi_iald8000 fLaw_law_539 ((h.2.2 c229).2.2.2.2.2.2.2.2.2.2.2.2.2.2.2.2.2.2.2.2.2.2.2.2.1 c).2.1 ((h.2.2 c229).2.2.2.2.2.2.2.2.2.2.2.2.2.2.2.2.2.2.2.2.2.2.2.2.1 c).2.2.1 (wi_aload0 fLaw_law_540 (wi_iload3 fLaw_law_541 (wi_bipush fLaw_law_542 (wi_iadd fLaw_law_543 ((h.2.2 c229).2.2.2.2.2.2.2.2.2.2.2.2.2.2.2.2.2.2.2.2.2.2.2.2.1 c).2.2.2.1 (wi_iald8000 fLaw_law_544 ((h.2.2 c229).2.2.2.2.2.2.2.2.2.2.2.2.2.2.2.2.2.2.2.2.2.2.2.2.1 c).2.2.2.2.1 ((h.2.2 c229).2.2.2.2.2.2.2.2.2.2.2.2.2.2.2.2.2.2.2.2.2.2.2.2.1 c).2.2.2.2.2.1 (wi_call3 fLaw_law_545 (Nat.le_of_ble_eq_true rfl) (k_Model_best (((h.2.2 c229).2.2.2.2.2.2.2.2.2.2.2.2.2.2.2.2.2.2.2.2.2.2.2.2.1 c).2.2.2.2.2.2.2 y123 τ124 eτ124).1 (fun y125 τ126 eτ126 => (wi_ic_eq fLaw_law_546 (fun c127 => (wi_iinc3 fLaw_law_1001 trivial (((((h.2.2 c229).2.2.2.2.2.2.2.2.2.2.2.2.2.2.2.2.2.2.2.2.2.2.2.2.1 c).2.2.2.2.2.2.2 y123 τ124 eτ124).2 y125 τ126 eτ126).1 c127).1 (wi_goto fLaw_law_1002 (((((h.2.2 c229).2.2.2.2.2.2.2.2.2.2.2.2.2.2.2.2.2.2.2.2.2.2.2.2.1 c).2.2.2.2.2.2.2 y123 τ124 eτ124).2 y125 τ126 eτ126).1 c127).2))) (fun c127 => (wi_bipush fLaw_law_547 (wi_ret2 fLaw_law_548 (by decide) (((((h.2.2 c229).2.2.2.2.2.2.2.2.2.2.2.2.2.2.2.2.2.2.2.2.2.2.2.2.1 c).2.2.2.2.2.2.2 y123 τ124 eτ124).2 y125 τ126 eτ126).2 c127)))))))))))))))))))))))))))))))))) (fun c => (wi_aload1 fLaw_law_549 (wi_aload0 fLaw_law_550 (wi_iload3 fLaw_law_551 (wi_bipush fLaw_law_552 (wi_iadd fLaw_law_553 ((h.2.2 c229).2.2.2.2.2.2.2.2.2.2.2.2.2.2.2.2.2.2.2.2.2.2.2.2.2.1 c).1 (wi_iald8000 fLaw_law_554 ((h.2.2 c229).2.2.2.2.2.2.2.2.2.2.2.2.2.2.2.2.2.2.2.2.2.2.2.2.2.1 c).2.1 ((h.2.2 c229).2.2.2.2.2.2.2.2.2.2.2.2.2.2.2.2.2.2.2.2.2.2.2.2.2.1 c).2.2.1 (wi_call2 fLaw_law_555 (Nat.le_of_ble_eq_true rfl) (k_Moon_oil ((h.2.2 c229).2.2.2.2.2.2.2.2.2.2.2.2.2.2.2.2.2.2.2.2.2.2.2.2.2.1 c).2.2.2.1 (fun y128 τ129 eτ129 => (wi_aload2 fLaw_law_556 (wi_aload0 fLaw_law_557 (wi_iload3 fLaw_law_558 (wi_bipush fLaw_law_559 (wi_iadd fLaw_law_560 ((h.2.2 c229).2.2.2.2.2.2.2.2.2.2.2.2.2.2.2.2.2.2.2.2.2.2.2.2.2.1 c).1 (wi_iald8000 fLaw_law_561 ((h.2.2 c229).2.2.2.2.2.2.2.2.2.2.2.2.2.2.2.2.2.2.2.2.2.2.2.2.2.1 c).2.1 ((h.2.2 c229).2.2.2.2.2.2.2.2.2.2.2.2.2.2.2.2.2.2.2.2.2.2.2.2.2.1 c).2.2.1 (wi_call2 fLaw_law_562 (Nat.le_of_ble_eq_true rfl) (k_Model_oil (((h.2.2 c229).2.2.2.2.2.2.2.2.2.2.2.2.2.2.2.2.2.2.2.2.2.2.2.2.2.1 c).2.2.2.2 y128 τ129 eτ129).1 (fun y130 τ131 eτ131 => (wi_ic_eq fLaw_law_563 (fun c132 => (wi_iinc3 fLaw_law_1001 trivial (((((h.2.2 c229).2.2.2.2.2.2.2.2.2.2.2.2.2.2.2.2.2.2.2.2.2.2.2.2.2.1 c).2.2.2.2 y128 τ129 eτ129).2 y130 τ131 eτ131).1 c132).1 (wi_goto fLaw_law_1002 (((((h.2.2 c229).2.2.2.2.2.2.2.2.2.2.2.2.2.2.2.2.2.2.2.2.2.2.2.2.2.1 c).2.2.2.2 y128 τ129 eτ129).2 y130 τ131 eτ131).1 c132).2))) (fun c132 => (wi_bipush fLaw_law_564 (wi_ret2 fLaw_law_565 (by decide) (((((h.2.2 c229).2.2.2.2.2.2.2.2.2.2.2.2.2.2.2.2.2.2.2.2.2.2.2.2.2.1 c).2.2.2.2 y128 τ129 eτ129).2 y130 τ131 eτ131).2 c132)))))))))))))))))))))))) (fun c => (wi_aload1 fLaw_law_566 (wi_aload0 fLaw_law_567 (wi_iload3 fLaw_law_568 (wi_bipush fLaw_law_569 (wi_iadd fLaw_law_570 ((h.2.2 c229).2.2.2.2.2.2.2.2.2.2.2.2.2.2.2.2.2.2.2.2.2.2.2.2.2.2.1 c).1 (wi_iald8000 fLaw_law_571 ((h.2.2 c229).2.2.2.2.2.2.2.2.2.2.2.2.2.2.2.2.2.2.2.2.2.2.2.2.2.2.1 c).2.1 ((h.2.2 c229).2.2.2.2.2.2.2.2.2.2.2.2.2.2.2.2.2.2.2.2.2.2.2.2.2.2.1 c).2.2.1 (wi_call2 fLaw_law_572 (Nat.le_of_ble_eq_true rfl) (k_Moon_least ((h.2.2 c229).2.2.2.2.2.2.2.2.2.2.2.2.2.2.2.2.2.2.2.2.2.2.2.2.2.2.1 c).2.2.2.1 (fun y133 τ134 eτ134 => (wi_aload2 fLaw_law_573 (wi_aload0 fLaw_law_574 (wi_iload3 fLaw_law_575 (wi_bipush fLaw_law_576 (wi_iadd fLaw_law_577 ((h.2.2 c229).2.2.2.2.2.2.2.2.2.2.2.2.2.2.2.2.2.2.2.2.2.2.2.2.2.2.1 c).1 (wi_iald8000 fLaw_law_578 ((h.2.2 c229).2.2.2.2.2.2.2.2.2.2.2.2.2.2.2.2.2.2.2.2.2.2.2.2.2.2.1 c).2.1 ((h.2.2 c229).2.2.2.2.2.2.2.2.2.2.2.2.2.2.2.2.2.2.2.2.2.2.2.2.2.2.1 c).2.2.1 (wi_call2 fLaw_law_579 (Nat.le_of_ble_eq_true rfl) (k_Model_least (((h.2.2 c229).2.2.2.2.2.2.2.2.2.2.2.2.2.2.2.2.2.2.2.2.2.2.2.2.2.2.1 c).2.2.2.2 y133 τ134 eτ134).1 (fun y135 τ136 eτ136 => (wi_ic_eq fLaw_law_580 (fun c137 => (wi_iinc3 fLaw_law_1001 trivial (((((h.2.2 c229).2.2.2.2.2.2.2.2.2.2.2.2.2.2.2.2.2.2.2.2.2.2.2.2.2.2.1 c).2.2.2.2 y133 τ134 eτ134).2 y135 τ136 eτ136).1 c137).1 (wi_goto fLaw_law_1002 (((((h.2.2 c229).2.2.2.2.2.2.2.2.2.2.2.2.2.2.2.2.2.2.2.2.2.2.2.2.2.2.1 c).2.2.2.2 y133 τ134 eτ134).2 y135 τ136 eτ136).1 c137).2))) (fun c137 => (wi_bipush fLaw_law_581 (wi_ret2 fLaw_law_582 (by decide) (((((h.2.2 c229).2.2.2.2.2.2.2.2.2.2.2.2.2.2.2.2.2.2.2.2.2.2.2.2.2.2.1 c).2.2.2.2 y133 τ134 eτ134).2 y135 τ136 eτ136).2 c137)))))))))))))))))))))))) (fun c => (wi_aload1 fLaw_law_583 (wi_aload0 fLaw_law_584 (wi_iload3 fLaw_law_585 (wi_bipush fLaw_law_586 (wi_iadd fLaw_law_587 ((h.2.2 c229).2.2.2.2.2.2.2.2.2.2.2.2.2.2.2.2.2.2.2.2.2.2.2.2.2.2.2.1 c).1 (wi_iald8000 fLaw_law_588 ((h.2.2 c229).2.2.2.2.2.2.2.2.2.2.2.2.2.2.2.2.2.2.2.2.2.2.2.2.2.2.2.1 c).2.1 ((h.2.2 c229).2.2.2.2.2.2.2.2.2.2.2.2.2.2.2.2.2.2.2.2.2.2.2.2.2.2.2.1 c).2.2.1 (wi_aload0 fLaw_law_589 (wi_iload3 fLaw_law_590 (wi_bipush fLaw_law_591 (wi_iadd fLaw_law_592 ((h.2.2 c229).2.2.2.2.2.2.2.2.2.2.2.2.2.2.2.2.2.2.2.2.2.2.2.2.2.2.2.1 c).2.2.2.1 (wi_iald8000 fLaw_law_593 ((h.2.2 c229).2.2.2.2.2.2.2.2.2.2.2.2.2.2.2.2.2.2.2.2.2.2.2.2.2.2.2.1 c).2.2.2.2.1 ((h.2.2 c229).2.2.2.2.2.2.2.2.2.2.2.2.2.2.2.2.2.2.2.2.2.2.2.2.2.2.2.1 c).2.2.2.2.2.1 (wi_call3 fLaw_law_594 (Nat.le_of_ble_eq_true rfl) (k_Moon_luck ((h.2.2 c229).2.2.2.2.2.2.2.2.2.2.2.2.2.2.2.2.2.2.2.2.2.2.2.2.2.2.2.1 c).2.2.2.2.2.2.1 (fun y138 τ139 eτ139 => (wi_aload2 fLaw_law_595 (wi_aload0 fLaw_law_596 (wi_iload3 fLaw_law_597 (wi_bipush fLaw_law_598 (wi_iadd fLaw_law_599 ((h.2.2 c229).2.2.2.2.2.2.2.2.2.2.2.2.2.2.2.2.2.2.2.2.2.2.2.2.2.2.2.1 c).1 (wi_iald8000 fLaw_law_600 ((h.2.2 c229).2.2.2.2.2.2.2.2.2.2.2.2.2.2.2.2.2.2.2.2.2.2.2.2.2.2.2.1 c).2.1 ((h.2.2 c229).2.2.2.2.2.2.2.2.2.2.2.2.2.2.2.2.2.2.2.2.2.2.2.2.2.2.2.1 c).2.2.1 (wi_aload0 fLaw_law_601 (wi_iload3 fLaw_law_602 (wi_bipush fLaw_law_603 (wi_iadd fLaw_law_604 ((h.2.2 c229).2.2.2.2.2.2.2.2.2.2.2.2.2.2.2.2.2.2.2.2.2.2.2.2.2.2.2.1 c).2.2.2.1 (wi_iald8000 fLaw_law_605 ((h.2.2 c229).2.2.2.2.2.2.2.2.2.2.2.2.2.2.2.2.2.2.2.2.2.2.2.2.2.2.2.1 c).2.2.2.2.1 ((h.2.2 c229).2.2.2.2.2.2.2.2.2.2.2.2.2.2.2.2.2.2.2.2.2.2.2.2.2.2.2.1 c).2.2.2.2.2.1 (wi_call3 fLaw_law_606 (Nat.le_of_ble_eq_true rfl) (k_Model_luck (((h.2.2 c229).2.2.2.2.2.2.2.2.2.2.2.2.2.2.2.2.2.2.2.2.2.2.2.2.2.2.2.1 c).2.2.2.2.2.2.2 y138 τ139 eτ139).1 (fun y140 τ141 eτ141 => (wi_lcmp_eq fLaw_law_607 fLaw_law_608 (fun c142 => (wi_iinc3 fLaw_law_1001 trivial (((((h.2.2 c229).2.2.2.2.2.2.2.2.2.2.2.2.2.2.2.2.2.2.2.2.2.2.2.2.2.2.2.1 c).2.2.2.2.2.2.2 y138 τ139 eτ139).2 y140 τ141 eτ141).1 c142).1 (wi_goto fLaw_law_1002 (((((h.2.2 c229).2.2.2.2.2.2.2.2.2.2.2.2.2.2.2.2.2.2.2.2.2.2.2.2.2.2.2.1 c).2.2.2.2.2.2.2 y138 τ139 eτ139).2 y140 τ141 eτ141).1 c142).2))) (fun c142 => (wi_bipush fLaw_law_609 (wi_ret2 fLaw_law_610 (by decide) (((((h.2.2 c229).2.2.2.2.2.2.2.2.2.2.2.2.2.2.2.2.2.2.2.2.2.2.2.2.2.2.2.1 c).2.2.2.2.2.2.2 y138 τ139 eτ139).2 y140 τ141 eτ141).2 c142)))))))))))))))))))))))))))))))))) (fun c => (wi_aload1 fLaw_law_611 (wi_aload0 fLaw_law_612 (wi_iload3 fLaw_law_613 (wi_bipush fLaw_law_614 (wi_iadd fLaw_law_615 ((h.2.2 c229).2.2.2.2.2.2.2.2.2.2.2.2.2.2.2.2.2.2.2.2.2.2.2.2.2.2.2.2.1 c).1 (wi_iald8000 fLaw_law_616 ((h.2.2 c229).2.2.2.2.2.2.2.2.2.2.2.2.2.2.2.2.2.2.2.2.2.2.2.2.2.2.2.2.1 c).2.1 ((h.2.2 c229).2.2.2.2.2.2.2.2.2.2.2.2.2.2.2.2.2.2.2.2.2.2.2.2.2.2.2.2.1 c).2.2.1 (wi_aload0 fLaw_law_617 (wi_iload3 fLaw_law_618 (wi_bipush fLaw_law_619 (wi_iadd fLaw_law_620 ((h.2.2 c229).2.2.2.2.2.2.2.2.2.2.2.2.2.2.2.2.2.2.2.2.2.2.2.2.2.2.2.2.1 c).2.2.2.1 (wi_iald8000 fLaw_law_621 ((h.2.2 c229).2.2.2.2.2.2.2.2.2.2.2.2.2.2.2.2.2.2.2.2.2.2.2.2.2.2.2.2.1 c).2.2.2.2.1 ((h.2.2 c229).2.2.2.2.2.2.2.2.2.2.2.2.2.2.2.2.2.2.2.2.2.2.2.2.2.2.2.2.1 c).2.2.2.2.2.1 (wi_aload0 fLaw_law_622 (wi_iload3 fLaw_law_623 (wi_bipush fLaw_law_624 (wi_iadd fLaw_law_625 ((h.2.2 c229).2.2.2.2.2.2.2.2.2.2.2.2.2.2.2.2.2.2.2.2.2.2.2.2.2.2.2.2.1 c).2.2.2.2.2.2.1 (wi_iald8000 fLaw_law_626 ((h.2.2 c229).2.2.2.2.2.2.2.2.2.2.2.2.2.2.2.2.2.2.2.2.2.2.2.2.2.2.2.2.1 c).2.2.2.2.2.2.2.1 ((h.2.2 c229).2.2.2.2.2.2.2.2.2.2.2.2.2.2.2.2.2.2.2.2.2.2.2.2.2.2.2.2.1 c).2.2.2.2.2.2.2.2.1 (wi_if_eq fLaw_law_627 (fun c153 => (wi_bipush fLaw_law_630 (wi_call4 fLaw_law_631 (Nat.le_of_ble_eq_true rfl) (k_Moon_see (((h.2.2 c229).2.2.2.2.2.2.2.2.2.2.2.2.2.2.2.2.2.2.2.2.2.2.2.2.2.2.2.2.1 c).2.2.2.2.2.2.2.2.2.1 c153).1 (fun y143 τ144 eτ144 => (wi_aload2 fLaw_law_632 (wi_aload0 fLaw_law_633 (wi_iload3 fLaw_law_634 (wi_bipush fLaw_law_635 (wi_iadd fLaw_law_636 ((h.2.2 c229).2.2.2.2.2.2.2.2.2.2.2.2.2.2.2.2.2.2.2.2.2.2.2.2.2.2.2.2.1 c).1 (wi_iald8000 fLaw_law_637 ((h.2.2 c229).2.2.2.2.2.2.2.2.2.2.2.2.2.2.2.2.2.2.2.2.2.2.2.2.2.2.2.2.1 c).2.1 ((h.2.2 c229).2.2.2.2.2.2.2.2.2.2.2.2.2.2.2.2.2.2.2.2.2.2.2.2.2.2.2.2.1 c).2.2.1 (wi_aload0 fLaw_law_638 (wi_iload3 fLaw_law_639 (wi_bipush fLaw_law_640 (wi_iadd fLaw_law_641 ((h.2.2 c229).2.2.2.2.2.2.2.2.2.2.2.2.2.2.2.2.2.2.2.2.2.2.2.2.2.2.2.2.1 c).2.2.2.1 (wi_iald8000 fLaw_law_642 ((h.2.2 c229).2.2.2.2.2.2.2.2.2.2.2.2.2.2.2.2.2.2.2.2.2.2.2.2.2.2.2.2.1 c).2.2.2.2.1 ((h.2.2 c229).2.2.2.2.2.2.2.2.2.2.2.2.2.2.2.2.2.2.2.2.2.2.2.2.2.2.2.2.1 c).2.2.2.2.2.1 (wi_aload0 fLaw_law_643 (wi_iload3 fLaw_law_644 (wi_bipush fLaw_law_645 (wi_iadd fLaw_law_646 ((h.2.2 c229).2.2.2.2.2.2.2.2.2.2.2.2.2.2.2.2.2.2.2.2.2.2.2.2.2.2.2.2.1 c).2.2.2.2.2.2.1 (wi_iald8000 fLaw_law_647 ((h.2.2 c229).2.2.2.2.2.2.2.2.2.2.2.2.2.2.2.2.2.2.2.2.2.2.2.2.2.2.2.2.1 c).2.2.2.2.2.2.2.1 ((h.2.2 c229).2.2.2.2.2.2.2.2.2.2.2.2.2.2.2.2.2.2.2.2.2.2.2.2.2.2.2.2.1 c).2.2.2.2.2.2.2.2.1 (wi_if_eq fLaw_law_648 (fun _ => (wi_bipush fLaw_law_651 (wi_call4 fLaw_law_652 (Nat.le_of_ble_eq_true rfl) (k_Model_see ((((h.2.2 c229).2.2.2.2.2.2.2.2.2.2.2.2.2.2.2.2.2.2.2.2.2.2.2.2.2.2.2.2.1 c).2.2.2.2.2.2.2.2.2.1 c153).2 y143 τ144 eτ144).1 (fun y145 τ146 eτ146 => (wi_ic_eq fLaw_law_653 (fun c147 => (wi_iinc3 fLaw_law_1001 trivial ((((((h.2.2 c229).2.2.2.2.2.2.2.2.2.2.2.2.2.2.2.2.2.2.2.2.2.2.2.2.2.2.2.2.1 c).2.2.2.2.2.2.2.2.2.1 c153).2 y143 τ144 eτ144).2 y145 τ146 eτ146).1 c147).1 (wi_goto fLaw_law_1002 ((((((h.2.2 c229).2.2.2.2.2.2.2.2.2.2.2.2.2.2.2.2.2.2.2.2.2.2.2.2.2.2.2.2.1 c).2.2.2.2.2.2.2.2.2.1 c153).2 y143 τ144 eτ144).2 y145 τ146 eτ146).1 c147).2))) (fun c147 => (wi_bipush fLaw_law_654 (wi_ret2 fLaw_law_655 (by decide) ((((((h.2.2 c229).2.2.2.2.2.2.2.2.2.2.2.2.2.2.2.2.2.2.2.2.2.2.2.2.2.2.2.2.1 c).2.2.2.2.2.2.2.2.2.1 c153).2 y143 τ144 eτ144).2 y145 τ146 eτ146).2 c147)))))))))) (fun e => absurd c153 (w_n_eq e)))))))))))))))))))))))) (fun c153 => (wi_bipush fLaw_law_628 (wi_goto fLaw_law_629 (wi_call4 fLaw_law_631 (Nat.le_of_ble_eq_true rfl) (k_Moon_see (((h.2.2 c229).2.2.2.2.2.2.2.2.2.2.2.2.2.2.2.2.2.2.2.2.2.2.2.2.2.2.2.2.1 c).2.2.2.2.2.2.2.2.2.2 c153).1 (fun y148 τ149 eτ149 => (wi_aload2 fLaw_law_632 (wi_aload0 fLaw_law_633 (wi_iload3 fLaw_law_634 (wi_bipush fLaw_law_635 (wi_iadd fLaw_law_636 ((h.2.2 c229).2.2.2.2.2.2.2.2.2.2.2.2.2.2.2.2.2.2.2.2.2.2.2.2.2.2.2.2.1 c).1 (wi_iald8000 fLaw_law_637 ((h.2.2 c229).2.2.2.2.2.2.2.2.2.2.2.2.2.2.2.2.2.2.2.2.2.2.2.2.2.2.2.2.1 c).2.1 ((h.2.2 c229).2.2.2.2.2.2.2.2.2.2.2.2.2.2.2.2.2.2.2.2.2.2.2.2.2.2.2.2.1 c).2.2.1 (wi_aload0 fLaw_law_638 (wi_iload3 fLaw_law_639 (wi_bipush fLaw_law_640 (wi_iadd fLaw_law_641 ((h.2.2 c229).2.2.2.2.2.2.2.2.2.2.2.2.2.2.2.2.2.2.2.2.2.2.2.2.2.2.2.2.1 c).2.2.2.1 (wi_iald8000 fLaw_law_642 ((h.2.2 c229).2.2.2.2.2.2.2.2.2.2.2.2.2.2.2.2.2.2.2.2.2.2.2.2.2.2.2.2.1 c).2.2.2.2.1 ((h.2.2 c229).2.2.2.2.2.2.2.2.2.2.2.2.2.2.2.2.2.2.2.2.2.2.2.2.2.2.2.2.1 c).2.2.2.2.2.1 (wi_aload0 fLaw_law_643 (wi_iload3 fLaw_law_644 (wi_bipush fLaw_law_645 (wi_iadd fLaw_law_646 ((h.2.2 c229).2.2.2.2.2.2.2.2.2.2.2.2.2.2.2.2.2.2.2.2.2.2.2.2.2.2.2.2.1 c).2.2.2.2.2.2.1 (wi_iald8000 fLaw_law_647 ((h.2.2 c229).2.2.2.2.2.2.2.2.2.2.2.2.2.2.2.2.2.2.2.2.2.2.2.2.2.2.2.2.1 c).2.2.2.2.2.2.2.1 ((h.2.2 c229).2.2.2.2.2.2.2.2.2.2.2.2.2.2.2.2.2.2.2.2.2.2.2.2.2.2.2.2.1 c).2.2.2.2.2.2.2.2.1 (wi_if_eq fLaw_law_648 (fun e => absurd c153 (w_m_eq e)) (fun _ => (wi_bipush fLaw_law_649 (wi_goto fLaw_law_650 (wi_call4 fLaw_law_652 (Nat.le_of_ble_eq_true rfl) (k_Model_see ((((h.2.2 c229).2.2.2.2.2.2.2.2.2.2.2.2.2.2.2.2.2.2.2.2.2.2.2.2.2.2.2.2.1 c).2.2.2.2.2.2.2.2.2.2 c153).2 y148 τ149 eτ149).1 (fun y150 τ151 eτ151 => (wi_ic_eq fLaw_law_653 (fun c152 => (wi_iinc3 fLaw_law_1001 trivial ((((((h.2.2 c229).2.2.2.2.2.2.2.2.2.2.2.2.2.2.2.2.2.2.2.2.2.2.2.2.2.2.2.2.1 c).2.2.2.2.2.2.2.2.2.2 c153).2 y148 τ149 eτ149).2 y150 τ151 eτ151).1 c152).1 (wi_goto fLaw_law_1002 ((((((h.2.2 c229).2.2.2.2.2.2.2.2.2.2.2.2.2.2.2.2.2.2.2.2.2.2.2.2.2.2.2.2.1 c).2.2.2.2.2.2.2.2.2.2 c153).2 y148 τ149 eτ149).2 y150 τ151 eτ151).1 c152).2))) (fun c152 => (wi_bipush fLaw_law_654 (wi_ret2 fLaw_law_655 (by decide) ((((((h.2.2 c229).2.2.2.2.2.2.2.2.2.2.2.2.2.2.2.2.2.2.2.2.2.2.2.2.2.2.2.2.1 c).2.2.2.2.2.2.2.2.2.2 c153).2 y148 τ149 eτ149).2 y150 τ151 eτ151).2 c152)))))))))))))))))))))))))))))))))))))))))))))))))))) (fun c => (wi_aload1 fLaw_law_656 (wi_aload0 fLaw_law_657 (wi_iload3 fLaw_law_658 (wi_bipush fLaw_law_659 (wi_iadd fLaw_law_660 ((h.2.2 c229).2.2.2.2.2.2.2.2.2.2.2.2.2.2.2.2.2.2.2.2.2.2.2.2.2.2.2.2.2.1 c).1 (wi_iald8000 fLaw_law_661 ((h.2.2 c229).2.2.2.2.2.2.2.2.2.2.2.2.2.2.2.2.2.2.2.2.2.2.2.2.2.2.2.2.2.1 c).2.1 ((h.2.2 c229).2.2.2.2.2.2.2.2.2.2.2.2.2.2.2.2.2.2.2.2.2.2.2.2.2.2.2.2.2.1 c).2.2.1 (wi_call2 fLaw_law_662 (Nat.le_of_ble_eq_true rfl) (k_Moon_forget ((h.2.2 c229).2.2.2.2.2.2.2.2.2.2.2.2.2.2.2.2.2.2.2.2.2.2.2.2.2.2.2.2.2.1 c).2.2.2.1 (fun y154 τ155 eτ155 => (wi_aload2 fLaw_law_663 (wi_aload0 fLaw_law_664 (wi_iload3 fLaw_law_665 (wi_bipush fLaw_law_666 (wi_iadd fLaw_law_667 ((h.2.2 c229).2.2.2.2.2.2.2.2.2.2.2.2.2.2.2.2.2.2.2.2.2.2.2.2.2.2.2.2.2.1 c).1 (wi_iald8000 fLaw_law_668 ((h.2.2 c229).2.2.2.2.2.2.2.2.2.2.2.2.2.2.2.2.2.2.2.2.2.2.2.2.2.2.2.2.2.1 c).2.1 ((h.2.2 c229).2.2.2.2.2.2.2.2.2.2.2.2.2.2.2.2.2.2.2.2.2.2.2.2.2.2.2.2.2.1 c).2.2.1 (wi_call2 fLaw_law_669 (Nat.le_of_ble_eq_true rfl) (k_Model_forget (((h.2.2 c229).2.2.2.2.2.2.2.2.2.2.2.2.2.2.2.2.2.2.2.2.2.2.2.2.2.2.2.2.2.1 c).2.2.2.2 y154 τ155 eτ155).1 (fun y156 τ157 eτ157 => (wi_ic_eq fLaw_law_670 (fun c158 => (wi_iinc3 fLaw_law_1001 trivial (((((h.2.2 c229).2.2.2.2.2.2.2.2.2.2.2.2.2.2.2.2.2.2.2.2.2.2.2.2.2.2.2.2.2.1 c).2.2.2.2 y154 τ155 eτ155).2 y156 τ157 eτ157).1 c158).1 (wi_goto fLaw_law_1002 (((((h.2.2 c229).2.2.2.2.2.2.2.2.2.2.2.2.2.2.2.2.2.2.2.2.2.2.2.2.2.2.2.2.2.1 c).2.2.2.2 y154 τ155 eτ155).2 y156 τ157 eτ157).1 c158).2))) (fun c158 => (wi_bipush fLaw_law_671 (wi_ret2 fLaw_law_672 (by decide) (((((h.2.2 c229).2.2.2.2.2.2.2.2.2.2.2.2.2.2.2.2.2.2.2.2.2.2.2.2.2.2.2.2.2.1 c).2.2.2.2 y154 τ155 eτ155).2 y156 τ157 eτ157).2 c158)))))))))))))))))))))))) (fun c => (wi_aload1 fLaw_law_673 (wi_aload0 fLaw_law_674 (wi_iload3 fLaw_law_675 (wi_bipush fLaw_law_676 (wi_iadd fLaw_law_677 ((h.2.2 c229).2.2.2.2.2.2.2.2.2.2.2.2.2.2.2.2.2.2.2.2.2.2.2.2.2.2.2.2.2.2.1 c).1 (wi_iald8000 fLaw_law_678 ((h.2.2 c229).2.2.2.2.2.2.2.2.2.2.2.2.2.2.2.2.2.2.2.2.2.2.2.2.2.2.2.2.2.2.1 c).2.1 ((h.2.2 c229).2.2.2.2.2.2.2.2.2.2.2.2.2.2.2.2.2.2.2.2.2.2.2.2.2.2.2.2.2.2.1 c).2.2.1 (wi_call2 fLaw_law_679 (Nat.le_of_ble_eq_true rfl) (k_Moon_hare ((h.2.2 c229).2.2.2.2.2.2.2.2.2.2.2.2.2.2.2.2.2.2.2.2.2.2.2.2.2.2.2.2.2.2.1 c).2.2.2.1 (fun y159 τ160 eτ160 => (wi_aload2 fLaw_law_680 (wi_aload0 fLaw_law_681 (wi_iload3 fLaw_law_682 (wi_bipush fLaw_law_683 (wi_iadd fLaw_law_684 ((h.2.2 c229).2.2.2.2.2.2.2.2.2.2.2.2.2.2.2.2.2.2.2.2.2.2.2.2.2.2.2.2.2.2.1 c).1 (wi_iald8000 fLaw_law_685 ((h.2.2 c229).2.2.2.2.2.2.2.2.2.2.2.2.2.2.2.2.2.2.2.2.2.2.2.2.2.2.2.2.2.2.1 c).2.1 ((h.2.2 c229).2.2.2.2.2.2.2.2.2.2.2.2.2.2.2.2.2.2.2.2.2.2.2.2.2.2.2.2.2.2.1 c).2.2.1 (wi_call2 fLaw_law_686 (Nat.le_of_ble_eq_true rfl) (k_Model_hare (((h.2.2 c229).2.2.2.2.2.2.2.2.2.2.2.2.2.2.2.2.2.2.2.2.2.2.2.2.2.2.2.2.2.2.1 c).2.2.2.2 y159 τ160 eτ160).1 (fun y161 τ162 eτ162 => (wi_ic_eq fLaw_law_687 (fun c163 => (wi_iinc3 fLaw_law_1001 trivial (((((h.2.2 c229).2.2.2.2.2.2.2.2.2.2.2.2.2.2.2.2.2.2.2.2.2.2.2.2.2.2.2.2.2.2.1 c).2.2.2.2 y159 τ160 eτ160).2 y161 τ162 eτ162).1 c163).1 (wi_goto fLaw_law_1002 (((((h.2.2 c229).2.2.2.2.2.2.2.2.2.2.2.2.2.2.2.2.2.2.2.2.2.2.2.2.2.2.2.2.2.2.1 c).2.2.2.2 y159 τ160 eτ160).2 y161 τ162 eτ162).1 c163).2))) (fun c163 => (wi_bipush fLaw_law_688 (wi_ret2 fLaw_law_689 (by decide) (((((h.2.2 c229).2.2.2.2.2.2.2.2.2.2.2.2.2.2.2.2.2.2.2.2.2.2.2.2.2.2.2.2.2.2.1 c).2.2.2.2 y159 τ160 eτ160).2 y161 τ162 eτ162).2 c163)))))))))))))))))))))))) (fun c => (wi_aload1 fLaw_law_690 (wi_call1 fLaw_law_691 (Nat.le_of_ble_eq_true rfl) (k_Moon_runs ((h.2.2 c229).2.2.2.2.2.2.2.2.2.2.2.2.2.2.2.2.2.2.2.2.2.2.2.2.2.2.2.2.2.2.2.1 c).1 (fun y164 τ165 eτ165 => (wi_aload2 fLaw_law_692 (wi_call1 fLaw_law_693 (Nat.le_of_ble_eq_true rfl) (k_Model_runs (((h.2.2 c229).2.2.2.2.2.2.2.2.2.2.2.2.2.2.2.2.2.2.2.2.2.2.2.2.2.2.2.2.2.2.2.1 c).2 y164 τ165 eτ165).1 (fun y166 τ167 eτ167 => (wi_ic_eq fLaw_law_694 (fun c168 => (wi_iinc3 fLaw_law_1001 trivial (((((h.2.2 c229).2.2.2.2.2.2.2.2.2.2.2.2.2.2.2.2.2.2.2.2.2.2.2.2.2.2.2.2.2.2.2.1 c).2 y164 τ165 eτ165).2 y166 τ167 eτ167).1 c168).1 (wi_goto fLaw_law_1002 (((((h.2.2 c229).2.2.2.2.2.2.2.2.2.2.2.2.2.2.2.2.2.2.2.2.2.2.2.2.2.2.2.2.2.2.2.1 c).2 y164 τ165 eτ165).2 y166 τ167 eτ167).1 c168).2))) (fun c168 => (wi_bipush fLaw_law_695 (wi_ret2 fLaw_law_696 (by decide) (((((h.2.2 c229).2.2.2.2.2.2.2.2.2.2.2.2.2.2.2.2.2.2.2.2.2.2.2.2.2.2.2.2.2.2.2.1 c).2 y164 τ165 eτ165).2 y166 τ167 eτ167).2 c168)))))))))))))) (fun c => (wi_aload1 fLaw_law_697 (wi_aload0 fLaw_law_698 (wi_iload3 fLaw_law_699 (wi_bipush fLaw_law_700 (wi_iadd fLaw_law_701 ((h.2.2 c229).2.2.2.2.2.2.2.2.2.2.2.2.2.2.2.2.2.2.2.2.2.2.2.2.2.2.2.2.2.2.2.2.1 c).1 (wi_iald8000 fLaw_law_702 ((h.2.2 c229).2.2.2.2.2.2.2.2.2.2.2.2.2.2.2.2.2.2.2.2.2.2.2.2.2.2.2.2.2.2.2.2.1 c).2.1 ((h.2.2 c229).2.2.2.2.2.2.2.2.2.2.2.2.2.2.2.2.2.2.2.2.2.2.2.2.2.2.2.2.2.2.2.2.1 c).2.2.1 (wi_aload0 fLaw_law_703 (wi_iload3 fLaw_law_704 (wi_bipush fLaw_law_705 (wi_iadd fLaw_law_706 ((h.2.2 c229).2.2.2.2.2.2.2.2.2.2.2.2.2.2.2.2.2.2.2.2.2.2.2.2.2.2.2.2.2.2.2.2.1 c).2.2.2.1 (wi_iald8000 fLaw_law_707 ((h.2.2 c229).2.2.2.2.2.2.2.2.2.2.2.2.2.2.2.2.2.2.2.2.2.2.2.2.2.2.2.2.2.2.2.2.1 c).2.2.2.2.1 ((h.2.2 c229).2.2.2.2.2.2.2.2.2.2.2.2.2.2.2.2.2.2.2.2.2.2.2.2.2.2.2.2.2.2.2.2.1 c).2.2.2.2.2.1 (wi_call3 fLaw_law_708 (Nat.le_of_ble_eq_true rfl) (k_Moon_look ((h.2.2 c229).2.2.2.2.2.2.2.2.2.2.2.2.2.2.2.2.2.2.2.2.2.2.2.2.2.2.2.2.2.2.2.2.1 c).2.2.2.2.2.2.1 (fun y169 τ170 eτ170 => (wi_aload2 fLaw_law_709 (wi_aload0 fLaw_law_710 (wi_iload3 fLaw_law_711 (wi_bipush fLaw_law_712 (wi_iadd fLaw_law_713 ((h.2.2 c229).2.2.2.2.2.2.2.2.2.2.2.2.2.2.2.2.2.2.2.2.2.2.2.2.2.2.2.2.2.2.2.2.1 c).1 (wi_iald8000 fLaw_law_714 ((h.2.2 c229).2.2.2.2.2.2.2.2.2.2.2.2.2.2.2.2.2.2.2.2.2.2.2.2.2.2.2.2.2.2.2.2.1 c).2.1 ((h.2.2 c229).2.2.2.2.2.2.2.2.2.2.2.2.2.2.2.2.2.2.2.2.2.2.2.2.2.2.2.2.2.2.2.2.1 c).2.2.1 (wi_aload0 fLaw_law_715 (wi_iload3 fLaw_law_716 (wi_bipush fLaw_law_717 (wi_iadd fLaw_law_718 ((h.2.2 c229).2.2.2.2.2.2.2.2.2.2.2.2.2.2.2.2.2.2.2.2.2.2.2.2.2.2.2.2.2.2.2.2.1 c).2.2.2.1 (wi_iald8000 fLaw_law_719 ((h.2.2 c229).2.2.2.2.2.2.2.2.2.2.2.2.2.2.2.2.2.2.2.2.2.2.2.2.2.2.2.2.2.2.2.2.1 c).2.2.2.2.1 ((h.2.2 c229).2.2.2.2.2.2.2.2.2.2.2.2.2.2.2.2.2.2.2.2.2.2.2.2.2.2.2.2.2.2.2.2.1 c).2.2.2.2.2.1 (wi_call3 fLaw_law_720 (Nat.le_of_ble_eq_true rfl) (k_Model_look (((h.2.2 c229).2.2.2.2.2.2.2.2.2.2.2.2.2.2.2.2.2.2.2.2.2.2.2.2.2.2.2.2.2.2.2.2.1 c).2.2.2.2.2.2.2 y169 τ170 eτ170).1 (fun y171 τ172 eτ172 => (wi_ic_eq fLaw_law_721 (fun c173 => (wi_iinc3 fLaw_law_1001 trivial (((((h.2.2 c229).2.2.2.2.2.2.2.2.2.2.2.2.2.2.2.2.2.2.2.2.2.2.2.2.2.2.2.2.2.2.2.2.1 c).2.2.2.2.2.2.2 y169 τ170 eτ170).2 y171 τ172 eτ172).1 c173).1 (wi_goto fLaw_law_1002 (((((h.2.2 c229).2.2.2.2.2.2.2.2.2.2.2.2.2.2.2.2.2.2.2.2.2.2.2.2.2.2.2.2.2.2.2.2.1 c).2.2.2.2.2.2.2 y169 τ170 eτ170).2 y171 τ172 eτ172).1 c173).2))) (fun c173 => (wi_bipush fLaw_law_722 (wi_ret2 fLaw_law_723 (by decide) (((((h.2.2 c229).2.2.2.2.2.2.2.2.2.2.2.2.2.2.2.2.2.2.2.2.2.2.2.2.2.2.2.2.2.2.2.2.1 c).2.2.2.2.2.2.2 y169 τ170 eτ170).2 y171 τ172 eτ172).2 c173)))))))))))))))))))))))))))))))))) (fun c => (wi_aload1 fLaw_law_724 (wi_aload0 fLaw_law_725 (wi_iload3 fLaw_law_726 (wi_bipush fLaw_law_727 (wi_iadd fLaw_law_728 ((h.2.2 c229).2.2.2.2.2.2.2.2.2.2.2.2.2.2.2.2.2.2.2.2.2.2.2.2.2.2.2.2.2.2.2.2.2.1 c).1 (wi_iald8000 fLaw_law_729 ((h.2.2 c229).2.2.2.2.2.2.2.2.2.2.2.2.2.2.2.2.2.2.2.2.2.2.2.2.2.2.2.2.2.2.2.2.2.1 c).2.1 ((h.2.2 c229).2.2.2.2.2.2.2.2.2.2.2.2.2.2.2.2.2.2.2.2.2.2.2.2.2.2.2.2.2.2.2.2.2.1 c).2.2.1 (wi_aload0 fLaw_law_730 (wi_iload3 fLaw_law_731 (wi_bipush fLaw_law_732 (wi_iadd fLaw_law_733 ((h.2.2 c229).2.2.2.2.2.2.2.2.2.2.2.2.2.2.2.2.2.2.2.2.2.2.2.2.2.2.2.2.2.2.2.2.2.1 c).2.2.2.1 (wi_iald8000 fLaw_law_734 ((h.2.2 c229).2.2.2.2.2.2.2.2.2.2.2.2.2.2.2.2.2.2.2.2.2.2.2.2.2.2.2.2.2.2.2.2.2.1 c).2.2.2.2.1 ((h.2.2 c229).2.2.2.2.2.2.2.2.2.2.2.2.2.2.2.2.2.2.2.2.2.2.2.2.2.2.2.2.2.2.2.2.2.1 c).2.2.2.2.2.1 (wi_call3 fLaw_law_735 (Nat.le_of_ble_eq_true rfl) (k_Moon_pay ((h.2.2 c229).2.2.2.2.2.2.2.2.2.2.2.2.2.2.2.2.2.2.2.2.2.2.2.2.2.2.2.2.2.2.2.2.2.1 c).2.2.2.2.2.2.1 (fun y174 τ175 eτ175 => (wi_aload2 fLaw_law_736 (wi_aload0 fLaw_law_737 (wi_iload3 fLaw_law_738 (wi_bipush fLaw_law_739 (wi_iadd fLaw_law_740 ((h.2.2 c229).2.2.2.2.2.2.2.2.2.2.2.2.2.2.2.2.2.2.2.2.2.2.2.2.2.2.2.2.2.2.2.2.2.1 c).1 (wi_iald8000 fLaw_law_741 ((h.2.2 c229).2.2.2.2.2.2.2.2.2.2.2.2.2.2.2.2.2.2.2.2.2.2.2.2.2.2.2.2.2.2.2.2.2.1 c).2.1 ((h.2.2 c229).2.2.2.2.2.2.2.2.2.2.2.2.2.2.2.2.2.2.2.2.2.2.2.2.2.2.2.2.2.2.2.2.2.1 c).2.2.1 (wi_aload0 fLaw_law_742 (wi_iload3 fLaw_law_743 (wi_bipush fLaw_law_744 (wi_iadd fLaw_law_745 ((h.2.2 c229).2.2.2.2.2.2.2.2.2.2.2.2.2.2.2.2.2.2.2.2.2.2.2.2.2.2.2.2.2.2.2.2.2.1 c).2.2.2.1 (wi_iald8000 fLaw_law_746 ((h.2.2 c229).2.2.2.2.2.2.2.2.2.2.2.2.2.2.2.2.2.2.2.2.2.2.2.2.2.2.2.2.2.2.2.2.2.1 c).2.2.2.2.1 ((h.2.2 c229).2.2.2.2.2.2.2.2.2.2.2.2.2.2.2.2.2.2.2.2.2.2.2.2.2.2.2.2.2.2.2.2.2.1 c).2.2.2.2.2.1 (wi_call3 fLaw_law_747 (Nat.le_of_ble_eq_true rfl) (k_Model_pay (((h.2.2 c229).2.2.2.2.2.2.2.2.2.2.2.2.2.2.2.2.2.2.2.2.2.2.2.2.2.2.2.2.2.2.2.2.2.1 c).2.2.2.2.2.2.2 y174 τ175 eτ175).1 (fun y176 τ177 eτ177 => (wi_ic_eq fLaw_law_748 (fun c178 => (wi_iinc3 fLaw_law_1001 trivial (((((h.2.2 c229).2.2.2.2.2.2.2.2.2.2.2.2.2.2.2.2.2.2.2.2.2.2.2.2.2.2.2.2.2.2.2.2.2.1 c).2.2.2.2.2.2.2 y174 τ175 eτ175).2 y176 τ177 eτ177).1 c178).1 (wi_goto fLaw_law_1002 (((((h.2.2 c229).2.2.2.2.2.2.2.2.2.2.2.2.2.2.2.2.2.2.2.2.2.2.2.2.2.2.2.2.2.2.2.2.2.1 c).2.2.2.2.2.2.2 y174 τ175 eτ175).2 y176 τ177 eτ177).1 c178).2))) (fun c178 => (wi_bipush fLaw_law_749 (wi_ret2 fLaw_law_750 (by decide) (((((h.2.2 c229).2.2.2.2.2.2.2.2.2.2.2.2.2.2.2.2.2.2.2.2.2.2.2.2.2.2.2.2.2.2.2.2.2.1 c).2.2.2.2.2.2.2 y174 τ175 eτ175).2 y176 τ177 eτ177).2 c178)))))))))))))))))))))))))))))))))) (fun c => (wi_aload1 fLaw_law_751 (wi_aload0 fLaw_law_752 (wi_iload3 fLaw_law_753 (wi_bipush fLaw_law_754 (wi_iadd fLaw_law_755 ((h.2.2 c229).2.2.2.2.2.2.2.2.2.2.2.2.2.2.2.2.2.2.2.2.2.2.2.2.2.2.2.2.2.2.2.2.2.2.1 c).1 (wi_iald8000 fLaw_law_756 ((h.2.2 c229).2.2.2.2.2.2.2.2.2.2.2.2.2.2.2.2.2.2.2.2.2.2.2.2.2.2.2.2.2.2.2.2.2.2.1 c).2.1 ((h.2.2 c229).2.2.2.2.2.2.2.2.2.2.2.2.2.2.2.2.2.2.2.2.2.2.2.2.2.2.2.2.2.2.2.2.2.2.1 c).2.2.1 (wi_call2 fLaw_law_757 (Nat.le_of_ble_eq_true rfl) (k_Moon_owe ((h.2.2 c229).2.2.2.2.2.2.2.2.2.2.2.2.2.2.2.2.2.2.2.2.2.2.2.2.2.2.2.2.2.2.2.2.2.2.1 c).2.2.2.1 (fun y179 τ180 eτ180 => (wi_aload2 fLaw_law_758 (wi_aload0 fLaw_law_759 (wi_iload3 fLaw_law_760 (wi_bipush fLaw_law_761 (wi_iadd fLaw_law_762 ((h.2.2 c229).2.2.2.2.2.2.2.2.2.2.2.2.2.2.2.2.2.2.2.2.2.2.2.2.2.2.2.2.2.2.2.2.2.2.1 c).1 (wi_iald8000 fLaw_law_763 ((h.2.2 c229).2.2.2.2.2.2.2.2.2.2.2.2.2.2.2.2.2.2.2.2.2.2.2.2.2.2.2.2.2.2.2.2.2.2.1 c).2.1 ((h.2.2 c229).2.2.2.2.2.2.2.2.2.2.2.2.2.2.2.2.2.2.2.2.2.2.2.2.2.2.2.2.2.2.2.2.2.2.1 c).2.2.1 (wi_call2 fLaw_law_764 (Nat.le_of_ble_eq_true rfl) (k_Model_owe (((h.2.2 c229).2.2.2.2.2.2.2.2.2.2.2.2.2.2.2.2.2.2.2.2.2.2.2.2.2.2.2.2.2.2.2.2.2.2.1 c).2.2.2.2 y179 τ180 eτ180).1 (fun y181 τ182 eτ182 => (wi_ic_eq fLaw_law_765 (fun c183 => (wi_iinc3 fLaw_law_1001 trivial (((((h.2.2 c229).2.2.2.2.2.2.2.2.2.2.2.2.2.2.2.2.2.2.2.2.2.2.2.2.2.2.2.2.2.2.2.2.2.2.1 c).2.2.2.2 y179 τ180 eτ180).2 y181 τ182 eτ182).1 c183).1 (wi_goto fLaw_law_1002 (((((h.2.2 c229).2.2.2.2.2.2.2.2.2.2.2.2.2.2.2.2.2.2.2.2.2.2.2.2.2.2.2.2.2.2.2.2.2.2.1 c).2.2.2.2 y179 τ180 eτ180).2 y181 τ182 eτ182).1 c183).2))) (fun c183 => (wi_bipush fLaw_law_766 (wi_ret2 fLaw_law_767 (by decide) (((((h.2.2 c229).2.2.2.2.2.2.2.2.2.2.2.2.2.2.2.2.2.2.2.2.2.2.2.2.2.2.2.2.2.2.2.2.2.2.1 c).2.2.2.2 y179 τ180 eτ180).2 y181 τ182 eτ182).2 c183)))))))))))))))))))))))) (fun c => (wi_aload1 fLaw_law_768 (wi_aload0 fLaw_law_769 (wi_iload3 fLaw_law_770 (wi_bipush fLaw_law_771 (wi_iadd fLaw_law_772 ((h.2.2 c229).2.2.2.2.2.2.2.2.2.2.2.2.2.2.2.2.2.2.2.2.2.2.2.2.2.2.2.2.2.2.2.2.2.2.2.1 c).1 (wi_iald8000 fLaw_law_773 ((h.2.2 c229).2.2.2.2.2.2.2.2.2.2.2.2.2.2.2.2.2.2.2.2.2.2.2.2.2.2.2.2.2.2.2.2.2.2.2.1 c).2.1 ((h.2.2 c229).2.2.2.2.2.2.2.2.2.2.2.2.2.2.2.2.2.2.2.2.2.2.2.2.2.2.2.2.2.2.2.2.2.2.2.1 c).2.2.1 (wi_call2 fLaw_law_774 (Nat.le_of_ble_eq_true rfl) (k_Moon_fits ((h.2.2 c229).2.2.2.2.2.2.2.2.2.2.2.2.2.2.2.2.2.2.2.2.2.2.2.2.2.2.2.2.2.2.2.2.2.2.2.1 c).2.2.2.1 (fun y184 τ185 eτ185 => (wi_aload2 fLaw_law_775 (wi_aload0 fLaw_law_776 (wi_iload3 fLaw_law_777 (wi_bipush fLaw_law_778 (wi_iadd fLaw_law_779 ((h.2.2 c229).2.2.2.2.2.2.2.2.2.2.2.2.2.2.2.2.2.2.2.2.2.2.2.2.2.2.2.2.2.2.2.2.2.2.2.1 c).1 (wi_iald8000 fLaw_law_780 ((h.2.2 c229).2.2.2.2.2.2.2.2.2.2.2.2.2.2.2.2.2.2.2.2.2.2.2.2.2.2.2.2.2.2.2.2.2.2.2.1 c).2.1 ((h.2.2 c229).2.2.2.2.2.2.2.2.2.2.2.2.2.2.2.2.2.2.2.2.2.2.2.2.2.2.2.2.2.2.2.2.2.2.2.1 c).2.2.1 (wi_call2 fLaw_law_781 (Nat.le_of_ble_eq_true rfl) (k_Model_fits (((h.2.2 c229).2.2.2.2.2.2.2.2.2.2.2.2.2.2.2.2.2.2.2.2.2.2.2.2.2.2.2.2.2.2.2.2.2.2.2.1 c).2.2.2.2 y184 τ185 eτ185).1 (fun y186 τ187 eτ187 => (wi_ic_eq fLaw_law_782 (fun c188 => (wi_iinc3 fLaw_law_1001 trivial (((((h.2.2 c229).2.2.2.2.2.2.2.2.2.2.2.2.2.2.2.2.2.2.2.2.2.2.2.2.2.2.2.2.2.2.2.2.2.2.2.1 c).2.2.2.2 y184 τ185 eτ185).2 y186 τ187 eτ187).1 c188).1 (wi_goto fLaw_law_1002 (((((h.2.2 c229).2.2.2.2.2.2.2.2.2.2.2.2.2.2.2.2.2.2.2.2.2.2.2.2.2.2.2.2.2.2.2.2.2.2.2.1 c).2.2.2.2 y184 τ185 eτ185).2 y186 τ187 eτ187).1 c188).2))) (fun c188 => (wi_bipush fLaw_law_783 (wi_ret2 fLaw_law_784 (by decide) (((((h.2.2 c229).2.2.2.2.2.2.2.2.2.2.2.2.2.2.2.2.2.2.2.2.2.2.2.2.2.2.2.2.2.2.2.2.2.2.2.1 c).2.2.2.2 y184 τ185 eτ185).2 y186 τ187 eτ187).2 c188)))))))))))))))))))))))) (fun c => (wi_aload1 fLaw_law_785 (wi_aload0 fLaw_law_786 (wi_iload3 fLaw_law_787 (wi_bipush fLaw_law_788 (wi_iadd fLaw_law_789 ((h.2.2 c229).2.2.2.2.2.2.2.2.2.2.2.2.2.2.2.2.2.2.2.2.2.2.2.2.2.2.2.2.2.2.2.2.2.2.2.2.1 c).1 (wi_iald8000 fLaw_law_790 ((h.2.2 c229).2.2.2.2.2.2.2.2.2.2.2.2.2.2.2.2.2.2.2.2.2.2.2.2.2.2.2.2.2.2.2.2.2.2.2.2.1 c).2.1 ((h.2.2 c229).2.2.2.2.2.2.2.2.2.2.2.2.2.2.2.2.2.2.2.2.2.2.2.2.2.2.2.2.2.2.2.2.2.2.2.2.1 c).2.2.1 (wi_aload0 fLaw_law_791 (wi_iload3 fLaw_law_792 (wi_bipush fLaw_law_793 (wi_iadd fLaw_law_794 ((h.2.2 c229).2.2.2.2.2.2.2.2.2.2.2.2.2.2.2.2.2.2.2.2.2.2.2.2.2.2.2.2.2.2.2.2.2.2.2.2.1 c).2.2.2.1 (wi_iald8000 fLaw_law_795 ((h.2.2 c229).2.2.2.2.2.2.2.2.2.2.2.2.2.2.2.2.2.2.2.2.2.2.2.2.2.2.2.2.2.2.2.2.2.2.2.2.1 c).2.2.2.2.1 ((h.2.2 c229).2.2.2.2.2.2.2.2.2.2.2.2.2.2.2.2.2.2.2.2.2.2.2.2.2.2.2.2.2.2.2.2.2.2.2.2.1 c).2.2.2.2.2.1 (wi_aload0 fLaw_law_796 (wi_iload3 fLaw_law_797 (wi_bipush fLaw_law_798 (wi_iadd fLaw_law_799 ((h.2.2 c229).2.2.2.2.2.2.2.2.2.2.2.2.2.2.2.2.2.2.2.2.2.2.2.2.2.2.2.2.2.2.2.2.2.2.2.2.1 c).2.2.2.2.2.2.1 (wi_iald8000 fLaw_law_800 ((h.2.2 c229).2.2.2.2.2.2.2.2.2.2.2.2.2.2.2.2.2.2.2.2.2.2.2.2.2.2.2.2.2.2.2.2.2.2.2.2.1 c).2.2.2.2.2.2.2.1 ((h.2.2 c229).2.2.2.2.2.2.2.2.2.2.2.2.2.2.2.2.2.2.2.2.2.2.2.2.2.2.2.2.2.2.2.2.2.2.2.2.1 c).2.2.2.2.2.2.2.2.1 (wi_call4 fLaw_law_801 (Nat.le_of_ble_eq_true rfl) (k_Moon_drift ((h.2.2 c229).2.2.2.2.2.2.2.2.2.2.2.2.2.2.2.2.2.2.2.2.2.2.2.2.2.2.2.2.2.2.2.2.2.2.2.2.1 c).2.2.2.2.2.2.2.2.2.1 (fun y189 τ190 eτ190 => (wi_aload2 fLaw_law_802 (wi_aload0 fLaw_law_803 (wi_iload3 fLaw_law_804 (wi_bipush fLaw_law_805 (wi_iadd fLaw_law_806 ((h.2.2 c229).2.2.2.2.2.2.2.2.2.2.2.2.2.2.2.2.2.2.2.2.2.2.2.2.2.2.2.2.2.2.2.2.2.2.2.2.1 c).1 (wi_iald8000 fLaw_law_807 ((h.2.2 c229).2.2.2.2.2.2.2.2.2.2.2.2.2.2.2.2.2.2.2.2.2.2.2.2.2.2.2.2.2.2.2.2.2.2.2.2.1 c).2.1 ((h.2.2 c229).2.2.2.2.2.2.2.2.2.2.2.2.2.2.2.2.2.2.2.2.2.2.2.2.2.2.2.2.2.2.2.2.2.2.2.2.1 c).2.2.1 (wi_aload0 fLaw_law_808 (wi_iload3 fLaw_law_809 (wi_bipush fLaw_law_810 (wi_iadd fLaw_law_811 ((h.2.2 c229).2.2.2.2.2.2.2.2.2.2.2.2.2.2.2.2.2.2.2.2.2.2.2.2.2.2.2.2.2.2.2.2.2.2.2.2.1 c).2.2.2.1 (wi_iald8000 fLaw_law_812 ((h.2.2 c229).2.2.2.2.2.2.2.2.2.2.2.2.2.2.2.2.2.2.2.2.2.2.2.2.2.2.2.2.2.2.2.2.2.2.2.2.1 c).2.2.2.2.1 ((h.2.2 c229).2.2.2.2.2.2.2.2.2.2.2.2.2.2.2.2.2.2.2.2.2.2.2.2.2.2.2.2.2.2.2.2.2.2.2.2.1 c).2.2.2.2.2.1 (wi_aload0 fLaw_law_813 (wi_iload3 fLaw_law_814 (wi_bipush fLaw_law_815 (wi_iadd fLaw_law_816 ((h.2.2 c229).2.2.2.2.2.2.2.2.2.2.2.2.2.2.2.2.2.2.2.2.2.2.2.2.2.2.2.2.2.2.2.2.2.2.2.2.1 c).2.2.2.2.2.2.1 (wi_iald8000 fLaw_law_817 ((h.2.2 c229).2.2.2.2.2.2.2.2.2.2.2.2.2.2.2.2.2.2.2.2.2.2.2.2.2.2.2.2.2.2.2.2.2.2.2.2.1 c).2.2.2.2.2.2.2.1 ((h.2.2 c229).2.2.2.2.2.2.2.2.2.2.2.2.2.2.2.2.2.2.2.2.2.2.2.2.2.2.2.2.2.2.2.2.2.2.2.2.1 c).2.2.2.2.2.2.2.2.1 (wi_call4 fLaw_law_818 (Nat.le_of_ble_eq_true rfl) (k_Model_drift (((h.2.2 c229).2.2.2.2.2.2.2.2.2.2.2.2.2.2.2.2.2.2.2.2.2.2.2.2.2.2.2.2.2.2.2.2.2.2.2.2.1 c).2.2.2.2.2.2.2.2.2.2 y189 τ190 eτ190).1 (fun y191 τ192 eτ192 => (wi_ic_eq fLaw_law_819 (fun c193 => (wi_iinc3 fLaw_law_1001 trivial (((((h.2.2 c229).2.2.2.2.2.2.2.2.2.2.2.2.2.2.2.2.2.2.2.2.2.2.2.2.2.2.2.2.2.2.2.2.2.2.2.2.1 c).2.2.2.2.2.2.2.2.2.2 y189 τ190 eτ190).2 y191 τ192 eτ192).1 c193).1 (wi_goto fLaw_law_1002 (((((h.2.2 c229).2.2.2.2.2.2.2.2.2.2.2.2.2.2.2.2.2.2.2.2.2.2.2.2.2.2.2.2.2.2.2.2.2.2.2.2.1 c).2.2.2.2.2.2.2.2.2.2 y189 τ190 eτ190).2 y191 τ192 eτ192).1 c193).2))) (fun c193 => (wi_bipush fLaw_law_820 (wi_ret2 fLaw_law_821 (by decide) (((((h.2.2 c229).2.2.2.2.2.2.2.2.2.2.2.2.2.2.2.2.2.2.2.2.2.2.2.2.2.2.2.2.2.2.2.2.2.2.2.2.1 c).2.2.2.2.2.2.2.2.2.2 y189 τ190 eτ190).2 y191 τ192 eτ192).2 c193)))))))))))))))))))))))))))))))))))))))))))) (fun c => (wi_aload1 fLaw_law_822 (wi_aload0 fLaw_law_823 (wi_iload3 fLaw_law_824 (wi_bipush fLaw_law_825 (wi_iadd fLaw_law_826 ((h.2.2 c229).2.2.2.2.2.2.2.2.2.2.2.2.2.2.2.2.2.2.2.2.2.2.2.2.2.2.2.2.2.2.2.2.2.2.2.2.2.1 c).1 (wi_iald8000 fLaw_law_827 ((h.2.2 c229).2.2.2.2.2.2.2.2.2.2.2.2.2.2.2.2.2.2.2.2.2.2.2.2.2.2.2.2.2.2.2.2.2.2.2.2.2.1 c).2.1 ((h.2.2 c229).2.2.2.2.2.2.2.2.2.2.2.2.2.2.2.2.2.2.2.2.2.2.2.2.2.2.2.2.2.2.2.2.2.2.2.2.2.1 c).2.2.1 (wi_call2 fLaw_law_828 (Nat.le_of_ble_eq_true rfl) (k_Moon_keep ((h.2.2 c229).2.2.2.2.2.2.2.2.2.2.2.2.2.2.2.2.2.2.2.2.2.2.2.2.2.2.2.2.2.2.2.2.2.2.2.2.2.1 c).2.2.2.1 (fun y194 τ195 eτ195 => (wi_aload2 fLaw_law_829 (wi_aload0 fLaw_law_830 (wi_iload3 fLaw_law_831 (wi_bipush fLaw_law_832 (wi_iadd fLaw_law_833 ((h.2.2 c229).2.2.2.2.2.2.2.2.2.2.2.2.2.2.2.2.2.2.2.2.2.2.2.2.2.2.2.2.2.2.2.2.2.2.2.2.2.1 c).1 (wi_iald8000 fLaw_law_834 ((h.2.2 c229).2.2.2.2.2.2.2.2.2.2.2.2.2.2.2.2.2.2.2.2.2.2.2.2.2.2.2.2.2.2.2.2.2.2.2.2.2.1 c).2.1 ((h.2.2 c229).2.2.2.2.2.2.2.2.2.2.2.2.2.2.2.2.2.2.2.2.2.2.2.2.2.2.2.2.2.2.2.2.2.2.2.2.2.1 c).2.2.1 (wi_call2 fLaw_law_835 (Nat.le_of_ble_eq_true rfl) (k_Model_keep (((h.2.2 c229).2.2.2.2.2.2.2.2.2.2.2.2.2.2.2.2.2.2.2.2.2.2.2.2.2.2.2.2.2.2.2.2.2.2.2.2.2.1 c).2.2.2.2 y194 τ195 eτ195).1 (fun y196 τ197 eτ197 => (wi_ic_eq fLaw_law_836 (fun c198 => (wi_iinc3 fLaw_law_1001 trivial (((((h.2.2 c229).2.2.2.2.2.2.2.2.2.2.2.2.2.2.2.2.2.2.2.2.2.2.2.2.2.2.2.2.2.2.2.2.2.2.2.2.2.1 c).2.2.2.2 y194 τ195 eτ195).2 y196 τ197 eτ197).1 c198).1 (wi_goto fLaw_law_1002 (((((h.2.2 c229).2.2.2.2.2.2.2.2.2.2.2.2.2.2.2.2.2.2.2.2.2.2.2.2.2.2.2.2.2.2.2.2.2.2.2.2.2.1 c).2.2.2.2 y194 τ195 eτ195).2 y196 τ197 eτ197).1 c198).2))) (fun c198 => (wi_bipush fLaw_law_837 (wi_ret2 fLaw_law_838 (by decide) (((((h.2.2 c229).2.2.2.2.2.2.2.2.2.2.2.2.2.2.2.2.2.2.2.2.2.2.2.2.2.2.2.2.2.2.2.2.2.2.2.2.2.1 c).2.2.2.2 y194 τ195 eτ195).2 y196 τ197 eτ197).2 c198)))))))))))))))))))))))) (fun c => (wi_aload1 fLaw_law_839 (wi_aload0 fLaw_law_840 (wi_iload3 fLaw_law_841 (wi_bipush fLaw_law_842 (wi_iadd fLaw_law_843 ((h.2.2 c229).2.2.2.2.2.2.2.2.2.2.2.2.2.2.2.2.2.2.2.2.2.2.2.2.2.2.2.2.2.2.2.2.2.2.2.2.2.2.1 c).1 (wi_iald8000 fLaw_law_844 ((h.2.2 c229).2.2.2.2.2.2.2.2.2.2.2.2.2.2.2.2.2.2.2.2.2.2.2.2.2.2.2.2.2.2.2.2.2.2.2.2.2.2.1 c).2.1 ((h.2.2 c229).2.2.2.2.2.2.2.2.2.2.2.2.2.2.2.2.2.2.2.2.2.2.2.2.2.2.2.2.2.2.2.2.2.2.2.2.2.2.1 c).2.2.1 (wi_call2 fLaw_law_845 (Nat.le_of_ble_eq_true rfl) (k_Moon_back ((h.2.2 c229).2.2.2.2.2.2.2.2.2.2.2.2.2.2.2.2.2.2.2.2.2.2.2.2.2.2.2.2.2.2.2.2.2.2.2.2.2.2.1 c).2.2.2.1 (fun y199 τ200 eτ200 => (wi_aload2 fLaw_law_846 (wi_aload0 fLaw_law_847 (wi_iload3 fLaw_law_848 (wi_bipush fLaw_law_849 (wi_iadd fLaw_law_850 ((h.2.2 c229).2.2.2.2.2.2.2.2.2.2.2.2.2.2.2.2.2.2.2.2.2.2.2.2.2.2.2.2.2.2.2.2.2.2.2.2.2.2.1 c).1 (wi_iald8000 fLaw_law_851 ((h.2.2 c229).2.2.2.2.2.2.2.2.2.2.2.2.2.2.2.2.2.2.2.2.2.2.2.2.2.2.2.2.2.2.2.2.2.2.2.2.2.2.1 c).2.1 ((h.2.2 c229).2.2.2.2.2.2.2.2.2.2.2.2.2.2.2.2.2.2.2.2.2.2.2.2.2.2.2.2.2.2.2.2.2.2.2.2.2.2.1 c).2.2.1 (wi_call2 fLaw_law_852 (Nat.le_of_ble_eq_true rfl) (k_Model_back (((h.2.2 c229).2.2.2.2.2.2.2.2.2.2.2.2.2.2.2.2.2.2.2.2.2.2.2.2.2.2.2.2.2.2.2.2.2.2.2.2.2.2.1 c).2.2.2.2 y199 τ200 eτ200).1 (fun y201 τ202 eτ202 => (wi_ic_eq fLaw_law_853 (fun c203 => (wi_iinc3 fLaw_law_1001 trivial (((((h.2.2 c229).2.2.2.2.2.2.2.2.2.2.2.2.2.2.2.2.2.2.2.2.2.2.2.2.2.2.2.2.2.2.2.2.2.2.2.2.2.2.1 c).2.2.2.2 y199 τ200 eτ200).2 y201 τ202 eτ202).1 c203).1 (wi_goto fLaw_law_1002 (((((h.2.2 c229).2.2.2.2.2.2.2.2.2.2.2.2.2.2.2.2.2.2.2.2.2.2.2.2.2.2.2.2.2.2.2.2.2.2.2.2.2.2.1 c).2.2.2.2 y199 τ200 eτ200).2 y201 τ202 eτ202).1 c203).2))) (fun c203 => (wi_bipush fLaw_law_854 (wi_ret2 fLaw_law_855 (by decide) (((((h.2.2 c229).2.2.2.2.2.2.2.2.2.2.2.2.2.2.2.2.2.2.2.2.2.2.2.2.2.2.2.2.2.2.2.2.2.2.2.2.2.2.1 c).2.2.2.2 y199 τ200 eτ200).2 y201 τ202 eτ202).2 c203)))))))))))))))))))))))) (fun c => (wi_aload1 fLaw_law_856 (wi_aload0 fLaw_law_857 (wi_iload3 fLaw_law_858 (wi_bipush fLaw_law_859 (wi_iadd fLaw_law_860 ((h.2.2 c229).2.2.2.2.2.2.2.2.2.2.2.2.2.2.2.2.2.2.2.2.2.2.2.2.2.2.2.2.2.2.2.2.2.2.2.2.2.2.2.1 c).1 (wi_iald8000 fLaw_law_861 ((h.2.2 c229).2.2.2.2.2.2.2.2.2.2.2.2.2.2.2.2.2.2.2.2.2.2.2.2.2.2.2.2.2.2.2.2.2.2.2.2.2.2.2.1 c).2.1 ((h.2.2 c229).2.2.2.2.2.2.2.2.2.2.2.2.2.2.2.2.2.2.2.2.2.2.2.2.2.2.2.2.2.2.2.2.2.2.2.2.2.2.2.1 c).2.2.1 (wi_aload0 fLaw_law_862 (wi_iload3 fLaw_law_863 (wi_bipush fLaw_law_864 (wi_iadd fLaw_law_865 ((h.2.2 c229).2.2.2.2.2.2.2.2.2.2.2.2.2.2.2.2.2.2.2.2.2.2.2.2.2.2.2.2.2.2.2.2.2.2.2.2.2.2.2.1 c).2.2.2.1 (wi_iald8000 fLaw_law_866 ((h.2.2 c229).2.2.2.2.2.2.2.2.2.2.2.2.2.2.2.2.2.2.2.2.2.2.2.2.2.2.2.2.2.2.2.2.2.2.2.2.2.2.2.1 c).2.2.2.2.1 ((h.2.2 c229).2.2.2.2.2.2.2.2.2.2.2.2.2.2.2.2.2.2.2.2.2.2.2.2.2.2.2.2.2.2.2.2.2.2.2.2.2.2.2.1 c).2.2.2.2.2.1 (wi_aload0 fLaw_law_867 (wi_iload3 fLaw_law_868 (wi_bipush fLaw_law_869 (wi_iadd fLaw_law_870 ((h.2.2 c229).2.2.2.2.2.2.2.2.2.2.2.2.2.2.2.2.2.2.2.2.2.2.2.2.2.2.2.2.2.2.2.2.2.2.2.2.2.2.2.1 c).2.2.2.2.2.2.1 (wi_iald8000 fLaw_law_871 ((h.2.2 c229).2.2.2.2.2.2.2.2.2.2.2.2.2.2.2.2.2.2.2.2.2.2.2.2.2.2.2.2.2.2.2.2.2.2.2.2.2.2.2.1 c).2.2.2.2.2.2.2.1 ((h.2.2 c229).2.2.2.2.2.2.2.2.2.2.2.2.2.2.2.2.2.2.2.2.2.2.2.2.2.2.2.2.2.2.2.2.2.2.2.2.2.2.2.1 c).2.2.2.2.2.2.2.2.1 (wi_call4 fLaw_law_872 (Nat.le_of_ble_eq_true rfl) (k_Moon_sheet ((h.2.2 c229).2.2.2.2.2.2.2.2.2.2.2.2.2.2.2.2.2.2.2.2.2.2.2.2.2.2.2.2.2.2.2.2.2.2.2.2.2.2.2.1 c).2.2.2.2.2.2.2.2.2.1 (fun y204 τ205 eτ205 => (wi_aload2 fLaw_law_873 (wi_aload0 fLaw_law_874 (wi_iload3 fLaw_law_875 (wi_bipush fLaw_law_876 (wi_iadd fLaw_law_877 ((h.2.2 c229).2.2.2.2.2.2.2.2.2.2.2.2.2.2.2.2.2.2.2.2.2.2.2.2.2.2.2.2.2.2.2.2.2.2.2.2.2.2.2.1 c).1 (wi_iald8000 fLaw_law_878 ((h.2.2 c229).2.2.2.2.2.2.2.2.2.2.2.2.2.2.2.2.2.2.2.2.2.2.2.2.2.2.2.2.2.2.2.2.2.2.2.2.2.2.2.1 c).2.1 ((h.2.2 c229).2.2.2.2.2.2.2.2.2.2.2.2.2.2.2.2.2.2.2.2.2.2.2.2.2.2.2.2.2.2.2.2.2.2.2.2.2.2.2.1 c).2.2.1 (wi_aload0 fLaw_law_879 (wi_iload3 fLaw_law_880 (wi_bipush fLaw_law_881 (wi_iadd fLaw_law_882 ((h.2.2 c229).2.2.2.2.2.2.2.2.2.2.2.2.2.2.2.2.2.2.2.2.2.2.2.2.2.2.2.2.2.2.2.2.2.2.2.2.2.2.2.1 c).2.2.2.1 (wi_iald8000 fLaw_law_883 ((h.2.2 c229).2.2.2.2.2.2.2.2.2.2.2.2.2.2.2.2.2.2.2.2.2.2.2.2.2.2.2.2.2.2.2.2.2.2.2.2.2.2.2.1 c).2.2.2.2.1 ((h.2.2 c229).2.2.2.2.2.2.2.2.2.2.2.2.2.2.2.2.2.2.2.2.2.2.2.2.2.2.2.2.2.2.2.2.2.2.2.2.2.2.2.1 c).2.2.2.2.2.1 (wi_aload0 fLaw_law_884 (wi_iload3 fLaw_law_885 (wi_bipush fLaw_law_886 (wi_iadd fLaw_law_887 ((h.2.2 c229).2.2.2.2.2.2.2.2.2.2.2.2.2.2.2.2.2.2.2.2.2.2.2.2.2.2.2.2.2.2.2.2.2.2.2.2.2.2.2.1 c).2.2.2.2.2.2.1 (wi_iald8000 fLaw_law_888 ((h.2.2 c229).2.2.2.2.2.2.2.2.2.2.2.2.2.2.2.2.2.2.2.2.2.2.2.2.2.2.2.2.2.2.2.2.2.2.2.2.2.2.2.1 c).2.2.2.2.2.2.2.1 ((h.2.2 c229).2.2.2.2.2.2.2.2.2.2.2.2.2.2.2.2.2.2.2.2.2.2.2.2.2.2.2.2.2.2.2.2.2.2.2.2.2.2.2.1 c).2.2.2.2.2.2.2.2.1 (wi_call4 fLaw_law_889 (Nat.le_of_ble_eq_true rfl) (k_Model_sheet (((h.2.2 c229).2.2.2.2.2.2.2.2.2.2.2.2.2.2.2.2.2.2.2.2.2.2.2.2.2.2.2.2.2.2.2.2.2.2.2.2.2.2.2.1 c).2.2.2.2.2.2.2.2.2.2 y204 τ205 eτ205).1 (fun y206 τ207 eτ207 => (wi_ic_eq fLaw_law_890 (fun c208 => (wi_iinc3 fLaw_law_1001 trivial (((((h.2.2 c229).2.2.2.2.2.2.2.2.2.2.2.2.2.2.2.2.2.2.2.2.2.2.2.2.2.2.2.2.2.2.2.2.2.2.2.2.2.2.2.1 c).2.2.2.2.2.2.2.2.2.2 y204 τ205 eτ205).2 y206 τ207 eτ207).1 c208).1 (wi_goto fLaw_law_1002 (((((h.2.2 c229).2.2.2.2.2.2.2.2.2.2.2.2.2.2.2.2.2.2.2.2.2.2.2.2.2.2.2.2.2.2.2.2.2.2.2.2.2.2.2.1 c).2.2.2.2.2.2.2.2.2.2 y204 τ205 eτ205).2 y206 τ207 eτ207).1 c208).2))) (fun c208 => (wi_bipush fLaw_law_891 (wi_ret2 fLaw_law_892 (by decide) (((((h.2.2 c229).2.2.2.2.2.2.2.2.2.2.2.2.2.2.2.2.2.2.2.2.2.2.2.2.2.2.2.2.2.2.2.2.2.2.2.2.2.2.2.1 c).2.2.2.2.2.2.2.2.2.2 y204 τ205 eτ205).2 y206 τ207 eτ207).2 c208)))))))))))))))))))))))))))))))))))))))))))) (fun c => (wi_aload1 fLaw_law_893 (wi_aload0 fLaw_law_894 (wi_iload3 fLaw_law_895 (wi_bipush fLaw_law_896 (wi_iadd fLaw_law_897 ((h.2.2 c229).2.2.2.2.2.2.2.2.2.2.2.2.2.2.2.2.2.2.2.2.2.2.2.2.2.2.2.2.2.2.2.2.2.2.2.2.2.2.2.2.1 c).1 (wi_iald8000 fLaw_law_898 ((h.2.2 c229).2.2.2.2.2.2.2.2.2.2.2.2.2.2.2.2.2.2.2.2.2.2.2.2.2.2.2.2.2.2.2.2.2.2.2.2.2.2.2.2.1 c).2.1 ((h.2.2 c229).2.2.2.2.2.2.2.2.2.2.2.2.2.2.2.2.2.2.2.2.2.2.2.2.2.2.2.2.2.2.2.2.2.2.2.2.2.2.2.2.1 c).2.2.1 (wi_aload0 fLaw_law_899 (wi_iload3 fLaw_law_900 (wi_bipush fLaw_law_901 (wi_iadd fLaw_law_902 ((h.2.2 c229).2.2.2.2.2.2.2.2.2.2.2.2.2.2.2.2.2.2.2.2.2.2.2.2.2.2.2.2.2.2.2.2.2.2.2.2.2.2.2.2.1 c).2.2.2.1 (wi_iald8000 fLaw_law_903 ((h.2.2 c229).2.2.2.2.2.2.2.2.2.2.2.2.2.2.2.2.2.2.2.2.2.2.2.2.2.2.2.2.2.2.2.2.2.2.2.2.2.2.2.2.1 c).2.2.2.2.1 ((h.2.2 c229).2.2.2.2.2.2.2.2.2.2.2.2.2.2.2.2.2.2.2.2.2.2.2.2.2.2.2.2.2.2.2.2.2.2.2.2.2.2.2.2.1 c).2.2.2.2.2.1 (wi_aload0 fLaw_law_904 (wi_iload3 fLaw_law_905 (wi_bipush fLaw_law_906 (wi_iadd fLaw_law_907 ((h.2.2 c229).2.2.2.2.2.2.2.2.2.2.2.2.2.2.2.2.2.2.2.2.2.2.2.2.2.2.2.2.2.2.2.2.2.2.2.2.2.2.2.2.1 c).2.2.2.2.2.2.1 (wi_iald8000 fLaw_law_908 ((h.2.2 c229).2.2.2.2.2.2.2.2.2.2.2.2.2.2.2.2.2.2.2.2.2.2.2.2.2.2.2.2.2.2.2.2.2.2.2.2.2.2.2.2.1 c).2.2.2.2.2.2.2.1 ((h.2.2 c229).2.2.2.2.2.2.2.2.2.2.2.2.2.2.2.2.2.2.2.2.2.2.2.2.2.2.2.2.2.2.2.2.2.2.2.2.2.2.2.2.1 c).2.2.2.2.2.2.2.2.1 (wi_call4 fLaw_law_909 (Nat.le_of_ble_eq_true rfl) (k_Moon_lay ((h.2.2 c229).2.2.2.2.2.2.2.2.2.2.2.2.2.2.2.2.2.2.2.2.2.2.2.2.2.2.2.2.2.2.2.2.2.2.2.2.2.2.2.2.1 c).2.2.2.2.2.2.2.2.2.1 (fun y209 τ210 eτ210 => (wi_aload2 fLaw_law_910 (wi_aload0 fLaw_law_911 (wi_iload3 fLaw_law_912 (wi_bipush fLaw_law_913 (wi_iadd fLaw_law_914 ((h.2.2 c229).2.2.2.2.2.2.2.2.2.2.2.2.2.2.2.2.2.2.2.2.2.2.2.2.2.2.2.2.2.2.2.2.2.2.2.2.2.2.2.2.1 c).1 (wi_iald8000 fLaw_law_915 ((h.2.2 c229).2.2.2.2.2.2.2.2.2.2.2.2.2.2.2.2.2.2.2.2.2.2.2.2.2.2.2.2.2.2.2.2.2.2.2.2.2.2.2.2.1 c).2.1 ((h.2.2 c229).2.2.2.2.2.2.2.2.2.2.2.2.2.2.2.2.2.2.2.2.2.2.2.2.2.2.2.2.2.2.2.2.2.2.2.2.2.2.2.2.1 c).2.2.1 (wi_aload0 fLaw_law_916 (wi_iload3 fLaw_law_917 (wi_bipush fLaw_law_918 (wi_iadd fLaw_law_919 ((h.2.2 c229).2.2.2.2.2.2.2.2.2.2.2.2.2.2.2.2.2.2.2.2.2.2.2.2.2.2.2.2.2.2.2.2.2.2.2.2.2.2.2.2.1 c).2.2.2.1 (wi_iald8000 fLaw_law_920 ((h.2.2 c229).2.2.2.2.2.2.2.2.2.2.2.2.2.2.2.2.2.2.2.2.2.2.2.2.2.2.2.2.2.2.2.2.2.2.2.2.2.2.2.2.1 c).2.2.2.2.1 ((h.2.2 c229).2.2.2.2.2.2.2.2.2.2.2.2.2.2.2.2.2.2.2.2.2.2.2.2.2.2.2.2.2.2.2.2.2.2.2.2.2.2.2.2.1 c).2.2.2.2.2.1 (wi_aload0 fLaw_law_921 (wi_iload3 fLaw_law_922 (wi_bipush fLaw_law_923 (wi_iadd fLaw_law_924 ((h.2.2 c229).2.2.2.2.2.2.2.2.2.2.2.2.2.2.2.2.2.2.2.2.2.2.2.2.2.2.2.2.2.2.2.2.2.2.2.2.2.2.2.2.1 c).2.2.2.2.2.2.1 (wi_iald8000 fLaw_law_925 ((h.2.2 c229).2.2.2.2.2.2.2.2.2.2.2.2.2.2.2.2.2.2.2.2.2.2.2.2.2.2.2.2.2.2.2.2.2.2.2.2.2.2.2.2.1 c).2.2.2.2.2.2.2.1 ((h.2.2 c229).2.2.2.2.2.2.2.2.2.2.2.2.2.2.2.2.2.2.2.2.2.2.2.2.2.2.2.2.2.2.2.2.2.2.2.2.2.2.2.2.1 c).2.2.2.2.2.2.2.2.1 (wi_call4 fLaw_law_926 (Nat.le_of_ble_eq_true rfl) (k_Model_lay (((h.2.2 c229).2.2.2.2.2.2.2.2.2.2.2.2.2.2.2.2.2.2.2.2.2.2.2.2.2.2.2.2.2.2.2.2.2.2.2.2.2.2.2.2.1 c).2.2.2.2.2.2.2.2.2.2 y209 τ210 eτ210).1 (fun y211 τ212 eτ212 => (wi_ic_eq fLaw_law_927 (fun c213 => (wi_iinc3 fLaw_law_1001 trivial (((((h.2.2 c229).2.2.2.2.2.2.2.2.2.2.2.2.2.2.2.2.2.2.2.2.2.2.2.2.2.2.2.2.2.2.2.2.2.2.2.2.2.2.2.2.1 c).2.2.2.2.2.2.2.2.2.2 y209 τ210 eτ210).2 y211 τ212 eτ212).1 c213).1 (wi_goto fLaw_law_1002 (((((h.2.2 c229).2.2.2.2.2.2.2.2.2.2.2.2.2.2.2.2.2.2.2.2.2.2.2.2.2.2.2.2.2.2.2.2.2.2.2.2.2.2.2.2.1 c).2.2.2.2.2.2.2.2.2.2 y209 τ210 eτ210).2 y211 τ212 eτ212).1 c213).2))) (fun c213 => (wi_bipush fLaw_law_928 (wi_ret2 fLaw_law_929 (by decide) (((((h.2.2 c229).2.2.2.2.2.2.2.2.2.2.2.2.2.2.2.2.2.2.2.2.2.2.2.2.2.2.2.2.2.2.2.2.2.2.2.2.2.2.2.2.1 c).2.2.2.2.2.2.2.2.2.2 y209 τ210 eτ210).2 y211 τ212 eτ212).2 c213)))))))))))))))))))))))))))))))))))))))))))) (fun c => (wi_aload1 fLaw_law_930 (wi_aload0 fLaw_law_931 (wi_iload3 fLaw_law_932 (wi_bipush fLaw_law_933 (wi_iadd fLaw_law_934 ((h.2.2 c229).2.2.2.2.2.2.2.2.2.2.2.2.2.2.2.2.2.2.2.2.2.2.2.2.2.2.2.2.2.2.2.2.2.2.2.2.2.2.2.2.2.1 c).1 (wi_iald8000 fLaw_law_935 ((h.2.2 c229).2.2.2.2.2.2.2.2.2.2.2.2.2.2.2.2.2.2.2.2.2.2.2.2.2.2.2.2.2.2.2.2.2.2.2.2.2.2.2.2.2.1 c).2.1 ((h.2.2 c229).2.2.2.2.2.2.2.2.2.2.2.2.2.2.2.2.2.2.2.2.2.2.2.2.2.2.2.2.2.2.2.2.2.2.2.2.2.2.2.2.2.1 c).2.2.1 (wi_aload0 fLaw_law_936 (wi_iload3 fLaw_law_937 (wi_bipush fLaw_law_938 (wi_iadd fLaw_law_939 ((h.2.2 c229).2.2.2.2.2.2.2.2.2.2.2.2.2.2.2.2.2.2.2.2.2.2.2.2.2.2.2.2.2.2.2.2.2.2.2.2.2.2.2.2.2.1 c).2.2.2.1 (wi_iald8000 fLaw_law_940 ((h.2.2 c229).2.2.2.2.2.2.2.2.2.2.2.2.2.2.2.2.2.2.2.2.2.2.2.2.2.2.2.2.2.2.2.2.2.2.2.2.2.2.2.2.2.1 c).2.2.2.2.1 ((h.2.2 c229).2.2.2.2.2.2.2.2.2.2.2.2.2.2.2.2.2.2.2.2.2.2.2.2.2.2.2.2.2.2.2.2.2.2.2.2.2.2.2.2.2.1 c).2.2.2.2.2.1 (wi_aload0 fLaw_law_941 (wi_iload3 fLaw_law_942 (wi_bipush fLaw_law_943 (wi_iadd fLaw_law_944 ((h.2.2 c229).2.2.2.2.2.2.2.2.2.2.2.2.2.2.2.2.2.2.2.2.2.2.2.2.2.2.2.2.2.2.2.2.2.2.2.2.2.2.2.2.2.1 c).2.2.2.2.2.2.1 (wi_iald8000 fLaw_law_945 ((h.2.2 c229).2.2.2.2.2.2.2.2.2.2.2.2.2.2.2.2.2.2.2.2.2.2.2.2.2.2.2.2.2.2.2.2.2.2.2.2.2.2.2.2.2.1 c).2.2.2.2.2.2.2.1 ((h.2.2 c229).2.2.2.2.2.2.2.2.2.2.2.2.2.2.2.2.2.2.2.2.2.2.2.2.2.2.2.2.2.2.2.2.2.2.2.2.2.2.2.2.2.1 c).2.2.2.2.2.2.2.2.1 (wi_aload0 fLaw_law_946 (wi_iload3 fLaw_law_947 (wi_bipush fLaw_law_948 (wi_iadd fLaw_law_949 ((h.2.2 c229).2.2.2.2.2.2.2.2.2.2.2.2.2.2.2.2.2.2.2.2.2.2.2.2.2.2.2.2.2.2.2.2.2.2.2.2.2.2.2.2.2.1 c).2.2.2.2.2.2.2.2.2.1 (wi_iald8000 fLaw_law_950 ((h.2.2 c229).2.2.2.2.2.2.2.2.2.2.2.2.2.2.2.2.2.2.2.2.2.2.2.2.2.2.2.2.2.2.2.2.2.2.2.2.2.2.2.2.2.1 c).2.2.2.2.2.2.2.2.2.2.1 ((h.2.2 c229).2.2.2.2.2.2.2.2.2.2.2.2.2.2.2.2.2.2.2.2.2.2.2.2.2.2.2.2.2.2.2.2.2.2.2.2.2.2.2.2.2.1 c).2.2.2.2.2.2.2.2.2.2.2.1 (wi_call5 fLaw_law_951 (Nat.le_of_ble_eq_true rfl) (k_Moon_read ((h.2.2 c229).2.2.2.2.2.2.2.2.2.2.2.2.2.2.2.2.2.2.2.2.2.2.2.2.2.2.2.2.2.2.2.2.2.2.2.2.2.2.2.2.2.1 c).2.2.2.2.2.2.2.2.2.2.2.2.1 (fun y214 τ215 eτ215 => (wi_aload2 fLaw_law_952 (wi_aload0 fLaw_law_953 (wi_iload3 fLaw_law_954 (wi_bipush fLaw_law_955 (wi_iadd fLaw_law_956 ((h.2.2 c229).2.2.2.2.2.2.2.2.2.2.2.2.2.2.2.2.2.2.2.2.2.2.2.2.2.2.2.2.2.2.2.2.2.2.2.2.2.2.2.2.2.1 c).1 (wi_iald8000 fLaw_law_957 ((h.2.2 c229).2.2.2.2.2.2.2.2.2.2.2.2.2.2.2.2.2.2.2.2.2.2.2.2.2.2.2.2.2.2.2.2.2.2.2.2.2.2.2.2.2.1 c).2.1 ((h.2.2 c229).2.2.2.2.2.2.2.2.2.2.2.2.2.2.2.2.2.2.2.2.2.2.2.2.2.2.2.2.2.2.2.2.2.2.2.2.2.2.2.2.2.1 c).2.2.1 (wi_aload0 fLaw_law_958 (wi_iload3 fLaw_law_959 (wi_bipush fLaw_law_960 (wi_iadd fLaw_law_961 ((h.2.2 c229).2.2.2.2.2.2.2.2.2.2.2.2.2.2.2.2.2.2.2.2.2.2.2.2.2.2.2.2.2.2.2.2.2.2.2.2.2.2.2.2.2.1 c).2.2.2.1 (wi_iald8000 fLaw_law_962 ((h.2.2 c229).2.2.2.2.2.2.2.2.2.2.2.2.2.2.2.2.2.2.2.2.2.2.2.2.2.2.2.2.2.2.2.2.2.2.2.2.2.2.2.2.2.1 c).2.2.2.2.1 ((h.2.2 c229).2.2.2.2.2.2.2.2.2.2.2.2.2.2.2.2.2.2.2.2.2.2.2.2.2.2.2.2.2.2.2.2.2.2.2.2.2.2.2.2.2.1 c).2.2.2.2.2.1 (wi_aload0 fLaw_law_963 (wi_iload3 fLaw_law_964 (wi_bipush fLaw_law_965 (wi_iadd fLaw_law_966 ((h.2.2 c229).2.2.2.2.2.2.2.2.2.2.2.2.2.2.2.2.2.2.2.2.2.2.2.2.2.2.2.2.2.2.2.2.2.2.2.2.2.2.2.2.2.1 c).2.2.2.2.2.2.1 (wi_iald8000 fLaw_law_967 ((h.2.2 c229).2.2.2.2.2.2.2.2.2.2.2.2.2.2.2.2.2.2.2.2.2.2.2.2.2.2.2.2.2.2.2.2.2.2.2.2.2.2.2.2.2.1 c).2.2.2.2.2.2.2.1 ((h.2.2 c229).2.2.2.2.2.2.2.2.2.2.2.2.2.2.2.2.2.2.2.2.2.2.2.2.2.2.2.2.2.2.2.2.2.2.2.2.2.2.2.2.2.1 c).2.2.2.2.2.2.2.2.1 (wi_aload0 fLaw_law_968 (wi_iload3 fLaw_law_969 (wi_bipush fLaw_law_970 (wi_iadd fLaw_law_971 ((h.2.2 c229).2.2.2.2.2.2.2.2.2.2.2.2.2.2.2.2.2.2.2.2.2.2.2.2.2.2.2.2.2.2.2.2.2.2.2.2.2.2.2.2.2.1 c).2.2.2.2.2.2.2.2.2.1 (wi_iald8000 fLaw_law_972 ((h.2.2 c229).2.2.2.2.2.2.2.2.2.2.2.2.2.2.2.2.2.2.2.2.2.2.2.2.2.2.2.2.2.2.2.2.2.2.2.2.2.2.2.2.2.1 c).2.2.2.2.2.2.2.2.2.2.1 ((h.2.2 c229).2.2.2.2.2.2.2.2.2.2.2.2.2.2.2.2.2.2.2.2.2.2.2.2.2.2.2.2.2.2.2.2.2.2.2.2.2.2.2.2.2.1 c).2.2.2.2.2.2.2.2.2.2.2.1 (wi_call5 fLaw_law_973 (Nat.le_of_ble_eq_true rfl) (k_Model_read (((h.2.2 c229).2.2.2.2.2.2.2.2.2.2.2.2.2.2.2.2.2.2.2.2.2.2.2.2.2.2.2.2.2.2.2.2.2.2.2.2.2.2.2.2.2.1 c).2.2.2.2.2.2.2.2.2.2.2.2.2 y214 τ215 eτ215).1 (fun y216 τ217 eτ217 => (wi_ic_eq fLaw_law_974 (fun c218 => (wi_iinc3 fLaw_law_1001 trivial (((((h.2.2 c229).2.2.2.2.2.2.2.2.2.2.2.2.2.2.2.2.2.2.2.2.2.2.2.2.2.2.2.2.2.2.2.2.2.2.2.2.2.2.2.2.2.1 c).2.2.2.2.2.2.2.2.2.2.2.2.2 y214 τ215 eτ215).2 y216 τ217 eτ217).1 c218).1 (wi_goto fLaw_law_1002 (((((h.2.2 c229).2.2.2.2.2.2.2.2.2.2.2.2.2.2.2.2.2.2.2.2.2.2.2.2.2.2.2.2.2.2.2.2.2.2.2.2.2.2.2.2.2.1 c).2.2.2.2.2.2.2.2.2.2.2.2.2 y214 τ215 eτ215).2 y216 τ217 eτ217).1 c218).2))) (fun c218 => (wi_bipush fLaw_law_975 (wi_ret2 fLaw_law_976 (by decide) (((((h.2.2 c229).2.2.2.2.2.2.2.2.2.2.2.2.2.2.2.2.2.2.2.2.2.2.2.2.2.2.2.2.2.2.2.2.2.2.2.2.2.2.2.2.2.1 c).2.2.2.2.2.2.2.2.2.2.2.2.2 y214 τ215 eτ215).2 y216 τ217 eτ217).2 c218)))))))))))))))))))))))))))))))))))))))))))))))))))))) (fun c => (wi_aload1 fLaw_law_977 (wi_call1 fLaw_law_978 (Nat.le_of_ble_eq_true rfl) (k_Moon_torn ((h.2.2 c229).2.2.2.2.2.2.2.2.2.2.2.2.2.2.2.2.2.2.2.2.2.2.2.2.2.2.2.2.2.2.2.2.2.2.2.2.2.2.2.2.2.2.1 c).1 (fun y219 τ220 eτ220 => (wi_aload2 fLaw_law_979 (wi_call1 fLaw_law_980 (Nat.le_of_ble_eq_true rfl) (k_Model_torn (((h.2.2 c229).2.2.2.2.2.2.2.2.2.2.2.2.2.2.2.2.2.2.2.2.2.2.2.2.2.2.2.2.2.2.2.2.2.2.2.2.2.2.2.2.2.2.1 c).2 y219 τ220 eτ220).1 (fun y221 τ222 eτ222 => (wi_ic_eq fLaw_law_981 (fun c223 => (wi_iinc3 fLaw_law_1001 trivial (((((h.2.2 c229).2.2.2.2.2.2.2.2.2.2.2.2.2.2.2.2.2.2.2.2.2.2.2.2.2.2.2.2.2.2.2.2.2.2.2.2.2.2.2.2.2.2.1 c).2 y219 τ220 eτ220).2 y221 τ222 eτ222).1 c223).1 (wi_goto fLaw_law_1002 (((((h.2.2 c229).2.2.2.2.2.2.2.2.2.2.2.2.2.2.2.2.2.2.2.2.2.2.2.2.2.2.2.2.2.2.2.2.2.2.2.2.2.2.2.2.2.2.1 c).2 y219 τ220 eτ220).2 y221 τ222 eτ222).1 c223).2))) (fun c223 => (wi_bipush fLaw_law_982 (wi_ret2 fLaw_law_983 (by decide) (((((h.2.2 c229).2.2.2.2.2.2.2.2.2.2.2.2.2.2.2.2.2.2.2.2.2.2.2.2.2.2.2.2.2.2.2.2.2.2.2.2.2.2.2.2.2.2.1 c).2 y219 τ220 eτ220).2 y221 τ222 eτ222).2 c223)))))))))))))) (fun c => (wi_aload1 fLaw_law_984 (wi_aload0 fLaw_law_985 (wi_iload3 fLaw_law_986 (wi_bipush fLaw_law_987 (wi_iadd fLaw_law_988 ((h.2.2 c229).2.2.2.2.2.2.2.2.2.2.2.2.2.2.2.2.2.2.2.2.2.2.2.2.2.2.2.2.2.2.2.2.2.2.2.2.2.2.2.2.2.2.2.1 c).1 (wi_iald8000 fLaw_law_989 ((h.2.2 c229).2.2.2.2.2.2.2.2.2.2.2.2.2.2.2.2.2.2.2.2.2.2.2.2.2.2.2.2.2.2.2.2.2.2.2.2.2.2.2.2.2.2.2.1 c).2.1 ((h.2.2 c229).2.2.2.2.2.2.2.2.2.2.2.2.2.2.2.2.2.2.2.2.2.2.2.2.2.2.2.2.2.2.2.2.2.2.2.2.2.2.2.2.2.2.2.1 c).2.2.1 (wi_call2 fLaw_law_990 (Nat.le_of_ble_eq_true rfl) (k_Moon_count ((h.2.2 c229).2.2.2.2.2.2.2.2.2.2.2.2.2.2.2.2.2.2.2.2.2.2.2.2.2.2.2.2.2.2.2.2.2.2.2.2.2.2.2.2.2.2.2.1 c).2.2.2.1 (fun y224 τ225 eτ225 => (wi_aload2 fLaw_law_991 (wi_aload0 fLaw_law_992 (wi_iload3 fLaw_law_993 (wi_bipush fLaw_law_994 (wi_iadd fLaw_law_995 ((h.2.2 c229).2.2.2.2.2.2.2.2.2.2.2.2.2.2.2.2.2.2.2.2.2.2.2.2.2.2.2.2.2.2.2.2.2.2.2.2.2.2.2.2.2.2.2.1 c).1 (wi_iald8000 fLaw_law_996 ((h.2.2 c229).2.2.2.2.2.2.2.2.2.2.2.2.2.2.2.2.2.2.2.2.2.2.2.2.2.2.2.2.2.2.2.2.2.2.2.2.2.2.2.2.2.2.2.1 c).2.1 ((h.2.2 c229).2.2.2.2.2.2.2.2.2.2.2.2.2.2.2.2.2.2.2.2.2.2.2.2.2.2.2.2.2.2.2.2.2.2.2.2.2.2.2.2.2.2.2.1 c).2.2.1 (wi_call2 fLaw_law_997 (Nat.le_of_ble_eq_true rfl) (k_Model_count (((h.2.2 c229).2.2.2.2.2.2.2.2.2.2.2.2.2.2.2.2.2.2.2.2.2.2.2.2.2.2.2.2.2.2.2.2.2.2.2.2.2.2.2.2.2.2.2.1 c).2.2.2.2 y224 τ225 eτ225).1 (fun y226 τ227 eτ227 => (wi_ic_eq fLaw_law_998 (fun c228 => (wi_iinc3 fLaw_law_1001 trivial (((((h.2.2 c229).2.2.2.2.2.2.2.2.2.2.2.2.2.2.2.2.2.2.2.2.2.2.2.2.2.2.2.2.2.2.2.2.2.2.2.2.2.2.2.2.2.2.2.1 c).2.2.2.2 y224 τ225 eτ225).2 y226 τ227 eτ227).1 c228).1 (wi_goto fLaw_law_1002 (((((h.2.2 c229).2.2.2.2.2.2.2.2.2.2.2.2.2.2.2.2.2.2.2.2.2.2.2.2.2.2.2.2.2.2.2.2.2.2.2.2.2.2.2.2.2.2.2.1 c).2.2.2.2 y224 τ225 eτ225).2 y226 τ227 eτ227).1 c228).2))) (fun c228 => (wi_bipush fLaw_law_999 (wi_ret2 fLaw_law_1000 (by decide) (((((h.2.2 c229).2.2.2.2.2.2.2.2.2.2.2.2.2.2.2.2.2.2.2.2.2.2.2.2.2.2.2.2.2.2.2.2.2.2.2.2.2.2.2.2.2.2.2.1 c).2.2.2.2 y224 τ225 eτ225).2 y226 τ227 eτ227).2 c228)))))))))))))))))))))))) (fun c => (wi_iinc3 fLaw_law_1001 trivial ((h.2.2 c229).2.2.2.2.2.2.2.2.2.2.2.2.2.2.2.2.2.2.2.2.2.2.2.2.2.2.2.2.2.2.2.2.2.2.2.2.2.2.2.2.2.2.2.2 c).1 (wi_goto fLaw_law_1002 ((h.2.2 c229).2.2.2.2.2.2.2.2.2.2.2.2.2.2.2.2.2.2.2.2.2.2.2.2.2.2.2.2.2.2.2.2.2.2.2.2.2.2.2.2.2.2.2.2 c).2))))))))))))))))
set_option maxHeartbeats 4000000 in
theorem k_Law_one {xs : List Int} {d : Nat} {Q : Option w_V → w_M → Prop} (hxs : w_xs xs) (hl : xs.length ≤ 5) (hQ : ∀ σ, Q (some (.inl 1)) σ) : LLaw_law_10 xs (d + 20) Q 0 w_s0 := by
  have el : (w_carr xs 1013).length = xs.length := rfl
  have hin : ∀ j, w_in ((w_carr xs 1013).getD j 0) := fun j => by
    show w_in (xs.getD j 0)
    rw [List.getD_eq_getElem?_getD]
    cases hj : xs[j]? with
    | none => exact w_in0
    | some v => exact hxs.1 v (List.mem_of_getElem? hj)
  have hI : INV w_s0 := ⟨s0_CI, s0_MI, s0_S⟩
  have nx : ∀ τ : w_M, LLaw_law_10 xs (d + 20) Q (0 + 5) τ := fun τ => bLaw_law_10 ⟨⟨by omega, by omega⟩, fun _ => hQ τ, fun h => by omega⟩
  have last : ((w_carr xs 1013).length : Int) - 5 < 0 → Q (some (.inl 1)) w_s0 := fun _ => hQ _
  exact bLaw_law_10 (v3 := 0) ⟨⟨by omega, by omega⟩, fun h => last h, fun h => ⟨by omega, by omega, ⟨fun _ => ⟨⟨by omega, by omega⟩, by omega, by omega, (i_feed hI), fun y1 τ2 hq => ⟨(e_feed hI hq).1, fun y3 τ4 hr => ⟨fun _ => ⟨⟨by omega, by omega⟩, nx τ4⟩, fun ne => absurd ((e_feed hI hq).2 _ _ hr).1 ne⟩⟩⟩,
    fun _ => ⟨⟨by omega, by omega⟩, by omega, by omega, (i_end hI), fun y6 τ7 hq => ⟨(e_end hI hq).1, fun y8 τ9 hr => ⟨fun _ => ⟨⟨by omega, by omega⟩, nx τ9⟩, fun ne => absurd ((e_end hI hq).2 _ _ hr).1 ne⟩⟩⟩,
    fun _ => ⟨(i_text rfl), fun y11 τ12 hq => ⟨(e_text hq).1, fun y13 τ14 hr => ⟨fun _ => ⟨⟨by omega, by omega⟩, nx τ14⟩, fun ne => absurd ((e_text hq).2 _ _ hr).1 ne⟩⟩⟩,
    fun _ => ⟨(i_fault hI), fun y16 τ17 hq => ⟨(e_fault hI hq).1, fun y18 τ19 hr => ⟨fun _ => ⟨⟨by omega, by omega⟩, nx τ19⟩, fun ne => absurd ((e_fault hI hq).2 _ _ hr).1 ne⟩⟩⟩,
    fun _ => ⟨⟨by omega, by omega⟩, by omega, by omega, (i_rule hI), fun y21 τ22 hq => ⟨(e_rule hI hq).1, fun y23 τ24 hr => ⟨fun _ => ⟨⟨by omega, by omega⟩, nx τ24⟩, fun ne => absurd ((e_rule hI hq).2 _ _ hr).1 ne⟩⟩⟩,
    fun _ => ⟨⟨by omega, by omega⟩, by omega, by omega, ⟨by omega, by omega⟩, by omega, by omega, (i_strip hI), fun y26 τ27 hq => ⟨(e_strip hI hq).1, fun y28 τ29 hr => ⟨fun _ => ⟨⟨by omega, by omega⟩, nx τ29⟩, fun ne => absurd ((e_strip hI hq).2 _ _ hr).1 ne⟩⟩⟩,
    fun _ => ⟨⟨by omega, by omega⟩, by omega, by omega, ⟨by omega, by omega⟩, by omega, by omega, (i_reaper hI), fun y31 τ32 hq => ⟨(e_reaper hI hq).1, fun y33 τ34 hr => ⟨fun _ => ⟨⟨by omega, by omega⟩, nx τ34⟩, fun ne => absurd ((e_reaper hI hq).2 _ _ hr).1 ne⟩⟩⟩,
    fun _ => ⟨⟨by omega, by omega⟩, by omega, by omega, (i_harvest hI), fun y36 τ37 hq => ⟨(e_harvest hI hq).1, fun y38 τ39 hr => ⟨fun _ => ⟨⟨by omega, by omega⟩, nx τ39⟩, fun ne => absurd ((e_harvest hI hq).2 _ _ hr).1 ne⟩⟩⟩,
    fun _ => ⟨⟨by omega, by omega⟩, by omega, by omega, ⟨by omega, by omega⟩, by omega, by omega, (i_send hI), fun y41 τ42 hq => ⟨(e_send hI hq).1, fun y43 τ44 hr => ⟨fun _ => ⟨⟨by omega, by omega⟩, nx τ44⟩, fun ne => absurd ((e_send hI hq).2 _ _ hr).1 ne⟩⟩⟩,
    fun _ => ⟨⟨by omega, by omega⟩, by omega, by omega, ⟨by omega, by omega⟩, by omega, by omega, ⟨by omega, by omega⟩, by omega, by omega, (i_lend hI), fun y46 τ47 hq => ⟨(e_lend hI hq).1, fun y48 τ49 hr => ⟨fun _ => ⟨⟨by omega, by omega⟩, nx τ49⟩, fun ne => absurd ((e_lend hI hq).2 _ _ hr).1 ne⟩⟩⟩,
    fun _ => ⟨⟨by omega, by omega⟩, by omega, by omega, ⟨by omega, by omega⟩, by omega, by omega, (i_whet hI), fun y51 τ52 hq => ⟨(e_whet hI hq).1, fun y53 τ54 hr => ⟨fun _ => ⟨⟨by omega, by omega⟩, nx τ54⟩, fun ne => absurd ((e_whet hI hq).2 _ _ hr).1 ne⟩⟩⟩,
    fun _ => ⟨⟨by omega, by omega⟩, by omega, by omega, ⟨by omega, by omega⟩, by omega, by omega, (i_fill hI), fun y56 τ57 hq => ⟨(e_fill hI hq).1, fun y58 τ59 hr => ⟨fun _ => ⟨⟨by omega, by omega⟩, nx τ59⟩, fun ne => absurd ((e_fill hI hq).2 _ _ hr).1 ne⟩⟩⟩,
    fun _ => ⟨⟨by omega, by omega⟩, by omega, by omega, ⟨by omega, by omega⟩, by omega, by omega, ⟨fun _ => ⟨(i_cloud hI (Or.inl rfl)), fun y61 τ62 hq => ⟨(e_cloud hI (Or.inl rfl) hq).1, fun y63 τ64 hr => ⟨fun _ => ⟨⟨by omega, by omega⟩, nx τ64⟩, fun ne => absurd ((e_cloud hI (Or.inl rfl) hq).2 _ _ hr).1 ne⟩⟩⟩, fun _ => ⟨(i_cloud hI (Or.inr rfl)), fun y66 τ67 hq => ⟨(e_cloud hI (Or.inr rfl) hq).1, fun y68 τ69 hr => ⟨fun _ => ⟨⟨by omega, by omega⟩, nx τ69⟩, fun ne => absurd ((e_cloud hI (Or.inr rfl) hq).2 _ _ hr).1 ne⟩⟩⟩⟩⟩,
    fun _ => ⟨⟨by omega, by omega⟩, by omega, by omega, ⟨by omega, by omega⟩, by omega, by omega, ⟨fun _ => ⟨(i_thistle hI (Or.inl rfl)), fun y72 τ73 hq => ⟨(e_thistle hI (Or.inl rfl) hq).1, fun y74 τ75 hr => ⟨fun _ => ⟨⟨by omega, by omega⟩, nx τ75⟩, fun ne => absurd ((e_thistle hI (Or.inl rfl) hq).2 _ _ hr).1 ne⟩⟩⟩, fun _ => ⟨(i_thistle hI (Or.inr rfl)), fun y77 τ78 hq => ⟨(e_thistle hI (Or.inr rfl) hq).1, fun y79 τ80 hr => ⟨fun _ => ⟨⟨by omega, by omega⟩, nx τ80⟩, fun ne => absurd ((e_thistle hI (Or.inr rfl) hq).2 _ _ hr).1 ne⟩⟩⟩⟩⟩,
    fun _ => ⟨⟨by omega, by omega⟩, by omega, by omega, ⟨by omega, by omega⟩, by omega, by omega, (i_own hI), fun y83 τ84 hq => ⟨(e_own hI hq).1, fun y85 τ86 hr => ⟨fun _ => ⟨⟨by omega, by omega⟩, nx τ86⟩, fun ne => absurd ((e_own hI hq).2 _ _ hr).1 ne⟩⟩⟩,
    fun _ => ⟨⟨by omega, by omega⟩, by omega, by omega, ⟨by omega, by omega⟩, by omega, by omega, (i_grow hI), fun y88 τ89 hq => ⟨(e_grow hI hq).1, fun y90 τ91 hr => ⟨fun _ => ⟨⟨by omega, by omega⟩, nx τ91⟩, fun ne => absurd ((e_grow hI hq).2 _ _ hr).1 ne⟩⟩⟩,
    fun _ => ⟨⟨by omega, by omega⟩, by omega, by omega, (i_go hI), fun y93 τ94 hq => ⟨(e_go hI hq).1, fun y95 τ96 hr => ⟨fun _ => ⟨⟨by omega, by omega⟩, nx τ96⟩, fun ne => absurd ((e_go hI hq).2 _ _ hr).1 ne⟩⟩⟩,
    fun _ => ⟨⟨by omega, by omega⟩, by omega, by omega, ⟨by omega, by omega⟩, by omega, by omega, ⟨by omega, by omega⟩, by omega, by omega, (i_ahead hI), fun y98 τ99 hq => ⟨(e_ahead hI hq).1, fun y100 τ101 hr => ⟨fun _ => ⟨⟨by omega, by omega⟩, nx τ101⟩, fun ne => absurd ((e_ahead hI hq).2 _ _ hr).1 ne⟩⟩⟩,
    fun _ => ⟨⟨by omega, by omega⟩, by omega, by omega, ⟨by omega, by omega⟩, by omega, by omega, (i_stands hI), fun y103 τ104 hq => ⟨(e_stands hI hq).1, fun y105 τ106 hr => ⟨fun _ => ⟨⟨by omega, by omega⟩, nx τ106⟩, fun ne => absurd ((e_stands hI hq).2 _ _ hr).1 ne⟩⟩⟩,
    fun _ => ⟨⟨by omega, by omega⟩, by omega, by omega, (i_done hI), fun y108 τ109 hq => ⟨(e_done hI hq).1, fun y110 τ111 hr => ⟨fun _ => ⟨⟨by omega, by omega⟩, nx τ111⟩, fun ne => absurd ((e_done hI hq).2 _ _ hr).1 ne⟩⟩⟩,
    fun _ => ⟨(i_left hI), fun y113 τ114 hq => ⟨(e_left hI hq).1, fun y115 τ116 hr => ⟨fun _ => ⟨⟨by omega, by omega⟩, nx τ116⟩, fun ne => absurd ((e_left hI hq).2 _ _ hr).1 ne⟩⟩⟩,
    fun _ => ⟨⟨by omega, by omega⟩, by omega, by omega, (i_begin hI), fun y118 τ119 hq => ⟨(e_begin hI hq).1, fun y120 τ121 hr => ⟨fun _ => ⟨⟨by omega, by omega⟩, nx τ121⟩, fun ne => absurd ((e_begin hI hq).2 _ _ hr).1 ne⟩⟩⟩,
    fun _ => ⟨⟨by omega, by omega⟩, by omega, by omega, ⟨by omega, by omega⟩, by omega, by omega, (i_best hI), fun y123 τ124 hq => ⟨(e_best hI hq).1, fun y125 τ126 hr => ⟨fun _ => ⟨⟨by omega, by omega⟩, nx τ126⟩, fun ne => absurd ((e_best hI hq).2 _ _ hr).1 ne⟩⟩⟩,
    fun _ => ⟨⟨by omega, by omega⟩, by omega, by omega, (i_oil hI), fun y128 τ129 hq => ⟨(e_oil hI hq).1, fun y130 τ131 hr => ⟨fun _ => ⟨⟨by omega, by omega⟩, nx τ131⟩, fun ne => absurd ((e_oil hI hq).2 _ _ hr).1 ne⟩⟩⟩,
    fun _ => ⟨⟨by omega, by omega⟩, by omega, by omega, (i_least hI), fun y133 τ134 hq => ⟨(e_least hI hq).1, fun y135 τ136 hr => ⟨fun _ => ⟨⟨by omega, by omega⟩, nx τ136⟩, fun ne => absurd ((e_least hI hq).2 _ _ hr).1 ne⟩⟩⟩,
    fun _ => ⟨⟨by omega, by omega⟩, by omega, by omega, ⟨by omega, by omega⟩, by omega, by omega, (i_luck hI), fun y138 τ139 hq => ⟨(e_luck hI hq).1, fun y140 τ141 hr => ⟨fun _ => ⟨⟨by omega, by omega⟩, nx τ141⟩, fun ne => absurd ((e_luck hI hq).2 _ _ hr).1 ne⟩⟩⟩,
    fun _ => ⟨⟨by omega, by omega⟩, by omega, by omega, ⟨by omega, by omega⟩, by omega, by omega, ⟨by omega, by omega⟩, by omega, by omega, ⟨fun _ => ⟨(i_see hI (Or.inl rfl)), fun y143 τ144 hq => ⟨(e_see hI (Or.inl rfl) hq).1, fun y145 τ146 hr => ⟨fun _ => ⟨⟨by omega, by omega⟩, nx τ146⟩, fun ne => absurd ((e_see hI (Or.inl rfl) hq).2 _ _ hr).1 ne⟩⟩⟩, fun _ => ⟨(i_see hI (Or.inr rfl)), fun y148 τ149 hq => ⟨(e_see hI (Or.inr rfl) hq).1, fun y150 τ151 hr => ⟨fun _ => ⟨⟨by omega, by omega⟩, nx τ151⟩, fun ne => absurd ((e_see hI (Or.inr rfl) hq).2 _ _ hr).1 ne⟩⟩⟩⟩⟩,
    fun _ => ⟨⟨by omega, by omega⟩, by omega, by omega, (i_forget hI), fun y154 τ155 hq => ⟨(e_forget hI hq).1, fun y156 τ157 hr => ⟨fun _ => ⟨⟨by omega, by omega⟩, nx τ157⟩, fun ne => absurd ((e_forget hI hq).2 _ _ hr).1 ne⟩⟩⟩,
    fun _ => ⟨⟨by omega, by omega⟩, by omega, by omega, (i_hare hI), fun y159 τ160 hq => ⟨(e_hare hI hq).1, fun y161 τ162 hr => ⟨fun _ => ⟨⟨by omega, by omega⟩, nx τ162⟩, fun ne => absurd ((e_hare hI hq).2 _ _ hr).1 ne⟩⟩⟩,
    fun _ => ⟨(i_runs hI), fun y164 τ165 hq => ⟨(e_runs hI hq).1, fun y166 τ167 hr => ⟨fun _ => ⟨⟨by omega, by omega⟩, nx τ167⟩, fun ne => absurd ((e_runs hI hq).2 _ _ hr).1 ne⟩⟩⟩,
    fun _ => ⟨⟨by omega, by omega⟩, by omega, by omega, ⟨by omega, by omega⟩, by omega, by omega, (i_look hI), fun y169 τ170 hq => ⟨(e_look hI hq).1, fun y171 τ172 hr => ⟨fun _ => ⟨⟨by omega, by omega⟩, nx τ172⟩, fun ne => absurd ((e_look hI hq).2 _ _ hr).1 ne⟩⟩⟩,
    fun _ => ⟨⟨by omega, by omega⟩, by omega, by omega, ⟨by omega, by omega⟩, by omega, by omega, (i_pay hI), fun y174 τ175 hq => ⟨(e_pay hI hq).1, fun y176 τ177 hr => ⟨fun _ => ⟨⟨by omega, by omega⟩, nx τ177⟩, fun ne => absurd ((e_pay hI hq).2 _ _ hr).1 ne⟩⟩⟩,
    fun _ => ⟨⟨by omega, by omega⟩, by omega, by omega, (i_owe hI), fun y179 τ180 hq => ⟨(e_owe hI hq).1, fun y181 τ182 hr => ⟨fun _ => ⟨⟨by omega, by omega⟩, nx τ182⟩, fun ne => absurd ((e_owe hI hq).2 _ _ hr).1 ne⟩⟩⟩,
    fun _ => ⟨⟨by omega, by omega⟩, by omega, by omega, (i_fits hI), fun y184 τ185 hq => ⟨(e_fits hI hq).1, fun y186 τ187 hr => ⟨fun _ => ⟨⟨by omega, by omega⟩, nx τ187⟩, fun ne => absurd ((e_fits hI hq).2 _ _ hr).1 ne⟩⟩⟩,
    fun _ => ⟨⟨by omega, by omega⟩, by omega, by omega, ⟨by omega, by omega⟩, by omega, by omega, ⟨by omega, by omega⟩, by omega, by omega, (i_drift hI), fun y189 τ190 hq => ⟨(e_drift hI hq).1, fun y191 τ192 hr => ⟨fun _ => ⟨⟨by omega, by omega⟩, nx τ192⟩, fun ne => absurd ((e_drift hI hq).2 _ _ hr).1 ne⟩⟩⟩,
    fun _ => ⟨⟨by omega, by omega⟩, by omega, by omega, (i_keep hI), fun y194 τ195 hq => ⟨(e_keep hI hq).1, fun y196 τ197 hr => ⟨fun _ => ⟨⟨by omega, by omega⟩, nx τ197⟩, fun ne => absurd ((e_keep hI hq).2 _ _ hr).1 ne⟩⟩⟩,
    fun _ => ⟨⟨by omega, by omega⟩, by omega, by omega, (i_back hI), fun y199 τ200 hq => ⟨(e_back hI hq).1, fun y201 τ202 hr => ⟨fun _ => ⟨⟨by omega, by omega⟩, nx τ202⟩, fun ne => absurd ((e_back hI hq).2 _ _ hr).1 ne⟩⟩⟩,
    fun _ => ⟨⟨by omega, by omega⟩, by omega, by omega, ⟨by omega, by omega⟩, by omega, by omega, ⟨by omega, by omega⟩, by omega, by omega, (i_sheet hI), fun y204 τ205 hq => ⟨(e_sheet hI hq).1, fun y206 τ207 hr => ⟨fun _ => ⟨⟨by omega, by omega⟩, nx τ207⟩, fun ne => absurd ((e_sheet hI hq).2 _ _ hr).1 ne⟩⟩⟩,
    fun _ => ⟨⟨by omega, by omega⟩, by omega, by omega, ⟨by omega, by omega⟩, by omega, by omega, ⟨by omega, by omega⟩, by omega, by omega, (i_lay hI), fun y209 τ210 hq => ⟨(e_lay hI hq).1, fun y211 τ212 hr => ⟨fun _ => ⟨⟨by omega, by omega⟩, nx τ212⟩, fun ne => absurd ((e_lay hI hq).2 _ _ hr).1 ne⟩⟩⟩,
    fun _ => ⟨⟨by omega, by omega⟩, by omega, by omega, ⟨by omega, by omega⟩, by omega, by omega, ⟨by omega, by omega⟩, by omega, by omega, ⟨by omega, by omega⟩, by omega, by omega, (i_read hI (hin _)), fun y214 τ215 hq => ⟨(e_read hI (hin _) hq).1, fun y216 τ217 hr => ⟨fun _ => ⟨⟨by omega, by omega⟩, nx τ217⟩, fun ne => absurd ((e_read hI (hin _) hq).2 _ _ hr).1 ne⟩⟩⟩,
    fun _ => ⟨(i_torn hI), fun y219 τ220 hq => ⟨(e_torn hI hq).1, fun y221 τ222 hr => ⟨fun _ => ⟨⟨by omega, by omega⟩, nx τ222⟩, fun ne => absurd (torn_eq hq hr) ne⟩⟩⟩,
    fun _ => ⟨⟨by omega, by omega⟩, by omega, by omega, (i_count hI), fun y224 τ225 hq => ⟨(e_count hI hq).1, fun y226 τ227 hr => ⟨fun _ => ⟨⟨by omega, by omega⟩, nx τ227⟩, fun ne => absurd ((e_count hI hq).2 _ _ hr).1 ne⟩⟩⟩,
    fun _ => ⟨⟨by omega, by omega⟩, nx _⟩⟩⟩⟩
