/-! The class reads lines -/
theorem nm_carr {k : Nat} (hk : k < 5) : w_carr [] (1000 + 2 * k + 1) = w_cbyt.getD k [] ∧ s_isB (1000 + 2 * k + 1) := by
  rcases (show k = 0 ∨ k = 1 ∨ k = 2 ∨ k = 3 ∨ k = 4 by omega) with rfl | rfl | rfl | rfl | rfl <;> exact ⟨rfl, by unfold s_isB; omega⟩
noncomputable def r_pos (σ : w_M) : Prop := r_ok σ ∧ (0 ≤ σ 1 8 ∧ σ 1 8 ≤ σ 1 1) ∧ (0 ≤ σ 1 9 ∧ σ 1 9 ≤ σ 1 1)
noncomputable def p_Reader_isName (b : Nat) (σ : w_M) : Prop := r_pos σ ∧ ∃ k, k < 5 ∧ b = 1000 + 2 * k
noncomputable def P_Reader_isName (b : Nat) (σ : w_M) : Prop := nm_is (rT σ) (rL σ) (σ 1 8).toNat (σ 1 9).toNat ((b - 1000) / 2)
theorem fReader_isName_0 : w_fe am_c22 0 1 (.aload 0) := ⟨rfl, rfl⟩
theorem fReader_isName_1 : w_fe am_c22 1 2 (.getfield 109) := ⟨rfl, rfl⟩
theorem fReader_isName_2 : w_fe am_c22 2 3 (.aload 0) := ⟨rfl, rfl⟩
theorem fReader_isName_3 : w_fe am_c22 3 4 (.getfield 108) := ⟨rfl, rfl⟩
theorem fReader_isName_4 : w_fe am_c22 4 5 (.isub) := ⟨rfl, rfl⟩
theorem fReader_isName_5 : w_fe am_c22 5 6 (.aload 1) := ⟨rfl, rfl⟩
theorem fReader_isName_6 : w_fe am_c22 6 7 (.invokestatic 6) := ⟨rfl, rfl⟩
theorem fReader_isName_7 : w_ic am_c22 7 8 .eq 10 := ⟨rfl, rfl⟩
theorem fReader_isName_8 : w_fe am_c22 8 9 (.bipush 0) := ⟨rfl, rfl⟩
theorem fReader_isName_9 : w_fe am_c22 9 10 (.ireturn) := ⟨rfl, rfl⟩
theorem fReader_isName_10 : w_fe am_c22 10 11 (.bipush 0) := ⟨rfl, rfl⟩
theorem fReader_isName_11 : w_fe am_c22 11 12 (.istore 2) := ⟨rfl, rfl⟩
theorem fReader_isName_12 : w_fe am_c22 12 13 (.iload 2) := ⟨rfl, rfl⟩
theorem fReader_isName_13 : w_fe am_c22 13 14 (.aload 1) := ⟨rfl, rfl⟩
theorem fReader_isName_14 : w_fe am_c22 14 15 (.invokestatic 6) := ⟨rfl, rfl⟩
theorem fReader_isName_15 : w_ic am_c22 15 16 .ge 30 := ⟨rfl, rfl⟩
theorem fReader_isName_16 : w_fe am_c22 16 17 (.aload 0) := ⟨rfl, rfl⟩
theorem fReader_isName_17 : w_fe am_c22 17 18 (.aload 0) := ⟨rfl, rfl⟩
theorem fReader_isName_18 : w_fe am_c22 18 19 (.getfield 108) := ⟨rfl, rfl⟩
theorem fReader_isName_19 : w_fe am_c22 19 20 (.iload 2) := ⟨rfl, rfl⟩
theorem fReader_isName_20 : w_fe am_c22 20 21 (.iadd) := ⟨rfl, rfl⟩
theorem fReader_isName_21 : w_fe am_c22 21 22 (.invokestatic 14) := ⟨rfl, rfl⟩
theorem fReader_isName_22 : w_fe am_c22 22 23 (.aload 1) := ⟨rfl, rfl⟩
theorem fReader_isName_23 : w_fe am_c22 23 24 (.iload 2) := ⟨rfl, rfl⟩
theorem fReader_isName_24 : w_fe am_c22 24 25 (.invokestatic 8) := ⟨rfl, rfl⟩
theorem fReader_isName_25 : w_ic am_c22 25 26 .eq 28 := ⟨rfl, rfl⟩
theorem fReader_isName_26 : w_fe am_c22 26 27 (.bipush 0) := ⟨rfl, rfl⟩
theorem fReader_isName_27 : w_fe am_c22 27 28 (.ireturn) := ⟨rfl, rfl⟩
theorem fReader_isName_28 : w_fe am_c22 28 29 (.iinc 2 1) := ⟨rfl, rfl⟩
theorem fReader_isName_29 : w_gt am_c22 29 12 := rfl
theorem fReader_isName_30 : w_fe am_c22 30 31 (.bipush 1) := ⟨rfl, rfl⟩
theorem fReader_isName_31 : w_fe am_c22 31 32 (.ireturn) := ⟨rfl, rfl⟩
noncomputable def LReader_isName_12 (xs : List Int) (d : Nat) (Q : Option w_V → w_M → Prop) (r1 : Nat) (v2 : Int) (σ : w_M) : Prop := w_Ex (xs, d) 2 am_c22 Q 12 [some (.inr (.inr (1, 1))), some (.inr (.inr (20, r1))), some (.inl v2)] [] σ
set_option maxRecDepth 20000 in
theorem bReader_isName_0 {xs : List Int} {d : Nat} {Q : Option w_V → w_M → Prop} {b : Nat} {σ : w_M}
    (h : w_in ((σ 1 9) - (σ 1 8)) ∧ p_String_length b σ ∧ (∀ (y1 : Int), y1 = v_String_length b σ → ((((σ 1 9) - (σ 1 8)) = y1 → LReader_isName_12 xs (d + 2) Q b 0 σ) ∧ (¬ ((σ 1 9) - (σ 1 8)) = y1 → Q (some (.inl 0)) σ)))) : w_Call (xs, (d + 2)) 22 [.inr (.inr (1, 1)), .inr (.inr (20, b))] σ Q :=
  (w_mk (mid := 22) (by decide) rfl rfl rfl rfl rfl (Nat.le_of_ble_eq_true rfl) ⟨rfl, Or.inl (by decide)⟩ (wi_aload0 fReader_isName_0 (wi_getf109 fReader_isName_1 (wi_aload0 fReader_isName_2 (wi_getf108 fReader_isName_3 (wi_isub fReader_isName_4 h.1 (wi_aload1 fReader_isName_5 (wi_call1 fReader_isName_6 (Nat.le_of_ble_eq_true rfl) (k_String_length h.2.1 (wi_ic_eq fReader_isName_7 (fun c2 => (wi_bipush fReader_isName_10 (wi_istore2 fReader_isName_11 trivial ((h.2.2 _ rfl).1 c2)))) (fun c2 => (wi_bipush fReader_isName_8 (wi_ret2 fReader_isName_9 (by decide) ((h.2.2 _ rfl).2 c2))))))))))))))
set_option maxRecDepth 20000 in
theorem bReader_isName_12 {xs : List Int} {d : Nat} {Q : Option w_V → w_M → Prop} {r1 : Nat} {v2 : Int} {σ : w_M}
    (h : p_String_length r1 σ ∧ (∀ (y1 : Int), y1 = v_String_length r1 σ → ((y1 ≤ v2 → Q (some (.inl 1)) σ) ∧ (v2 < y1 → (w_in ((σ 1 8) + v2) ∧ (∀ (y2 : Int), y2 = v_Reader_byteAt ((σ 1 8) + v2) σ → (p_String_charAt r1 v2 σ ∧ (∀ (y3 : Int), y3 = v_String_charAt r1 v2 σ → ((y2 = y3 → (w_in (v2 + 1) ∧ LReader_isName_12 xs (d + 2) Q r1 (v2 + 1) σ)) ∧ (¬ y2 = y3 → Q (some (.inl 0)) σ)))))))))) : LReader_isName_12 xs (d + 2) Q r1 v2 σ :=
  (wi_iload2 fReader_isName_12 (wi_aload1 fReader_isName_13 (wi_call1 fReader_isName_14 (Nat.le_of_ble_eq_true rfl) (k_String_length h.1 (wi_ic_ge fReader_isName_15 (fun c5 => (wi_bipush fReader_isName_30 (wi_ret2 fReader_isName_31 (by decide) ((h.2 _ rfl).1 c5)))) (fun c5 => (wi_aload0 fReader_isName_16 (wi_aload0 fReader_isName_17 (wi_getf108 fReader_isName_18 (wi_iload2 fReader_isName_19 (wi_iadd fReader_isName_20 ((h.2 _ rfl).2 c5).1 (wi_call2 fReader_isName_21 (Nat.le_of_ble_eq_true rfl) (k_Reader_byteAt (wi_aload1 fReader_isName_22 (wi_iload2 fReader_isName_23 (wi_call2 fReader_isName_24 (Nat.le_of_ble_eq_true rfl) (k_String_charAt (((h.2 _ rfl).2 c5).2 _ rfl).1 (wi_ic_eq fReader_isName_25 (fun c4 => (wi_iinc2 fReader_isName_28 trivial (((((h.2 _ rfl).2 c5).2 _ rfl).2 _ rfl).1 c4).1 (wi_goto fReader_isName_29 (((((h.2 _ rfl).2 c5).2 _ rfl).2 _ rfl).1 c4).2))) (fun c4 => (wi_bipush fReader_isName_26 (wi_ret2 fReader_isName_27 (by decide) (((((h.2 _ rfl).2 c5).2 _ rfl).2 _ rfl).2 c4))))))))))))))))))))))
theorem k_Reader_isName {xs : List Int} {d : Nat} {Q : Option w_V → w_M → Prop} {b : Nat} {σ : w_M} (hp : p_Reader_isName b σ) (hQ : Q (some (.inl (w_bi (P_Reader_isName b σ)))) σ) : w_Call (xs, d + 2) 22 [.inr (.inr (1, 1)), .inr (.inr (20, b))] σ Q := by
  obtain ⟨⟨hk, h8, h9⟩, k, hk5, rfl⟩ := hp
  have hk1 := hk.1
  obtain ⟨c1, c2⟩ := nm_carr hk5
  have eN : nm_len k = (w_carr [] (1000 + 2 * k + 1)).length := by unfold nm_len; rw [c1]
  have eP : P_Reader_isName (1000 + 2 * k) σ = nm_is (rT σ) (rL σ) (σ 1 8).toNat (σ 1 9).toNat k := by unfold P_Reader_isName; rw [show (1000 + 2 * k - 1000) / 2 = k by omega]
  rw [eP] at hQ
  refine bReader_isName_0 ⟨⟨by omega, by omega⟩, c2, fun y1 e1 => ?_⟩
  unfold v_String_length at e1
  rw [← eN] at e1
  refine ⟨fun c => ?_, fun c => ?_⟩
  · refine (w_loop (n := nm_len k) (P := fun i => (∀ j, j < i → tb (rT σ) (rL σ) ((σ 1 8).toNat + j) = nm_at k j) → LReader_isName_12 xs (d + 2) Q (1000 + 2 * k) (i : Int) σ) ?_ ?_) (fun j hj => by omega)
    · intro h
      refine bReader_isName_12 ⟨c2, fun y2 e2 => ?_⟩
      unfold v_String_length at e2
      rw [← eN] at e2
      refine ⟨fun _ => ?_, fun h => by omega⟩
      rw [w_bi_t (show nm_is (rT σ) (rL σ) (σ 1 8).toNat (σ 1 9).toNat k from ⟨by omega, h⟩)] at hQ
      exact hQ
    · intro i hi ih h
      have hl7 : nm_len k ≤ 7 := by
        rcases (show k = 0 ∨ k = 1 ∨ k = 2 ∨ k = 3 ∨ k = 4 by omega) with rfl | rfl | rfl | rfl | rfl <;> decide
      refine bReader_isName_12 ⟨c2, fun y2 e2 => ?_⟩
      unfold v_String_length at e2
      rw [← eN] at e2
      refine ⟨fun h => by omega, fun _ => ⟨⟨by omega, by omega⟩, fun y3 e3 => ⟨⟨c2, by omega, by rw [← eN]; omega⟩, fun y4 e4 => ?_⟩⟩⟩
      rw [r_byte hk (by omega), show (σ 1 8 + (i : Int)).toNat = (σ 1 8).toNat + i by omega] at e3
      have e4' : y4 = nm_at k i := by
        rw [e4]
        unfold v_String_charAt v_StringLatin1_charAt nm_at
        rw [c1, Int.toNat_natCast]
      refine ⟨fun c5 => ⟨⟨by omega, by omega⟩, ?_⟩, fun c5 => ?_⟩
      · rw [← w_cs1]
        refine ih (fun j hj => ?_)
        by_cases e : j = i
        · rw [e, ← e3, ← e4']; exact c5
        · exact h j (by omega)
      · rw [w_bi_f (fun z : nm_is (rT σ) (rL σ) (σ 1 8).toNat (σ 1 9).toNat k => c5 (by rw [e3, e4']; exact z.2 i hi))] at hQ
        exact hQ
  · rw [w_bi_f (fun z : nm_is (rT σ) (rL σ) (σ 1 8).toNat (σ 1 9).toNat k => c (by have := z.1; omega))] at hQ
    exact hQ
noncomputable def p_Reader_nameOf (k : Int) (_ : w_M) : Prop := 0 ≤ k ∧ k ≤ 4
theorem fReader_nameOf_0 : w_fe am_c21 0 1 (.iload 0) := ⟨rfl, rfl⟩
theorem fReader_nameOf_1 {E : w_C} {rt : Nat} {Q : Option w_V → w_M → Prop} {ls : w_L} {st : List w_V} {σ : w_M} {x : Int} (h0 : x = 0 → w_Ex E rt am_c21 Q 2 ls st σ) (h1 : x = 1 → w_Ex E rt am_c21 Q 4 ls st σ) (h2 : x = 2 → w_Ex E rt am_c21 Q 6 ls st σ) (h3 : x = 3 → w_Ex E rt am_c21 Q 8 ls st σ) (hd : x < 0 ∨ 3 < x → w_Ex E rt am_c21 Q 10 ls st σ) : w_Ex E rt am_c21 Q 1 ls (.inl x :: st) σ :=
  w_Ex_in (op := .tableswitch 10 0 3 #[2, 4, 6, 8]) rfl ⟨rfl, hd, And.intro h0 (And.intro h1 (And.intro h2 (And.intro h3 ( trivial))))⟩
theorem fReader_nameOf_2 : w_fe am_c21 2 3 (.ldc 1000) := ⟨rfl, rfl⟩
theorem fReader_nameOf_3 : w_fe am_c21 3 4 (.ireturn) := ⟨rfl, rfl⟩
theorem fReader_nameOf_4 : w_fe am_c21 4 5 (.ldc 1002) := ⟨rfl, rfl⟩
theorem fReader_nameOf_5 : w_fe am_c21 5 6 (.ireturn) := ⟨rfl, rfl⟩
theorem fReader_nameOf_6 : w_fe am_c21 6 7 (.ldc 1004) := ⟨rfl, rfl⟩
theorem fReader_nameOf_7 : w_fe am_c21 7 8 (.ireturn) := ⟨rfl, rfl⟩
theorem fReader_nameOf_8 : w_fe am_c21 8 9 (.ldc 1006) := ⟨rfl, rfl⟩
theorem fReader_nameOf_9 : w_fe am_c21 9 10 (.ireturn) := ⟨rfl, rfl⟩
theorem fReader_nameOf_10 : w_fe am_c21 10 11 (.ldc 1008) := ⟨rfl, rfl⟩
theorem fReader_nameOf_11 : w_fe am_c21 11 12 (.ireturn) := ⟨rfl, rfl⟩
set_option maxRecDepth 20000 in
theorem bReader_nameOf_0 {xs : List Int} {d : Nat} {Q : Option w_V → w_M → Prop} {x0 : Int} {σ : w_M}
    (h : (x0 = 0 → Q (some (.inr (.inr (20, 1000)))) σ) ∧ (x0 = 1 → Q (some (.inr (.inr (20, 1002)))) σ) ∧ (x0 = 2 → Q (some (.inr (.inr (20, 1004)))) σ) ∧ (x0 = 3 → Q (some (.inr (.inr (20, 1006)))) σ) ∧ (x0 < 0 ∨ 3 < x0 → Q (some (.inr (.inr (20, 1008)))) σ)) : w_Call (xs, d) 21 [.inl x0] σ Q :=
  (w_mk (mid := 21) (by decide) rfl rfl rfl rfl rfl (Nat.le_of_ble_eq_true rfl) trivial (wi_iload0 fReader_nameOf_0 (fReader_nameOf_1 (fun c => (wi_ldc fReader_nameOf_2 (wi_ret4 fReader_nameOf_3 (h.1 c)))) (fun c => (wi_ldc fReader_nameOf_4 (wi_ret4 fReader_nameOf_5 (h.2.1 c)))) (fun c => (wi_ldc fReader_nameOf_6 (wi_ret4 fReader_nameOf_7 (h.2.2.1 c)))) (fun c => (wi_ldc fReader_nameOf_8 (wi_ret4 fReader_nameOf_9 (h.2.2.2.1 c)))) (fun c => (wi_ldc fReader_nameOf_10 (wi_ret4 fReader_nameOf_11 (h.2.2.2.2 c)))))))
theorem k_Reader_nameOf {xs : List Int} {d : Nat} {Q : Option w_V → w_M → Prop} {x0 : Int} {σ : w_M} (hp : p_Reader_nameOf x0 σ) (hQ : Q (some (.inr (.inr (20, 1000 + 2 * x0.toNat)))) σ) : w_Call (xs, d) 21 [.inl x0] σ Q := by
  have h : 0 ≤ x0 ∧ x0 ≤ 4 := hp
  refine bReader_nameOf_0 ⟨fun c => ?_, fun c => ?_, fun c => ?_, fun c => ?_, fun c => ?_⟩
  · rw [c] at hQ; exact hQ
  · rw [c] at hQ; exact hQ
  · rw [c] at hQ; exact hQ
  · rw [c] at hQ; exact hQ
  · rw [show x0 = 4 by omega] at hQ; exact hQ
noncomputable def p_Reader_lineOfName (σ : w_M) : Prop := r_pos σ
noncomputable def v_Reader_lineOfName (σ : w_M) : Int := ln_n (rT σ) (rL σ) (σ 1 8).toNat (σ 1 9).toNat
theorem fReader_lineOfName_0 : w_fe am_c20 0 1 (.bipush 0) := ⟨rfl, rfl⟩
theorem fReader_lineOfName_1 : w_fe am_c20 1 2 (.istore 1) := ⟨rfl, rfl⟩
theorem fReader_lineOfName_2 : w_fe am_c20 2 3 (.iload 1) := ⟨rfl, rfl⟩
theorem fReader_lineOfName_3 : w_fe am_c20 3 4 (.bipush 4) := ⟨rfl, rfl⟩
theorem fReader_lineOfName_4 : w_ic am_c20 4 5 .gt 14 := ⟨rfl, rfl⟩
theorem fReader_lineOfName_5 : w_fe am_c20 5 6 (.aload 0) := ⟨rfl, rfl⟩
theorem fReader_lineOfName_6 : w_fe am_c20 6 7 (.iload 1) := ⟨rfl, rfl⟩
theorem fReader_lineOfName_7 : w_fe am_c20 7 8 (.invokestatic 21) := ⟨rfl, rfl⟩
theorem fReader_lineOfName_8 : w_fe am_c20 8 9 (.invokestatic 22) := ⟨rfl, rfl⟩
theorem fReader_lineOfName_9 : w_if am_c20 9 10 .eq 12 := ⟨rfl, rfl⟩
theorem fReader_lineOfName_10 : w_fe am_c20 10 11 (.iload 1) := ⟨rfl, rfl⟩
theorem fReader_lineOfName_11 : w_fe am_c20 11 12 (.ireturn) := ⟨rfl, rfl⟩
theorem fReader_lineOfName_12 : w_fe am_c20 12 13 (.iinc 1 1) := ⟨rfl, rfl⟩
theorem fReader_lineOfName_13 : w_gt am_c20 13 2 := rfl
theorem fReader_lineOfName_14 : w_fe am_c20 14 15 (.bipush (-1)) := ⟨rfl, rfl⟩
theorem fReader_lineOfName_15 : w_fe am_c20 15 16 (.ireturn) := ⟨rfl, rfl⟩
noncomputable def LReader_lineOfName_2 (xs : List Int) (d : Nat) (Q : Option w_V → w_M → Prop) (v1 : Int) (σ : w_M) : Prop := w_Ex (xs, d) 1 am_c20 Q 2 [some (.inr (.inr (1, 1))), some (.inl v1)] [] σ
set_option maxRecDepth 20000 in
theorem bReader_lineOfName_0 {xs : List Int} {d : Nat} {Q : Option w_V → w_M → Prop}  {σ : w_M}
    (h : LReader_lineOfName_2 xs (d + 3) Q 0 σ) : w_Call (xs, (d + 3)) 20 [.inr (.inr (1, 1))] σ Q :=
  (w_mk (mid := 20) (by decide) rfl rfl rfl rfl rfl (Nat.le_of_ble_eq_true rfl) ⟨rfl, Or.inl (by decide)⟩ (wi_bipush fReader_lineOfName_0 (wi_istore1 fReader_lineOfName_1 trivial h)))
set_option maxRecDepth 20000 in
theorem bReader_lineOfName_2 {xs : List Int} {d : Nat} {Q : Option w_V → w_M → Prop} {v1 : Int} {σ : w_M}
    (h : (4 < v1 → Q (some (.inl (-1))) σ) ∧ (v1 ≤ 4 → (p_Reader_nameOf v1 σ ∧ p_Reader_isName (1000 + 2 * v1.toNat) σ ∧ ((¬ (P_Reader_isName (1000 + 2 * v1.toNat) σ) → (w_in (v1 + 1) ∧ LReader_lineOfName_2 xs (d + 3) Q (v1 + 1) σ)) ∧ ((P_Reader_isName (1000 + 2 * v1.toNat) σ) → Q (some (.inl v1)) σ))))) : LReader_lineOfName_2 xs (d + 3) Q v1 σ :=
  (wi_iload1 fReader_lineOfName_2 (wi_bipush fReader_lineOfName_3 (wi_ic_gt fReader_lineOfName_4 (fun c2 => (wi_bipush fReader_lineOfName_14 (wi_ret1 fReader_lineOfName_15 (h.1 c2)))) (fun c2 => (wi_aload0 fReader_lineOfName_5 (wi_iload1 fReader_lineOfName_6 (wi_call1 fReader_lineOfName_7 (Nat.le_of_ble_eq_true rfl) (k_Reader_nameOf (h.2 c2).1 (wi_call2 fReader_lineOfName_8 (Nat.le_of_ble_eq_true rfl) (k_Reader_isName (h.2 c2).2.1 (wi_ifb_eq fReader_lineOfName_9 (fun c1 => (wi_iinc1 fReader_lineOfName_12 trivial ((h.2 c2).2.2.1 c1).1 (wi_goto fReader_lineOfName_13 ((h.2 c2).2.2.1 c1).2))) (fun c1 => (wi_iload1 fReader_lineOfName_10 (wi_ret1 fReader_lineOfName_11 ((h.2 c2).2.2.2 c1)))))))))))))))
theorem k_Reader_lineOfName {xs : List Int} {d : Nat} {Q : Option w_V → w_M → Prop}  {σ : w_M} (hp : p_Reader_lineOfName σ) (hQ : Q (some (.inl (v_Reader_lineOfName σ))) σ) : w_Call (xs, d + 3) 20 [.inr (.inr (1, 1))] σ Q := by
  have hp' : r_pos σ := hp
  unfold v_Reader_lineOfName at hQ
  refine bReader_lineOfName_0 ?_
  refine (w_loop (n := 5) (P := fun k => ln_k (rT σ) (rL σ) (σ 1 8).toNat (σ 1 9).toNat k = -1 → LReader_lineOfName_2 xs (d + 3) Q (k : Int) σ) ?_ ?_) rfl
  · intro h
    refine bReader_lineOfName_2 ⟨fun _ => ?_, fun h => by omega⟩
    have e : ln_n (rT σ) (rL σ) (σ 1 8).toNat (σ 1 9).toNat = -1 := h
    rw [e] at hQ
    exact hQ
  · intro k hk ih h
    have eP : P_Reader_isName (1000 + 2 * ((k : Int)).toNat) σ = nm_is (rT σ) (rL σ) (σ 1 8).toNat (σ 1 9).toNat k := by unfold P_Reader_isName; rw [Int.toNat_natCast, show (1000 + 2 * k - 1000) / 2 = k by omega]
    refine bReader_lineOfName_2 ⟨fun h => by omega, fun _ => ⟨⟨by omega, by omega⟩, ⟨hp', k, hk, by rw [Int.toNat_natCast]⟩, ?_⟩⟩
    rw [eP]
    refine ⟨fun c => ⟨⟨by omega, by omega⟩, ?_⟩, fun c => ?_⟩
    · rw [← w_cs1]
      exact ih (ln_miss h c)
    · rw [ln_hit h c hk] at hQ
      exact hQ
/-- the draft, as the class holds it -/
noncomputable def d_ab (σ : w_M) : w_M := fun d i => if d = 0 then (if i = 0 then σ 3 0 else if i = 2 then σ 3 2 else if i = 4 then σ 3 4 else if i = 5 then σ 3 5 else if i = 6 then σ 3 6 else if i = 7 then σ 1 5 else 0)
  else if d ≤ 2 then (if i < (σ 3 4).toNat then σ (3 + d) i else 0) else if d = 3 ∨ d = 4 ∨ d = 6 then (if i < (σ 3 5).toNat then σ (3 + d) i else 0) else 0
/-- what no line tells -/
noncomputable def d_cn (σ : w_M) : Prop := (σ 3 1 = 0 ∧ σ 3 3 = -4) ∧ (∀ r, r < (σ 3 5).toNat → σ 8 r = 3 ∧ σ 10 r = 0) ∧ ∀ o, o < 4 → σ 11 o = 0
noncomputable def p_Reader_beginLine (k : Int) (σ : w_M) : Prop := σ 1 3 = 0 ∧ 0 ≤ k ∧ k ≤ 4
noncomputable def q_Reader_beginLine (k : Int) (σ σ' : w_M) : Prop := (ln_b (d_ab σ) k.toNat = 0 → σ' = σ) ∧ (¬ ln_b (d_ab σ) k.toNat = 0 → σ' = w_up (w_up σ 1 3 (ln_b (d_ab σ) k.toNat)) 1 4 (σ 1 8))
theorem fReader_beginLine_0 : w_fe am_c23 0 1 (.iload 1) := ⟨rfl, rfl⟩
theorem fReader_beginLine_1 : w_if am_c23 1 2 .ne 10 := ⟨rfl, rfl⟩
theorem fReader_beginLine_2 : w_fe am_c23 2 3 (.aload 0) := ⟨rfl, rfl⟩
theorem fReader_beginLine_3 : w_fe am_c23 3 4 (.getfield 105) := ⟨rfl, rfl⟩
theorem fReader_beginLine_4 : w_if am_c23 4 5 .eq 10 := ⟨rfl, rfl⟩
theorem fReader_beginLine_5 : w_fe am_c23 5 6 (.aload 0) := ⟨rfl, rfl⟩
theorem fReader_beginLine_6 : w_fe am_c23 6 7 (.bipush 4) := ⟨rfl, rfl⟩
theorem fReader_beginLine_7 : w_fe am_c23 7 8 (.aload 0) := ⟨rfl, rfl⟩
theorem fReader_beginLine_8 : w_fe am_c23 8 9 (.getfield 108) := ⟨rfl, rfl⟩
theorem fReader_beginLine_9 : w_fe am_c23 9 10 (.invokestatic 18) := ⟨rfl, rfl⟩
theorem fReader_beginLine_10 : w_fe am_c23 10 11 (.iload 1) := ⟨rfl, rfl⟩
theorem fReader_beginLine_11 : w_fe am_c23 11 12 (.bipush 1) := ⟨rfl, rfl⟩
theorem fReader_beginLine_12 : w_ic am_c23 12 13 .ne 18 := ⟨rfl, rfl⟩
theorem fReader_beginLine_13 : w_fe am_c23 13 14 (.aload 0) := ⟨rfl, rfl⟩
theorem fReader_beginLine_14 : w_fe am_c23 14 15 (.getfield 102) := ⟨rfl, rfl⟩
theorem fReader_beginLine_15 : w_fe am_c23 15 16 (.getfield 204) := ⟨rfl, rfl⟩
theorem fReader_beginLine_16 : w_fe am_c23 16 17 (.bipush 7) := ⟨rfl, rfl⟩
theorem fReader_beginLine_17 : w_ic am_c23 17 18 .ge 26 := ⟨rfl, rfl⟩
theorem fReader_beginLine_18 : w_fe am_c23 18 19 (.iload 1) := ⟨rfl, rfl⟩
theorem fReader_beginLine_19 : w_fe am_c23 19 20 (.bipush 2) := ⟨rfl, rfl⟩
theorem fReader_beginLine_20 : w_ic am_c23 20 21 .ne 31 := ⟨rfl, rfl⟩
theorem fReader_beginLine_21 : w_fe am_c23 21 22 (.aload 0) := ⟨rfl, rfl⟩
theorem fReader_beginLine_22 : w_fe am_c23 22 23 (.getfield 102) := ⟨rfl, rfl⟩
theorem fReader_beginLine_23 : w_fe am_c23 23 24 (.getfield 205) := ⟨rfl, rfl⟩
theorem fReader_beginLine_24 : w_fe am_c23 24 25 (.bipush 4) := ⟨rfl, rfl⟩
theorem fReader_beginLine_25 : w_ic am_c23 25 26 .lt 31 := ⟨rfl, rfl⟩
theorem fReader_beginLine_26 : w_fe am_c23 26 27 (.aload 0) := ⟨rfl, rfl⟩
theorem fReader_beginLine_27 : w_fe am_c23 27 28 (.bipush 5) := ⟨rfl, rfl⟩
theorem fReader_beginLine_28 : w_fe am_c23 28 29 (.aload 0) := ⟨rfl, rfl⟩
theorem fReader_beginLine_29 : w_fe am_c23 29 30 (.getfield 108) := ⟨rfl, rfl⟩
theorem fReader_beginLine_30 : w_fe am_c23 30 31 (.invokestatic 18) := ⟨rfl, rfl⟩
theorem fReader_beginLine_31 : w_fe am_c23 31 32 (.return_) := ⟨rfl, rfl⟩
set_option maxRecDepth 20000 in
theorem bReader_beginLine_0 {xs : List Int} {d : Nat} {Q : Option w_V → w_M → Prop} {x1 : Int} {σ : w_M}
    (h : (¬ x1 = 0 → ((¬ x1 = 1 → ((¬ x1 = 2 → Q none σ) ∧ (x1 = 2 → (((σ 3 5) < 4 → Q none σ) ∧ (4 ≤ (σ 3 5) → ∀ (τ1 : w_M), q_Reader_fail 5 (σ 1 8) σ τ1 → Q none τ1))))) ∧ (x1 = 1 → ((7 ≤ (σ 3 4) → ∀ (τ4 : w_M), q_Reader_fail 5 (σ 1 8) σ τ4 → Q none τ4) ∧ ((σ 3 4) < 7 → ((¬ x1 = 2 → Q none σ) ∧ (x1 = 2 → (((σ 3 5) < 4 → Q none σ) ∧ (4 ≤ (σ 3 5) → ∀ (τ5 : w_M), q_Reader_fail 5 (σ 1 8) σ τ5 → Q none τ5))))))))) ∧ (x1 = 0 → (((σ 1 5) = 0 → ((¬ x1 = 1 → ((¬ x1 = 2 → Q none σ) ∧ (x1 = 2 → (((σ 3 5) < 4 → Q none σ) ∧ (4 ≤ (σ 3 5) → ∀ (τ10 : w_M), q_Reader_fail 5 (σ 1 8) σ τ10 → Q none τ10))))) ∧ (x1 = 1 → ((7 ≤ (σ 3 4) → ∀ (τ13 : w_M), q_Reader_fail 5 (σ 1 8) σ τ13 → Q none τ13) ∧ ((σ 3 4) < 7 → ((¬ x1 = 2 → Q none σ) ∧ (x1 = 2 → (((σ 3 5) < 4 → Q none σ) ∧ (4 ≤ (σ 3 5) → ∀ (τ14 : w_M), q_Reader_fail 5 (σ 1 8) σ τ14 → Q none τ14))))))))) ∧ (¬ (σ 1 5) = 0 → ∀ (τ19 : w_M), q_Reader_fail 4 (σ 1 8) σ τ19 → ((¬ x1 = 1 → ((¬ x1 = 2 → Q none τ19) ∧ (x1 = 2 → (((τ19 3 5) < 4 → Q none τ19) ∧ (4 ≤ (τ19 3 5) → ∀ (τ20 : w_M), q_Reader_fail 5 (τ19 1 8) τ19 τ20 → Q none τ20))))) ∧ (x1 = 1 → ((7 ≤ (τ19 3 4) → ∀ (τ23 : w_M), q_Reader_fail 5 (τ19 1 8) τ19 τ23 → Q none τ23) ∧ ((τ19 3 4) < 7 → ((¬ x1 = 2 → Q none τ19) ∧ (x1 = 2 → (((τ19 3 5) < 4 → Q none τ19) ∧ (4 ≤ (τ19 3 5) → ∀ (τ24 : w_M), q_Reader_fail 5 (τ19 1 8) τ19 τ24 → Q none τ24)))))))))))) : w_Call (xs, (d + 1)) 23 [.inr (.inr (1, 1)), .inl x1] σ Q :=
  (w_mk (mid := 23) (by decide) rfl rfl rfl rfl rfl (Nat.le_of_ble_eq_true rfl) ⟨rfl, Or.inl (by decide)⟩ (wi_iload1 fReader_beginLine_0 (wi_if_ne fReader_beginLine_1 (fun c30 => (wi_iload1 fReader_beginLine_10 (wi_bipush fReader_beginLine_11 (wi_ic_ne fReader_beginLine_12 (fun c9 => (wi_iload1 fReader_beginLine_18 (wi_bipush fReader_beginLine_19 (wi_ic_ne fReader_beginLine_20 (fun c3 => (wi_ret0 fReader_beginLine_31 (((h.1 c30).1 c9).1 c3))) (fun c3 => (wi_aload0 fReader_beginLine_21 (wi_getf102 fReader_beginLine_22 (wi_getf205 fReader_beginLine_23 (wi_bipush fReader_beginLine_24 (wi_ic_lt fReader_beginLine_25 (fun c2 => (wi_ret0 fReader_beginLine_31 ((((h.1 c30).1 c9).2 c3).1 c2))) (fun c2 => (wi_aload0 fReader_beginLine_26 (wi_bipush fReader_beginLine_27 (wi_aload0 fReader_beginLine_28 (wi_getf108 fReader_beginLine_29 (wi_call3 fReader_beginLine_30 (Nat.le_of_ble_eq_true rfl) (k_Reader_fail (fun τ1 eτ1 => (wi_ret0 fReader_beginLine_31 (((((h.1 c30).1 c9).2 c3).2 c2) τ1 eτ1)))))))))))))))))))) (fun c9 => (wi_aload0 fReader_beginLine_13 (wi_getf102 fReader_beginLine_14 (wi_getf204 fReader_beginLine_15 (wi_bipush fReader_beginLine_16 (wi_ic_ge fReader_beginLine_17 (fun c8 => (wi_aload0 fReader_beginLine_26 (wi_bipush fReader_beginLine_27 (wi_aload0 fReader_beginLine_28 (wi_getf108 fReader_beginLine_29 (wi_call3 fReader_beginLine_30 (Nat.le_of_ble_eq_true rfl) (k_Reader_fail (fun τ4 eτ4 => (wi_ret0 fReader_beginLine_31 ((((h.1 c30).2 c9).1 c8) τ4 eτ4)))))))))) (fun c8 => (wi_iload1 fReader_beginLine_18 (wi_bipush fReader_beginLine_19 (wi_ic_ne fReader_beginLine_20 (fun c7 => (wi_ret0 fReader_beginLine_31 ((((h.1 c30).2 c9).2 c8).1 c7))) (fun c7 => (wi_aload0 fReader_beginLine_21 (wi_getf102 fReader_beginLine_22 (wi_getf205 fReader_beginLine_23 (wi_bipush fReader_beginLine_24 (wi_ic_lt fReader_beginLine_25 (fun c6 => (wi_ret0 fReader_beginLine_31 (((((h.1 c30).2 c9).2 c8).2 c7).1 c6))) (fun c6 => (wi_aload0 fReader_beginLine_26 (wi_bipush fReader_beginLine_27 (wi_aload0 fReader_beginLine_28 (wi_getf108 fReader_beginLine_29 (wi_call3 fReader_beginLine_30 (Nat.le_of_ble_eq_true rfl) (k_Reader_fail (fun τ5 eτ5 => (wi_ret0 fReader_beginLine_31 ((((((h.1 c30).2 c9).2 c8).2 c7).2 c6) τ5 eτ5)))))))))))))))))))))))))))))) (fun c30 => (wi_aload0 fReader_beginLine_2 (wi_getf105 fReader_beginLine_3 (wi_if_eq fReader_beginLine_4 (fun c29 => (wi_iload1 fReader_beginLine_10 (wi_bipush fReader_beginLine_11 (wi_ic_ne fReader_beginLine_12 (fun c18 => (wi_iload1 fReader_beginLine_18 (wi_bipush fReader_beginLine_19 (wi_ic_ne fReader_beginLine_20 (fun c12 => (wi_ret0 fReader_beginLine_31 ((((h.2 c30).1 c29).1 c18).1 c12))) (fun c12 => (wi_aload0 fReader_beginLine_21 (wi_getf102 fReader_beginLine_22 (wi_getf205 fReader_beginLine_23 (wi_bipush fReader_beginLine_24 (wi_ic_lt fReader_beginLine_25 (fun c11 => (wi_ret0 fReader_beginLine_31 (((((h.2 c30).1 c29).1 c18).2 c12).1 c11))) (fun c11 => (wi_aload0 fReader_beginLine_26 (wi_bipush fReader_beginLine_27 (wi_aload0 fReader_beginLine_28 (wi_getf108 fReader_beginLine_29 (wi_call3 fReader_beginLine_30 (Nat.le_of_ble_eq_true rfl) (k_Reader_fail (fun τ10 eτ10 => (wi_ret0 fReader_beginLine_31 ((((((h.2 c30).1 c29).1 c18).2 c12).2 c11) τ10 eτ10)))))))))))))))))))) (fun c18 => (wi_aload0 fReader_beginLine_13 (wi_getf102 fReader_beginLine_14 (wi_getf204 fReader_beginLine_15 (wi_bipush fReader_beginLine_16 (wi_ic_ge fReader_beginLine_17 (fun c17 => (wi_aload0 fReader_beginLine_26 (wi_bipush fReader_beginLine_27 (wi_aload0 fReader_beginLine_28 (wi_getf108 fReader_beginLine_29 (wi_call3 fReader_beginLine_30 (Nat.le_of_ble_eq_true rfl) (k_Reader_fail (fun τ13 eτ13 => (wi_ret0 fReader_beginLine_31 (((((h.2 c30).1 c29).2 c18).1 c17) τ13 eτ13)))))))))) (fun c17 => (wi_iload1 fReader_beginLine_18 (wi_bipush fReader_beginLine_19 (wi_ic_ne fReader_beginLine_20 (fun c16 => (wi_ret0 fReader_beginLine_31 (((((h.2 c30).1 c29).2 c18).2 c17).1 c16))) (fun c16 => (wi_aload0 fReader_beginLine_21 (wi_getf102 fReader_beginLine_22 (wi_getf205 fReader_beginLine_23 (wi_bipush fReader_beginLine_24 (wi_ic_lt fReader_beginLine_25 (fun c15 => (wi_ret0 fReader_beginLine_31 ((((((h.2 c30).1 c29).2 c18).2 c17).2 c16).1 c15))) (fun c15 => (wi_aload0 fReader_beginLine_26 (wi_bipush fReader_beginLine_27 (wi_aload0 fReader_beginLine_28 (wi_getf108 fReader_beginLine_29 (wi_call3 fReader_beginLine_30 (Nat.le_of_ble_eq_true rfl) (k_Reader_fail (fun τ14 eτ14 => (wi_ret0 fReader_beginLine_31 (((((((h.2 c30).1 c29).2 c18).2 c17).2 c16).2 c15) τ14 eτ14)))))))))))))))))))))))))))))) (fun c29 => (wi_aload0 fReader_beginLine_5 (wi_bipush fReader_beginLine_6 (wi_aload0 fReader_beginLine_7 (wi_getf108 fReader_beginLine_8 (wi_call3 fReader_beginLine_9 (Nat.le_of_ble_eq_true rfl) (k_Reader_fail (fun τ19 eτ19 => (wi_iload1 fReader_beginLine_10 (wi_bipush fReader_beginLine_11 (wi_ic_ne fReader_beginLine_12 (fun c28 => (wi_iload1 fReader_beginLine_18 (wi_bipush fReader_beginLine_19 (wi_ic_ne fReader_beginLine_20 (fun c22 => (wi_ret0 fReader_beginLine_31 (((((h.2 c30).2 c29) τ19 eτ19).1 c28).1 c22))) (fun c22 => (wi_aload0 fReader_beginLine_21 (wi_getf102 fReader_beginLine_22 (wi_getf205 fReader_beginLine_23 (wi_bipush fReader_beginLine_24 (wi_ic_lt fReader_beginLine_25 (fun c21 => (wi_ret0 fReader_beginLine_31 ((((((h.2 c30).2 c29) τ19 eτ19).1 c28).2 c22).1 c21))) (fun c21 => (wi_aload0 fReader_beginLine_26 (wi_bipush fReader_beginLine_27 (wi_aload0 fReader_beginLine_28 (wi_getf108 fReader_beginLine_29 (wi_call3 fReader_beginLine_30 (Nat.le_of_ble_eq_true rfl) (k_Reader_fail (fun τ20 eτ20 => (wi_ret0 fReader_beginLine_31 (((((((h.2 c30).2 c29) τ19 eτ19).1 c28).2 c22).2 c21) τ20 eτ20)))))))))))))))))))) (fun c28 => (wi_aload0 fReader_beginLine_13 (wi_getf102 fReader_beginLine_14 (wi_getf204 fReader_beginLine_15 (wi_bipush fReader_beginLine_16 (wi_ic_ge fReader_beginLine_17 (fun c27 => (wi_aload0 fReader_beginLine_26 (wi_bipush fReader_beginLine_27 (wi_aload0 fReader_beginLine_28 (wi_getf108 fReader_beginLine_29 (wi_call3 fReader_beginLine_30 (Nat.le_of_ble_eq_true rfl) (k_Reader_fail (fun τ23 eτ23 => (wi_ret0 fReader_beginLine_31 ((((((h.2 c30).2 c29) τ19 eτ19).2 c28).1 c27) τ23 eτ23)))))))))) (fun c27 => (wi_iload1 fReader_beginLine_18 (wi_bipush fReader_beginLine_19 (wi_ic_ne fReader_beginLine_20 (fun c26 => (wi_ret0 fReader_beginLine_31 ((((((h.2 c30).2 c29) τ19 eτ19).2 c28).2 c27).1 c26))) (fun c26 => (wi_aload0 fReader_beginLine_21 (wi_getf102 fReader_beginLine_22 (wi_getf205 fReader_beginLine_23 (wi_bipush fReader_beginLine_24 (wi_ic_lt fReader_beginLine_25 (fun c25 => (wi_ret0 fReader_beginLine_31 (((((((h.2 c30).2 c29) τ19 eτ19).2 c28).2 c27).2 c26).1 c25))) (fun c25 => (wi_aload0 fReader_beginLine_26 (wi_bipush fReader_beginLine_27 (wi_aload0 fReader_beginLine_28 (wi_getf108 fReader_beginLine_29 (wi_call3 fReader_beginLine_30 (Nat.le_of_ble_eq_true rfl) (k_Reader_fail (fun τ24 eτ24 => (wi_ret0 fReader_beginLine_31 ((((((((h.2 c30).2 c29) τ19 eτ19).2 c28).2 c27).2 c26).2 c25) τ24 eτ24))))))))))))))))))))))))))))))))))))))))))))
theorem k_Reader_beginLine {xs : List Int} {d : Nat} {Q : Option w_V → w_M → Prop} {x1 : Int} {σ : w_M} (hp : p_Reader_beginLine x1 σ) (hQ : ∀ σ' : w_M, q_Reader_beginLine x1 σ σ' → Q none σ') : w_Call (xs, d + 1) 23 [.inr (.inr (1, 1)), .inl x1] σ Q := by
  obtain ⟨h3, k0, k4⟩ := hp
  have eb : ln_b (d_ab σ) x1.toNat = if x1.toNat = 0 ∧ ¬ σ 1 5 = 0 then 4 else if (x1.toNat = 1 ∧ 7 ≤ σ 3 4) ∨ (x1.toNat = 2 ∧ 4 ≤ σ 3 5) then 5 else 0 := rfl
  have ok : ln_b (d_ab σ) x1.toNat = 0 → Q none σ := fun h => hQ _ ⟨fun _ => rfl, fun q => absurd h q⟩
  have no : ∀ (n : Int) (τ : w_M), ln_b (d_ab σ) x1.toNat = n → ¬ n = 0 → q_Reader_fail n (σ 1 8) σ τ → Q none τ := fun n τ hn h0 q => hQ _ ⟨fun h => absurd (hn.symm.trans h) h0, fun _ => by rw [hn]; exact q.1 h3⟩
  refine bReader_beginLine_0 ⟨fun c => ⟨fun c1 => ⟨fun c2 => ok (by rw [eb, if_neg (by omega), if_neg (by omega)]), fun c2 => ⟨fun c3 => ok (by rw [eb, if_neg (by omega), if_neg (by omega)]), fun c3 τ q => no 5 τ (by rw [eb, if_neg (by omega), if_pos (by omega)]) (by decide) q⟩⟩, fun c1 => ⟨fun c2 τ q => no 5 τ (by rw [eb, if_neg (by omega), if_pos (by omega)]) (by decide) q, fun c2 => ⟨fun c3 => ok (by rw [eb, if_neg (by omega), if_neg (by omega)]), fun c3 => by omega⟩⟩⟩, fun c => ⟨fun c1 => ⟨fun c2 => ⟨fun c3 => ok (by rw [eb, if_neg (by omega), if_neg (by omega)]), fun c3 => by omega⟩, fun c2 => by omega⟩, fun c1 τ q => ⟨fun c2 => ⟨fun c3 => no 4 τ (by rw [eb, if_pos (by omega)]) (by decide) q, fun c3 => by omega⟩, fun c2 => by omega⟩⟩⟩
noncomputable def p_Reader_readNumber (k j : Int) (σ : w_M) : Prop := ((r_ok σ ∧ σ 1 3 = 0) ∧ (0 ≤ σ 1 9 ∧ σ 1 9 ≤ σ 1 1)) ∧ (0 ≤ k ∧ k ≤ 4) ∧ (0 ≤ j ∧ j ≤ 2)
/-- all but the reader's own and what was told stands -/
noncomputable def r_f3 (σ σ' : w_M) : Prop := (∀ b, b ≠ 1 → b ≠ 12 → σ' b = σ b) ∧ σ' 1 1 = σ 1 1 ∧ σ' 1 5 = σ 1 5
noncomputable def q_Reader_readNumber (k j : Int) (σ σ' : w_M) : Prop := r_f3 σ σ' ∧ σ' 1 3 = nt_f (rT σ) (rL σ) (d_ab σ) k.toNat j.toNat (σ 1 9).toNat ∧ (¬ nt_f (rT σ) (rL σ) (d_ab σ) k.toNat j.toNat (σ 1 9).toNat = 0 → σ' 1 4 = ((tk_f (rT σ) (rL σ) (σ 1 9).toNat : Nat) : Int)) ∧
  (nt_f (rT σ) (rL σ) (d_ab σ) k.toNat j.toNat (σ 1 9).toNat = 0 → σ' 1 9 = ((tk_b (rT σ) (rL σ) (σ 1 9).toNat : Nat) : Int) ∧ σ' 12 j.toNat = tk_v (rT σ) (rL σ) (σ 1 9).toNat ∧ ∀ i, i ≠ j.toNat → σ' 12 i = σ 12 i)
theorem fReader_readNumber_0 : w_fe am_c24 0 1 (.aload 0) := ⟨rfl, rfl⟩
theorem fReader_readNumber_1 : w_fe am_c24 1 2 (.invokestatic 13) := ⟨rfl, rfl⟩
theorem fReader_readNumber_2 : w_fe am_c24 2 3 (.aload 0) := ⟨rfl, rfl⟩
theorem fReader_readNumber_3 : w_fe am_c24 3 4 (.getfield 107) := ⟨rfl, rfl⟩
theorem fReader_readNumber_4 : w_fe am_c24 4 5 (.bipush 2) := ⟨rfl, rfl⟩
theorem fReader_readNumber_5 : w_ic am_c24 5 6 .eq 12 := ⟨rfl, rfl⟩
theorem fReader_readNumber_6 : w_fe am_c24 6 7 (.aload 0) := ⟨rfl, rfl⟩
theorem fReader_readNumber_7 : w_fe am_c24 7 8 (.bipush 2) := ⟨rfl, rfl⟩
theorem fReader_readNumber_8 : w_fe am_c24 8 9 (.aload 0) := ⟨rfl, rfl⟩
theorem fReader_readNumber_9 : w_fe am_c24 9 10 (.getfield 108) := ⟨rfl, rfl⟩
theorem fReader_readNumber_10 : w_fe am_c24 10 11 (.invokestatic 18) := ⟨rfl, rfl⟩
theorem fReader_readNumber_11 : w_fe am_c24 11 12 (.return_) := ⟨rfl, rfl⟩
theorem fReader_readNumber_12 : w_fe am_c24 12 13 (.iload 1) := ⟨rfl, rfl⟩
theorem fReader_readNumber_13 : w_fe am_c24 13 14 (.bipush 3) := ⟨rfl, rfl⟩
theorem fReader_readNumber_14 : w_fe am_c24 14 15 (.imul) := ⟨rfl, rfl⟩
theorem fReader_readNumber_15 : w_fe am_c24 15 16 (.iload 2) := ⟨rfl, rfl⟩
theorem fReader_readNumber_16 : w_fe am_c24 16 17 (.iadd) := ⟨rfl, rfl⟩
theorem fReader_readNumber_17 : w_fe am_c24 17 18 (.istore 3) := ⟨rfl, rfl⟩
theorem fReader_readNumber_18 : w_fe am_c24 18 19 (.iload 3) := ⟨rfl, rfl⟩
theorem fReader_readNumber_19 : w_if am_c24 19 20 .lt 31 := ⟨rfl, rfl⟩
theorem fReader_readNumber_20 : w_fe am_c24 20 21 (.iload 3) := ⟨rfl, rfl⟩
theorem fReader_readNumber_21 : w_fe am_c24 21 22 (.getstatic 2) := ⟨rfl, rfl⟩
theorem fReader_readNumber_22 : w_fe am_c24 22 23 (.arraylength) := ⟨rfl, rfl⟩
theorem fReader_readNumber_23 : w_ic am_c24 23 24 .ge 31 := ⟨rfl, rfl⟩
theorem fReader_readNumber_24 : w_fe am_c24 24 25 (.iload 3) := ⟨rfl, rfl⟩
theorem fReader_readNumber_25 : w_fe am_c24 25 26 (.getstatic 3) := ⟨rfl, rfl⟩
theorem fReader_readNumber_26 : w_fe am_c24 26 27 (.arraylength) := ⟨rfl, rfl⟩
theorem fReader_readNumber_27 : w_ic am_c24 27 28 .ge 31 := ⟨rfl, rfl⟩
theorem fReader_readNumber_28 : w_fe am_c24 28 29 (.iload 2) := ⟨rfl, rfl⟩
theorem fReader_readNumber_29 : w_fe am_c24 29 30 (.bipush 3) := ⟨rfl, rfl⟩
theorem fReader_readNumber_30 : w_ic am_c24 30 31 .lt 32 := ⟨rfl, rfl⟩
theorem fReader_readNumber_31 : w_fe am_c24 31 32 (.return_) := ⟨rfl, rfl⟩
theorem fReader_readNumber_32 : w_fe am_c24 32 33 (.aload 0) := ⟨rfl, rfl⟩
theorem fReader_readNumber_33 : w_fe am_c24 33 34 (.getfield 110) := ⟨rfl, rfl⟩
theorem fReader_readNumber_34 : w_fe am_c24 34 35 (.getstatic 2) := ⟨rfl, rfl⟩
theorem fReader_readNumber_35 : w_fe am_c24 35 36 (.iload 3) := ⟨rfl, rfl⟩
theorem fReader_readNumber_36 : w_fe am_c24 36 37 (.iaload) := ⟨rfl, rfl⟩
theorem fReader_readNumber_37 : w_ic am_c24 37 38 .lt 44 := ⟨rfl, rfl⟩
theorem fReader_readNumber_38 : w_fe am_c24 38 39 (.aload 0) := ⟨rfl, rfl⟩
theorem fReader_readNumber_39 : w_fe am_c24 39 40 (.getfield 110) := ⟨rfl, rfl⟩
theorem fReader_readNumber_40 : w_fe am_c24 40 41 (.getstatic 3) := ⟨rfl, rfl⟩
theorem fReader_readNumber_41 : w_fe am_c24 41 42 (.iload 3) := ⟨rfl, rfl⟩
theorem fReader_readNumber_42 : w_fe am_c24 42 43 (.iaload) := ⟨rfl, rfl⟩
theorem fReader_readNumber_43 : w_ic am_c24 43 44 .le 50 := ⟨rfl, rfl⟩
theorem fReader_readNumber_44 : w_fe am_c24 44 45 (.aload 0) := ⟨rfl, rfl⟩
theorem fReader_readNumber_45 : w_fe am_c24 45 46 (.bipush 3) := ⟨rfl, rfl⟩
theorem fReader_readNumber_46 : w_fe am_c24 46 47 (.aload 0) := ⟨rfl, rfl⟩
theorem fReader_readNumber_47 : w_fe am_c24 47 48 (.getfield 108) := ⟨rfl, rfl⟩
theorem fReader_readNumber_48 : w_fe am_c24 48 49 (.invokestatic 18) := ⟨rfl, rfl⟩
theorem fReader_readNumber_49 : w_fe am_c24 49 50 (.return_) := ⟨rfl, rfl⟩
theorem fReader_readNumber_50 : w_fe am_c24 50 51 (.iload 1) := ⟨rfl, rfl⟩
theorem fReader_readNumber_51 : w_fe am_c24 51 52 (.bipush 3) := ⟨rfl, rfl⟩
theorem fReader_readNumber_52 : w_ic am_c24 52 53 .ne 59 := ⟨rfl, rfl⟩
theorem fReader_readNumber_53 : w_fe am_c24 53 54 (.aload 0) := ⟨rfl, rfl⟩
theorem fReader_readNumber_54 : w_fe am_c24 54 55 (.getfield 102) := ⟨rfl, rfl⟩
theorem fReader_readNumber_55 : w_fe am_c24 55 56 (.aload 0) := ⟨rfl, rfl⟩
theorem fReader_readNumber_56 : w_fe am_c24 56 57 (.getfield 110) := ⟨rfl, rfl⟩
theorem fReader_readNumber_57 : w_fe am_c24 57 58 (.invokestatic 29) := ⟨rfl, rfl⟩
theorem fReader_readNumber_58 : w_if am_c24 58 59 .ne 68 := ⟨rfl, rfl⟩
theorem fReader_readNumber_59 : w_fe am_c24 59 60 (.iload 1) := ⟨rfl, rfl⟩
theorem fReader_readNumber_60 : w_fe am_c24 60 61 (.bipush 4) := ⟨rfl, rfl⟩
theorem fReader_readNumber_61 : w_ic am_c24 61 62 .ne 73 := ⟨rfl, rfl⟩
theorem fReader_readNumber_62 : w_fe am_c24 62 63 (.aload 0) := ⟨rfl, rfl⟩
theorem fReader_readNumber_63 : w_fe am_c24 63 64 (.getfield 102) := ⟨rfl, rfl⟩
theorem fReader_readNumber_64 : w_fe am_c24 64 65 (.aload 0) := ⟨rfl, rfl⟩
theorem fReader_readNumber_65 : w_fe am_c24 65 66 (.getfield 110) := ⟨rfl, rfl⟩
theorem fReader_readNumber_66 : w_fe am_c24 66 67 (.invokestatic 30) := ⟨rfl, rfl⟩
theorem fReader_readNumber_67 : w_if am_c24 67 68 .eq 73 := ⟨rfl, rfl⟩
theorem fReader_readNumber_68 : w_fe am_c24 68 69 (.aload 0) := ⟨rfl, rfl⟩
theorem fReader_readNumber_69 : w_fe am_c24 69 70 (.bipush 4) := ⟨rfl, rfl⟩
theorem fReader_readNumber_70 : w_fe am_c24 70 71 (.aload 0) := ⟨rfl, rfl⟩
theorem fReader_readNumber_71 : w_fe am_c24 71 72 (.getfield 108) := ⟨rfl, rfl⟩
theorem fReader_readNumber_72 : w_fe am_c24 72 73 (.invokestatic 18) := ⟨rfl, rfl⟩
theorem fReader_readNumber_73 : w_fe am_c24 73 74 (.aload 0) := ⟨rfl, rfl⟩
theorem fReader_readNumber_74 : w_fe am_c24 74 75 (.getfield 106) := ⟨rfl, rfl⟩
theorem fReader_readNumber_75 : w_fe am_c24 75 76 (.iload 2) := ⟨rfl, rfl⟩
theorem fReader_readNumber_76 : w_fe am_c24 76 77 (.aload 0) := ⟨rfl, rfl⟩
theorem fReader_readNumber_77 : w_fe am_c24 77 78 (.getfield 110) := ⟨rfl, rfl⟩
theorem fReader_readNumber_78 : w_fe am_c24 78 79 (.iastore) := ⟨rfl, rfl⟩
theorem fReader_readNumber_79 : w_fe am_c24 79 80 (.return_) := ⟨rfl, rfl⟩
set_option maxRecDepth 20000 in
theorem bReader_readNumber_0 {xs : List Int} {d : Nat} {Q : Option w_V → w_M → Prop} {x1 : Int} {x2 : Int} {σ : w_M}
    (h : p_Reader_readToken σ ∧ (∀ (τ1 : w_M), q_Reader_readToken σ τ1 → (((τ1 1 7) = 2 → (w_in (x1 * 3) ∧ w_in ((x1 * 3) + x2) ∧ (∀ (y2 : Int), y2 = ((x1 * 3) + x2) → ((y2 < 0 → Q none τ1) ∧ (0 ≤ y2 → ((((w_carr xs 1011).length : Int) ≤ y2 → Q none τ1) ∧ (y2 < ((w_carr xs 1011).length : Int) → ((((w_carr xs 1012).length : Int) ≤ y2 → Q none τ1) ∧ (y2 < ((w_carr xs 1012).length : Int) → ((x2 < 3 → (((τ1 1 10) < ((w_carr xs 1011).getD y2.toNat 0) → ∀ (τ3 : w_M), q_Reader_fail 3 (τ1 1 8) τ1 τ3 → Q none τ3) ∧ (((w_carr xs 1011).getD y2.toNat 0) ≤ (τ1 1 10) → (((τ1 1 10) ≤ ((w_carr xs 1012).getD y2.toNat 0) → ((¬ x1 = 3 → ((¬ x1 = 4 → (0 ≤ x2 ∧ (∀ (τ4 : w_M), τ4 = w_up τ1 12 x2.toNat (τ1 1 10) → Q none τ4))) ∧ (x1 = 4 → ((¬ (¬ w_and (w_shr (τ1 3 6) (τ1 1 10)) 1 = 0) → (0 ≤ x2 ∧ (∀ (τ5 : w_M), τ5 = w_up τ1 12 x2.toNat (τ1 1 10) → Q none τ5))) ∧ ((¬ w_and (w_shr (τ1 3 6) (τ1 1 10)) 1 = 0) → ∀ (τ6 : w_M), q_Reader_fail 4 (τ1 1 8) τ1 τ6 → (0 ≤ x2 ∧ (∀ (τ7 : w_M), τ7 = w_up τ6 12 x2.toNat (τ6 1 10) → Q none τ7))))))) ∧ (x1 = 3 → (((¬ w_and (w_shr (τ1 3 2) (τ1 1 10)) 1 = 0) → ∀ (τ10 : w_M), q_Reader_fail 4 (τ1 1 8) τ1 τ10 → (0 ≤ x2 ∧ (∀ (τ11 : w_M), τ11 = w_up τ10 12 x2.toNat (τ10 1 10) → Q none τ11))) ∧ (¬ (¬ w_and (w_shr (τ1 3 2) (τ1 1 10)) 1 = 0) → ((¬ x1 = 4 → (0 ≤ x2 ∧ (∀ (τ12 : w_M), τ12 = w_up τ1 12 x2.toNat (τ1 1 10) → Q none τ12))) ∧ (x1 = 4 → ((¬ (¬ w_and (w_shr (τ1 3 6) (τ1 1 10)) 1 = 0) → (0 ≤ x2 ∧ (∀ (τ13 : w_M), τ13 = w_up τ1 12 x2.toNat (τ1 1 10) → Q none τ13))) ∧ ((¬ w_and (w_shr (τ1 3 6) (τ1 1 10)) 1 = 0) → ∀ (τ14 : w_M), q_Reader_fail 4 (τ1 1 8) τ1 τ14 → (0 ≤ x2 ∧ (∀ (τ15 : w_M), τ15 = w_up τ14 12 x2.toNat (τ14 1 10) → Q none τ15))))))))))) ∧ (((w_carr xs 1012).getD y2.toNat 0) < (τ1 1 10) → ∀ (τ20 : w_M), q_Reader_fail 3 (τ1 1 8) τ1 τ20 → Q none τ20))))) ∧ (3 ≤ x2 → Q none τ1))))))))))) ∧ (¬ (τ1 1 7) = 2 → ∀ (τ27 : w_M), q_Reader_fail 2 (τ1 1 8) τ1 τ27 → Q none τ27)))) : w_Call (xs, (d + 3)) 24 [.inr (.inr (1, 1)), .inl x1, .inl x2] σ Q :=
  (w_mk (mid := 24) (by decide) rfl rfl rfl rfl rfl (Nat.le_of_ble_eq_true rfl) ⟨rfl, Or.inl (by decide)⟩ (wi_aload0 fReader_readNumber_0 (wi_call1 fReader_readNumber_1 (Nat.le_of_ble_eq_true rfl) (k_Reader_readToken h.1 (fun τ1 eτ1 => (wi_aload0 fReader_readNumber_2 (wi_getf107 fReader_readNumber_3 (wi_bipush fReader_readNumber_4 (wi_ic_eq fReader_readNumber_5 (fun c28 => (wi_iload1 fReader_readNumber_12 (wi_bipush fReader_readNumber_13 (wi_imul fReader_readNumber_14 ((h.2 τ1 eτ1).1 c28).1 (wi_iload2 fReader_readNumber_15 (wi_iadd fReader_readNumber_16 ((h.2 τ1 eτ1).1 c28).2.1 (wi_istore3 fReader_readNumber_17 trivial (wi_iload3 fReader_readNumber_18 (wi_if_lt fReader_readNumber_19 (fun c26 => (wi_ret0 fReader_readNumber_31 ((((h.2 τ1 eτ1).1 c28).2.2 _ rfl).1 c26))) (fun c26 => (wi_iload3 fReader_readNumber_20 (wi_getstatic2 fReader_readNumber_21 (wi_alen6015 fReader_readNumber_22 (wi_ic_ge fReader_readNumber_23 (fun c25 => (wi_ret0 fReader_readNumber_31 (((((h.2 τ1 eτ1).1 c28).2.2 _ rfl).2 c26).1 c25))) (fun c25 => (wi_iload3 fReader_readNumber_24 (wi_getstatic3 fReader_readNumber_25 (wi_alen6015 fReader_readNumber_26 (wi_ic_ge fReader_readNumber_27 (fun c24 => (wi_ret0 fReader_readNumber_31 ((((((h.2 τ1 eτ1).1 c28).2.2 _ rfl).2 c26).2 c25).1 c24))) (fun c24 => (wi_iload2 fReader_readNumber_28 (wi_bipush fReader_readNumber_29 (wi_ic_lt fReader_readNumber_30 (fun c23 => (wi_aload0 fReader_readNumber_32 (wi_getf110 fReader_readNumber_33 (wi_getstatic2 fReader_readNumber_34 (wi_iload3 fReader_readNumber_35 (wi_iald6015 fReader_readNumber_36 c26 c25 (wi_ic_lt fReader_readNumber_37 (fun c22 => (wi_aload0 fReader_readNumber_44 (wi_bipush fReader_readNumber_45 (wi_aload0 fReader_readNumber_46 (wi_getf108 fReader_readNumber_47 (wi_call3 fReader_readNumber_48 (Nat.le_of_ble_eq_true rfl) (k_Reader_fail (fun τ3 eτ3 => (wi_ret0 fReader_readNumber_49 (((((((((h.2 τ1 eτ1).1 c28).2.2 _ rfl).2 c26).2 c25).2 c24).1 c23).1 c22) τ3 eτ3)))))))))) (fun c22 => (wi_aload0 fReader_readNumber_38 (wi_getf110 fReader_readNumber_39 (wi_getstatic3 fReader_readNumber_40 (wi_iload3 fReader_readNumber_41 (wi_iald6015 fReader_readNumber_42 c26 c24 (wi_ic_le fReader_readNumber_43 (fun c21 => (wi_iload1 fReader_readNumber_50 (wi_bipush fReader_readNumber_51 (wi_ic_ne fReader_readNumber_52 (fun c19 => (wi_iload1 fReader_readNumber_59 (wi_bipush fReader_readNumber_60 (wi_ic_ne fReader_readNumber_61 (fun c9 => (wi_aload0 fReader_readNumber_73 (wi_getf106 fReader_readNumber_74 (wi_iload2 fReader_readNumber_75 (wi_aload0 fReader_readNumber_76 (wi_getf110 fReader_readNumber_77 (wi_iast1003 fReader_readNumber_78 (((((((((((h.2 τ1 eτ1).1 c28).2.2 _ rfl).2 c26).2 c25).2 c24).1 c23).2 c22).1 c21).1 c19).1 c9).1 c23 (wi_ret0 fReader_readNumber_79 ((((((((((((h.2 τ1 eτ1).1 c28).2.2 _ rfl).2 c26).2 c25).2 c24).1 c23).2 c22).1 c21).1 c19).1 c9).2 _ rfl))))))))) (fun c9 => (wi_aload0 fReader_readNumber_62 (wi_getf102 fReader_readNumber_63 (wi_aload0 fReader_readNumber_64 (wi_getf110 fReader_readNumber_65 (wi_call2 fReader_readNumber_66 (Nat.le_of_ble_eq_true rfl) (k_Field_isThistly (wi_ifb_eq fReader_readNumber_67 (fun c8 => (wi_aload0 fReader_readNumber_73 (wi_getf106 fReader_readNumber_74 (wi_iload2 fReader_readNumber_75 (wi_aload0 fReader_readNumber_76 (wi_getf110 fReader_readNumber_77 (wi_iast1003 fReader_readNumber_78 ((((((((((((h.2 τ1 eτ1).1 c28).2.2 _ rfl).2 c26).2 c25).2 c24).1 c23).2 c22).1 c21).1 c19).2 c9).1 c8).1 c23 (wi_ret0 fReader_readNumber_79 (((((((((((((h.2 τ1 eτ1).1 c28).2.2 _ rfl).2 c26).2 c25).2 c24).1 c23).2 c22).1 c21).1 c19).2 c9).1 c8).2 _ rfl))))))))) (fun c8 => (wi_aload0 fReader_readNumber_68 (wi_bipush fReader_readNumber_69 (wi_aload0 fReader_readNumber_70 (wi_getf108 fReader_readNumber_71 (wi_call3 fReader_readNumber_72 (Nat.le_of_ble_eq_true rfl) (k_Reader_fail (fun τ6 eτ6 => (wi_aload0 fReader_readNumber_73 (wi_getf106 fReader_readNumber_74 (wi_iload2 fReader_readNumber_75 (wi_aload0 fReader_readNumber_76 (wi_getf110 fReader_readNumber_77 (wi_iast1003 fReader_readNumber_78 (((((((((((((h.2 τ1 eτ1).1 c28).2.2 _ rfl).2 c26).2 c25).2 c24).1 c23).2 c22).1 c21).1 c19).2 c9).2 c8) τ6 eτ6).1 c23 (wi_ret0 fReader_readNumber_79 ((((((((((((((h.2 τ1 eτ1).1 c28).2.2 _ rfl).2 c26).2 c25).2 c24).1 c23).2 c22).1 c21).1 c19).2 c9).2 c8) τ6 eτ6).2 _ rfl)))))))))))))))))))))))))))) (fun c19 => (wi_aload0 fReader_readNumber_53 (wi_getf102 fReader_readNumber_54 (wi_aload0 fReader_readNumber_55 (wi_getf110 fReader_readNumber_56 (wi_call2 fReader_readNumber_57 (Nat.le_of_ble_eq_true rfl) (k_Field_isCloudy (wi_ifb_ne fReader_readNumber_58 (fun c18 => (wi_aload0 fReader_readNumber_68 (wi_bipush fReader_readNumber_69 (wi_aload0 fReader_readNumber_70 (wi_getf108 fReader_readNumber_71 (wi_call3 fReader_readNumber_72 (Nat.le_of_ble_eq_true rfl) (k_Reader_fail (fun τ10 eτ10 => (wi_aload0 fReader_readNumber_73 (wi_getf106 fReader_readNumber_74 (wi_iload2 fReader_readNumber_75 (wi_aload0 fReader_readNumber_76 (wi_getf110 fReader_readNumber_77 (wi_iast1003 fReader_readNumber_78 ((((((((((((h.2 τ1 eτ1).1 c28).2.2 _ rfl).2 c26).2 c25).2 c24).1 c23).2 c22).1 c21).2 c19).1 c18) τ10 eτ10).1 c23 (wi_ret0 fReader_readNumber_79 (((((((((((((h.2 τ1 eτ1).1 c28).2.2 _ rfl).2 c26).2 c25).2 c24).1 c23).2 c22).1 c21).2 c19).1 c18) τ10 eτ10).2 _ rfl)))))))))))))))) (fun c18 => (wi_iload1 fReader_readNumber_59 (wi_bipush fReader_readNumber_60 (wi_ic_ne fReader_readNumber_61 (fun c17 => (wi_aload0 fReader_readNumber_73 (wi_getf106 fReader_readNumber_74 (wi_iload2 fReader_readNumber_75 (wi_aload0 fReader_readNumber_76 (wi_getf110 fReader_readNumber_77 (wi_iast1003 fReader_readNumber_78 ((((((((((((h.2 τ1 eτ1).1 c28).2.2 _ rfl).2 c26).2 c25).2 c24).1 c23).2 c22).1 c21).2 c19).2 c18).1 c17).1 c23 (wi_ret0 fReader_readNumber_79 (((((((((((((h.2 τ1 eτ1).1 c28).2.2 _ rfl).2 c26).2 c25).2 c24).1 c23).2 c22).1 c21).2 c19).2 c18).1 c17).2 _ rfl))))))))) (fun c17 => (wi_aload0 fReader_readNumber_62 (wi_getf102 fReader_readNumber_63 (wi_aload0 fReader_readNumber_64 (wi_getf110 fReader_readNumber_65 (wi_call2 fReader_readNumber_66 (Nat.le_of_ble_eq_true rfl) (k_Field_isThistly (wi_ifb_eq fReader_readNumber_67 (fun c16 => (wi_aload0 fReader_readNumber_73 (wi_getf106 fReader_readNumber_74 (wi_iload2 fReader_readNumber_75 (wi_aload0 fReader_readNumber_76 (wi_getf110 fReader_readNumber_77 (wi_iast1003 fReader_readNumber_78 (((((((((((((h.2 τ1 eτ1).1 c28).2.2 _ rfl).2 c26).2 c25).2 c24).1 c23).2 c22).1 c21).2 c19).2 c18).2 c17).1 c16).1 c23 (wi_ret0 fReader_readNumber_79 ((((((((((((((h.2 τ1 eτ1).1 c28).2.2 _ rfl).2 c26).2 c25).2 c24).1 c23).2 c22).1 c21).2 c19).2 c18).2 c17).1 c16).2 _ rfl))))))))) (fun c16 => (wi_aload0 fReader_readNumber_68 (wi_bipush fReader_readNumber_69 (wi_aload0 fReader_readNumber_70 (wi_getf108 fReader_readNumber_71 (wi_call3 fReader_readNumber_72 (Nat.le_of_ble_eq_true rfl) (k_Reader_fail (fun τ14 eτ14 => (wi_aload0 fReader_readNumber_73 (wi_getf106 fReader_readNumber_74 (wi_iload2 fReader_readNumber_75 (wi_aload0 fReader_readNumber_76 (wi_getf110 fReader_readNumber_77 (wi_iast1003 fReader_readNumber_78 ((((((((((((((h.2 τ1 eτ1).1 c28).2.2 _ rfl).2 c26).2 c25).2 c24).1 c23).2 c22).1 c21).2 c19).2 c18).2 c17).2 c16) τ14 eτ14).1 c23 (wi_ret0 fReader_readNumber_79 (((((((((((((((h.2 τ1 eτ1).1 c28).2.2 _ rfl).2 c26).2 c25).2 c24).1 c23).2 c22).1 c21).2 c19).2 c18).2 c17).2 c16) τ14 eτ14).2 _ rfl)))))))))))))))))))))))))))))))))))))))) (fun c21 => (wi_aload0 fReader_readNumber_44 (wi_bipush fReader_readNumber_45 (wi_aload0 fReader_readNumber_46 (wi_getf108 fReader_readNumber_47 (wi_call3 fReader_readNumber_48 (Nat.le_of_ble_eq_true rfl) (k_Reader_fail (fun τ20 eτ20 => (wi_ret0 fReader_readNumber_49 ((((((((((h.2 τ1 eτ1).1 c28).2.2 _ rfl).2 c26).2 c25).2 c24).1 c23).2 c22).2 c21) τ20 eτ20)))))))))))))))))))))))) (fun c23 => (wi_ret0 fReader_readNumber_31 (((((((h.2 τ1 eτ1).1 c28).2.2 _ rfl).2 c26).2 c25).2 c24).2 c23)))))))))))))))))))))))))) (fun c28 => (wi_aload0 fReader_readNumber_6 (wi_bipush fReader_readNumber_7 (wi_aload0 fReader_readNumber_8 (wi_getf108 fReader_readNumber_9 (wi_call3 fReader_readNumber_10 (Nat.le_of_ble_eq_true rfl) (k_Reader_fail (fun τ27 eτ27 => (wi_ret0 fReader_readNumber_11 (((h.2 τ1 eτ1).2 c28) τ27 eτ27)))))))))))))))))))
set_option maxHeartbeats 2000000 in
theorem k_Reader_readNumber {xs : List Int} {d : Nat} {Q : Option w_V → w_M → Prop} {x1 : Int} {x2 : Int} {σ : w_M} (hp : p_Reader_readNumber x1 x2 σ) (hQ : ∀ σ' : w_M, q_Reader_readNumber x1 x2 σ σ' → Q none σ') : w_Call (xs, d + 3) 24 [.inr (.inr (1, 1)), .inl x1, .inl x2] σ Q := by
  obtain ⟨⟨⟨hk, h3⟩, h9⟩, ⟨k0, k4⟩, j0, j2⟩ := hp
  obtain ⟨k, rfl⟩ := Int.eq_ofNat_of_zero_le k0
  obtain ⟨j, rfl⟩ := Int.eq_ofNat_of_zero_le j0
  unfold q_Reader_readNumber at hQ
  rw [Int.toNat_natCast, Int.toNat_natCast] at hQ
  obtain ⟨p, hp9⟩ : ∃ p : Nat, (σ 1 9).toNat = p := ⟨_, rfl⟩
  rw [hp9] at hQ
  have hD2 : d_ab σ 0 2 = σ 3 2 := rfl
  have hD6 : d_ab σ 0 6 = σ 3 6 := rfl
  refine bReader_readNumber_0 ⟨⟨⟨hk, h3⟩, h9⟩, fun τ1 hq1 => ?_⟩
  unfold q_Reader_readToken at hq1
  rw [hp9] at hq1
  generalize hT : rT σ = T at *
  generalize hL : rL σ = L at *
  obtain ⟨F, t8, t9, t7, t10, tf, tn⟩ := hq1
  have F3 : r_f3 σ τ1 := ⟨fun b hb _ => F.1 b hb, F.2⟩
  have z3 : τ1 3 = σ 3 := F.1 3 (by decide)
  have lenlo : ((w_carr xs 1011).length : Int) = 15 := rfl
  have lenhi : ((w_carr xs 1012).length : Int) = 15 := rfl
  -- a fault that is found here
  have bad : ∀ (n : Int) (τ : w_M), nt_f T L (d_ab σ) k j p = n → ¬ n = 0 → ¬ tk_k T L p = 4 → q_Reader_fail n (τ1 1 8) τ1 τ → (r_f3 σ τ ∧ τ 1 3 = n ∧ τ 1 4 = ((tk_f T L p : Nat) : Int)) := fun n τ hn h0 h4 q => by
    have e := q.1 (tn h4).1
    refine ⟨⟨fun b hb _ => by rw [e, w_up_ne hb, w_up_ne hb]; exact F.1 b hb, by rw [e, w_up_j (by decide), w_up_j (by decide)]; exact F.2.1, by rw [e, w_up_j (by decide), w_up_j (by decide)]; exact F.2.2⟩, ?_, ?_⟩
    · rw [e, w_up_j (by decide), w_up_at]
    · rw [e, w_up_at, t8]
  have fin : ∀ (n : Int) (τ : w_M), nt_f T L (d_ab σ) k j p = n → ¬ n = 0 → r_f3 σ τ ∧ τ 1 3 = n ∧ τ 1 4 = ((tk_f T L p : Nat) : Int) → Q none τ := fun n τ hn h0 h => hQ _ ⟨h.1, by rw [h.2.1, hn], fun _ => h.2.2, fun q => absurd (hn.symm.trans q) h0⟩
  refine ⟨fun c => ?_, fun c τ27 q27 => ?_⟩
  · rw [t7] at c
    have k4' : ¬ tk_k T L p = 4 := by omega
    have ev := t10 c
    have eidx : ((k : Int) * 3 + (j : Int)).toNat = 3 * k + j := by omega
    have good : nt_f T L (d_ab σ) k j p = 0 → ∀ τ : w_M, τ = w_up τ1 12 j (tk_v T L p) → Q none τ := fun hn τ t => by
      refine hQ _ ⟨⟨fun b hb hb2 => by rw [t, w_up_ne hb2]; exact F.1 b hb, by rw [t, w_up_ne (by decide)]; exact F.2.1, by rw [t, w_up_ne (by decide)]; exact F.2.2⟩, by rw [t, w_up_ne (by decide), hn]; exact (tn k4').1, fun q => absurd hn q, fun _ => ⟨by rw [t, w_up_ne (by decide)]; exact t9 (by omega), by rw [t, w_up_at], fun i hi => ?_⟩⟩
      rw [t, w_up_j hi, F.1 12 (by decide)]
    have nt : nt_f T L (d_ab σ) k j p = if tk_v T L p < ln_lo k j ∨ ln_hi k j < tk_v T L p then 3 else if (k = 3 ∧ ¬ w_and (w_shr (σ 3 2) (tk_v T L p)) 1 = 0) ∨ (k = 4 ∧ ¬ w_and (w_shr (σ 3 6) (tk_v T L p)) 1 = 0) then 4 else 0 := by
      unfold nt_f
      rw [if_neg k4', if_neg (fun q => q c), hD2, hD6]
    refine ⟨⟨by omega, by omega⟩, ⟨by omega, by omega⟩, fun y2 e2 => ⟨fun c2 => by omega, fun c2 => ⟨fun c3 => by omega, fun c3 => ⟨fun c4 => by omega, fun c4 => ⟨fun c5 => ?_, fun c5 => by omega⟩⟩⟩⟩⟩
    have elo : (w_carr xs 1011).getD y2.toNat 0 = ln_lo k j := by rw [e2, eidx]; rfl
    have ehi : (w_carr xs 1012).getD y2.toNat 0 = ln_hi k j := by rw [e2, eidx]; rfl
    rw [elo, ehi, ev, z3, Int.toNat_natCast]
    have four : (k = 3 ∧ ¬ w_and (w_shr (σ 3 2) (tk_v T L p)) 1 = 0) ∨ (k = 4 ∧ ¬ w_and (w_shr (σ 3 6) (tk_v T L p)) 1 = 0) → ln_lo k j ≤ tk_v T L p → tk_v T L p ≤ ln_hi k j → ∀ τ6 : w_M, q_Reader_fail 4 (τ1 1 8) τ1 τ6 → ∀ τ7 : w_M, τ7 = w_up τ6 12 j (τ6 1 10) → Q none τ7 := fun hb hl hh τ6 q6 τ7 t7' => by
      have hn : nt_f T L (d_ab σ) k j p = 4 := by rw [nt, if_neg (by omega), if_pos hb]
      obtain ⟨b1, b2, b3⟩ := bad 4 τ6 hn (by decide) k4' q6
      refine fin 4 τ7 hn (by decide) ⟨⟨fun b hb hb2 => by rw [t7', w_up_ne hb2]; exact b1.1 b hb hb2, by rw [t7', w_up_ne (by decide)]; exact b1.2.1, by rw [t7', w_up_ne (by decide)]; exact b1.2.2⟩, by rw [t7', w_up_ne (by decide)]; exact b2, by rw [t7', w_up_ne (by decide)]; exact b3⟩
    refine ⟨fun c6 τ3 q3 => fin 3 τ3 (by rw [nt, if_pos (Or.inl c6)]) (by decide) (bad 3 τ3 (by rw [nt, if_pos (Or.inl c6)]) (by decide) k4' q3), fun c6 => ⟨fun c7 => ⟨fun c8 => ⟨fun c9 => ⟨by omega, fun τ4 t4 => ?_⟩, fun c9 => ⟨fun c10 => ⟨by omega, fun τ5 t5 => ?_⟩, fun c10 τ6 q6 => ⟨by omega, fun τ7 t7' => ?_⟩⟩⟩, fun c8 => ⟨fun c9 τ10 q10 => ⟨by omega, fun τ11 t11 => ?_⟩, fun c9 => ⟨fun c10 => ⟨by omega, fun τ12 t12 => ?_⟩, fun c10 => by omega⟩⟩⟩, fun c7 τ20 q20 => fin 3 τ20 (by rw [nt, if_pos (Or.inr c7)]) (by decide) (bad 3 τ20 (by rw [nt, if_pos (Or.inr c7)]) (by decide) k4' q20)⟩⟩
    · exact good (by rw [nt, if_neg (by omega), if_neg (by omega)]) τ4 t4
    · exact good (by rw [nt, if_neg (by omega), if_neg (fun q => q.elim (fun q => by omega) (fun q => c10 q.2))]) τ5 t5
    · exact four (Or.inr ⟨by omega, c10⟩) c6 c7 τ6 q6 τ7 t7'
    · exact four (Or.inl ⟨by omega, c9⟩) c6 c7 τ10 q10 τ11 t11
    · exact good (by rw [nt, if_neg (by omega), if_neg (fun q => q.elim (fun q => c9 q.2) (fun q => by omega))]) τ12 t12
  · rw [t7] at c
    by_cases h4 : tk_k T L p = 4
    · have e27 := q27.2 (by rw [(tf h4).1]; decide)
      have hn : nt_f T L (d_ab σ) k j p = 1 := by unfold nt_f; rw [if_pos h4]
      refine fin 1 τ27 hn (by decide) ?_
      rw [e27]
      exact ⟨F3, (tf h4).1, (tf h4).2⟩
    · have hn : nt_f T L (d_ab σ) k j p = 2 := by unfold nt_f; rw [if_neg h4, if_pos c]
      exact fin 2 τ27 hn (by decide) (bad 2 τ27 hn (by decide) h4 q27)
