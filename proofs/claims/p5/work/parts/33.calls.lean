/-! What each call answers and changes, said once for both -/
noncomputable def c_q (F : Int) (G : w_S) (σ : w_M) (x : Int) (σ' : w_M) : Prop := x = F ∧ CI σ' ∧ cS σ' = G ∧ (∀ b, 122 ≤ b → σ' b = σ b) ∧ σ' 0 9 = σ 0 9
noncomputable def m_q (F : Int) (G : w_S) (σ : w_M) (x : Int) (σ' : w_M) : Prop := x = F ∧ MI σ' ∧ mS σ' = G ∧ (∀ b, b < 122 → σ' b = σ b) ∧ σ' 122 27 = σ 122 27
theorem c_qr {σ : w_M} {F x : Int} (hC : CI σ) (e : x = F) : c_q F (cS σ) σ x σ := ⟨e, hC, rfl, fun _ _ => rfl, rfl⟩
theorem CI_scratch {σ σ' : w_M} (hC : CI σ) (h : w_fr σ σ' 31 80) : CI σ' := ⟨by rw [cS_scratch h]; exact hC.1, cX_fr hC.2 (by rw [h 14 (by omega)]) (by rw [h 0 (by omega)]) (by rw [h 89 (by omega)]) (by rw [h 106 (by omega)])⟩
theorem c_qs {σ σ' : w_M} {F x : Int} (hC : CI σ) (h : w_fr σ σ' 31 80) (e : x = F) : c_q F (cS σ) σ x σ' := ⟨e, CI_scratch hC h, cS_scratch h, fun b hb => h b (by omega), by rw [h 0 (by omega)]⟩
theorem sWF_0 {S : w_S} (h : sWF S) {A' : w_M} (hA : n_WF A') (e0 : A' 0 0 = S 0 0 0) (e4 : A' 0 4 = S 0 0 4) (e5 : A' 0 5 = S 0 0 5) : sWF (w_sp S 0 A') := by
  obtain ⟨h0, h1, h2, h3, h4, h5, h6, h7, h8⟩ := h
  refine ⟨hA, h1, ?_, h3, h4, h5, h6, ?_, ?_⟩
  · show paWF A' (S 2)
    unfold paWF at h2 ⊢
    rw [e5]
    exact h2
  · intro hk
    have := h7 hk
    show imWF A' (S 5) (S 6) (S 7)
    unfold imWF at this ⊢
    rw [e0, e4, e5]
    exact this
  · intro hk
    have := h8 hk
    show imWF A' (S 8) (S 9) (S 10)
    unfold imWF at this ⊢
    rw [e0, e4, e5]
    exact this
theorem sWF_1 {S : w_S} (h : sWF S) {B : w_M} (hB : seWF B) : sWF (w_sp S 1 B) := ⟨h.1, hB, h.2.2⟩
theorem sWF_2 {S : w_S} (h : sWF S) {C : w_M} (hC : paWF (S 0) C) : sWF (w_sp S 2 C) := ⟨h.1, h.2.1, hC, h.2.2.2⟩
theorem sWF_3 {S : w_S} (h : sWF S) {T : w_M} (hT : taWF T) : sWF (w_sp S 3 T) := ⟨h.1, h.2.1, h.2.2.1, hT, h.2.2.2.2⟩
theorem sWF_4 {S : w_S} (h : sWF S) {H : w_M} (hH : shWF H) : sWF (w_sp S 4 H) := ⟨h.1, h.2.1, h.2.2.1, h.2.2.2.1, hH, h.2.2.2.2.2⟩
theorem c_q0 {σ σ' : w_M} {A' : w_M} {F x : Int} (hC : CI σ) (hf : w_fr σ σ' 14 23) (hA : w_ab σ' 14 = A') (hW : n_WF A') (e0 : A' 0 0 = σ 14 0) (e4 : A' 0 4 = σ 14 4) (e5 : A' 0 5 = σ 14 5) (hm : 0 ≤ σ' 14 6 ∧ σ' 14 6 ≤ 127) (hx : x = F) : c_q F (w_sp (cS σ) 0 A') σ x σ' := by
  have e : cS σ' = w_sp (cS σ) 0 A' := by rw [cS_part0 hf, hA]
  refine ⟨hx, ⟨?_, ?_⟩, e, fun b hb => hf b (by omega), by rw [hf 0 (by omega)]⟩
  · rw [e]
    exact sWF_0 hC.1 hW e0 e4 e5
  · have hX := hC.2
    unfold cX k_ab at hX ⊢
    rw [hf 0 (by omega), hf 89 (by omega), hf 106 (by omega)]
    exact ⟨hm, hX.2⟩
theorem c_q1 {σ σ' : w_M} {B : w_M} {F x : Int} (hC : CI σ) (hf : w_fr σ σ' 23 27) (hB : s_ab σ' 23 = B) (hW : seWF B) (hx : x = F) : c_q F (w_sp (cS σ) 1 B) σ x σ' := by
  have e : cS σ' = w_sp (cS σ) 1 B := by rw [cS_part1 hf, hB]
  exact ⟨hx, ⟨by rw [e]; exact sWF_1 hC.1 hW, cX_fr hC.2 (by rw [hf 14 (by omega)]) (by rw [hf 0 (by omega)]) (by rw [hf 89 (by omega)]) (by rw [hf 106 (by omega)])⟩, e, fun b hb => hf b (by omega), by rw [hf 0 (by omega)]⟩
theorem c_q2 {σ σ' : w_M} {B : w_M} {F x : Int} (hC : CI σ) (hf : w_fr σ σ' 27 30) (hB : c_ab σ' 27 = B) (hW : paWF (w_ab σ 14) B) (hx : x = F) : c_q F (w_sp (cS σ) 2 B) σ x σ' := by
  have e : cS σ' = w_sp (cS σ) 2 B := by rw [cS_part2 hf, hB]
  exact ⟨hx, ⟨by rw [e]; exact sWF_2 hC.1 hW, cX_fr hC.2 (by rw [hf 14 (by omega)]) (by rw [hf 0 (by omega)]) (by rw [hf 89 (by omega)]) (by rw [hf 106 (by omega)])⟩, e, fun b hb => hf b (by omega), by rw [hf 0 (by omega)]⟩
theorem c_q3 {σ σ' : w_M} {T : w_M} {F x : Int} (hC : CI σ) (hf : w_fr σ σ' 0 13) (h7 : σ' 0 7 = σ 0 7) (h9 : σ' 0 9 = σ 0 9) (hT : t_ab σ' = T) (hW : taWF T) (hx : x = F) : c_q F (w_sp (cS σ) 3 T) σ x σ' := by
  have e : cS σ' = w_sp (cS σ) 3 T := by rw [cS_part3 hf h7, hT]
  exact ⟨hx, ⟨by rw [e]; exact sWF_3 hC.1 hW, cX_fr hC.2 (by rw [hf 14 (by omega)]) h7 (by rw [hf 89 (by omega)]) (by rw [hf 106 (by omega)])⟩, e, fun b hb => hf b (by omega), h9⟩
theorem c_q4 {σ σ' : w_M} {H : w_M} {F x : Int} (hC : CI σ) (hf : w_fr σ σ' 80 88) (hH : h_ab σ' = H) (hW : shWF H) (hx : x = F) : c_q F (w_sp (cS σ) 4 H) σ x σ' := by
  have e : cS σ' = w_sp (cS σ) 4 H := by rw [cS_part4 hf, hH]
  exact ⟨hx, ⟨by rw [e]; exact sWF_4 hC.1 hW, cX_fr hC.2 (by rw [hf 14 (by omega)]) (by rw [hf 0 (by omega)]) (by rw [hf 89 (by omega)]) (by rw [hf 106 (by omega)])⟩, e, fun b hb => hf b (by omega), by rw [hf 0 (by omega)]⟩
theorem m_qr {σ : w_M} {F x : Int} (hM : MI σ) (e : x = F) : m_q F (mS σ) σ x σ := ⟨e, hM, rfl, fun _ _ => rfl, rfl⟩
theorem m_qs {σ σ' : w_M} {F x : Int} (hM : MI σ) (h : w_f1 σ σ' 124) (e : x = F) : m_q F (mS σ) σ x σ' := ⟨e, by unfold MI; rw [mS_f1 hM h]; exact hM, mS_f1 hM h, fun b hb => h b (by omega), by rw [h 122 (by decide)]⟩
theorem m_q0 {σ σ' : w_M} {A' : w_M} {F x : Int} (hM : MI σ) (hf : w_f1 σ σ' 123) (hx3 : ∀ x, 48 ≤ x → σ' 123 x = σ 123 x) (hA : w_am σ' 123 0 = A') (hW : n_WF A') (e0 : A' 0 0 = σ 122 3) (e4 : A' 0 4 = σ 122 4) (e5 : A' 0 5 = σ 122 5) (hx : x = F) : m_q F (w_sp (mS σ) 0 A') σ x σ' := by
  have e : mS σ' = w_sp (mS σ) 0 A' := by rw [mS_part0 hM hf hx3, hA]
  exact ⟨hx, by unfold MI; rw [e]; exact sWF_0 hM hW e0 e4 e5, e, fun b hb => hf b (by omega), by rw [hf 122 (by decide)]⟩
/-- a change of one number of the night, and what it was -/
noncomputable def F_set (S : w_S) (P : Prop) (d j : Nat) : Int := @ite _ P (Classical.propDecidable P) (S 0 d j) (-1)
noncomputable def G_set (S : w_S) (P : Prop) (d j : Nat) (v : Int) : w_S := @ite _ P (Classical.propDecidable P) (w_sp S 0 (w_up (S 0) d j v)) S
theorem F_set_t {S : w_S} {P : Prop} {d j : Nat} (h : P) : F_set S P d j = S 0 d j := if_pos h
theorem F_set_f {S : w_S} {P : Prop} {d j : Nat} (h : ¬ P) : F_set S P d j = -1 := if_neg h
theorem G_set_t {S : w_S} {P : Prop} {d j : Nat} {v : Int} (h : P) : G_set S P d j v = w_sp S 0 (w_up (S 0) d j v) := if_pos h
theorem G_set_f {S : w_S} {P : Prop} {d j : Nat} {v : Int} (h : ¬ P) : G_set S P d j v = S := if_neg h
noncomputable def F_feed (S : w_S) (c : Int) : Int := if 0 ≤ c ∧ c ≤ 127 then (if S 3 0 0 < 160 then S 3 0 0 + 1 else -3) else -1
noncomputable def G_feed (S : w_S) (c : Int) : w_S := if (0 ≤ c ∧ c ≤ 127) ∧ S 3 0 0 < 160 then w_sp S 3 (w_up (w_up (S 3) 1 (S 3 0 0).toNat c) 0 0 (S 3 0 0 + 1)) else S
noncomputable def F_end (S : w_S) (n : Int) : Int := if 0 ≤ n ∧ n ≤ S 3 0 0 then S 3 0 0 else -1
noncomputable def t_cut (T : w_M) (n : Int) : w_M := fun d i => if d = 1 then (if i < n.toNat then T 1 i else 0) else if d = 0 ∧ i = 0 then n else T d i
noncomputable def G_end (S : w_S) (n : Int) : w_S := if 0 ≤ n ∧ n ≤ S 3 0 0 then w_sp S 3 (t_cut (S 3) n) else S
noncomputable def F_fault (S : w_S) : Int := S 3 0 1
noncomputable def F_rule (S : w_S) (w : Int) : Int := if w = 0 then S 0 0 0 else if w = 1 then S 0 0 1 else if w = 2 then S 0 0 2 else if w = 3 then S 0 0 4 else if w = 4 then S 0 0 5 else if w = 5 then S 0 0 3 else if w = 6 then n_sd (S 0) else -1
noncomputable def F_strip (S : w_S) (i w : Int) : Int := if 0 ≤ i ∧ i < S 0 0 4 then (if w = 0 then S 0 1 i.toNat else if w = 1 then S 0 2 i.toNat else if w = 2 then S 0 9 i.toNat else if w = 3 then ((n_rat (S 0) i (n_n (S 0)) : Nat) : Int) else -1) else -1
noncomputable def F_reaper (S : w_S) (r w : Int) : Int := n_tell (S 0) r w
noncomputable def F_harvest (S : w_S) (o : Int) : Int := if 0 ≤ o ∧ o ≤ 3 then S 0 8 o.toNat else -1
noncomputable def P_send (S : w_S) (r i : Int) : Prop := (0 ≤ r ∧ r < S 0 0 5) ∧ (0 ≤ i ∧ i < S 0 0 4)
noncomputable def P_whet (S : w_S) (r e : Int) : Prop := (0 ≤ r ∧ r < S 0 0 5) ∧ (0 ≤ e ∧ e ≤ 3)
noncomputable def P_fill (S : w_S) (r v : Int) : Prop := (0 ≤ r ∧ r < S 0 0 5) ∧ (0 ≤ v ∧ v ≤ 9)
noncomputable def P_own (S : w_S) (i o : Int) : Prop := (0 ≤ i ∧ i < S 0 0 4) ∧ (0 ≤ o ∧ o ≤ 3)
noncomputable def P_grow (S : w_S) (i y : Int) : Prop := (0 ≤ i ∧ i < S 0 0 4) ∧ (0 ≤ y ∧ y ≤ 40)
noncomputable def P_thistle (S : w_S) (i : Int) : Prop := 0 ≤ i ∧ i < S 0 0 4
noncomputable def F_send (S : w_S) (r i : Int) : Int := F_set S (P_send S r i) 6 r.toNat
noncomputable def G_send (S : w_S) (r i : Int) : w_S := G_set S (P_send S r i) 6 r.toNat i
noncomputable def F_whet (S : w_S) (r i : Int) : Int := F_set S (P_whet S r i) 5 r.toNat
noncomputable def G_whet (S : w_S) (r i : Int) : w_S := G_set S (P_whet S r i) 5 r.toNat i
noncomputable def F_fill (S : w_S) (r i : Int) : Int := F_set S (P_fill S r i) 4 r.toNat
noncomputable def G_fill (S : w_S) (r i : Int) : w_S := G_set S (P_fill S r i) 4 r.toNat i
noncomputable def F_own (S : w_S) (r i : Int) : Int := F_set S (P_own S r i) 2 r.toNat
noncomputable def G_own (S : w_S) (r i : Int) : w_S := G_set S (P_own S r i) 2 r.toNat i
noncomputable def F_grow (S : w_S) (r i : Int) : Int := F_set S (P_grow S r i) 1 r.toNat
noncomputable def G_grow (S : w_S) (r i : Int) : w_S := G_set S (P_grow S r i) 1 r.toNat i
noncomputable def F_thistle (S : w_S) (r _i : Int) : Int := F_set S (P_thistle S r) 9 r.toNat
noncomputable def G_thistle (S : w_S) (r i : Int) : w_S := G_set S (P_thistle S r) 9 r.toNat i
noncomputable def P_lend (S : w_S) (a b o : Int) : Prop := ((0 ≤ a ∧ a < S 0 0 5) ∧ (0 ≤ b ∧ b < S 0 0 5) ∧ ¬ a = b) ∧ (0 ≤ o ∧ o ≤ 9)
noncomputable def P_near (S : w_S) (a b o : Int) : Prop := (-1 ≤ S 0 6 a.toNat - S 0 6 b.toNat ∧ S 0 6 a.toNat - S 0 6 b.toNat ≤ 1) ∧ o ≤ S 0 4 a.toNat
noncomputable def F_lend (S : w_S) (a b o : Int) : Int := @ite _ (P_lend S a b o) (Classical.propDecidable _) (@ite _ (P_near S a b o) (Classical.propDecidable _) (if S 0 4 b.toNat + o ≤ 9 then S 0 4 b.toNat + o else -3) (-2)) (-1)
noncomputable def G_lend (S : w_S) (a b o : Int) : w_S := @ite _ (P_lend S a b o ∧ P_near S a b o ∧ S 0 4 b.toNat + o ≤ 9) (Classical.propDecidable _) (w_sp S 0 (w_up (w_up (S 0) 4 a.toNat (S 0 4 a.toNat - o)) 4 b.toNat (S 0 4 b.toNat + o))) S
noncomputable def F_cloud (S : w_S) (t _is : Int) : Int := if 0 ≤ t ∧ t < S 0 0 0 then n_cl (S 0) t else -1
noncomputable def G_cloud (S : w_S) (t is : Int) : w_S := if 0 ≤ t ∧ t < S 0 0 0 then w_sp S 0 (w_up (S 0) 0 2 (v_Moon_withBit (S 0 0 2) t is)) else S
noncomputable def F_go (S : w_S) (n : Int) : Int := if 0 ≤ n ∧ n ≤ 12 then (if n ≤ S 0 0 0 - S 0 0 1 then n_sd (S 0) - n_sd (n_goes (S 0) n.toNat) else -3) else -1
noncomputable def G_go (S : w_S) (n : Int) : w_S := if (0 ≤ n ∧ n ≤ 12) ∧ n ≤ S 0 0 0 - S 0 0 1 then w_sp S 0 (n_goes (S 0) n.toNat) else S
noncomputable def F_ahead (S : w_S) (r n w : Int) : Int := if 0 ≤ n ∧ n ≤ 12 then n_tell (n_goes (S 0) n.toNat) r w else -1
noncomputable def F_stands (S : w_S) (i n : Int) : Int := if (0 ≤ i ∧ i < S 0 0 4) ∧ (0 ≤ n ∧ n ≤ 12) then (n_goes (S 0) n.toNat) 1 i.toNat else -1
noncomputable def F_done (S : w_S) (w : Int) : Int := if w = 0 then n_done (S 0) else if w = 1 then (n_goes (S 0) 12) 0 3 else -1
noncomputable def F_left (S : w_S) : Int := n_sd (n_goes (S 0) 12)
/-- the bits of the clouds stay within twelve -/
theorem w_nn {x : Nat} (h : x < 2147483648) : (Int32.ofInt (x : Int)).toBitVec.toNat = x := by
  show (BitVec.ofInt 32 (x : Int)).toNat = x
  rw [BitVec.ofInt_natCast, BitVec.toNat_ofNat]
  omega
theorem w_pos {z : Int32} (h : z.toBitVec.toNat < 2147483648) : z.toInt = (z.toBitVec.toNat : Int) := by
  show z.toBitVec.toInt = _
  rw [BitVec.toInt_eq_toNat_of_lt (by omega)]
theorem w_or_nat {x y : Nat} (hx : x < 2147483648) (hy : y < 2147483648) : w_or (x : Int) (y : Int) = ((x ||| y : Nat) : Int) := by
  have h : (Int32.ofInt (x : Int) ||| Int32.ofInt (y : Int)).toBitVec.toNat = x ||| y := by
    rw [Int32.toBitVec_or, BitVec.toNat_or, w_nn hx, w_nn hy]
  have hlt : x ||| y < 2147483648 := Nat.or_lt_two_pow (n := 31) hx hy
  show (Int32.ofInt (x : Int) ||| Int32.ofInt (y : Int)).toInt = _
  rw [w_pos (by rw [h]; exact hlt), h]
theorem w_and_le {x : Nat} (hx : x < 2147483648) (y : Int) : 0 ≤ w_and (x : Int) y ∧ w_and (x : Int) y ≤ x := by
  have h : (Int32.ofInt (x : Int) &&& Int32.ofInt y).toBitVec.toNat ≤ x := by
    rw [Int32.toBitVec_and, BitVec.toNat_and, w_nn hx]
    exact Nat.and_le_left
  show 0 ≤ (Int32.ofInt (x : Int) &&& Int32.ofInt y).toInt ∧ (Int32.ofInt (x : Int) &&& Int32.ofInt y).toInt ≤ x
  rw [w_pos (by omega)]
  omega
theorem w_shl1 : ∀ t, t < 12 → w_shl 1 ((t : Nat) : Int) = ((2 ^ t : Nat) : Int) := by decide +kernel
theorem w_cl_bits {c t is : Int} (hc : 0 ≤ c ∧ c ≤ 4095) (ht : 0 ≤ t ∧ t < 12) : 0 ≤ v_Moon_withBit c t is ∧ v_Moon_withBit c t is ≤ 4095 := by
  obtain ⟨c', rfl⟩ := Int.eq_ofNat_of_zero_le hc.1
  obtain ⟨t', rfl⟩ := Int.eq_ofNat_of_zero_le ht.1
  unfold v_Moon_withBit
  split
  · have := w_and_le (x := c') (by omega) (w_xor (w_shl 1 (t' : Int)) (-1))
    omega
  · have h2 : 2 ^ t' < 2 ^ 12 := Nat.pow_lt_pow_right (by decide) (by omega)
    rw [w_shl1 t' (by omega), w_or_nat (by omega) (by omega)]
    have := Nat.or_lt_two_pow (n := 12) (x := c') (y := 2 ^ t') (by omega) h2
    omega
theorem w_th_bits : ∀ m, m < 128 → ∀ q, q < 49 → (w_and (w_shr (v_Moon_withBit (m : Nat) ((q / 7 : Nat) : Int) 1) ((q % 7 : Nat) : Int)) 1 = if q % 7 = q / 7 then 1 else w_and (w_shr ((m : Nat) : Int) ((q % 7 : Nat) : Int)) 1) ∧ (w_and (w_shr (v_Moon_withBit (m : Nat) ((q / 7 : Nat) : Int) 0) ((q % 7 : Nat) : Int)) 1 = if q % 7 = q / 7 then 0 else w_and (w_shr ((m : Nat) : Int) ((q % 7 : Nat) : Int)) 1) := by decide +kernel
