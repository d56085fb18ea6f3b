/-! The second layer's cells beside the list machine's -/
def w_kl : List Nat := [0, 1, 2160, 2, 1007, 1007, 1004, 1004, 1004, 1004, 1004, 1004, 1003, 3, 2, 1007, 1007, 1004, 1004, 1004, 1004, 1004, 1004, 4, 1008, 1008, 1008, 5, 1004, 1004, 4002, 6, 2, 1007, 1007, 1004, 1004, 1004, 1004, 1004, 1004, 1004, 1004, 1004, 1013, 10410, 1010, 1010, 1010, 1010, 11220, 1020, 1020, 1020, 1020, 1020, 1020, 1020, 1020, 1020, 1020, 1020, 1020, 7, 10707, 1007, 1007, 1007, 1007, 1007, 1007, 1007, 10707, 1007, 1007, 1007, 1007, 1007, 1007, 1007, 8, 10440, 1040, 1040, 1040, 1040, 1004, 1004, 3, 2, 1007, 1007, 1004, 1004, 1004, 1004, 1004, 1004, 4, 1008, 1008, 1008, 5, 1004, 1004, 3, 2, 1007, 1007, 1004, 1004, 1004, 1004, 1004, 1004, 4, 1008, 1008, 1008, 5, 1004, 1004, 9, 1246, 1082, 3002, 1082, 1160, 1049, 1049, 1004, 1004, 1160, 1004]
def w_kind (a : Nat) : Nat := w_kl.getD a 9999
def w_nf (k : Nat) : Nat := (am_clq k).2.2
def w_fv (k a : Nat) (f : Nat → Int) (i : Nat) : Value := match w_rf (k * 100 + i) with
  | some q => .ref (a + q.2)
  | none => .int (Int32.ofInt (f i))
theorem w_fv_s {k a i : Nat} {f : Nat → Int} {q : Nat × Nat} (h : w_rf (k * 100 + i) = some q) : w_fv k a f i = .ref (a + q.2) := by unfold w_fv; rw [h]
theorem w_fv_n {k a i : Nat} {f : Nat → Int} (h : w_rf (k * 100 + i) = none) : w_fv k a f i = .int (Int32.ofInt (f i)) := by unfold w_fv; rw [h]
def w_cell (k a : Nat) (f : Nat → Int) : am_E :=
  if k < 1000 then .inr (.inl (k, (List.range (w_nf k)).map (w_fv k a f)))
  else if k < 2000 then .inl (0, (List.range (k - 1000)).map fun i => Int32.ofInt (f i))
  else if k < 3000 then .inl (1, (List.range (k - 2000)).map fun i => Int32.ofInt (f i))
  else if k < 4000 then .inl (2, (List.range (k - 3000)).map fun i => Int32.ofInt (f i))
  else if k < 10000 then .inr (.inr (0, (List.range 2).map fun j => some (88 + 17 * j)))
  else .inr (.inr (1, (List.range (k / 100 % 100)).map fun j => some (a + 1 + j)))
def w_mem (σ : w_M) : List am_E := (List.range 134).map fun a => w_cell (w_kind a) a (σ a)
def w_tv : w_V → Value
  | .inl x => .int (Int32.ofInt x)
  | .inr (.inl x) => .long (Int64.ofInt x)
  | .inr (.inr q) => .ref q.2
def w_rv (k a : Nat) : Prop := (a < 134 ∧ w_kind a = k) ∨ (k = 20 ∧ 1000 ≤ a ∧ a < 1010 ∧ a % 2 = 0) ∨ (k = 7000 ∧ 1000 ≤ a ∧ a < 1010 ∧ a % 2 = 1) ∨ (k = 6005 ∧ a = 1010) ∨ (k = 6015 ∧ (a = 1011 ∨ a = 1012)) ∨ (k = 8000 ∧ a = 1013)
def w_vv : w_V → Prop
  | .inl x => w_in x
  | .inr (.inl x) => w_inl x
  | .inr (.inr q) => w_rv q.1 q.2
def w_ms (σ : w_M) : Prop := ∀ a i, w_in (σ a i)
/-- the tables agree: what a reference field refers to is of its kind -/
def w_rfb (a i : Nat) : Bool := match w_rf (w_kind a * 100 + i) with | some q => decide (a + q.2 < 134) && decide (w_kind (a + q.2) = q.1) | none => true
theorem w_rf_ok : ∀ a, a < 134 → w_kind a < 1000 → (w_kind a < 10 ∧ ∀ i, i < w_nf (w_kind a) → w_rfb a i = true) := by decide +kernel
theorem w_aa_ok : ∀ a, a < 134 → 10000 ≤ w_kind a → ∀ j, j < w_kind a / 100 % 100 → a + 1 + j < 134 ∧ w_kind (a + 1 + j) = 1000 + w_kind a % 100 := by decide +kernel
theorem w_im_ok : ∀ j, j < 2 → 88 + 17 * j < 134 ∧ w_kind (88 + 17 * j) = 3 := by decide +kernel
theorem w_kd_ok : ∀ a, a < 134 → w_kind a = 4002 ∨ w_kind a < 4000 ∨ (10000 ≤ w_kind a ∧ w_kind a < 12000) := by decide +kernel
def w_ftb (ci k : Nat) : Bool := match w_rf (ci * 100 + k), (am_ft ci)[k]? with
  | none, some (ty, _, _) => decide (ty = .int) || (decide (ty = .boolean) && (decide (ci * 100 + k = 105) || decide (ci * 100 + k = 910)))
  | some _, some _ => true
  | _, none => false
theorem w_ft_ok : ∀ ci, ci < 10 → ∀ k, k < w_nf ci → w_ftb ci k = true := by decide +kernel
theorem w_mem_len (σ : w_M) : (w_mem σ).length = 134 := by unfold w_mem; rw [List.length_map, List.length_range]
theorem w_mem_get {σ : w_M} {a : Nat} (h : a < 134) : (w_mem σ)[a]? = some (w_cell (w_kind a) a (σ a)) := by
  unfold w_mem
  rw [List.getElem?_map, List.getElem?_range h]
  rfl
theorem w_mem_set {σ σ' : w_M} {a : Nat} (h : ∀ b, b ≠ a → σ' b = σ b) : (w_mem σ).set a (w_cell (w_kind a) a (σ' a)) = w_mem σ' := by
  apply List.ext_getElem?
  intro i
  rw [List.getElem?_set, w_mem_len]
  by_cases hi : a = i
  · subst hi
    rw [if_pos rfl]
    by_cases hl : a < 134
    · rw [if_pos hl, w_mem_get hl]
    · rw [if_neg hl, List.getElem?_eq_none (by rw [w_mem_len]; omega)]
  · rw [if_neg hi]
    by_cases hl : i < 134
    · rw [w_mem_get hl, w_mem_get hl, h i (fun e => hi e.symm)]
    · rw [List.getElem?_eq_none (by rw [w_mem_len]; omega), List.getElem?_eq_none (by rw [w_mem_len]; omega)]
theorem w_up_ne {σ : w_M} {a i : Nat} {x : Int} {b : Nat} (h : b ≠ a) : w_up σ a i x b = σ b := by
  funext j
  simp [w_up, h]
theorem w_up_ms {σ : w_M} {a i : Nat} {x : Int} (h : w_ms σ) (hx : w_in x) : w_ms (w_up σ a i x) := by
  intro b j
  unfold w_up
  split
  · exact hx
  · exact h b j
theorem w_ci {x : Int} (h : w_in x) : (Int32.ofInt x).toInt = x := Int32.toInt_ofInt_of_le (by have := h.1; omega) (by have := h.2; omega)
theorem w_cl {x : Int} (h : w_inl x) : (Int64.ofInt x).toInt = x := Int64.toInt_ofInt_of_le (by have := h.1; omega) (by have := h.2; omega)
theorem w_lt {x y : Int} (hx : w_in x) (hy : w_in y) : Int32.ofInt x < Int32.ofInt y ↔ x < y := by rw [Int32.lt_iff_toInt_lt, w_ci hx, w_ci hy]
theorem w_le {x y : Int} (hx : w_in x) (hy : w_in y) : Int32.ofInt x ≤ Int32.ofInt y ↔ x ≤ y := by rw [Int32.le_iff_toInt_le, w_ci hx, w_ci hy]
theorem w_eq {x y : Int} (hx : w_in x) (hy : w_in y) : Int32.ofInt x = Int32.ofInt y ↔ x = y := by rw [← Int32.toInt_inj, w_ci hx, w_ci hy]
theorem w_llt {x y : Int} (hx : w_inl x) (hy : w_inl y) : Int64.ofInt x < Int64.ofInt y ↔ x < y := by rw [Int64.lt_iff_toInt_lt, w_cl hx, w_cl hy]
theorem w_leq {x y : Int} (hx : w_inl x) (hy : w_inl y) : Int64.ofInt x = Int64.ofInt y ↔ x = y := by rw [← Int64.toInt_inj, w_cl hx, w_cl hy]
theorem w_in0 : w_in 0 := by constructor <;> decide
theorem w_nat {x : Int} (h : w_in x) : (Int32.ofInt x).toNatClampNeg = x.toNat := Int32.toNatClampNeg_ofInt_of_le (by have := h.1; omega) (by have := h.2; omega)
theorem w_neg {x : Int} (h : w_in x) : Int32.ofInt x < 0 ↔ x < 0 := w_lt (y := 0) h w_in0
theorem w_inb {x : Int} {n : Nat} (h : w_in x) (h0 : 0 ≤ x) (h1 : x < n) : am_inb (Int32.ofInt x) n = true := by
  unfold am_inb
  rw [w_nat h]
  have : ¬ Int32.ofInt x < 0 := fun q => by have := (w_neg h).mp q; omega
  simp [this]
  omega
theorem w_bm32 (z : Int) : Int32.ofInt (w_wr z) = Int32.ofInt z := by
  rw [← Int32.toInt_inj, Int32.toInt_ofInt, Int32.toInt_ofInt]
  exact Int.bmod_bmod
theorem w_wr_in (z : Int) : w_in (w_wr z) := by
  unfold w_wr w_in
  have h1 := Int.le_bmod (x := z) (m := 4294967296) (by decide)
  have h2 := Int.bmod_lt (x := z) (m := 4294967296) (by decide)
  omega
theorem w_toInt_in (x : Int32) : w_in x.toInt := by
  have h1 := Int32.le_toInt x
  have h2 := Int32.toInt_lt x
  unfold w_in
  omega
theorem w_gmr {α : Type} {g : Nat → α} {n j : Nat} {d : α} (h : j < n) : ((List.range n).map g).getD j d = g j := by
  rw [List.getD_eq_getElem?_getD, List.getElem?_map, List.getElem?_range h]
  rfl
theorem w_smr {n j : Nat} {g g' : Nat → Int32} {v : Int32} (hj : g' j = v) (ho : ∀ i, i ≠ j → g' i = g i) : ((List.range n).map g).set j v = (List.range n).map g' := by
  apply List.ext_getElem?
  intro i
  rw [List.getElem?_set, List.length_map, List.length_range]
  by_cases hi : j = i
  · subst hi
    rw [if_pos rfl]
    by_cases hl : j < n
    · rw [if_pos hl, List.getElem?_map, List.getElem?_range hl, Option.map_some, hj]
    · rw [if_neg hl, List.getElem?_eq_none (by rw [List.length_map, List.length_range]; omega)]
  · rw [if_neg hi, List.getElem?_map, List.getElem?_map]
    by_cases hl : i < n
    · rw [List.getElem?_range hl, Option.map_some, Option.map_some, ho i (fun e => hi e.symm)]
    · rw [List.getElem?_eq_none (by rw [List.length_range]; omega)]
      rfl
theorem w_up_at {σ : w_M} {a i : Nat} {x : Int} : w_up σ a i x a i = x := by simp [w_up]
theorem w_up_j {σ : w_M} {a i j : Nat} {x : Int} (h : j ≠ i) : w_up σ a i x a j = σ a j := by simp [w_up, h]
theorem w_rv_lo {k a : Nat} (h : w_rv k a) (h1 : 1000 ≤ k) (h2 : k < 4000) : a < 134 ∧ w_kind a = k := by
  unfold w_rv at h
  omega
