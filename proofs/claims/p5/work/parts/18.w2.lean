/-! THE SECOND LAYER: cells of fixed shapes hold integers, σ : cell → index → Int; a run is told by what must hold ahead of it -/
noncomputable abbrev w_V : Type := Int ⊕ (Int ⊕ (Nat × Nat))
noncomputable abbrev w_M : Type := Nat → Nat → Int
noncomputable abbrev w_L : Type := List (Option w_V)
/-- the script, the depth of calls -/
noncomputable abbrev w_C : Type := List Int × Nat
noncomputable def w_up (σ : w_M) (a i : Nat) (x : Int) : w_M := fun b j => if b = a ∧ j = i then x else σ b j
noncomputable def w_cpy (σ : w_M) (s d sp dp n : Nat) : w_M := fun b j => if b = d ∧ dp ≤ j ∧ j < dp + n then σ s (sp + (j - dp)) else σ b j
noncomputable def w_in (x : Int) : Prop := -2147483648 ≤ x ∧ x ≤ 2147483647
noncomputable def w_inl (x : Int) : Prop := -9223372036854775808 ≤ x ∧ x ≤ 9223372036854775807
noncomputable def w_nl : Option w_V → Prop
  | some (.inr (.inl _)) => False
  | _ => True
noncomputable def w_okp (ls : w_L) (i : Nat) : Prop := match i with
  | 0 => True
  | j + 1 => match ls[j]? with
    | some l => w_nl l
    | none => True
noncomputable def w_cmp (c : Jvm.ClassFile.Cond) (x y : Int) : Prop := match c with
  | .eq => x = y
  | .ne => ¬ x = y
  | .lt => x < y
  | .ge => y ≤ x
  | .gt => y < x
  | .le => x ≤ y
noncomputable def w_b2 (f : Int32 → Int32 → Int32) (x y : Int) : Int := (f (Int32.ofInt x) (Int32.ofInt y)).toInt
noncomputable def w_and (x y : Int) : Int := w_b2 (fun a b => a &&& b) x y
noncomputable def w_or (x y : Int) : Int := w_b2 (fun a b => a ||| b) x y
noncomputable def w_xor (x y : Int) : Int := w_b2 (fun a b => a ^^^ b) x y
noncomputable def w_shl (x y : Int) : Int := w_b2 (fun a b => a <<< (b &&& 31)) x y
noncomputable def w_shr (x y : Int) : Int := w_b2 (fun a b => a >>> (b &&& 31)) x y
noncomputable def w_ushr (x y : Int) : Int := w_b2 (fun a b => (a.toUInt32 >>> (b.toUInt32 &&& Int32.toUInt32 31)).toInt32) x y
/-- wrap-around -/
noncomputable def w_wr (x : Int) : Int := Int.bmod x 4294967296
/-- reference fields: kind and distance of what they refer to -/
noncomputable def w_rf : Nat → Option (Nat × Nat) := fun f => (([(0, 1, 1), (1, 3, 13), (2, 2, 14), (3, 4002, 30), (4, 6, 31), (5, 7, 63), (6, 8, 80), (100, 2160, 1), (102, 2, 2), (106, 1003, 11), (207, 1007, 1), (208, 1007, 2), (209, 1004, 3), (210, 1004, 4), (211, 1004, 5), (212, 1004, 6), (213, 1004, 7), (214, 1004, 8), (300, 2, 1), (301, 4, 10), (302, 5, 14), (401, 1008, 1), (402, 1008, 2), (403, 1008, 3), (501, 1004, 1), (502, 1004, 2), (600, 2, 1), (601, 1004, 10), (602, 1004, 11), (603, 1004, 12), (604, 1013, 13), (605, 10410, 14), (606, 11220, 19), (701, 10707, 1), (702, 10707, 9), (800, 10440, 1), (801, 1004, 6), (802, 1004, 7), (900, 1246, 1), (901, 1082, 2), (902, 3002, 3), (906, 1082, 4), (914, 1160, 5), (922, 1049, 6), (923, 1049, 7), (924, 1004, 8), (925, 1004, 9), (926, 1160, 10), (928, 1004, 11)] : List (Nat × Nat × Nat)).lookup f)
noncomputable def w_stat (j : Nat) : w_V := match j with
  | 0 => .inl 1
  | 1 => .inr (.inr (6005, 1010))
  | 2 => .inr (.inr (6015, 1011))
  | _ => .inr (.inr (6015, 1012))
noncomputable def w_cnum : List Int := [1, 2, 3, 1, 1]
noncomputable def w_clow : List Int := [1, 0, 0, 0, 0, 0, 1, 0, 0, 0, 0, 0, 0, 0, 0]
noncomputable def w_chig : List Int := [12, 0, 0, 40, 3, 0, 9, 9, 6, 11, 0, 0, 6, 0, 0]
noncomputable def w_cbyt : List (List Int) := [[110, 105, 103, 104, 116], [115, 116, 114, 105, 112], [114, 101, 97, 112, 101, 114], [99, 108, 111, 117, 100], [116, 104, 105, 115, 116, 108, 101]]
/-- the constant arrays' contents, by address -/
noncomputable def w_carr (xs : List Int) (a : Nat) : List Int := if a = 1010 then w_cnum else if a = 1011 then w_clow else if a = 1012 then w_chig else if a = 1013 then xs else w_cbyt.getD ((a - 1001) / 2) []
noncomputable def w_cs : List w_V → Nat
  | [] => 0
  | .inr (.inl _) :: r => 2 + w_cs r
  | _ :: r => 1 + w_cs r
noncomputable def w_lks (K : Nat → Prop) (x : Int) : List (Int × Int) → Int → Prop
  | [], d => K d.toNat
  | (a, t) :: r, d => (x = a → K t.toNat) ∧ (¬ x = a → w_lks K x r d)
noncomputable def w_tsw (K : Nat → Prop) (x : Int) : Int → List Int → Prop
  | _, [] => True
  | lo, t :: r => (x = lo → K t.toNat) ∧ w_tsw K x (lo + 1) r
noncomputable def w_rtk (rt : Nat) (v : w_V) : Prop := match rt, v with
  | 1, .inl _ => True
  | 2, .inl x => x = 0 ∨ x = 1
  | 3, .inr (.inl _) => True
  | 4, .inr (.inr _) => True
  | 5, .inl x => 0 ≤ x ∧ x ≤ 65535
  | 6, .inl x => -128 ≤ x ∧ x ≤ 127
  | _, _ => False
/-! The second layer's cells beside the list machine's -/
noncomputable def w_kl : List Nat := [0, 1, 2160, 2, 1007, 1007, 1004, 1004, 1004, 1004, 1004, 1004, 1003, 3, 2, 1007, 1007, 1004, 1004, 1004, 1004, 1004, 1004, 4, 1008, 1008, 1008, 5, 1004, 1004, 4002, 6, 2, 1007, 1007, 1004, 1004, 1004, 1004, 1004, 1004, 1004, 1004, 1004, 1013, 10410, 1010, 1010, 1010, 1010, 11220, 1020, 1020, 1020, 1020, 1020, 1020, 1020, 1020, 1020, 1020, 1020, 1020, 7, 10707, 1007, 1007, 1007, 1007, 1007, 1007, 1007, 10707, 1007, 1007, 1007, 1007, 1007, 1007, 1007, 8, 10440, 1040, 1040, 1040, 1040, 1004, 1004, 3, 2, 1007, 1007, 1004, 1004, 1004, 1004, 1004, 1004, 4, 1008, 1008, 1008, 5, 1004, 1004, 3, 2, 1007, 1007, 1004, 1004, 1004, 1004, 1004, 1004, 4, 1008, 1008, 1008, 5, 1004, 1004, 9, 1246, 1082, 3002, 1082, 1160, 1049, 1049, 1004, 1004, 1160, 1004]
noncomputable def w_kind (a : Nat) : Nat := w_kl.getD a 9999
noncomputable def w_nf (k : Nat) : Nat := (am_clq k).2.2
noncomputable def w_fv (k a : Nat) (f : Nat → Int) (i : Nat) : Value := match w_rf (k * 100 + i) with
  | some q => .ref (a + q.2)
  | none => .int (Int32.ofInt (f i))
theorem w_fv_s {k a i : Nat} {f : Nat → Int} {q : Nat × Nat} (h : w_rf (k * 100 + i) = some q) : w_fv k a f i = .ref (a + q.2) := by unfold w_fv; rw [h]
theorem w_fv_n {k a i : Nat} {f : Nat → Int} (h : w_rf (k * 100 + i) = none) : w_fv k a f i = .int (Int32.ofInt (f i)) := by unfold w_fv; rw [h]
noncomputable def w_cell (k a : Nat) (f : Nat → Int) : am_E :=
  if k < 1000 then .inr (.inl (k, (List.range (w_nf k)).map (w_fv k a f)))
  else if k < 2000 then .inl (0, (List.range (k - 1000)).map fun i => Int32.ofInt (f i))
  else if k < 3000 then .inl (1, (List.range (k - 2000)).map fun i => Int32.ofInt (f i))
  else if k < 4000 then .inl (2, (List.range (k - 3000)).map fun i => Int32.ofInt (f i))
  else if k < 10000 then .inr (.inr (0, (List.range 2).map fun j => some (88 + 17 * j)))
  else .inr (.inr (1, (List.range (k / 100 % 100)).map fun j => some (a + 1 + j)))
noncomputable def w_mem (σ : w_M) : List am_E := (List.range 134).map fun a => w_cell (w_kind a) a (σ a)
noncomputable def w_tv : w_V → Value
  | .inl x => .int (Int32.ofInt x)
  | .inr (.inl x) => .long (Int64.ofInt x)
  | .inr (.inr q) => .ref q.2
noncomputable def w_rv (k a : Nat) : Prop := (a < 134 ∧ w_kind a = k) ∨ (k = 20 ∧ 1000 ≤ a ∧ a < 1010 ∧ a % 2 = 0) ∨ (k = 7000 ∧ 1000 ≤ a ∧ a < 1010 ∧ a % 2 = 1) ∨ (k = 6005 ∧ a = 1010) ∨ (k = 6015 ∧ (a = 1011 ∨ a = 1012)) ∨ (k = 8000 ∧ a = 1013)
noncomputable def w_vv : w_V → Prop
  | .inl x => w_in x
  | .inr (.inl x) => w_inl x
  | .inr (.inr q) => w_rv q.1 q.2
noncomputable def w_ms (σ : w_M) : Prop := ∀ a i, w_in (σ a i)
/-- the tables agree: what a reference field refers to is of its kind -/
noncomputable def w_rfb (a i : Nat) : Bool := match w_rf (w_kind a * 100 + i) with | some q => decide (a + q.2 < 134) && decide (w_kind (a + q.2) = q.1) | none => true
theorem w_rf_ok : ∀ a, a < 134 → w_kind a < 1000 → (w_kind a < 10 ∧ ∀ i, i < w_nf (w_kind a) → w_rfb a i = true) := by decide +kernel
theorem w_aa_ok : ∀ a, a < 134 → 10000 ≤ w_kind a → ∀ j, j < w_kind a / 100 % 100 → a + 1 + j < 134 ∧ w_kind (a + 1 + j) = 1000 + w_kind a % 100 := by decide +kernel
theorem w_im_ok : ∀ j, j < 2 → 88 + 17 * j < 134 ∧ w_kind (88 + 17 * j) = 3 := by decide +kernel
theorem w_kd_ok : ∀ a, a < 134 → w_kind a = 4002 ∨ w_kind a < 4000 ∨ (10000 ≤ w_kind a ∧ w_kind a < 12000) := by decide +kernel
noncomputable def w_ftb (ci k : Nat) : Bool := match w_rf (ci * 100 + k), (am_ft ci)[k]? with
  | none, some (ty, _, _) => decide (ty = .int) || (decide (ty = .boolean) && (decide (ci * 100 + k = 105) || decide (ci * 100 + k = 910)))
  | some _, some _ => true
  | _, none => false
theorem w_ft_ok : ∀ ci, ci < 10 → ∀ k, k < w_nf ci → w_ftb ci k = true := by decide +kernel
theorem w_mem_len (σ : w_M) : (w_mem σ).length = 134 := by unfold w_mem; rw [List.length_map, List.length_range]
theorem w_mem_get {σ : w_M} {a : Nat} (h : a < 134) : (w_mem σ)[a]? = some (w_cell (w_kind a) a (σ a)) := by
  unfold w_mem
  rw [List.getElem?_map, List.getElem?_range h]
  rfl
theorem w_mem_set {σ σ' : w_M} {a : Nat} (h : ∀ b, b ≠ a → σ' b = σ b) : (w_mem σ).set a (w_cell (w_kind a) a (σ' a)) = w_mem σ' := by
  apply List.ext_getElem?
  intro i
  rw [List.getElem?_set, w_mem_len]
  by_cases hi : a = i
  · subst hi
    rw [if_pos rfl]
    by_cases hl : a < 134
    · rw [if_pos hl, w_mem_get hl]
    · rw [if_neg hl, List.getElem?_eq_none (by rw [w_mem_len]; omega)]
  · rw [if_neg hi]
    by_cases hl : i < 134
    · rw [w_mem_get hl, w_mem_get hl, h i (fun e => hi e.symm)]
    · rw [List.getElem?_eq_none (by rw [w_mem_len]; omega), List.getElem?_eq_none (by rw [w_mem_len]; omega)]
theorem w_up_ne {σ : w_M} {a i : Nat} {x : Int} {b : Nat} (h : b ≠ a) : w_up σ a i x b = σ b := by
  funext j
  simp [w_up, h]
theorem w_up_ms {σ : w_M} {a i : Nat} {x : Int} (h : w_ms σ) (hx : w_in x) : w_ms (w_up σ a i x) := by
  intro b j
  unfold w_up
  split
  · exact hx
  · exact h b j
theorem w_ci {x : Int} (h : w_in x) : (Int32.ofInt x).toInt = x := Int32.toInt_ofInt_of_le (by have := h.1; omega) (by have := h.2; omega)
theorem w_cl {x : Int} (h : w_inl x) : (Int64.ofInt x).toInt = x := Int64.toInt_ofInt_of_le (by have := h.1; omega) (by have := h.2; omega)
theorem w_lt {x y : Int} (hx : w_in x) (hy : w_in y) : Int32.ofInt x < Int32.ofInt y ↔ x < y := by rw [Int32.lt_iff_toInt_lt, w_ci hx, w_ci hy]
theorem w_le {x y : Int} (hx : w_in x) (hy : w_in y) : Int32.ofInt x ≤ Int32.ofInt y ↔ x ≤ y := by rw [Int32.le_iff_toInt_le, w_ci hx, w_ci hy]
theorem w_eq {x y : Int} (hx : w_in x) (hy : w_in y) : Int32.ofInt x = Int32.ofInt y ↔ x = y := by rw [← Int32.toInt_inj, w_ci hx, w_ci hy]
theorem w_llt {x y : Int} (hx : w_inl x) (hy : w_inl y) : Int64.ofInt x < Int64.ofInt y ↔ x < y := by rw [Int64.lt_iff_toInt_lt, w_cl hx, w_cl hy]
theorem w_leq {x y : Int} (hx : w_inl x) (hy : w_inl y) : Int64.ofInt x = Int64.ofInt y ↔ x = y := by rw [← Int64.toInt_inj, w_cl hx, w_cl hy]
theorem w_in0 : w_in 0 := by constructor <;> decide
theorem w_nat {x : Int} (h : w_in x) : (Int32.ofInt x).toNatClampNeg = x.toNat := Int32.toNatClampNeg_ofInt_of_le (by have := h.1; omega) (by have := h.2; omega)
theorem w_neg {x : Int} (h : w_in x) : Int32.ofInt x < 0 ↔ x < 0 := w_lt (y := 0) h w_in0
theorem w_inb {x : Int} {n : Nat} (h : w_in x) (h0 : 0 ≤ x) (h1 : x < n) : am_inb (Int32.ofInt x) n = true := by
  unfold am_inb
  rw [w_nat h]
  have : ¬ Int32.ofInt x < 0 := fun q => by have := (w_neg h).mp q; omega
  simp [this]
  omega
theorem w_bm32 (z : Int) : Int32.ofInt (w_wr z) = Int32.ofInt z := by
  rw [← Int32.toInt_inj, Int32.toInt_ofInt, Int32.toInt_ofInt]
  exact Int.bmod_bmod
theorem w_wr_in (z : Int) : w_in (w_wr z) := by
  unfold w_wr w_in
  have h1 := Int.le_bmod (x := z) (m := 4294967296) (by decide)
  have h2 := Int.bmod_lt (x := z) (m := 4294967296) (by decide)
  omega
theorem w_toInt_in (x : Int32) : w_in x.toInt := by
  have h1 := Int32.le_toInt x
  have h2 := Int32.toInt_lt x
  unfold w_in
  omega
theorem w_gmr {α : Type} {g : Nat → α} {n j : Nat} {d : α} (h : j < n) : ((List.range n).map g).getD j d = g j := by
  rw [List.getD_eq_getElem?_getD, List.getElem?_map, List.getElem?_range h]
  rfl
theorem w_smr {n j : Nat} {g g' : Nat → Int32} {v : Int32} (hj : g' j = v) (ho : ∀ i, i ≠ j → g' i = g i) : ((List.range n).map g).set j v = (List.range n).map g' := by
  apply List.ext_getElem?
  intro i
  rw [List.getElem?_set, List.length_map, List.length_range]
  by_cases hi : j = i
  · subst hi
    rw [if_pos rfl]
    by_cases hl : j < n
    · rw [if_pos hl, List.getElem?_map, List.getElem?_range hl, Option.map_some, hj]
    · rw [if_neg hl, List.getElem?_eq_none (by rw [List.length_map, List.length_range]; omega)]
  · rw [if_neg hi, List.getElem?_map, List.getElem?_map]
    by_cases hl : i < n
    · rw [List.getElem?_range hl, Option.map_some, Option.map_some, ho i (fun e => hi e.symm)]
    · rw [List.getElem?_eq_none (by rw [List.length_range]; omega)]
      rfl
theorem w_up_at {σ : w_M} {a i : Nat} {x : Int} : w_up σ a i x a i = x := by simp [w_up]
theorem w_up_j {σ : w_M} {a i j : Nat} {x : Int} (h : j ≠ i) : w_up σ a i x a j = σ a j := by simp [w_up, h]
theorem w_rv_lo {k a : Nat} (h : w_rv k a) (h1 : 1000 ≤ k) (h2 : k < 4000) : a < 134 ∧ w_kind a = k := by
  unfold w_rv at h
  omega
noncomputable def w_tl (ls : w_L) : am_L := ls.map fun l => l.map w_tv
noncomputable def w_vl (ls : w_L) : Prop := ∀ (i : Nat) (v : w_V), ls[i]? = some (some v) → w_vv v
noncomputable def w_vs (st : List w_V) : Prop := ∀ v ∈ st, w_vv v
noncomputable def w_xs (xs : List Int) : Prop := (∀ x ∈ xs, w_in x) ∧ xs.length ≤ 400
noncomputable def w_push (v : Option w_V) (r : List w_V) : List w_V := match v with
  | some v => v :: r
  | none => r
/-- a call, by its meaning: the list machine runs it to its end, and Q holds there -/
noncomputable def w_Call (E : w_C) (c : Nat) (as : List w_V) (σ : w_M) (Q : Option w_V → w_M → Prop) : Prop := w_xs E.1 → w_vs as → w_ms σ →
  ∃ Mc, am_P c = some Mc ∧ Mc.2.2.1 = as.length ∧ (am_place (as.map w_tv)).length ≤ Mc.2.1 ∧ am_recv (am_cst (E.1.map Int32.ofInt)) (w_mem σ) Mc.2.2.2.1 (as.map w_tv) = true ∧
  ∃ (n : Nat) (r : Option w_V) (σ' : w_M), am_exec am_ft am_P (am_cst (E.1.map Int32.ofInt)) n E.2 c 0 (am_args (as.map w_tv) Mc.2.1) [] (w_mem σ) = some (r.map w_tv, w_mem σ') ∧ Q r σ' ∧ w_ms σ' ∧ ∀ v, r = some v → w_vv v
theorem w_Call_mono {E : w_C} {c : Nat} {as : List w_V} {σ : w_M} {Q Q' : Option w_V → w_M → Prop} (hQ : ∀ r σ', Q r σ' → Q' r σ') (h : w_Call E c as σ Q) : w_Call E c as σ Q' := fun h1 h2 h3 => by
  obtain ⟨Mc, e1, e2, e3, e4, n, r, σ', e5, e6, e7⟩ := h h1 h2 h3
  exact ⟨Mc, e1, e2, e3, e4, n, r, σ', e5, hQ _ _ e6, e7⟩
/-- one instruction; wr: this arithmetic may wrap around -/
noncomputable def w_opG (K : Nat → w_L → List w_V → w_M → Prop) (E : w_C) (rt : Nat) (Q : Option w_V → w_M → Prop) (op : Instr) (nx : Nat) (ls : w_L) (st : List w_V) (σ : w_M) : Prop := match op with
  | .bipush n => K nx ls (.inl n :: st) σ
  | .sipush n => K nx ls (.inr (.inl n) :: st) σ
  | .ldc k => K nx ls (.inr (.inr (20, k)) :: st) σ
  | .getstatic j => j < 4 ∧ K nx ls (w_stat j :: st) σ
  | .iload i => (match ls[i]? with | some (some (.inl x)) => K nx ls (.inl x :: st) σ | _ => False)
  | .lload i => (match ls[i]? with | some (some (.inr (.inl x))) => K nx ls (.inr (.inl x) :: st) σ | _ => False)
  | .aload i => (match ls[i]? with | some (some (.inr (.inr x))) => K nx ls (.inr (.inr x) :: st) σ | _ => False)
  | .istore i => (match st with | .inl x :: r => i < ls.length ∧ w_okp ls i ∧ K nx (ls.set i (some (.inl x))) r σ | _ => False)
  | .astore i => (match st with | .inr (.inr x) :: r => i < ls.length ∧ w_okp ls i ∧ K nx (ls.set i (some (.inr (.inr x)))) r σ | _ => False)
  | .lstore i => (match st with | .inr (.inl x) :: r => i + 1 < ls.length ∧ w_okp ls i ∧ K nx ((ls.set i (some (.inr (.inl x)))).set (i + 1) none) r σ | _ => False)
  | .iinc i n => (match ls[i]? with | some (some (.inl x)) => w_okp ls i ∧ w_in (x + n) ∧ K nx (ls.set i (some (.inl (x + n)))) st σ | _ => False)
  | .iadd => (match st with | .inl y :: .inl x :: r => w_in (x + y) ∧ K nx ls (.inl (x + y) :: r) σ | _ => False)
  | .isub => (match st with | .inl y :: .inl x :: r => w_in (x - y) ∧ K nx ls (.inl (x - y) :: r) σ | _ => False)
  | .imul => (match st with | .inl y :: .inl x :: r => w_in (x * y) ∧ K nx ls (.inl (x * y) :: r) σ | _ => False)
  | .fadd => (match st with | .inl y :: .inl x :: r => K nx ls (.inl (w_wr (x + y)) :: r) σ | _ => False)
  | .fsub => (match st with | .inl y :: .inl x :: r => K nx ls (.inl (w_wr (x - y)) :: r) σ | _ => False)
  | .fmul => (match st with | .inl y :: .inl x :: r => K nx ls (.inl (w_wr (x * y)) :: r) σ | _ => False)
  | .idiv => (match st with | .inl y :: .inl x :: r => ¬ y = 0 ∧ w_in (x.tdiv y) ∧ K nx ls (.inl (x.tdiv y) :: r) σ | _ => False)
  | .irem => (match st with | .inl y :: .inl x :: r => ¬ y = 0 ∧ K nx ls (.inl (x.tmod y) :: r) σ | _ => False)
  | .iand => (match st with | .inl y :: .inl x :: r => K nx ls (.inl (w_and x y) :: r) σ | _ => False)
  | .ior => (match st with | .inl y :: .inl x :: r => K nx ls (.inl (w_or x y) :: r) σ | _ => False)
  | .ixor => (match st with | .inl y :: .inl x :: r => K nx ls (.inl (w_xor x y) :: r) σ | _ => False)
  | .ishl => (match st with | .inl y :: .inl x :: r => K nx ls (.inl (w_shl x y) :: r) σ | _ => False)
  | .ishr => (match st with | .inl y :: .inl x :: r => K nx ls (.inl (w_shr x y) :: r) σ | _ => False)
  | .iushr => (match st with | .inl y :: .inl x :: r => K nx ls (.inl (w_ushr x y) :: r) σ | _ => False)
  | .ineg => (match st with | .inl x :: r => w_in (-x) ∧ K nx ls (.inl (-x) :: r) σ | _ => False)
  | .i2l => (match st with | .inl x :: r => K nx ls (.inr (.inl x) :: r) σ | _ => False)
  | .i2b => (match st with | .inl x :: r => K nx ls (.inl (Int.bmod x 256) :: r) σ | _ => False)
  | .i2s => (match st with | .inl x :: r => K nx ls (.inl (Int.bmod x 65536) :: r) σ | _ => False)
  | .i2c => (match st with | .inl x :: r => (0 ≤ x ∧ x ≤ 65535) ∧ K nx ls (.inl x :: r) σ | _ => False)
  | .ladd => (match st with | .inr (.inl y) :: .inr (.inl x) :: r => w_inl (x + y) ∧ K nx ls (.inr (.inl (x + y)) :: r) σ | _ => False)
  | .lmul => (match st with | .inr (.inl y) :: .inr (.inl x) :: r => w_inl (x * y) ∧ K nx ls (.inr (.inl (x * y)) :: r) σ | _ => False)
  | .ldiv => (match st with | .inr (.inl y) :: .inr (.inl x) :: r => ¬ y = 0 ∧ w_inl (x.tdiv y) ∧ K nx ls (.inr (.inl (x.tdiv y)) :: r) σ | _ => False)
  | .lrem => (match st with | .inr (.inl y) :: .inr (.inl x) :: r => ¬ y = 0 ∧ K nx ls (.inr (.inl (x.tmod y)) :: r) σ | _ => False)
  | .lcmp => (match st with | .inr (.inl y) :: .inr (.inl x) :: r => K nx ls (.inl (if y < x then 1 else if x = y then 0 else -1) :: r) σ | _ => False)
  | .dup => (match st with | .inl x :: r => K nx ls (.inl x :: .inl x :: r) σ | .inr (.inr x) :: r => K nx ls (.inr (.inr x) :: .inr (.inr x) :: r) σ | _ => False)
  | .dup2 => (match st with | .inl x :: .inr (.inr y) :: r => K nx ls (.inl x :: .inr (.inr y) :: .inl x :: .inr (.inr y) :: r) σ | _ => False)
  | .pop => (match st with | .inl _ :: r => K nx ls r σ | .inr (.inr _) :: r => K nx ls r σ | _ => False)
  | .pop2 => (match st with | .inr (.inl _) :: r => K nx ls r σ | _ => False)
  | .ifCond c t => (match st with | .inl x :: r => (w_cmp c x 0 → K t.toNat ls r σ) ∧ (¬ w_cmp c x 0 → K nx ls r σ) | _ => False)
  | .if_icmp c t => (match st with | .inl y :: .inl x :: r => (w_cmp c x y → K t.toNat ls r σ) ∧ (¬ w_cmp c x y → K nx ls r σ) | _ => False)
  | .goto t => K t.toNat ls st σ
  | .tableswitch d lo hi ts => (match st with | .inl x :: r => (hi - lo + 1 = ts.toList.length) ∧ (x < lo ∨ hi < x → K d.toNat ls r σ) ∧ w_tsw (fun t => K t ls r σ) x lo ts.toList | _ => False)
  | .lookupswitch d ps => (match st with | .inl x :: r => w_lks (fun t => K t ls r σ) x ps.toList d | _ => False)
  | .iaload => (match st with
    | .inl j :: .inr (.inr (k, a)) :: r => if 1000 ≤ k ∧ k < 2000 then 0 ≤ j ∧ j < ((k - 1000 : Nat) : Int) ∧ K nx ls (.inl (σ a j.toNat) :: r) σ
        else (k = 6005 ∨ k = 6015 ∨ k = 8000) ∧ 0 ≤ j ∧ j < (w_carr E.1 a).length ∧ K nx ls (.inl ((w_carr E.1 a).getD j.toNat 0) :: r) σ
    | _ => False)
  | .baload => (match st with
    | .inl j :: .inr (.inr (k, a)) :: r => if 2000 ≤ k ∧ k < 4000 then 0 ≤ j ∧ j < ((k % 1000 : Nat) : Int) ∧ K nx ls (.inl (σ a j.toNat) :: r) σ
        else k = 7000 ∧ 0 ≤ j ∧ j < (w_carr E.1 a).length ∧ K nx ls (.inl ((w_carr E.1 a).getD j.toNat 0) :: r) σ
    | _ => False)
  | .iastore => (match st with
    | .inl x :: .inl j :: .inr (.inr (k, a)) :: r => (1000 ≤ k ∧ k < 2000) ∧ 0 ≤ j ∧ j < ((k - 1000 : Nat) : Int) ∧ K nx ls r (w_up σ a j.toNat x)
    | _ => False)
  | .bastore => (match st with
    | .inl x :: .inl j :: .inr (.inr (k, a)) :: r => (2000 ≤ k ∧ k < 4000) ∧ (if k < 3000 then -128 ≤ x ∧ x ≤ 127 else x = 0 ∨ x = 1) ∧ 0 ≤ j ∧ j < ((k % 1000 : Nat) : Int) ∧ K nx ls r (w_up σ a j.toNat x)
    | _ => False)
  | .aaload => (match st with
    | .inl j :: .inr (.inr (k, a)) :: r => if k = 4002 then 0 ≤ j ∧ j < 2 ∧ K nx ls (.inr (.inr (3, 88 + 17 * j.toNat)) :: r) σ
        else 10000 ≤ k ∧ 0 ≤ j ∧ j < ((k / 100 % 100 : Nat) : Int) ∧ K nx ls (.inr (.inr (1000 + k % 100, a + 1 + j.toNat)) :: r) σ
    | _ => False)
  | .arraylength => (match st with
    | .inr (.inr (k, a)) :: r => if 1000 ≤ k ∧ k < 4000 then K nx ls (.inl ((k % 1000 : Nat) : Int) :: r) σ
        else (k = 6005 ∨ k = 6015 ∨ k = 8000 ∨ k = 7000) ∧ K nx ls (.inl (w_carr E.1 a).length :: r) σ
    | _ => False)
  | .getfield f => (match st with
    | .inr (.inr (k, a)) :: r => if f = 2000 then k = 20 ∧ K nx ls (.inr (.inr (7000, a + 1)) :: r) σ else if f = 2001 then k = 20 ∧ K nx ls (.inl 0 :: r) σ
        else k = f / 100 ∧ (match w_rf f with | some q => K nx ls (.inr (.inr (q.1, a + q.2)) :: r) σ | none => K nx ls (.inl (σ a (f % 100)) :: r) σ)
    | _ => False)
  | .putfield f => (match st with
    | .inl x :: .inr (.inr (k, a)) :: r => k = f / 100 ∧ w_rf f = none ∧ (f = 105 ∨ f = 910 → x = 0 ∨ x = 1) ∧ K nx ls r (w_up σ a (f % 100) x)
    | _ => False)
  | .invokedynamic _ => (match st with
    | .inl n :: .inl dp :: .inr (.inr (k, d)) :: .inl sp :: .inr (.inr (k', s)) :: r => (1000 ≤ k ∧ k < 2000 ∧ 1000 ≤ k' ∧ k' < 2000) ∧ w_cs r ≤ 8 ∧ 0 ≤ n ∧ 0 ≤ dp ∧ 0 ≤ sp ∧ sp + n ≤ ((k' - 1000 : Nat) : Int) ∧ dp + n ≤ ((k - 1000 : Nat) : Int) ∧ K nx ls r (w_cpy σ s d sp.toNat dp.toNat n.toNat)
    | _ => False)
  | .monitorexit => (match st with | .inl n :: .inl i :: r => (0 ≤ i ∧ i < n) ∧ w_cs r ≤ 8 ∧ K nx ls r σ | _ => False)
  | .invokestatic c => ∃ (as r : List w_V) (d' : Nat), st = as.reverse ++ r ∧ E.2 = d' + 1 ∧ w_cs r ≤ 8 ∧ w_Call (E.1, d') c as σ (fun v σ' => K nx ls (w_push v r) σ')
  | .ireturn => (match st with | [v] => w_rtk rt v ∧ Q (some v) σ | _ => False)
  | .return_ => (match st with | [] => rt = 0 ∧ Q none σ | _ => False)
  | _ => False
/-- the least predicate that every instruction's word carries backwards -/
noncomputable def w_Ex (E : w_C) (rt : Nat) (code : List Instr) (Q : Option w_V → w_M → Prop) (pc : Nat) (ls : w_L) (st : List w_V) (σ : w_M) : Prop :=
  ∀ P : Nat → w_L → List w_V → w_M → Prop, (∀ (pc : Nat) (op : Instr) (ls : w_L) (st : List w_V) (σ : w_M), code[pc]? = some op → w_opG P E rt Q op (pc + 1) ls st σ → P pc ls st σ) → P pc ls st σ
noncomputable def w_op (op : Instr) (E : w_C) (rt : Nat) (code : List Instr) (Q : Option w_V → w_M → Prop) (nx : Nat) (ls : w_L) (st : List w_V) (σ : w_M) : Prop := w_opG (w_Ex E rt code Q) E rt Q op nx ls st σ
theorem w_lks_mono {K K' : Nat → Prop} (hK : ∀ t, K t → K' t) {x : Int} : ∀ {ps : List (Int × Int)} {d : Int}, w_lks K x ps d → w_lks K' x ps d
  | [], _, h => hK _ h
  | (_, _) :: _, _, h => ⟨fun c => hK _ (h.1 c), fun c => w_lks_mono hK (h.2 c)⟩
theorem w_tsw_mono {K K' : Nat → Prop} (hK : ∀ t, K t → K' t) {x : Int} : ∀ {ts : List Int} {lo : Int}, w_tsw K x lo ts → w_tsw K' x lo ts
  | [], _, _ => trivial
  | _ :: _, _, h => ⟨fun c => hK _ (h.1 c), w_tsw_mono hK h.2⟩
set_option maxHeartbeats 4000000 in
theorem w_opG_mono {K K' : Nat → w_L → List w_V → w_M → Prop} (hK : ∀ a b c d, K a b c d → K' a b c d) {E : w_C} {rt : Nat} {Q : Option w_V → w_M → Prop} {op : Instr} {nx : Nat} {ls : w_L} {st : List w_V} {σ : w_M} (h : w_opG K E rt Q op nx ls st σ) : w_opG K' E rt Q op nx ls st σ := by
  unfold w_opG at h ⊢
  split at h
  all_goals first
    | exact h
    | exact hK _ _ _ _ h
    | exact ⟨h.1, hK _ _ _ _ h.2⟩
    | (obtain ⟨as, r, d', e1, e2, e3, e4⟩ := h; exact ⟨as, r, d', e1, e2, e3, w_Call_mono (fun _ _ => hK _ _ _ _) e4⟩)
    | skip
  all_goals (split at h)
  all_goals first
    | exact h.elim
    | exact hK _ _ _ _ h
    | exact ⟨h.1, hK _ _ _ _ h.2⟩
    | exact ⟨h.1, h.2.1, hK _ _ _ _ h.2.2⟩
    | exact ⟨h.1, h.2.1, h.2.2.1, hK _ _ _ _ h.2.2.2⟩
    | exact ⟨h.1, h.2.1, h.2.2.1, h.2.2.2.1, hK _ _ _ _ h.2.2.2.2⟩
    | exact ⟨fun c => hK _ _ _ _ (h.1 c), fun c => hK _ _ _ _ (h.2 c)⟩
    | exact ⟨h.1, fun c => hK _ _ _ _ (h.2.1 c), w_tsw_mono (fun t => hK _ _ _ _) h.2.2⟩
    | exact w_lks_mono (fun t => hK _ _ _ _) h
    | exact h
    | exact ⟨h.1, h.2.1, h.2.2.1, h.2.2.2.1, h.2.2.2.2.1, h.2.2.2.2.2.1, h.2.2.2.2.2.2.1, hK _ _ _ _ h.2.2.2.2.2.2.2⟩
    | skip
  all_goals (split at h)
  all_goals first
    | (rename_i hc; rw [if_pos hc]; exact ⟨h.1, hK _ _ _ _ h.2⟩)
    | (rename_i hc; rw [if_pos hc]; exact ⟨h.1, h.2.1, hK _ _ _ _ h.2.2⟩)
    | (rename_i hc; rw [if_pos hc]; exact hK _ _ _ _ h)
    | (rename_i hc; rw [if_neg hc]; exact ⟨h.1, hK _ _ _ _ h.2⟩)
    | (rename_i hc; rw [if_neg hc]; exact ⟨h.1, h.2.1, h.2.2.1, hK _ _ _ _ h.2.2.2⟩)
    | skip
  all_goals (split at h)
  · rename_i h1 h2
    rw [if_neg h1, if_pos h2]
    exact ⟨h.1, hK _ _ _ _ h.2⟩
  · rename_i h1 h2
    rw [if_neg h1, if_neg h2]
    refine ⟨h.1, ?_⟩
    have h3 := h.2
    split at h3
    · exact hK _ _ _ _ h3
    · exact hK _ _ _ _ h3
theorem w_Ex_in {E : w_C} {rt : Nat} {code : List Instr} {Q : Option w_V → w_M → Prop} {pc : Nat} {op : Instr} {ls : w_L} {st : List w_V} {σ : w_M} (h : code[pc]? = some op) (hw : w_op op E rt code Q (pc + 1) ls st σ) : w_Ex E rt code Q pc ls st σ :=
  fun P hP => hP pc op ls st σ h (w_opG_mono (fun _ _ _ _ k => k P hP) hw)
