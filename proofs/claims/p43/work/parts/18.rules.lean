section
/-! THE SECOND LAYER: cells of fixed shapes hold integers, σ : cell → index → Int; a run is told by what must hold ahead of it -/
noncomputable abbrev w_V : Type := Int ⊕ (Int ⊕ (Nat × Nat))
noncomputable abbrev w_M : Type := Nat → Nat → Int
noncomputable abbrev w_L : Type := List (Option w_V)
/-- the script, the depth of calls -/
noncomputable abbrev w_C : Type := List Int × Nat
noncomputable def w_up (σ : w_M) (a i : Nat) (x : Int) : w_M := fun b j => if b = a ∧ j = i then x else σ b j
noncomputable def w_cpy (σ : w_M) (s d sp dp n : Nat) : w_M := fun b j => if b = d ∧ dp ≤ j ∧ j < dp + n then σ s (sp + (j - dp)) else σ b j
noncomputable def w_in (x : Int) : Prop := -2147483648 ≤ x ∧ x ≤ 2147483647
noncomputable def w_inl (x : Int) : Prop := -9223372036854775808 ≤ x ∧ x ≤ 9223372036854775807
noncomputable def w_nl : Option w_V → Prop
  | some (.inr (.inl _)) => False
  | _ => True
noncomputable def w_okp (ls : w_L) (i : Nat) : Prop := match i with
  | 0 => True
  | j + 1 => match ls[j]? with
    | some l => w_nl l
    | none => True
noncomputable def w_cmp (c : Jvm.ClassFile.Cond) (x y : Int) : Prop := match c with
  | .eq => x = y
  | .ne => ¬ x = y
  | .lt => x < y
  | .ge => y ≤ x
  | .gt => y < x
  | .le => x ≤ y
noncomputable def w_b2 (f : Int32 → Int32 → Int32) (x y : Int) : Int := (f (Int32.ofInt x) (Int32.ofInt y)).toInt
noncomputable def w_and (x y : Int) : Int := w_b2 (fun a b => a &&& b) x y
noncomputable def w_or (x y : Int) : Int := w_b2 (fun a b => a ||| b) x y
noncomputable def w_xor (x y : Int) : Int := w_b2 (fun a b => a ^^^ b) x y
noncomputable def w_shl (x y : Int) : Int := w_b2 (fun a b => a <<< (b &&& 31)) x y
noncomputable def w_shr (x y : Int) : Int := w_b2 (fun a b => a >>> (b &&& 31)) x y
noncomputable def w_ushr (x y : Int) : Int := w_b2 (fun a b => (a.toUInt32 >>> (b.toUInt32 &&& Int32.toUInt32 31)).toInt32) x y
/-- wrap-around -/
noncomputable def w_wr (x : Int) : Int := Int.bmod x 4294967296
/-- reference fields: kind and distance of what they refer to -/
noncomputable def w_rf : Nat → Option (Nat × Nat) := fun f => (([(0, 1, 1), (1, 3, 13), (2, 2, 14), (3, 4002, 30), (4, 6, 31), (5, 7, 63), (6, 8, 80), (100, 2160, 1), (102, 2, 2), (106, 1003, 11), (207, 1007, 1), (208, 1007, 2), (209, 1004, 3), (210, 1004, 4), (211, 1004, 5), (212, 1004, 6), (213, 1004, 7), (214, 1004, 8), (300, 2, 1), (301, 4, 10), (302, 5, 14), (401, 1008, 1), (402, 1008, 2), (403, 1008, 3), (501, 1004, 1), (502, 1004, 2), (600, 2, 1), (601, 1004, 10), (602, 1004, 11), (603, 1004, 12), (604, 1013, 13), (605, 10410, 14), (606, 11220, 19), (701, 10707, 1), (702, 10707, 9), (800, 10440, 1), (801, 1004, 6), (802, 1004, 7), (900, 1246, 1), (901, 1082, 2), (902, 3002, 3), (906, 1082, 4), (914, 1160, 5), (922, 1049, 6), (923, 1049, 7), (924, 1004, 8), (925, 1004, 9), (926, 1160, 10), (928, 1004, 11)] : List (Nat × Nat × Nat)).lookup f)
noncomputable def w_stat (j : Nat) : w_V := match j with
  | 0 => .inl 1
  | 1 => .inr (.inr (6005, 1010))
  | 2 => .inr (.inr (6015, 1011))
  | _ => .inr (.inr (6015, 1012))
noncomputable def w_cnum : List Int := [1, 2, 3, 1, 1]
noncomputable def w_clow : List Int := [1, 0, 0, 0, 0, 0, 1, 0, 0, 0, 0, 0, 0, 0, 0]
noncomputable def w_chig : List Int := [12, 0, 0, 40, 3, 0, 9, 9, 6, 11, 0, 0, 6, 0, 0]
noncomputable def w_cbyt : List (List Int) := [[110, 105, 103, 104, 116], [115, 116, 114, 105, 112], [114, 101, 97, 112, 101, 114], [99, 108, 111, 117, 100], [116, 104, 105, 115, 116, 108, 101]]
/-- the constant arrays' contents, by address -/
noncomputable def w_carr (xs : List Int) (a : Nat) : List Int := if a = 1010 then w_cnum else if a = 1011 then w_clow else if a = 1012 then w_chig else if a = 1013 then xs else w_cbyt.getD ((a - 1001) / 2) []
noncomputable def w_cs : List w_V → Nat
  | [] => 0
  | .inr (.inl _) :: r => 2 + w_cs r
  | _ :: r => 1 + w_cs r
noncomputable def w_lks (K : Nat → Prop) (x : Int) : List (Int × Int) → Int → Prop
  | [], d => K d.toNat
  | (a, t) :: r, d => (x = a → K t.toNat) ∧ (¬ x = a → w_lks K x r d)
noncomputable def w_tsw (K : Nat → Prop) (x : Int) : Int → List Int → Prop
  | _, [] => True
  | lo, t :: r => (x = lo → K t.toNat) ∧ w_tsw K x (lo + 1) r
noncomputable def w_rtk (rt : Nat) (v : w_V) : Prop := match rt, v with
  | 1, .inl _ => True
  | 2, .inl x => x = 0 ∨ x = 1
  | 3, .inr (.inl _) => True
  | 4, .inr (.inr _) => True
  | 5, .inl x => 0 ≤ x ∧ x ≤ 65535
  | 6, .inl x => -128 ≤ x ∧ x ≤ 127
  | _, _ => False
/-! The second layer's cells beside the list machine's -/
noncomputable def w_kl : List Nat := [0, 1, 2160, 2, 1007, 1007, 1004, 1004, 1004, 1004, 1004, 1004, 1003, 3, 2, 1007, 1007, 1004, 1004, 1004, 1004, 1004, 1004, 4, 1008, 1008, 1008, 5, 1004, 1004, 4002, 6, 2, 1007, 1007, 1004, 1004, 1004, 1004, 1004, 1004, 1004, 1004, 1004, 1013, 10410, 1010, 1010, 1010, 1010, 11220, 1020, 1020, 1020, 1020, 1020, 1020, 1020, 1020, 1020, 1020, 1020, 1020, 7, 10707, 1007, 1007, 1007, 1007, 1007, 1007, 1007, 10707, 1007, 1007, 1007, 1007, 1007, 1007, 1007, 8, 10440, 1040, 1040, 1040, 1040, 1004, 1004, 3, 2, 1007, 1007, 1004, 1004, 1004, 1004, 1004, 1004, 4, 1008, 1008, 1008, 5, 1004, 1004, 3, 2, 1007, 1007, 1004, 1004, 1004, 1004, 1004, 1004, 4, 1008, 1008, 1008, 5, 1004, 1004, 9, 1246, 1082, 3002, 1082, 1160, 1049, 1049, 1004, 1004, 1160, 1004]
noncomputable def w_kind (a : Nat) : Nat := w_kl.getD a 9999
noncomputable def w_nf (k : Nat) : Nat := (am_clq k).2.2
noncomputable def w_fv (k a : Nat) (f : Nat → Int) (i : Nat) : Value := match w_rf (k * 100 + i) with
  | some q => .ref (a + q.2)
  | none => .int (Int32.ofInt (f i))
theorem w_fv_s {k a i : Nat} {f : Nat → Int} {q : Nat × Nat} (h : w_rf (k * 100 + i) = some q) : w_fv k a f i = .ref (a + q.2) := by unfold w_fv; rw [h]
theorem w_fv_n {k a i : Nat} {f : Nat → Int} (h : w_rf (k * 100 + i) = none) : w_fv k a f i = .int (Int32.ofInt (f i)) := by unfold w_fv; rw [h]
noncomputable def w_cell (k a : Nat) (f : Nat → Int) : am_E :=
  if k < 1000 then .inr (.inl (k, (List.range (w_nf k)).map (w_fv k a f)))
  else if k < 2000 then .inl (0, (List.range (k - 1000)).map fun i => Int32.ofInt (f i))
  else if k < 3000 then .inl (1, (List.range (k - 2000)).map fun i => Int32.ofInt (f i))
  else if k < 4000 then .inl (2, (List.range (k - 3000)).map fun i => Int32.ofInt (f i))
  else if k < 10000 then .inr (.inr (0, (List.range 2).map fun j => some (88 + 17 * j)))
  else .inr (.inr (1, (List.range (k / 100 % 100)).map fun j => some (a + 1 + j)))
noncomputable def w_mem (σ : w_M) : List am_E := (List.range 134).map fun a => w_cell (w_kind a) a (σ a)
noncomputable def w_tv : w_V → Value
  | .inl x => .int (Int32.ofInt x)
  | .inr (.inl x) => .long (Int64.ofInt x)
  | .inr (.inr q) => .ref q.2
noncomputable def w_rv (k a : Nat) : Prop := (a < 134 ∧ w_kind a = k) ∨ (k = 20 ∧ 1000 ≤ a ∧ a < 1010 ∧ a % 2 = 0) ∨ (k = 7000 ∧ 1000 ≤ a ∧ a < 1010 ∧ a % 2 = 1) ∨ (k = 6005 ∧ a = 1010) ∨ (k = 6015 ∧ (a = 1011 ∨ a = 1012)) ∨ (k = 8000 ∧ a = 1013)
noncomputable def w_vv : w_V → Prop
  | .inl x => w_in x
  | .inr (.inl x) => w_inl x
  | .inr (.inr q) => w_rv q.1 q.2
noncomputable def w_ms (σ : w_M) : Prop := ∀ a i, w_in (σ a i)
/-- the tables agree: what a reference field refers to is of its kind -/
noncomputable def w_rfb (a i : Nat) : Bool := match w_rf (w_kind a * 100 + i) with | some q => decide (a + q.2 < 134) && decide (w_kind (a + q.2) = q.1) | none => true
theorem w_rf_ok : ∀ a, a < 134 → w_kind a < 1000 → (w_kind a < 10 ∧ ∀ i, i < w_nf (w_kind a) → w_rfb a i = true) := by decide +kernel
theorem w_aa_ok : ∀ a, a < 134 → 10000 ≤ w_kind a → ∀ j, j < w_kind a / 100 % 100 → a + 1 + j < 134 ∧ w_kind (a + 1 + j) = 1000 + w_kind a % 100 := by decide +kernel
theorem w_im_ok : ∀ j, j < 2 → 88 + 17 * j < 134 ∧ w_kind (88 + 17 * j) = 3 := by decide +kernel
theorem w_kd_ok : ∀ a, a < 134 → w_kind a = 4002 ∨ w_kind a < 4000 ∨ (10000 ≤ w_kind a ∧ w_kind a < 12000) := by decide +kernel
noncomputable def w_ftb (ci k : Nat) : Bool := match w_rf (ci * 100 + k), (am_ft ci)[k]? with
  | none, some (ty, _, _) => decide (ty = .int) || (decide (ty = .boolean) && (decide (ci * 100 + k = 105) || decide (ci * 100 + k = 910)))
  | some _, some _ => true
  | _, none => false
theorem w_ft_ok : ∀ ci, ci < 10 → ∀ k, k < w_nf ci → w_ftb ci k = true := by decide +kernel
theorem w_mem_len (σ : w_M) : (w_mem σ).length = 134 := by unfold w_mem; rw [List.length_map, List.length_range]
theorem w_mem_get {σ : w_M} {a : Nat} (h : a < 134) : (w_mem σ)[a]? = some (w_cell (w_kind a) a (σ a)) := by
  unfold w_mem
  rw [List.getElem?_map, List.getElem?_range h]
  rfl
theorem w_mem_set {σ σ' : w_M} {a : Nat} (h : ∀ b, b ≠ a → σ' b = σ b) : (w_mem σ).set a (w_cell (w_kind a) a (σ' a)) = w_mem σ' := by
  apply List.ext_getElem?
  intro i
  rw [List.getElem?_set, w_mem_len]
  by_cases hi : a = i
  · subst hi
    rw [if_pos rfl]
    by_cases hl : a < 134
    · rw [if_pos hl, w_mem_get hl]
    · rw [if_neg hl, List.getElem?_eq_none (by rw [w_mem_len]; omega)]
  · rw [if_neg hi]
    by_cases hl : i < 134
    · rw [w_mem_get hl, w_mem_get hl, h i (fun e => hi e.symm)]
    · rw [List.getElem?_eq_none (by rw [w_mem_len]; omega), List.getElem?_eq_none (by rw [w_mem_len]; omega)]
theorem w_up_ne {σ : w_M} {a i : Nat} {x : Int} {b : Nat} (h : b ≠ a) : w_up σ a i x b = σ b := by
  funext j
  simp [w_up, h]
theorem w_up_ms {σ : w_M} {a i : Nat} {x : Int} (h : w_ms σ) (hx : w_in x) : w_ms (w_up σ a i x) := by
  intro b j
  unfold w_up
  split
  · exact hx
  · exact h b j
theorem w_ci {x : Int} (h : w_in x) : (Int32.ofInt x).toInt = x := Int32.toInt_ofInt_of_le (by have := h.1; omega) (by have := h.2; omega)
theorem w_cl {x : Int} (h : w_inl x) : (Int64.ofInt x).toInt = x := Int64.toInt_ofInt_of_le (by have := h.1; omega) (by have := h.2; omega)
theorem w_lt {x y : Int} (hx : w_in x) (hy : w_in y) : Int32.ofInt x < Int32.ofInt y ↔ x < y := by rw [Int32.lt_iff_toInt_lt, w_ci hx, w_ci hy]
theorem w_le {x y : Int} (hx : w_in x) (hy : w_in y) : Int32.ofInt x ≤ Int32.ofInt y ↔ x ≤ y := by rw [Int32.le_iff_toInt_le, w_ci hx, w_ci hy]
theorem w_eq {x y : Int} (hx : w_in x) (hy : w_in y) : Int32.ofInt x = Int32.ofInt y ↔ x = y := by rw [← Int32.toInt_inj, w_ci hx, w_ci hy]
theorem w_llt {x y : Int} (hx : w_inl x) (hy : w_inl y) : Int64.ofInt x < Int64.ofInt y ↔ x < y := by rw [Int64.lt_iff_toInt_lt, w_cl hx, w_cl hy]
theorem w_leq {x y : Int} (hx : w_inl x) (hy : w_inl y) : Int64.ofInt x = Int64.ofInt y ↔ x = y := by rw [← Int64.toInt_inj, w_cl hx, w_cl hy]
theorem w_in0 : w_in 0 := by constructor <;> decide
theorem w_nat {x : Int} (h : w_in x) : (Int32.ofInt x).toNatClampNeg = x.toNat := Int32.toNatClampNeg_ofInt_of_le (by have := h.1; omega) (by have := h.2; omega)
theorem w_neg {x : Int} (h : w_in x) : Int32.ofInt x < 0 ↔ x < 0 := w_lt (y := 0) h w_in0
theorem w_inb {x : Int} {n : Nat} (h : w_in x) (h0 : 0 ≤ x) (h1 : x < n) : am_inb (Int32.ofInt x) n = true := by
  unfold am_inb
  rw [w_nat h]
  have : ¬ Int32.ofInt x < 0 := fun q => by have := (w_neg h).mp q; omega
  simp [this]
  omega
theorem w_bm32 (z : Int) : Int32.ofInt (w_wr z) = Int32.ofInt z := by
  rw [← Int32.toInt_inj, Int32.toInt_ofInt, Int32.toInt_ofInt]
  exact Int.bmod_bmod
theorem w_wr_in (z : Int) : w_in (w_wr z) := by
  unfold w_wr w_in
  have h1 := Int.le_bmod (x := z) (m := 4294967296) (by decide)
  have h2 := Int.bmod_lt (x := z) (m := 4294967296) (by decide)
  omega
theorem w_toInt_in (x : Int32) : w_in x.toInt := by
  have h1 := Int32.le_toInt x
  have h2 := Int32.toInt_lt x
  unfold w_in
  omega
theorem w_gmr {α : Type} {g : Nat → α} {n j : Nat} {d : α} (h : j < n) : ((List.range n).map g).getD j d = g j := by
  rw [List.getD_eq_getElem?_getD, List.getElem?_map, List.getElem?_range h]
  rfl
theorem w_smr {n j : Nat} {g g' : Nat → Int32} {v : Int32} (hj : g' j = v) (ho : ∀ i, i ≠ j → g' i = g i) : ((List.range n).map g).set j v = (List.range n).map g' := by
  apply List.ext_getElem?
  intro i
  rw [List.getElem?_set, List.length_map, List.length_range]
  by_cases hi : j = i
  · subst hi
    rw [if_pos rfl]
    by_cases hl : j < n
    · rw [if_pos hl, List.getElem?_map, List.getElem?_range hl, Option.map_some, hj]
    · rw [if_neg hl, List.getElem?_eq_none (by rw [List.length_map, List.length_range]; omega)]
  · rw [if_neg hi, List.getElem?_map, List.getElem?_map]
    by_cases hl : i < n
    · rw [List.getElem?_range hl, Option.map_some, Option.map_some, ho i (fun e => hi e.symm)]
    · rw [List.getElem?_eq_none (by rw [List.length_range]; omega)]
      rfl
theorem w_up_at {σ : w_M} {a i : Nat} {x : Int} : w_up σ a i x a i = x := by simp [w_up]
theorem w_up_j {σ : w_M} {a i j : Nat} {x : Int} (h : j ≠ i) : w_up σ a i x a j = σ a j := by simp [w_up, h]
theorem w_rv_lo {k a : Nat} (h : w_rv k a) (h1 : 1000 ≤ k) (h2 : k < 4000) : a < 134 ∧ w_kind a = k := by
  unfold w_rv at h
  omega
noncomputable def w_tl (ls : w_L) : am_L := ls.map fun l => l.map w_tv
noncomputable def w_vl (ls : w_L) : Prop := ∀ (i : Nat) (v : w_V), ls[i]? = some (some v) → w_vv v
noncomputable def w_vs (st : List w_V) : Prop := ∀ v ∈ st, w_vv v
noncomputable def w_xs (xs : List Int) : Prop := (∀ x ∈ xs, w_in x) ∧ xs.length ≤ 400
noncomputable def w_push (v : Option w_V) (r : List w_V) : List w_V := match v with
  | some v => v :: r
  | none => r
/-- a call, by its meaning: the list machine runs it to its end, and Q holds there -/
noncomputable def w_Call (E : w_C) (c : Nat) (as : List w_V) (σ : w_M) (Q : Option w_V → w_M → Prop) : Prop := w_xs E.1 → w_vs as → w_ms σ →
  ∃ Mc, am_P c = some Mc ∧ Mc.2.2.1 = as.length ∧ (am_place (as.map w_tv)).length ≤ Mc.2.1 ∧ am_recv (am_cst (E.1.map Int32.ofInt)) (w_mem σ) Mc.2.2.2.1 (as.map w_tv) = true ∧
  ∃ (n : Nat) (r : Option w_V) (σ' : w_M), am_exec am_ft am_P (am_cst (E.1.map Int32.ofInt)) n E.2 c 0 (am_args (as.map w_tv) Mc.2.1) [] (w_mem σ) = some (r.map w_tv, w_mem σ') ∧ Q r σ' ∧ w_ms σ' ∧ ∀ v, r = some v → w_vv v
theorem w_Call_mono {E : w_C} {c : Nat} {as : List w_V} {σ : w_M} {Q Q' : Option w_V → w_M → Prop} (hQ : ∀ r σ', Q r σ' → Q' r σ') (h : w_Call E c as σ Q) : w_Call E c as σ Q' := fun h1 h2 h3 => by
  obtain ⟨Mc, e1, e2, e3, e4, n, r, σ', e5, e6, e7⟩ := h h1 h2 h3
  exact ⟨Mc, e1, e2, e3, e4, n, r, σ', e5, hQ _ _ e6, e7⟩
/-- one instruction; wr: this arithmetic may wrap around -/
noncomputable def w_opG (K : Nat → w_L → List w_V → w_M → Prop) (E : w_C) (rt : Nat) (Q : Option w_V → w_M → Prop) (op : Instr) (nx : Nat) (ls : w_L) (st : List w_V) (σ : w_M) : Prop := match op with
  | .bipush n => K nx ls (.inl n :: st) σ
  | .sipush n => K nx ls (.inr (.inl n) :: st) σ
  | .ldc k => K nx ls (.inr (.inr (20, k)) :: st) σ
  | .getstatic j => j < 4 ∧ K nx ls (w_stat j :: st) σ
  | .iload i => (match ls[i]? with | some (some (.inl x)) => K nx ls (.inl x :: st) σ | _ => False)
  | .lload i => (match ls[i]? with | some (some (.inr (.inl x))) => K nx ls (.inr (.inl x) :: st) σ | _ => False)
  | .aload i => (match ls[i]? with | some (some (.inr (.inr x))) => K nx ls (.inr (.inr x) :: st) σ | _ => False)
  | .istore i => (match st with | .inl x :: r => i < ls.length ∧ w_okp ls i ∧ K nx (ls.set i (some (.inl x))) r σ | _ => False)
  | .astore i => (match st with | .inr (.inr x) :: r => i < ls.length ∧ w_okp ls i ∧ K nx (ls.set i (some (.inr (.inr x)))) r σ | _ => False)
  | .lstore i => (match st with | .inr (.inl x) :: r => i + 1 < ls.length ∧ w_okp ls i ∧ K nx ((ls.set i (some (.inr (.inl x)))).set (i + 1) none) r σ | _ => False)
  | .iinc i n => (match ls[i]? with | some (some (.inl x)) => w_okp ls i ∧ w_in (x + n) ∧ K nx (ls.set i (some (.inl (x + n)))) st σ | _ => False)
  | .iadd => (match st with | .inl y :: .inl x :: r => w_in (x + y) ∧ K nx ls (.inl (x + y) :: r) σ | _ => False)
  | .isub => (match st with | .inl y :: .inl x :: r => w_in (x - y) ∧ K nx ls (.inl (x - y) :: r) σ | _ => False)
  | .imul => (match st with | .inl y :: .inl x :: r => w_in (x * y) ∧ K nx ls (.inl (x * y) :: r) σ | _ => False)
  | .fadd => (match st with | .inl y :: .inl x :: r => K nx ls (.inl (w_wr (x + y)) :: r) σ | _ => False)
  | .fsub => (match st with | .inl y :: .inl x :: r => K nx ls (.inl (w_wr (x - y)) :: r) σ | _ => False)
  | .fmul => (match st with | .inl y :: .inl x :: r => K nx ls (.inl (w_wr (x * y)) :: r) σ | _ => False)
  | .idiv => (match st with | .inl y :: .inl x :: r => ¬ y = 0 ∧ w_in (x.tdiv y) ∧ K nx ls (.inl (x.tdiv y) :: r) σ | _ => False)
  | .irem => (match st with | .inl y :: .inl x :: r => ¬ y = 0 ∧ K nx ls (.inl (x.tmod y) :: r) σ | _ => False)
  | .iand => (match st with | .inl y :: .inl x :: r => K nx ls (.inl (w_and x y) :: r) σ | _ => False)
  | .ior => (match st with | .inl y :: .inl x :: r => K nx ls (.inl (w_or x y) :: r) σ | _ => False)
  | .ixor => (match st with | .inl y :: .inl x :: r => K nx ls (.inl (w_xor x y) :: r) σ | _ => False)
  | .ishl => (match st with | .inl y :: .inl x :: r => K nx ls (.inl (w_shl x y) :: r) σ | _ => False)
  | .ishr => (match st with | .inl y :: .inl x :: r => K nx ls (.inl (w_shr x y) :: r) σ | _ => False)
  | .iushr => (match st with | .inl y :: .inl x :: r => K nx ls (.inl (w_ushr x y) :: r) σ | _ => False)
  | .ineg => (match st with | .inl x :: r => w_in (-x) ∧ K nx ls (.inl (-x) :: r) σ | _ => False)
  | .i2l => (match st with | .inl x :: r => K nx ls (.inr (.inl x) :: r) σ | _ => False)
  | .i2b => (match st with | .inl x :: r => K nx ls (.inl (Int.bmod x 256) :: r) σ | _ => False)
  | .i2s => (match st with | .inl x :: r => K nx ls (.inl (Int.bmod x 65536) :: r) σ | _ => False)
  | .i2c => (match st with | .inl x :: r => (0 ≤ x ∧ x ≤ 65535) ∧ K nx ls (.inl x :: r) σ | _ => False)
  | .ladd => (match st with | .inr (.inl y) :: .inr (.inl x) :: r => w_inl (x + y) ∧ K nx ls (.inr (.inl (x + y)) :: r) σ | _ => False)
  | .lmul => (match st with | .inr (.inl y) :: .inr (.inl x) :: r => w_inl (x * y) ∧ K nx ls (.inr (.inl (x * y)) :: r) σ | _ => False)
  | .ldiv => (match st with | .inr (.inl y) :: .inr (.inl x) :: r => ¬ y = 0 ∧ w_inl (x.tdiv y) ∧ K nx ls (.inr (.inl (x.tdiv y)) :: r) σ | _ => False)
  | .lrem => (match st with | .inr (.inl y) :: .inr (.inl x) :: r => ¬ y = 0 ∧ K nx ls (.inr (.inl (x.tmod y)) :: r) σ | _ => False)
  | .lcmp => (match st with | .inr (.inl y) :: .inr (.inl x) :: r => K nx ls (.inl (if y < x then 1 else if x = y then 0 else -1) :: r) σ | _ => False)
  | .dup => (match st with | .inl x :: r => K nx ls (.inl x :: .inl x :: r) σ | .inr (.inr x) :: r => K nx ls (.inr (.inr x) :: .inr (.inr x) :: r) σ | _ => False)
  | .dup2 => (match st with | .inl x :: .inr (.inr y) :: r => K nx ls (.inl x :: .inr (.inr y) :: .inl x :: .inr (.inr y) :: r) σ | _ => False)
  | .pop => (match st with | .inl _ :: r => K nx ls r σ | .inr (.inr _) :: r => K nx ls r σ | _ => False)
  | .pop2 => (match st with | .inr (.inl _) :: r => K nx ls r σ | _ => False)
  | .ifCond c t => (match st with | .inl x :: r => (w_cmp c x 0 → K t.toNat ls r σ) ∧ (¬ w_cmp c x 0 → K nx ls r σ) | _ => False)
  | .if_icmp c t => (match st with | .inl y :: .inl x :: r => (w_cmp c x y → K t.toNat ls r σ) ∧ (¬ w_cmp c x y → K nx ls r σ) | _ => False)
  | .goto t => K t.toNat ls st σ
  | .tableswitch d lo hi ts => (match st with | .inl x :: r => (hi - lo + 1 = ts.toList.length) ∧ (x < lo ∨ hi < x → K d.toNat ls r σ) ∧ w_tsw (fun t => K t ls r σ) x lo ts.toList | _ => False)
  | .lookupswitch d ps => (match st with | .inl x :: r => w_lks (fun t => K t ls r σ) x ps.toList d | _ => False)
  | .iaload => (match st with
    | .inl j :: .inr (.inr (k, a)) :: r => if 1000 ≤ k ∧ k < 2000 then 0 ≤ j ∧ j < ((k - 1000 : Nat) : Int) ∧ K nx ls (.inl (σ a j.toNat) :: r) σ
        else (k = 6005 ∨ k = 6015 ∨ k = 8000) ∧ 0 ≤ j ∧ j < (w_carr E.1 a).length ∧ K nx ls (.inl ((w_carr E.1 a).getD j.toNat 0) :: r) σ
    | _ => False)
  | .baload => (match st with
    | .inl j :: .inr (.inr (k, a)) :: r => if 2000 ≤ k ∧ k < 4000 then 0 ≤ j ∧ j < ((k % 1000 : Nat) : Int) ∧ K nx ls (.inl (σ a j.toNat) :: r) σ
        else k = 7000 ∧ 0 ≤ j ∧ j < (w_carr E.1 a).length ∧ K nx ls (.inl ((w_carr E.1 a).getD j.toNat 0) :: r) σ
    | _ => False)
  | .iastore => (match st with
    | .inl x :: .inl j :: .inr (.inr (k, a)) :: r => (1000 ≤ k ∧ k < 2000) ∧ 0 ≤ j ∧ j < ((k - 1000 : Nat) : Int) ∧ K nx ls r (w_up σ a j.toNat x)
    | _ => False)
  | .bastore => (match st with
    | .inl x :: .inl j :: .inr (.inr (k, a)) :: r => (2000 ≤ k ∧ k < 4000) ∧ (if k < 3000 then -128 ≤ x ∧ x ≤ 127 else x = 0 ∨ x = 1) ∧ 0 ≤ j ∧ j < ((k % 1000 : Nat) : Int) ∧ K nx ls r (w_up σ a j.toNat x)
    | _ => False)
  | .aaload => (match st with
    | .inl j :: .inr (.inr (k, a)) :: r => if k = 4002 then 0 ≤ j ∧ j < 2 ∧ K nx ls (.inr (.inr (3, 88 + 17 * j.toNat)) :: r) σ
        else 10000 ≤ k ∧ 0 ≤ j ∧ j < ((k / 100 % 100 : Nat) : Int) ∧ K nx ls (.inr (.inr (1000 + k % 100, a + 1 + j.toNat)) :: r) σ
    | _ => False)
  | .arraylength => (match st with
    | .inr (.inr (k, a)) :: r => if 1000 ≤ k ∧ k < 4000 then K nx ls (.inl ((k % 1000 : Nat) : Int) :: r) σ
        else (k = 6005 ∨ k = 6015 ∨ k = 8000 ∨ k = 7000) ∧ K nx ls (.inl (w_carr E.1 a).length :: r) σ
    | _ => False)
  | .getfield f => (match st with
    | .inr (.inr (k, a)) :: r => if f = 2000 then k = 20 ∧ K nx ls (.inr (.inr (7000, a + 1)) :: r) σ else if f = 2001 then k = 20 ∧ K nx ls (.inl 0 :: r) σ
        else k = f / 100 ∧ (match w_rf f with | some q => K nx ls (.inr (.inr (q.1, a + q.2)) :: r) σ | none => K nx ls (.inl (σ a (f % 100)) :: r) σ)
    | _ => False)
  | .putfield f => (match st with
    | .inl x :: .inr (.inr (k, a)) :: r => k = f / 100 ∧ w_rf f = none ∧ (f = 105 ∨ f = 910 → x = 0 ∨ x = 1) ∧ K nx ls r (w_up σ a (f % 100) x)
    | _ => False)
  | .invokedynamic _ => (match st with
    | .inl n :: .inl dp :: .inr (.inr (k, d)) :: .inl sp :: .inr (.inr (k', s)) :: r => (1000 ≤ k ∧ k < 2000 ∧ 1000 ≤ k' ∧ k' < 2000) ∧ w_cs r ≤ 8 ∧ 0 ≤ n ∧ 0 ≤ dp ∧ 0 ≤ sp ∧ sp + n ≤ ((k' - 1000 : Nat) : Int) ∧ dp + n ≤ ((k - 1000 : Nat) : Int) ∧ K nx ls r (w_cpy σ s d sp.toNat dp.toNat n.toNat)
    | _ => False)
  | .monitorexit => (match st with | .inl n :: .inl i :: r => (0 ≤ i ∧ i < n) ∧ w_cs r ≤ 8 ∧ K nx ls r σ | _ => False)
  | .invokestatic c => ∃ (as r : List w_V) (d' : Nat), st = as.reverse ++ r ∧ E.2 = d' + 1 ∧ w_cs r ≤ 8 ∧ w_Call (E.1, d') c as σ (fun v σ' => K nx ls (w_push v r) σ')
  | .ireturn => (match st with | [v] => w_rtk rt v ∧ Q (some v) σ | _ => False)
  | .return_ => (match st with | [] => rt = 0 ∧ Q none σ | _ => False)
  | _ => False
/-- the least predicate that every instruction's word carries backwards -/
noncomputable def w_Ex (E : w_C) (rt : Nat) (code : List Instr) (Q : Option w_V → w_M → Prop) (pc : Nat) (ls : w_L) (st : List w_V) (σ : w_M) : Prop :=
  ∀ P : Nat → w_L → List w_V → w_M → Prop, (∀ (pc : Nat) (op : Instr) (ls : w_L) (st : List w_V) (σ : w_M), code[pc]? = some op → w_opG P E rt Q op (pc + 1) ls st σ → P pc ls st σ) → P pc ls st σ
noncomputable def w_op (op : Instr) (E : w_C) (rt : Nat) (code : List Instr) (Q : Option w_V → w_M → Prop) (nx : Nat) (ls : w_L) (st : List w_V) (σ : w_M) : Prop := w_opG (w_Ex E rt code Q) E rt Q op nx ls st σ
theorem w_lks_mono {K K' : Nat → Prop} (hK : ∀ t, K t → K' t) {x : Int} : ∀ {ps : List (Int × Int)} {d : Int}, w_lks K x ps d → w_lks K' x ps d
  | [], _, h => hK _ h
  | (_, _) :: _, _, h => ⟨fun c => hK _ (h.1 c), fun c => w_lks_mono hK (h.2 c)⟩
theorem w_tsw_mono {K K' : Nat → Prop} (hK : ∀ t, K t → K' t) {x : Int} : ∀ {ts : List Int} {lo : Int}, w_tsw K x lo ts → w_tsw K' x lo ts
  | [], _, _ => trivial
  | _ :: _, _, h => ⟨fun c => hK _ (h.1 c), w_tsw_mono hK h.2⟩
set_option maxHeartbeats 4000000 in
theorem w_opG_mono {K K' : Nat → w_L → List w_V → w_M → Prop} (hK : ∀ a b c d, K a b c d → K' a b c d) {E : w_C} {rt : Nat} {Q : Option w_V → w_M → Prop} {op : Instr} {nx : Nat} {ls : w_L} {st : List w_V} {σ : w_M} (h : w_opG K E rt Q op nx ls st σ) : w_opG K' E rt Q op nx ls st σ := by
  unfold w_opG at h ⊢
  split at h
  all_goals first
    | exact h
    | exact hK _ _ _ _ h
    | exact ⟨h.1, hK _ _ _ _ h.2⟩
    | (obtain ⟨as, r, d', e1, e2, e3, e4⟩ := h; exact ⟨as, r, d', e1, e2, e3, w_Call_mono (fun _ _ => hK _ _ _ _) e4⟩)
    | skip
  all_goals (split at h)
  all_goals first
    | exact h.elim
    | exact hK _ _ _ _ h
    | exact ⟨h.1, hK _ _ _ _ h.2⟩
    | exact ⟨h.1, h.2.1, hK _ _ _ _ h.2.2⟩
    | exact ⟨h.1, h.2.1, h.2.2.1, hK _ _ _ _ h.2.2.2⟩
    | exact ⟨h.1, h.2.1, h.2.2.1, h.2.2.2.1, hK _ _ _ _ h.2.2.2.2⟩
    | exact ⟨fun c => hK _ _ _ _ (h.1 c), fun c => hK _ _ _ _ (h.2 c)⟩
    | exact ⟨h.1, fun c => hK _ _ _ _ (h.2.1 c), w_tsw_mono (fun t => hK _ _ _ _) h.2.2⟩
    | exact w_lks_mono (fun t => hK _ _ _ _) h
    | exact h
    | exact ⟨h.1, h.2.1, h.2.2.1, h.2.2.2.1, h.2.2.2.2.1, h.2.2.2.2.2.1, h.2.2.2.2.2.2.1, hK _ _ _ _ h.2.2.2.2.2.2.2⟩
    | skip
  all_goals (split at h)
  all_goals first
    | (rename_i hc; rw [if_pos hc]; exact ⟨h.1, hK _ _ _ _ h.2⟩)
    | (rename_i hc; rw [if_pos hc]; exact ⟨h.1, h.2.1, hK _ _ _ _ h.2.2⟩)
    | (rename_i hc; rw [if_pos hc]; exact hK _ _ _ _ h)
    | (rename_i hc; rw [if_neg hc]; exact ⟨h.1, hK _ _ _ _ h.2⟩)
    | (rename_i hc; rw [if_neg hc]; exact ⟨h.1, h.2.1, h.2.2.1, hK _ _ _ _ h.2.2.2⟩)
    | skip
  all_goals (split at h)
  · rename_i h1 h2
    rw [if_neg h1, if_pos h2]
    exact ⟨h.1, hK _ _ _ _ h.2⟩
  · rename_i h1 h2
    rw [if_neg h1, if_neg h2]
    refine ⟨h.1, ?_⟩
    have h3 := h.2
    split at h3
    · exact hK _ _ _ _ h3
    · exact hK _ _ _ _ h3
theorem w_Ex_in {E : w_C} {rt : Nat} {code : List Instr} {Q : Option w_V → w_M → Prop} {pc : Nat} {op : Instr} {ls : w_L} {st : List w_V} {σ : w_M} (h : code[pc]? = some op) (hw : w_op op E rt code Q (pc + 1) ls st σ) : w_Ex E rt code Q pc ls st σ :=
  fun P hP => hP pc op ls st σ h (w_opG_mono (fun _ _ _ _ k => k P hP) hw)
end
section
/-! Soundness of the second layer's instructions: each is a step of the list machine -/
/-- wrap-around arithmetic is the same instruction below -/
noncomputable def w_un (op : Instr) : Instr := match op with
  | .fadd => .iadd
  | .fsub => .isub
  | .fmul => .imul
  | o => o
/-- what a run of the list machine owes -/
noncomputable def w_Sem (cst : List am_E) (d mid : Nat) (Q : Option w_V → w_M → Prop) (pc : Nat) (ls : w_L) (st : List w_V) (σ : w_M) : Prop :=
  w_vl ls → w_vs st → w_ms σ → ∃ (n : Nat) (r : Option w_V) (σ' : w_M), am_exec am_ft am_P cst n d mid pc (w_tl ls) (st.map w_tv) (w_mem σ) = some (r.map w_tv, w_mem σ') ∧ Q r σ' ∧ w_ms σ' ∧ ∀ v, r = some v → w_vv v
set_option maxHeartbeats 4000000 in
theorem am_exec_step {cst : List am_E} {n d mid pc : Nat} {M : am_M} {op : Instr} {ls ls' : am_L} {st st' : List Value} {mem mem' : List am_E} {j : Option Nat} {R : Option Value × List am_E} (hP : am_P mid = some M) (hop : M.1[pc]? = some op) (hs : am_step am_ft cst op ls st mem = some (j, ls', st', mem'))
    (hx : am_exec am_ft am_P cst n d mid (j.getD (pc + 1)) ls' st' mem' = some R) : am_exec am_ft am_P cst (n + 1) d mid pc ls st mem = some R := by
  unfold am_exec
  rw [hP]
  simp only [hop]
  split
  · simp [am_step, am_sop] at hs
  · simp [am_step, am_sop] at hs
  · simp [am_step, am_sop] at hs
  · rw [hs]
    exact hx
section WS
variable {cst : List am_E} {d mid : Nat} {Q : Option w_V → w_M → Prop} {pc : Nat} {ls ls' : w_L} {st st' : List w_V} {σ σ' : w_M} {M : am_M} {op : Instr}
theorem w_go {j : Option Nat} (hP : am_P mid = some M) (hop : M.1[pc]? = some op) (h : w_Sem cst d mid Q (j.getD (pc + 1)) ls' st' σ') (hs : am_step am_ft cst op (w_tl ls) (st.map w_tv) (w_mem σ) = some (j, w_tl ls', st'.map w_tv, w_mem σ')) (h1 : w_vl ls') (h2 : w_vs st') (h3 : w_ms σ') :
    ∃ (n : Nat) (r : Option w_V) (σ' : w_M), am_exec am_ft am_P cst n d mid pc (w_tl ls) (st.map w_tv) (w_mem σ) = some (r.map w_tv, w_mem σ') ∧ Q r σ' ∧ w_ms σ' ∧ ∀ v, r = some v → w_vv v := by
  obtain ⟨n, r, s2, e1, e2⟩ := h h1 h2 h3
  exact ⟨n + 1, r, s2, am_exec_step hP hop hs e1, e2⟩
theorem w_vs_nil : w_vs [] := fun _ h => by cases h
theorem w_vs_cons {v : w_V} (hv : w_vv v) (h : w_vs st) : w_vs (v :: st) := fun x hx => by
  rcases List.mem_cons.mp hx with rfl | hx
  · exact hv
  · exact h x hx
theorem w_vs_tl {v : w_V} (h : w_vs (v :: st)) : w_vs st := fun x hx => h x (List.mem_cons_of_mem _ hx)
theorem w_vs_hd {v : w_V} (h : w_vs (v :: st)) : w_vv v := h v List.mem_cons_self
theorem w_tl_get {i : Nat} : (w_tl ls)[i]? = (ls[i]?).map fun l => l.map w_tv := List.getElem?_map
theorem w_tl_len : (w_tl ls).length = ls.length := List.length_map ..
theorem w_tl_set {i : Nat} {l : Option w_V} : (w_tl ls).set i (l.map w_tv) = w_tl (ls.set i l) := by unfold w_tl; rw [List.map_set]
theorem w_vl_set {i : Nat} {v : w_V} (h : w_vl ls) (hv : w_vv v) : w_vl (ls.set i (some v)) := fun k x hx => by
  rw [List.getElem?_set] at hx
  split at hx
  · split at hx
    · cases hx; exact hv
    · cases hx
  · exact h k x hx
theorem w_vl_none {i : Nat} (h : w_vl ls) : w_vl (ls.set i none) := fun k x hx => by
  rw [List.getElem?_set] at hx
  split at hx
  · split at hx <;> cases hx
  · exact h k x hx
theorem w_okp_ok {i : Nat} (h : w_okp ls i) : am_okp (w_tl ls) i = true := by
  unfold am_okp
  cases i with
  | zero => rfl
  | succ j =>
    simp only [w_okp] at h
    simp only [w_tl_get]
    cases hj : ls[j]? with
    | none => rfl
    | some l =>
      rw [hj] at h
      cases l with
      | none => rfl
      | some v =>
        match v, h with
        | .inl x, _ => rfl
        | .inr (.inr x), _ => rfl
        | .inr (.inl x), h => exact h.elim
theorem w_cs_ok : ∀ {st : List w_V}, ((st.map w_tv).map fun v => v.category).sum = w_cs st
  | [] => rfl
  | .inl _ :: r => by simp only [List.map_cons, List.sum_cons, w_cs, w_cs_ok (st := r)]; rfl
  | .inr (.inl _) :: r => by simp only [List.map_cons, List.sum_cons, w_cs, w_cs_ok (st := r)]; rfl
  | .inr (.inr _) :: r => by simp only [List.map_cons, List.sum_cons, w_cs, w_cs_ok (st := r)]; rfl
end WS
end
section
/-! Each word of the second layer is a step below -/
noncomputable def w_cq (k : Nat) : Bool := (am_mq k).1.all fun op => match op with
  | .bipush x => decide (-2147483648 ≤ x) && decide (x ≤ 2147483647)
  | .sipush x => decide (-9223372036854775808 ≤ x) && decide (x ≤ 9223372036854775807)
  | .ldc a => decide (1000 ≤ a) && decide (a < 1010) && decide (a % 2 = 0)
  | _ => true
theorem w_cq_c : ((List.range 240).all w_cq) = true := by decide +kernel
theorem w_look_lo {cst mem : List am_E} {a : Nat} (h : a < 134) : am_look cst mem a = mem[a]? := if_pos (by omega)
theorem w_carr_i {xs : List Int} {mem : List am_E} {a : Nat} (h : a = 1010 ∨ a = 1011 ∨ a = 1012 ∨ a = 1013) : am_look (am_cst (xs.map Int32.ofInt)) mem a = some (.inl (0, (w_carr xs a).map Int32.ofInt)) := by
  rcases h with rfl | rfl | rfl | rfl <;> rfl
theorem w_carr_b {xs : List Int} {mem : List am_E} {a : Nat} (h : 1000 ≤ a ∧ a < 1010 ∧ a % 2 = 1) : am_look (am_cst (xs.map Int32.ofInt)) mem a = some (.inl (1, (w_carr xs a).map Int32.ofInt)) := by
  obtain ⟨h1, h2, h3⟩ := h
  rcases (show a = 1001 ∨ a = 1003 ∨ a = 1005 ∨ a = 1007 ∨ a = 1009 by omega) with rfl | rfl | rfl | rfl | rfl <;> rfl
theorem w_carr_s {xs : List Int} {mem : List am_E} {a : Nat} (h : 1000 ≤ a ∧ a < 1010 ∧ a % 2 = 0) : am_look (am_cst (xs.map Int32.ofInt)) mem a = some (.inr (.inl (20, [.ref (a + 1), .int 0]))) := by
  obtain ⟨h1, h2, h3⟩ := h
  rcases (show a = 1000 ∨ a = 1002 ∨ a = 1004 ∨ a = 1006 ∨ a = 1008 by omega) with rfl | rfl | rfl | rfl | rfl <;> rfl
theorem w_gD {l : List Int} {j : Nat} (h : j < l.length) : (l.map Int32.ofInt).getD j 0 = Int32.ofInt (l.getD j 0) := by
  rw [List.getD_eq_getElem?_getD, List.getD_eq_getElem?_getD, List.getElem?_map, List.getElem?_eq_getElem h]
  rfl
theorem w_carr_in {xs : List Int} (hx : ∀ x ∈ xs, w_in x) {a j : Nat} : w_in ((w_carr xs a).getD j 0) := by
  have key : ∀ l : List Int, (∀ x ∈ l, w_in x) → w_in (l.getD j 0) := fun l hl => by
    rw [List.getD_eq_getElem?_getD]
    cases hj : l[j]? with
    | none => exact w_in0
    | some x => exact hl x (List.mem_of_getElem? hj)
  have lit : ∀ l : List Int, (l.all fun x => decide (0 ≤ x) && decide (x ≤ 255)) = true → ∀ x ∈ l, w_in x := fun l h x hx => by
    have := List.all_eq_true.mp h x hx
    simp only [Bool.and_eq_true, decide_eq_true_eq] at this
    unfold w_in
    omega
  unfold w_carr
  split
  · exact key _ (lit _ (by decide))
  split
  · exact key _ (lit _ (by decide))
  split
  · exact key _ (lit _ (by decide))
  split
  · exact key _ hx
  · refine key _ (lit _ ?_)
    rw [List.getD_eq_getElem?_getD]
    cases hj : w_cbyt[(a - 1001) / 2]? with
    | none => rfl
    | some l =>
      have := List.all_eq_true.mp (show (w_cbyt.all fun l => l.all fun x => decide (0 ≤ x) && decide (x ≤ 255)) = true by decide) l (List.mem_of_getElem? hj)
      exact this
theorem w_cell_i {k a : Nat} {f : Nat → Int} (h1 : 1000 ≤ k) (h2 : k < 2000) : w_cell k a f = .inl (0, (List.range (k - 1000)).map fun i => Int32.ofInt (f i)) := by
  unfold w_cell
  rw [if_neg (by omega), if_pos h2]
theorem w_cell_b {k a : Nat} {f : Nat → Int} (h1 : 2000 ≤ k) (h2 : k < 3000) : w_cell k a f = .inl (1, (List.range (k - 2000)).map fun i => Int32.ofInt (f i)) := by
  unfold w_cell
  rw [if_neg (by omega), if_neg (by omega), if_pos h2]
theorem w_cell_z {k a : Nat} {f : Nat → Int} (h1 : 3000 ≤ k) (h2 : k < 4000) : w_cell k a f = .inl (2, (List.range (k - 3000)).map fun i => Int32.ofInt (f i)) := by
  unfold w_cell
  rw [if_neg (by omega), if_neg (by omega), if_neg (by omega), if_pos h2]
theorem w_cell_o {k a : Nat} {f : Nat → Int} (h : k < 1000) : w_cell k a f = .inr (.inl (k, (List.range (w_nf k)).map (w_fv k a f))) := by
  unfold w_cell
  rw [if_pos h]
theorem w_cell_q {k a : Nat} {f : Nat → Int} (h1 : 4000 ≤ k) (h2 : k < 10000) : w_cell k a f = .inr (.inr (0, (List.range 2).map fun j => some (88 + 17 * j))) := by
  unfold w_cell
  rw [if_neg (by omega), if_neg (by omega), if_neg (by omega), if_neg (by omega), if_pos h2]
theorem w_cell_r {k a : Nat} {f : Nat → Int} (h : 10000 ≤ k) : w_cell k a f = .inr (.inr (1, (List.range (k / 100 % 100)).map fun j => some (a + 1 + j))) := by
  unfold w_cell
  rw [if_neg (by omega), if_neg (by omega), if_neg (by omega), if_neg (by omega), if_neg (by omega)]

section WS
variable {d mid : Nat} {Q : Option w_V → w_M → Prop} {pc : Nat} {ls : w_L} {st : List w_V} {σ : w_M} {M : am_M} {xs : List Int} {E : w_C} {rt : Nat}
theorem w_wb2_in (f : Int32 → Int32 → Int32) (x y : Int) : w_in (w_b2 f x y) := w_toInt_in _
theorem w_wb2_of (f : Int32 → Int32 → Int32) (x y : Int) : Int32.ofInt (w_b2 f x y) = f (Int32.ofInt x) (Int32.ofInt y) := Int32.ofInt_toInt _
theorem w_div_of {x y : Int} (hx : w_in x) (hy : w_in y) : Int32.ofInt (x.tdiv y) = Int32.ofInt x / Int32.ofInt y := Int32.ofInt_tdiv (show (-2147483648 : Int) ≤ x by exact hx.1) (show x ≤ 2147483647 by exact hx.2) (show (-2147483648 : Int) ≤ y by exact hy.1) (show y ≤ 2147483647 by exact hy.2)
theorem w_mod_of {x y : Int} (hx : w_in x) (hy : w_in y) : Int32.ofInt (x.tmod y) = Int32.ofInt x - Int32.ofInt x / Int32.ofInt y * Int32.ofInt y := by
  rw [← w_div_of hx hy, ← Int32.ofInt_mul, ← Int32.ofInt_sub]
  congr 1
  have := Int.tdiv_mul_add_tmod x y
  omega
theorem w_mod_in {x y : Int} (hx : w_in x) (hy : w_in y) : w_in (x.tmod y) := by
  have h := w_toInt_in (Int32.ofInt x % Int32.ofInt y)
  rw [Int32.toInt_mod, w_ci hx, w_ci hy] at h
  exact h
theorem w_ldiv_of {x y : Int} (hx : w_inl x) (hy : w_inl y) : Int64.ofInt (x.tdiv y) = Int64.ofInt x / Int64.ofInt y := Int64.ofInt_tdiv (show (-9223372036854775808 : Int) ≤ x by exact hx.1) (show x ≤ 9223372036854775807 by exact hx.2) (show (-9223372036854775808 : Int) ≤ y by exact hy.1) (show y ≤ 9223372036854775807 by exact hy.2)
theorem w_lmod_of {x y : Int} (hx : w_inl x) (hy : w_inl y) : Int64.ofInt (x.tmod y) = Int64.ofInt x - Int64.ofInt x / Int64.ofInt y * Int64.ofInt y := by
  rw [← w_ldiv_of hx hy, ← Int64.ofInt_mul, ← Int64.ofInt_sub]
  congr 1
  have := Int.tdiv_mul_add_tmod x y
  omega
theorem w_lmod_in {x y : Int} (hx : w_inl x) (hy : w_inl y) : w_inl (x.tmod y) := by
  have h1 := Int64.le_toInt (Int64.ofInt x % Int64.ofInt y)
  have h2 := Int64.toInt_lt (Int64.ofInt x % Int64.ofInt y)
  rw [Int64.toInt_mod, w_cl hx, w_cl hy] at h1 h2
  unfold w_inl
  omega
theorem w_in_l {x : Int} (h : w_in x) : w_inl x := by
  unfold w_in at h
  unfold w_inl
  omega
theorem w_cmp_ok {c : Jvm.ClassFile.Cond} {x y : Int} (hx : w_in x) (hy : w_in y) : am_cmp c (Int32.ofInt x) (Int32.ofInt y) = true ↔ w_cmp c x y := by
  cases c with
  | eq => simp only [am_cmp, decide_eq_true_eq, w_cmp]; exact w_eq hx hy
  | ne => simp only [am_cmp, Bool.not_eq_true', decide_eq_false_iff_not, w_cmp]; exact not_congr (w_eq hx hy)
  | lt => simp only [am_cmp, decide_eq_true_eq, w_cmp]; exact w_lt hx hy
  | ge => simp only [am_cmp, decide_eq_true_eq, w_cmp]; exact w_le hy hx
  | gt => simp only [am_cmp, decide_eq_true_eq, w_cmp]; exact w_lt hy hx
  | le => simp only [am_cmp, decide_eq_true_eq, w_cmp]; exact w_le hx hy
theorem wS_iadd (hP : am_P mid = some M) (hop : M.1[pc]? = some (w_un (.iadd))) {cst : List am_E} (h : w_opG (w_Sem cst d mid Q) E rt Q (.iadd) (pc + 1) ls st σ) : w_Sem cst d mid Q pc ls st σ := by
  intro hl hst hσ
  simp only [w_opG] at h
  split at h
  · rename_i y x r
    have hy := w_vs_hd hst
    have hx := w_vs_hd (w_vs_tl hst)
    have hr := w_vs_tl (w_vs_tl hst)
    refine w_go hP hop (j := none) h.2 ?_ hl (w_vs_cons (v := .inl (x + y)) h.1 hr) hσ
    simp only [w_un, am_step, am_sop, List.map_cons, w_tv, Option.map_some, Int32.ofInt_add]
  · exact h.elim
theorem wS_isub (hP : am_P mid = some M) (hop : M.1[pc]? = some (w_un (.isub))) {cst : List am_E} (h : w_opG (w_Sem cst d mid Q) E rt Q (.isub) (pc + 1) ls st σ) : w_Sem cst d mid Q pc ls st σ := by
  intro hl hst hσ
  simp only [w_opG] at h
  split at h
  · rename_i y x r
    have hy := w_vs_hd hst
    have hx := w_vs_hd (w_vs_tl hst)
    have hr := w_vs_tl (w_vs_tl hst)
    refine w_go hP hop (j := none) h.2 ?_ hl (w_vs_cons (v := .inl (x - y)) h.1 hr) hσ
    simp only [w_un, am_step, am_sop, List.map_cons, w_tv, Option.map_some, Int32.ofInt_sub]
  · exact h.elim
theorem wS_imul (hP : am_P mid = some M) (hop : M.1[pc]? = some (w_un (.imul))) {cst : List am_E} (h : w_opG (w_Sem cst d mid Q) E rt Q (.imul) (pc + 1) ls st σ) : w_Sem cst d mid Q pc ls st σ := by
  intro hl hst hσ
  simp only [w_opG] at h
  split at h
  · rename_i y x r
    have hy := w_vs_hd hst
    have hx := w_vs_hd (w_vs_tl hst)
    have hr := w_vs_tl (w_vs_tl hst)
    refine w_go hP hop (j := none) h.2 ?_ hl (w_vs_cons (v := .inl (x * y)) h.1 hr) hσ
    simp only [w_un, am_step, am_sop, List.map_cons, w_tv, Option.map_some, Int32.ofInt_mul]
  · exact h.elim
theorem wS_fadd (hP : am_P mid = some M) (hop : M.1[pc]? = some (w_un (.fadd))) {cst : List am_E} (h : w_opG (w_Sem cst d mid Q) E rt Q (.fadd) (pc + 1) ls st σ) : w_Sem cst d mid Q pc ls st σ := by
  intro hl hst hσ
  simp only [w_opG] at h
  split at h
  · rename_i y x r
    have hy := w_vs_hd hst
    have hx := w_vs_hd (w_vs_tl hst)
    have hr := w_vs_tl (w_vs_tl hst)
    refine w_go hP hop (j := none) h ?_ hl (w_vs_cons (v := .inl (w_wr (x + y))) (w_wr_in _) hr) hσ
    simp only [w_un, am_step, am_sop, List.map_cons, w_tv, Option.map_some, w_bm32, Int32.ofInt_add]
  · exact h.elim
theorem wS_fsub (hP : am_P mid = some M) (hop : M.1[pc]? = some (w_un (.fsub))) {cst : List am_E} (h : w_opG (w_Sem cst d mid Q) E rt Q (.fsub) (pc + 1) ls st σ) : w_Sem cst d mid Q pc ls st σ := by
  intro hl hst hσ
  simp only [w_opG] at h
  split at h
  · rename_i y x r
    have hy := w_vs_hd hst
    have hx := w_vs_hd (w_vs_tl hst)
    have hr := w_vs_tl (w_vs_tl hst)
    refine w_go hP hop (j := none) h ?_ hl (w_vs_cons (v := .inl (w_wr (x - y))) (w_wr_in _) hr) hσ
    simp only [w_un, am_step, am_sop, List.map_cons, w_tv, Option.map_some, w_bm32, Int32.ofInt_sub]
  · exact h.elim
theorem wS_fmul (hP : am_P mid = some M) (hop : M.1[pc]? = some (w_un (.fmul))) {cst : List am_E} (h : w_opG (w_Sem cst d mid Q) E rt Q (.fmul) (pc + 1) ls st σ) : w_Sem cst d mid Q pc ls st σ := by
  intro hl hst hσ
  simp only [w_opG] at h
  split at h
  · rename_i y x r
    have hy := w_vs_hd hst
    have hx := w_vs_hd (w_vs_tl hst)
    have hr := w_vs_tl (w_vs_tl hst)
    refine w_go hP hop (j := none) h ?_ hl (w_vs_cons (v := .inl (w_wr (x * y))) (w_wr_in _) hr) hσ
    simp only [w_un, am_step, am_sop, List.map_cons, w_tv, Option.map_some, w_bm32, Int32.ofInt_mul]
  · exact h.elim
theorem wS_iand (hP : am_P mid = some M) (hop : M.1[pc]? = some (w_un (.iand))) {cst : List am_E} (h : w_opG (w_Sem cst d mid Q) E rt Q (.iand) (pc + 1) ls st σ) : w_Sem cst d mid Q pc ls st σ := by
  intro hl hst hσ
  simp only [w_opG] at h
  split at h
  · rename_i y x r
    have hy := w_vs_hd hst
    have hx := w_vs_hd (w_vs_tl hst)
    have hr := w_vs_tl (w_vs_tl hst)
    refine w_go hP hop (j := none) h ?_ hl (w_vs_cons (v := .inl (w_and x y)) (w_wb2_in _ _ _) hr) hσ
    simp only [w_un, am_step, am_sop, List.map_cons, w_tv, Option.map_some, w_and, w_wb2_of]
  · exact h.elim
theorem wS_ior (hP : am_P mid = some M) (hop : M.1[pc]? = some (w_un (.ior))) {cst : List am_E} (h : w_opG (w_Sem cst d mid Q) E rt Q (.ior) (pc + 1) ls st σ) : w_Sem cst d mid Q pc ls st σ := by
  intro hl hst hσ
  simp only [w_opG] at h
  split at h
  · rename_i y x r
    have hy := w_vs_hd hst
    have hx := w_vs_hd (w_vs_tl hst)
    have hr := w_vs_tl (w_vs_tl hst)
    refine w_go hP hop (j := none) h ?_ hl (w_vs_cons (v := .inl (w_or x y)) (w_wb2_in _ _ _) hr) hσ
    simp only [w_un, am_step, am_sop, List.map_cons, w_tv, Option.map_some, w_or, w_wb2_of]
  · exact h.elim
theorem wS_ixor (hP : am_P mid = some M) (hop : M.1[pc]? = some (w_un (.ixor))) {cst : List am_E} (h : w_opG (w_Sem cst d mid Q) E rt Q (.ixor) (pc + 1) ls st σ) : w_Sem cst d mid Q pc ls st σ := by
  intro hl hst hσ
  simp only [w_opG] at h
  split at h
  · rename_i y x r
    have hy := w_vs_hd hst
    have hx := w_vs_hd (w_vs_tl hst)
    have hr := w_vs_tl (w_vs_tl hst)
    refine w_go hP hop (j := none) h ?_ hl (w_vs_cons (v := .inl (w_xor x y)) (w_wb2_in _ _ _) hr) hσ
    simp only [w_un, am_step, am_sop, List.map_cons, w_tv, Option.map_some, w_xor, w_wb2_of]
  · exact h.elim
theorem wS_ishl (hP : am_P mid = some M) (hop : M.1[pc]? = some (w_un (.ishl))) {cst : List am_E} (h : w_opG (w_Sem cst d mid Q) E rt Q (.ishl) (pc + 1) ls st σ) : w_Sem cst d mid Q pc ls st σ := by
  intro hl hst hσ
  simp only [w_opG] at h
  split at h
  · rename_i y x r
    have hy := w_vs_hd hst
    have hx := w_vs_hd (w_vs_tl hst)
    have hr := w_vs_tl (w_vs_tl hst)
    refine w_go hP hop (j := none) h ?_ hl (w_vs_cons (v := .inl (w_shl x y)) (w_wb2_in _ _ _) hr) hσ
    simp only [w_un, am_step, am_sop, List.map_cons, w_tv, Option.map_some, w_shl, w_wb2_of]
  · exact h.elim
theorem wS_ishr (hP : am_P mid = some M) (hop : M.1[pc]? = some (w_un (.ishr))) {cst : List am_E} (h : w_opG (w_Sem cst d mid Q) E rt Q (.ishr) (pc + 1) ls st σ) : w_Sem cst d mid Q pc ls st σ := by
  intro hl hst hσ
  simp only [w_opG] at h
  split at h
  · rename_i y x r
    have hy := w_vs_hd hst
    have hx := w_vs_hd (w_vs_tl hst)
    have hr := w_vs_tl (w_vs_tl hst)
    refine w_go hP hop (j := none) h ?_ hl (w_vs_cons (v := .inl (w_shr x y)) (w_wb2_in _ _ _) hr) hσ
    simp only [w_un, am_step, am_sop, List.map_cons, w_tv, Option.map_some, w_shr, w_wb2_of]
  · exact h.elim
theorem wS_iushr (hP : am_P mid = some M) (hop : M.1[pc]? = some (w_un (.iushr))) {cst : List am_E} (h : w_opG (w_Sem cst d mid Q) E rt Q (.iushr) (pc + 1) ls st σ) : w_Sem cst d mid Q pc ls st σ := by
  intro hl hst hσ
  simp only [w_opG] at h
  split at h
  · rename_i y x r
    have hy := w_vs_hd hst
    have hx := w_vs_hd (w_vs_tl hst)
    have hr := w_vs_tl (w_vs_tl hst)
    refine w_go hP hop (j := none) h ?_ hl (w_vs_cons (v := .inl (w_ushr x y)) (w_wb2_in _ _ _) hr) hσ
    simp only [w_un, am_step, am_sop, List.map_cons, w_tv, Option.map_some, w_ushr, w_wb2_of]
  · exact h.elim
theorem wS_ladd (hP : am_P mid = some M) (hop : M.1[pc]? = some (w_un (.ladd))) {cst : List am_E} (h : w_opG (w_Sem cst d mid Q) E rt Q (.ladd) (pc + 1) ls st σ) : w_Sem cst d mid Q pc ls st σ := by
  intro hl hst hσ
  simp only [w_opG] at h
  split at h
  · rename_i y x r
    have hy := w_vs_hd hst
    have hx := w_vs_hd (w_vs_tl hst)
    have hr := w_vs_tl (w_vs_tl hst)
    refine w_go hP hop (j := none) h.2 ?_ hl (w_vs_cons (v := .inr (.inl (x + y))) h.1 hr) hσ
    simp only [w_un, am_step, am_sop, List.map_cons, w_tv, Option.map_some, Int64.ofInt_add]
  · exact h.elim
theorem wS_lmul (hP : am_P mid = some M) (hop : M.1[pc]? = some (w_un (.lmul))) {cst : List am_E} (h : w_opG (w_Sem cst d mid Q) E rt Q (.lmul) (pc + 1) ls st σ) : w_Sem cst d mid Q pc ls st σ := by
  intro hl hst hσ
  simp only [w_opG] at h
  split at h
  · rename_i y x r
    have hy := w_vs_hd hst
    have hx := w_vs_hd (w_vs_tl hst)
    have hr := w_vs_tl (w_vs_tl hst)
    refine w_go hP hop (j := none) h.2 ?_ hl (w_vs_cons (v := .inr (.inl (x * y))) h.1 hr) hσ
    simp only [w_un, am_step, am_sop, List.map_cons, w_tv, Option.map_some, Int64.ofInt_mul]
  · exact h.elim
theorem wS_idiv (hP : am_P mid = some M) (hop : M.1[pc]? = some (w_un (.idiv))) {cst : List am_E} (h : w_opG (w_Sem cst d mid Q) E rt Q (.idiv) (pc + 1) ls st σ) : w_Sem cst d mid Q pc ls st σ := by
  intro hl hst hσ
  simp only [w_opG] at h
  split at h
  · rename_i y x r
    have hy := w_vs_hd hst
    have hx := w_vs_hd (w_vs_tl hst)
    have hr := w_vs_tl (w_vs_tl hst)
    have h0 : ¬ Int32.ofInt y = 0 := fun q => h.1 ((w_eq (y := 0) hy w_in0).mp q)
    refine w_go hP hop (j := none) h.2.2 ?_ hl (w_vs_cons (v := .inl (x.tdiv y)) h.2.1 hr) hσ
    simp only [w_un, am_step, am_sop, List.map_cons, w_tv, if_neg h0, Option.map_some]
    rw [w_div_of hx hy]
  · exact h.elim
theorem wS_irem (hP : am_P mid = some M) (hop : M.1[pc]? = some (w_un (.irem))) {cst : List am_E} (h : w_opG (w_Sem cst d mid Q) E rt Q (.irem) (pc + 1) ls st σ) : w_Sem cst d mid Q pc ls st σ := by
  intro hl hst hσ
  simp only [w_opG] at h
  split at h
  · rename_i y x r
    have hy := w_vs_hd hst
    have hx := w_vs_hd (w_vs_tl hst)
    have hr := w_vs_tl (w_vs_tl hst)
    have h0 : ¬ Int32.ofInt y = 0 := fun q => h.1 ((w_eq (y := 0) hy w_in0).mp q)
    refine w_go hP hop (j := none) h.2 ?_ hl (w_vs_cons (v := .inl (x.tmod y)) (w_mod_in hx hy) hr) hσ
    simp only [w_un, am_step, am_sop, List.map_cons, w_tv, if_neg h0, Option.map_some]
    rw [w_mod_of hx hy]
  · exact h.elim
theorem wS_ldiv (hP : am_P mid = some M) (hop : M.1[pc]? = some (w_un (.ldiv))) {cst : List am_E} (h : w_opG (w_Sem cst d mid Q) E rt Q (.ldiv) (pc + 1) ls st σ) : w_Sem cst d mid Q pc ls st σ := by
  intro hl hst hσ
  simp only [w_opG] at h
  split at h
  · rename_i y x r
    have hy := w_vs_hd hst
    have hx := w_vs_hd (w_vs_tl hst)
    have hr := w_vs_tl (w_vs_tl hst)
    have h0 : ¬ Int64.ofInt y = 0 := fun q => h.1 ((w_leq (y := 0) hy (w_in_l w_in0)).mp q)
    refine w_go hP hop (j := none) h.2.2 ?_ hl (w_vs_cons (v := .inr (.inl (x.tdiv y))) h.2.1 hr) hσ
    simp only [w_un, am_step, am_sop, List.map_cons, w_tv, if_neg h0, Option.map_some]
    rw [w_ldiv_of hx hy]
  · exact h.elim
theorem wS_lrem (hP : am_P mid = some M) (hop : M.1[pc]? = some (w_un (.lrem))) {cst : List am_E} (h : w_opG (w_Sem cst d mid Q) E rt Q (.lrem) (pc + 1) ls st σ) : w_Sem cst d mid Q pc ls st σ := by
  intro hl hst hσ
  simp only [w_opG] at h
  split at h
  · rename_i y x r
    have hy := w_vs_hd hst
    have hx := w_vs_hd (w_vs_tl hst)
    have hr := w_vs_tl (w_vs_tl hst)
    have h0 : ¬ Int64.ofInt y = 0 := fun q => h.1 ((w_leq (y := 0) hy (w_in_l w_in0)).mp q)
    refine w_go hP hop (j := none) h.2 ?_ hl (w_vs_cons (v := .inr (.inl (x.tmod y))) (w_lmod_in hx hy) hr) hσ
    simp only [w_un, am_step, am_sop, List.map_cons, w_tv, if_neg h0, Option.map_some]
    rw [w_lmod_of hx hy]
  · exact h.elim
theorem wS_ineg (hP : am_P mid = some M) (hop : M.1[pc]? = some (w_un (.ineg))) {cst : List am_E} (h : w_opG (w_Sem cst d mid Q) E rt Q (.ineg) (pc + 1) ls st σ) : w_Sem cst d mid Q pc ls st σ := by
  intro hl hst hσ
  simp only [w_opG] at h
  split at h
  · rename_i x r
    have hx := w_vs_hd hst
    have hr := w_vs_tl hst
    refine w_go hP hop (j := none) h.2 ?_ hl (w_vs_cons (v := .inl (-x)) h.1 hr) hσ
    simp only [w_un, am_step, am_sop, List.map_cons, w_tv, Option.map_some, Int32.ofInt_neg]
  · exact h.elim
theorem wS_i2l (hP : am_P mid = some M) (hop : M.1[pc]? = some (w_un (.i2l))) {cst : List am_E} (h : w_opG (w_Sem cst d mid Q) E rt Q (.i2l) (pc + 1) ls st σ) : w_Sem cst d mid Q pc ls st σ := by
  intro hl hst hσ
  simp only [w_opG] at h
  split at h
  · rename_i x r
    have hx := w_vs_hd hst
    have hr := w_vs_tl hst
    have e1 : (Int32.ofInt x).toInt64 = Int64.ofInt x := Int32.toInt64_ofInt (show (-2147483648 : Int) ≤ x by exact hx.1) (show x ≤ 2147483647 by exact hx.2)
    refine w_go hP hop (j := none) h ?_ hl (w_vs_cons (v := .inr (.inl x)) (w_in_l hx) hr) hσ
    simp only [w_un, am_step, am_sop, List.map_cons, w_tv, Option.map_some, e1]
  · exact h.elim
theorem wS_i2b (hP : am_P mid = some M) (hop : M.1[pc]? = some (w_un (.i2b))) {cst : List am_E} (h : w_opG (w_Sem cst d mid Q) E rt Q (.i2b) (pc + 1) ls st σ) : w_Sem cst d mid Q pc ls st σ := by
  intro hl hst hσ
  simp only [w_opG] at h
  split at h
  · rename_i x r
    have hx := w_vs_hd hst
    have hr := w_vs_tl hst
    have e1 : (Int32.ofInt x).toInt8.toInt32 = Int32.ofInt (Int.bmod x 256) := by
      rw [Int32.toInt8_ofInt, ← Int32.ofInt_int8ToInt, Int8.toInt_ofInt]
    have e2 : w_in (Int.bmod x 256) := by
      have h1 := Int.le_bmod (x := x) (m := 256) (by decide)
      have h2 := Int.bmod_lt (x := x) (m := 256) (by decide)
      unfold w_in
      omega
    refine w_go hP hop (j := none) h ?_ hl (w_vs_cons (v := .inl (Int.bmod x 256)) e2 hr) hσ
    simp only [w_un, am_step, am_sop, List.map_cons, w_tv, Option.map_some, e1]
  · exact h.elim
theorem wS_i2s (hP : am_P mid = some M) (hop : M.1[pc]? = some (w_un (.i2s))) {cst : List am_E} (h : w_opG (w_Sem cst d mid Q) E rt Q (.i2s) (pc + 1) ls st σ) : w_Sem cst d mid Q pc ls st σ := by
  intro hl hst hσ
  simp only [w_opG] at h
  split at h
  · rename_i x r
    have hx := w_vs_hd hst
    have hr := w_vs_tl hst
    have e1 : (Int32.ofInt x).toInt16.toInt32 = Int32.ofInt (Int.bmod x 65536) := by
      rw [Int32.toInt16_ofInt, ← Int32.ofInt_int16ToInt, Int16.toInt_ofInt]
    have e2 : w_in (Int.bmod x 65536) := by
      have h1 := Int.le_bmod (x := x) (m := 65536) (by decide)
      have h2 := Int.bmod_lt (x := x) (m := 65536) (by decide)
      unfold w_in
      omega
    refine w_go hP hop (j := none) h ?_ hl (w_vs_cons (v := .inl (Int.bmod x 65536)) e2 hr) hσ
    simp only [w_un, am_step, am_sop, List.map_cons, w_tv, Option.map_some, e1]
  · exact h.elim
theorem wS_i2c (hP : am_P mid = some M) (hop : M.1[pc]? = some (w_un (.i2c))) {cst : List am_E} (h : w_opG (w_Sem cst d mid Q) E rt Q (.i2c) (pc + 1) ls st σ) : w_Sem cst d mid Q pc ls st σ := by
  intro hl hst hσ
  simp only [w_opG] at h
  split at h
  · rename_i x r
    have hx := w_vs_hd hst
    have hr := w_vs_tl hst
    have e1 : ((Int32.ofInt x).toUInt32 % 65536).toInt32 = Int32.ofInt x := lg_i2c_word (by rw [w_ci hx]; exact h.1.1) (by rw [w_ci hx]; have := h.1.2; omega)
    refine w_go hP hop (j := none) h.2 ?_ hl (w_vs_cons (v := .inl x) hx hr) hσ
    simp only [w_un, am_step, am_sop, List.map_cons, w_tv, Option.map_some, e1]
  · exact h.elim
theorem wS_lcmp (hP : am_P mid = some M) (hop : M.1[pc]? = some (w_un (.lcmp))) {cst : List am_E} (h : w_opG (w_Sem cst d mid Q) E rt Q (.lcmp) (pc + 1) ls st σ) : w_Sem cst d mid Q pc ls st σ := by
  intro hl hst hσ
  simp only [w_opG] at h
  split at h
  · rename_i y x r
    have hy := w_vs_hd hst
    have hx := w_vs_hd (w_vs_tl hst)
    have hr := w_vs_tl (w_vs_tl hst)
    have e1 : lg_cmp (Int64.ofInt x) (Int64.ofInt y) = Int32.ofInt (if y < x then 1 else if x = y then 0 else -1) := by
      have a1 := w_llt hy hx
      have a2 := w_leq hx hy
      unfold lg_cmp
      by_cases c1 : y < x
      · simp [a1, c1]
      · by_cases c2 : x = y
        · simp [a1, a2, c1, c2]
        · simp [a1, a2, c1, c2]
    have e2 : w_in (if y < x then 1 else if x = y then 0 else -1) := by
      unfold w_in
      split
      · omega
      · split <;> omega
    refine w_go hP hop (j := none) h ?_ hl (w_vs_cons (v := .inl _) e2 hr) hσ
    simp only [w_un, am_step, am_sop, List.map_cons, w_tv, Option.map_some, e1]
  · exact h.elim
theorem wS_dup (hP : am_P mid = some M) (hop : M.1[pc]? = some (w_un (.dup))) {cst : List am_E} (h : w_opG (w_Sem cst d mid Q) E rt Q (.dup) (pc + 1) ls st σ) : w_Sem cst d mid Q pc ls st σ := by
  intro hl hst hσ
  simp only [w_opG] at h
  split at h
  · rename_i x r
    refine w_go hP hop (j := none) h ?_ hl (w_vs_cons (w_vs_hd hst) hst) hσ
    simp [w_un, am_step, am_sop, w_tv, Value.category]
  · rename_i x r
    refine w_go hP hop (j := none) h ?_ hl (w_vs_cons (w_vs_hd hst) hst) hσ
    simp [w_un, am_step, am_sop, w_tv, Value.category]
  · exact h.elim
theorem wS_dup2 (hP : am_P mid = some M) (hop : M.1[pc]? = some (w_un (.dup2))) {cst : List am_E} (h : w_opG (w_Sem cst d mid Q) E rt Q (.dup2) (pc + 1) ls st σ) : w_Sem cst d mid Q pc ls st σ := by
  intro hl hst hσ
  simp only [w_opG] at h
  split at h
  · rename_i x y r
    refine w_go hP hop (j := none) h ?_ hl (w_vs_cons (w_vs_hd hst) (w_vs_cons (w_vs_hd (w_vs_tl hst)) hst)) hσ
    simp [w_un, am_step, am_sop, w_tv, Value.category]
  · exact h.elim
theorem wS_pop (hP : am_P mid = some M) (hop : M.1[pc]? = some (w_un (.pop))) {cst : List am_E} (h : w_opG (w_Sem cst d mid Q) E rt Q (.pop) (pc + 1) ls st σ) : w_Sem cst d mid Q pc ls st σ := by
  intro hl hst hσ
  simp only [w_opG] at h
  split at h
  · rename_i x r
    refine w_go hP hop (j := none) h ?_ hl (w_vs_tl hst) hσ
    simp [w_un, am_step, am_sop, w_tv, Value.category]
  · rename_i x r
    refine w_go hP hop (j := none) h ?_ hl (w_vs_tl hst) hσ
    simp [w_un, am_step, am_sop, w_tv, Value.category]
  · exact h.elim
theorem wS_pop2 (hP : am_P mid = some M) (hop : M.1[pc]? = some (w_un (.pop2))) {cst : List am_E} (h : w_opG (w_Sem cst d mid Q) E rt Q (.pop2) (pc + 1) ls st σ) : w_Sem cst d mid Q pc ls st σ := by
  intro hl hst hσ
  simp only [w_opG] at h
  split at h
  · rename_i x r
    refine w_go hP hop (j := none) h ?_ hl (w_vs_tl hst) hσ
    simp [w_un, am_step, am_sop, w_tv, Value.category]
  · exact h.elim
theorem wS_iload (hP : am_P mid = some M) {i : Nat} (hop : M.1[pc]? = some (w_un (.iload i))) {cst : List am_E} (h : w_opG (w_Sem cst d mid Q) E rt Q (.iload i) (pc + 1) ls st σ) : w_Sem cst d mid Q pc ls st σ := by
  intro hl hst hσ
  simp only [w_opG] at h
  split at h
  · rename_i v hv
    refine w_go hP hop (j := none) h ?_ hl (w_vs_cons (hl i _ hv) hst) hσ
    simp [w_un, am_step, w_tl_get, hv, w_tv]
  · exact h.elim
theorem wS_lload (hP : am_P mid = some M) {i : Nat} (hop : M.1[pc]? = some (w_un (.lload i))) {cst : List am_E} (h : w_opG (w_Sem cst d mid Q) E rt Q (.lload i) (pc + 1) ls st σ) : w_Sem cst d mid Q pc ls st σ := by
  intro hl hst hσ
  simp only [w_opG] at h
  split at h
  · rename_i v hv
    refine w_go hP hop (j := none) h ?_ hl (w_vs_cons (hl i _ hv) hst) hσ
    simp [w_un, am_step, w_tl_get, hv, w_tv]
  · exact h.elim
theorem wS_aload (hP : am_P mid = some M) {i : Nat} (hop : M.1[pc]? = some (w_un (.aload i))) {cst : List am_E} (h : w_opG (w_Sem cst d mid Q) E rt Q (.aload i) (pc + 1) ls st σ) : w_Sem cst d mid Q pc ls st σ := by
  intro hl hst hσ
  simp only [w_opG] at h
  split at h
  · rename_i v hv
    refine w_go hP hop (j := none) h ?_ hl (w_vs_cons (hl i _ hv) hst) hσ
    simp [w_un, am_step, w_tl_get, hv, w_tv]
  · exact h.elim
theorem wS_istore (hP : am_P mid = some M) {i : Nat} (hop : M.1[pc]? = some (w_un (.istore i))) {cst : List am_E} (h : w_opG (w_Sem cst d mid Q) E rt Q (.istore i) (pc + 1) ls st σ) : w_Sem cst d mid Q pc ls st σ := by
  intro hl hst hσ
  simp only [w_opG] at h
  split at h
  · rename_i v r
    refine w_go hP hop (j := none) h.2.2 ?_ (w_vl_set hl (w_vs_hd hst)) (w_vs_tl hst) hσ
    have e1 : i < (w_tl ls).length := by rw [w_tl_len]; exact h.1
    rw [← w_tl_set]
    simp [w_un, am_step, w_tv, e1, w_okp_ok h.2.1]
  · exact h.elim
theorem wS_astore (hP : am_P mid = some M) {i : Nat} (hop : M.1[pc]? = some (w_un (.astore i))) {cst : List am_E} (h : w_opG (w_Sem cst d mid Q) E rt Q (.astore i) (pc + 1) ls st σ) : w_Sem cst d mid Q pc ls st σ := by
  intro hl hst hσ
  simp only [w_opG] at h
  split at h
  · rename_i v r
    refine w_go hP hop (j := none) h.2.2 ?_ (w_vl_set hl (w_vs_hd hst)) (w_vs_tl hst) hσ
    have e1 : i < (w_tl ls).length := by rw [w_tl_len]; exact h.1
    rw [← w_tl_set]
    simp [w_un, am_step, w_tv, e1, w_okp_ok h.2.1]
  · exact h.elim
theorem wS_lstore (hP : am_P mid = some M) {i : Nat} (hop : M.1[pc]? = some (w_un (.lstore i))) {cst : List am_E} (h : w_opG (w_Sem cst d mid Q) E rt Q (.lstore i) (pc + 1) ls st σ) : w_Sem cst d mid Q pc ls st σ := by
  intro hl hst hσ
  simp only [w_opG] at h
  split at h
  · rename_i v r
    refine w_go hP hop (j := none) h.2.2 ?_ (w_vl_none (w_vl_set hl (w_vs_hd hst))) (w_vs_tl hst) hσ
    have e1 : i + 1 < (w_tl ls).length := by rw [w_tl_len]; exact h.1
    rw [← w_tl_set (l := none), ← w_tl_set]
    simp [w_un, am_step, w_tv, e1, w_okp_ok h.2.1]
  · exact h.elim
theorem wS_iinc (hP : am_P mid = some M) {i : Nat} {n : Int} (hop : M.1[pc]? = some (w_un (.iinc i n))) {cst : List am_E} (h : w_opG (w_Sem cst d mid Q) E rt Q (.iinc i n) (pc + 1) ls st σ) : w_Sem cst d mid Q pc ls st σ := by
  intro hl hst hσ
  simp only [w_opG] at h
  split at h
  · rename_i v hv
    refine w_go hP hop (j := none) h.2.2 ?_ (w_vl_set hl (v := .inl (v + n)) h.2.1) hst hσ
    rw [← w_tl_set]
    simp [w_un, am_step, w_tl_get, hv, w_tv, w_okp_ok h.1, Int32.ofInt_add]
  · exact h.elim
end WS
end
section
/-! Jumps, cells -/
section WS
variable {d mid : Nat} {Q : Option w_V → w_M → Prop} {pc : Nat} {ls : w_L} {st : List w_V} {σ : w_M} {M : am_M} {xs : List Int} {E : w_C} {rt : Nat}
theorem wS_bipush (hP : am_P mid = some M) {n : Int} (hn : w_in n) (hop : M.1[pc]? = some (.bipush n)) {cst : List am_E} (h : w_opG (w_Sem cst d mid Q) E rt Q (.bipush n) (pc + 1) ls st σ) : w_Sem cst d mid Q pc ls st σ := by
  intro hl hst hσ
  exact w_go hP hop (j := none) h rfl hl (w_vs_cons (v := .inl n) hn hst) hσ
theorem wS_sipush (hP : am_P mid = some M) {n : Int} (hn : w_inl n) (hop : M.1[pc]? = some (.sipush n)) {cst : List am_E} (h : w_opG (w_Sem cst d mid Q) E rt Q (.sipush n) (pc + 1) ls st σ) : w_Sem cst d mid Q pc ls st σ := by
  intro hl hst hσ
  exact w_go hP hop (j := none) h rfl hl (w_vs_cons (v := .inr (.inl n)) hn hst) hσ
theorem wS_ldc (hP : am_P mid = some M) {k : Nat} (hk : 1000 ≤ k ∧ k < 1010 ∧ k % 2 = 0) (hop : M.1[pc]? = some (.ldc k)) {cst : List am_E} (h : w_opG (w_Sem cst d mid Q) E rt Q (.ldc k) (pc + 1) ls st σ) : w_Sem cst d mid Q pc ls st σ := by
  intro hl hst hσ
  exact w_go hP hop (j := none) h rfl hl (w_vs_cons (v := .inr (.inr (20, k))) (Or.inr (Or.inl ⟨rfl, hk⟩)) hst) hσ
theorem wS_getstatic (hP : am_P mid = some M) {k : Nat} (hop : M.1[pc]? = some (.getstatic k)) {cst : List am_E} (h : w_opG (w_Sem cst d mid Q) E rt Q (.getstatic k) (pc + 1) ls st σ) : w_Sem cst d mid Q pc ls st σ := by
  intro hl hst hσ
  simp only [w_opG] at h
  obtain ⟨h1, h⟩ := h
  rcases (show k = 0 ∨ k = 1 ∨ k = 2 ∨ k = 3 by omega) with rfl | rfl | rfl | rfl
  · exact w_go hP hop (j := none) h rfl hl (w_vs_cons (v := .inl 1) (by constructor <;> decide) hst) hσ
  · exact w_go hP hop (j := none) h rfl hl (w_vs_cons (v := .inr (.inr (6005, 1010))) (Or.inr (Or.inr (Or.inr (Or.inl ⟨rfl, rfl⟩)))) hst) hσ
  · exact w_go hP hop (j := none) h rfl hl (w_vs_cons (v := .inr (.inr (6015, 1011))) (Or.inr (Or.inr (Or.inr (Or.inr (Or.inl ⟨rfl, Or.inl rfl⟩))))) hst) hσ
  · exact w_go hP hop (j := none) h rfl hl (w_vs_cons (v := .inr (.inr (6015, 1012))) (Or.inr (Or.inr (Or.inr (Or.inr (Or.inl ⟨rfl, Or.inr rfl⟩))))) hst) hσ
theorem wS_goto (hP : am_P mid = some M) {t : Int} (hop : M.1[pc]? = some (.goto t)) {cst : List am_E} (h : w_opG (w_Sem cst d mid Q) E rt Q (.goto t) (pc + 1) ls st σ) : w_Sem cst d mid Q pc ls st σ := by
  intro hl hst hσ
  exact w_go hP hop (j := some t.toNat) h rfl hl hst hσ
theorem wS_ifCond (hP : am_P mid = some M) {c : Jvm.ClassFile.Cond} {t : Int} (hop : M.1[pc]? = some (.ifCond c t)) {cst : List am_E} (h : w_opG (w_Sem cst d mid Q) E rt Q (.ifCond c t) (pc + 1) ls st σ) : w_Sem cst d mid Q pc ls st σ := by
  intro hl hst hσ
  simp only [w_opG] at h
  split at h
  · rename_i x r
    have hx := w_vs_hd hst
    have hq : am_cmp c (Int32.ofInt x) 0 = true ↔ w_cmp c x 0 := w_cmp_ok (y := 0) hx w_in0
    by_cases hc : w_cmp c x 0
    · refine w_go hP hop (j := some t.toNat) (h.1 hc) ?_ hl (w_vs_tl hst) hσ
      simp only [am_step, List.map_cons, w_tv, if_pos (hq.mpr hc)]
    · refine w_go hP hop (j := none) (h.2 hc) ?_ hl (w_vs_tl hst) hσ
      simp only [am_step, List.map_cons, w_tv, if_neg (fun q => hc (hq.mp q))]
  · exact h.elim
theorem wS_if_icmp (hP : am_P mid = some M) {c : Jvm.ClassFile.Cond} {t : Int} (hop : M.1[pc]? = some (.if_icmp c t)) {cst : List am_E} (h : w_opG (w_Sem cst d mid Q) E rt Q (.if_icmp c t) (pc + 1) ls st σ) : w_Sem cst d mid Q pc ls st σ := by
  intro hl hst hσ
  simp only [w_opG] at h
  split at h
  · rename_i y x r
    have hy := w_vs_hd hst
    have hx := w_vs_hd (w_vs_tl hst)
    have hq : am_cmp c (Int32.ofInt x) (Int32.ofInt y) = true ↔ w_cmp c x y := w_cmp_ok hx hy
    by_cases hc : w_cmp c x y
    · refine w_go hP hop (j := some t.toNat) (h.1 hc) ?_ hl (w_vs_tl (w_vs_tl hst)) hσ
      simp only [am_step, List.map_cons, w_tv, if_pos (hq.mpr hc)]
    · refine w_go hP hop (j := none) (h.2 hc) ?_ hl (w_vs_tl (w_vs_tl hst)) hσ
      simp only [am_step, List.map_cons, w_tv, if_neg (fun q => hc (hq.mp q))]
  · exact h.elim
theorem w_tsw_get {K : Nat → Prop} {x : Int} : ∀ {ts : List Int} {lo : Int} {k : Nat} {t : Int}, w_tsw K x lo ts → ts[k]? = some t → x = lo + k → K t.toNat
  | [], _, _, _, _, h, _ => by simp at h
  | _ :: _, lo, 0, t, h, hk, hx => by
    cases hk
    exact h.1 (by omega)
  | _ :: r, lo, k + 1, t, h, hk, hx => w_tsw_get (ts := r) (lo := lo + 1) (k := k) h.2 hk (by omega)
theorem wS_tableswitch (hP : am_P mid = some M) {dd lo hi : Int} {ts : Array Int} (hop : M.1[pc]? = some (.tableswitch dd lo hi ts)) {cst : List am_E} (h : w_opG (w_Sem cst d mid Q) E rt Q (.tableswitch dd lo hi ts) (pc + 1) ls st σ) : w_Sem cst d mid Q pc ls st σ := by
  intro hl hst hσ
  simp only [w_opG] at h
  split at h
  · rename_i x r
    have hx := w_vs_hd hst
    obtain ⟨h1, h2, h3⟩ := h
    by_cases hc : x < lo ∨ hi < x
    · refine w_go hP hop (j := some dd.toNat) (h2 hc) ?_ hl (w_vs_tl hst) hσ
      simp only [am_step, List.map_cons, w_tv, w_ci hx, if_pos hc]
    · have hlt : (x - lo).toNat < ts.toList.length := by omega
      have hg : ts[(x - lo).toNat]? = some ts.toList[(x - lo).toNat] := by
        rw [← Array.getElem?_toList]
        exact List.getElem?_eq_getElem hlt
      refine w_go hP hop (j := some (ts.toList[(x - lo).toNat]).toNat) (w_tsw_get h3 (k := (x - lo).toNat) (List.getElem?_eq_getElem hlt) (by omega)) ?_ hl (w_vs_tl hst) hσ
      simp only [am_step, List.map_cons, w_tv, w_ci hx, if_neg hc, hg]
  · exact h.elim
theorem w_lks_ok {K : Nat → Prop} {x : Int} : ∀ {ps : List (Int × Int)} {dd : Int}, w_lks K x ps dd → K (am_lks ps dd x).toNat
  | [], _, h => h
  | (a, t) :: r, dd, h => by
    unfold am_lks
    by_cases hx : x = a
    · rw [if_pos hx]
      exact h.1 hx
    · rw [if_neg hx]
      exact w_lks_ok (h.2 hx)
theorem wS_lookupswitch (hP : am_P mid = some M) {dd : Int} {ps : Array (Int × Int)} (hop : M.1[pc]? = some (.lookupswitch dd ps)) {cst : List am_E} (h : w_opG (w_Sem cst d mid Q) E rt Q (.lookupswitch dd ps) (pc + 1) ls st σ) : w_Sem cst d mid Q pc ls st σ := by
  intro hl hst hσ
  simp only [w_opG] at h
  split at h
  · rename_i x r
    have hx := w_vs_hd hst
    refine w_go hP hop (j := some (am_lks ps.toList dd x).toNat) (w_lks_ok h) ?_ hl (w_vs_tl hst) hσ
    simp only [am_step, List.map_cons, w_tv, w_ci hx]
  · exact h.elim
theorem wS_iaload (hP : am_P mid = some M) (hop : M.1[pc]? = some .iaload) (hxs : ∀ x ∈ E.1, w_in x) (h : w_opG (w_Sem (am_cst (E.1.map Int32.ofInt)) d mid Q) E rt Q .iaload (pc + 1) ls st σ) : w_Sem (am_cst (E.1.map Int32.ofInt)) d mid Q pc ls st σ := by
  intro hl hst hσ
  simp only [w_opG] at h
  split at h
  · rename_i j k a r
    have hj : w_in j := w_vs_hd hst
    have hrv : w_rv k a := w_vs_hd (w_vs_tl hst)
    have hr := w_vs_tl (w_vs_tl hst)
    split at h
    · rename_i hc
      obtain ⟨h0, h1, h⟩ := h
      obtain ⟨ha, hk⟩ := w_rv_lo hrv hc.1 (by omega)
      have e1 : am_look (am_cst (E.1.map Int32.ofInt)) (w_mem σ) a = some (.inl (0, (List.range (k - 1000)).map fun i => Int32.ofInt (σ a i))) := by rw [w_look_lo ha, w_mem_get ha, hk, w_cell_i hc.1 hc.2]
      have e2 : am_inb (Int32.ofInt j) ((List.range (k - 1000)).map fun i => Int32.ofInt (σ a i)).length = true := by rw [List.length_map, List.length_range]; exact w_inb hj h0 h1
      refine w_go hP hop (j := none) h ?_ hl (w_vs_cons (v := .inl (σ a j.toNat)) (hσ _ _) hr) hσ
      simp only [am_step, List.map_cons, w_tv, e1, if_pos e2, w_nat hj, w_gmr (show j.toNat < k - 1000 by omega)]
    · obtain ⟨hc, h0, h1, h⟩ := h
      have e1 : am_look (am_cst (E.1.map Int32.ofInt)) (w_mem σ) a = some (.inl (0, (w_carr E.1 a).map Int32.ofInt)) := w_carr_i (by
        unfold w_rv at hrv
        rcases hrv with ⟨q1, q2⟩ | q
        · have := w_kd_ok a q1
          omega
        · omega)
      have e2 : am_inb (Int32.ofInt j) ((w_carr E.1 a).map Int32.ofInt).length = true := by rw [List.length_map]; exact w_inb hj h0 h1
      refine w_go hP hop (j := none) h ?_ hl (w_vs_cons (v := .inl _) (w_carr_in hxs) hr) hσ
      simp only [am_step, List.map_cons, w_tv, e1, if_pos e2, w_nat hj, w_gD (show j.toNat < (w_carr E.1 a).length by omega)]
  · exact h.elim
theorem wS_baload (hP : am_P mid = some M) (hop : M.1[pc]? = some .baload) (hxs : ∀ x ∈ E.1, w_in x) (h : w_opG (w_Sem (am_cst (E.1.map Int32.ofInt)) d mid Q) E rt Q .baload (pc + 1) ls st σ) : w_Sem (am_cst (E.1.map Int32.ofInt)) d mid Q pc ls st σ := by
  intro hl hst hσ
  simp only [w_opG] at h
  split at h
  · rename_i j k a r
    have hj : w_in j := w_vs_hd hst
    have hrv : w_rv k a := w_vs_hd (w_vs_tl hst)
    have hr := w_vs_tl (w_vs_tl hst)
    split at h
    · rename_i hc
      obtain ⟨h0, h1, h⟩ := h
      obtain ⟨ha, hk⟩ := w_rv_lo hrv (by omega) (by omega)
      by_cases hb : k < 3000
      · have e1 : am_look (am_cst (E.1.map Int32.ofInt)) (w_mem σ) a = some (.inl (0 + 1, (List.range (k - 2000)).map fun i => Int32.ofInt (σ a i))) := by rw [w_look_lo ha, w_mem_get ha, hk, w_cell_b hc.1 hb]
        have e2 : am_inb (Int32.ofInt j) ((List.range (k - 2000)).map fun i => Int32.ofInt (σ a i)).length = true := by rw [List.length_map, List.length_range]; exact w_inb hj h0 (by omega)
        refine w_go hP hop (j := none) h ?_ hl (w_vs_cons (v := .inl (σ a j.toNat)) (hσ _ _) hr) hσ
        simp only [am_step, List.map_cons, w_tv, e1, if_pos e2, w_nat hj, w_gmr (show j.toNat < k - 2000 by omega)]
      · have e1 : am_look (am_cst (E.1.map Int32.ofInt)) (w_mem σ) a = some (.inl (1 + 1, (List.range (k - 3000)).map fun i => Int32.ofInt (σ a i))) := by rw [w_look_lo ha, w_mem_get ha, hk, w_cell_z (by omega) hc.2]
        have e2 : am_inb (Int32.ofInt j) ((List.range (k - 3000)).map fun i => Int32.ofInt (σ a i)).length = true := by rw [List.length_map, List.length_range]; exact w_inb hj h0 (by omega)
        refine w_go hP hop (j := none) h ?_ hl (w_vs_cons (v := .inl (σ a j.toNat)) (hσ _ _) hr) hσ
        simp only [am_step, List.map_cons, w_tv, e1, if_pos e2, w_nat hj, w_gmr (show j.toNat < k - 3000 by omega)]
    · obtain ⟨hc, h0, h1, h⟩ := h
      have e1 : am_look (am_cst (E.1.map Int32.ofInt)) (w_mem σ) a = some (.inl (0 + 1, (w_carr E.1 a).map Int32.ofInt)) := w_carr_b (by
        unfold w_rv at hrv
        rcases hrv with ⟨q1, q2⟩ | q
        · have := w_kd_ok a q1
          omega
        · omega)
      have e2 : am_inb (Int32.ofInt j) ((w_carr E.1 a).map Int32.ofInt).length = true := by rw [List.length_map]; exact w_inb hj h0 h1
      refine w_go hP hop (j := none) h ?_ hl (w_vs_cons (v := .inl _) (w_carr_in hxs) hr) hσ
      simp only [am_step, List.map_cons, w_tv, e1, if_pos e2, w_nat hj, w_gD (show j.toNat < (w_carr E.1 a).length by omega)]
  · exact h.elim
theorem wS_iastore (hP : am_P mid = some M) (hop : M.1[pc]? = some .iastore) {cst : List am_E} (h : w_opG (w_Sem cst d mid Q) E rt Q .iastore (pc + 1) ls st σ) : w_Sem cst d mid Q pc ls st σ := by
  intro hl hst hσ
  simp only [w_opG] at h
  split at h
  · rename_i x j k a r
    have hx : w_in x := w_vs_hd hst
    have hj : w_in j := w_vs_hd (w_vs_tl hst)
    have hrv : w_rv k a := w_vs_hd (w_vs_tl (w_vs_tl hst))
    have hr := w_vs_tl (w_vs_tl (w_vs_tl hst))
    obtain ⟨hc, h0, h1, h⟩ := h
    obtain ⟨ha, hk⟩ := w_rv_lo hrv hc.1 (by omega)
    have e1 : (w_mem σ)[a]? = some (.inl (0, (List.range (k - 1000)).map fun i => Int32.ofInt (σ a i))) := by rw [w_mem_get ha, hk, w_cell_i hc.1 hc.2]
    have e2 : am_inb (Int32.ofInt j) ((List.range (k - 1000)).map fun i => Int32.ofInt (σ a i)).length = true ∧ a < 1000 := ⟨by rw [List.length_map, List.length_range]; exact w_inb hj h0 h1, by omega⟩
    refine w_go hP hop (j := none) h ?_ hl hr (w_up_ms hσ hx)
    rw [← w_mem_set (σ := σ) (a := a) (fun b hb => w_up_ne hb), hk, w_cell_i hc.1 hc.2]
    simp only [am_step, List.map_cons, w_tv, e1, if_pos e2, w_nat hj]
    rw [w_smr (g' := fun i => Int32.ofInt (w_up σ a j.toNat x a i)) (by simp only [w_up_at]) (fun i hi => by simp only [w_up_j hi])]
  · exact h.elim
theorem wS_bastore (hP : am_P mid = some M) (hop : M.1[pc]? = some .bastore) {cst : List am_E} (h : w_opG (w_Sem cst d mid Q) E rt Q .bastore (pc + 1) ls st σ) : w_Sem cst d mid Q pc ls st σ := by
  intro hl hst hσ
  simp only [w_opG] at h
  split at h
  · rename_i x j k a r
    have hx : w_in x := w_vs_hd hst
    have hj : w_in j := w_vs_hd (w_vs_tl hst)
    have hrv : w_rv k a := w_vs_hd (w_vs_tl (w_vs_tl hst))
    have hr := w_vs_tl (w_vs_tl (w_vs_tl hst))
    obtain ⟨hc, hv, h0, h1, h⟩ := h
    obtain ⟨ha, hk⟩ := w_rv_lo hrv (by omega) (by omega)
    by_cases hb : k < 3000
    · rw [if_pos hb] at hv
      have e1 : (w_mem σ)[a]? = some (.inl (0 + 1, (List.range (k - 2000)).map fun i => Int32.ofInt (σ a i))) := by rw [w_mem_get ha, hk, w_cell_b hc.1 hb]
      have e2 : am_inb (Int32.ofInt j) ((List.range (k - 2000)).map fun i => Int32.ofInt (σ a i)).length = true ∧ a < 1000 := ⟨by rw [List.length_map, List.length_range]; exact w_inb hj h0 (by omega), by omega⟩
      have e3 : am_nar (0 + 1) (Int32.ofInt x) = Int32.ofInt x := by
        show (Int32.ofInt x).toInt8.toInt32 = _
        rw [Int32.toInt8_ofInt, ← Int32.ofInt_int8ToInt, Int8.toInt_ofInt_of_le (by omega) (by omega)]
      refine w_go hP hop (j := none) h ?_ hl hr (w_up_ms hσ hx)
      rw [← w_mem_set (σ := σ) (a := a) (fun b hb => w_up_ne hb), hk, w_cell_b hc.1 hb]
      simp only [am_step, List.map_cons, w_tv, e1, if_pos e2, w_nat hj, e3]
      rw [w_smr (g' := fun i => Int32.ofInt (w_up σ a j.toNat x a i)) (by simp only [w_up_at]) (fun i hi => by simp only [w_up_j hi])]
    · rw [if_neg hb] at hv
      have e1 : (w_mem σ)[a]? = some (.inl (1 + 1, (List.range (k - 3000)).map fun i => Int32.ofInt (σ a i))) := by rw [w_mem_get ha, hk, w_cell_z (by omega) hc.2]
      have e2 : am_inb (Int32.ofInt j) ((List.range (k - 3000)).map fun i => Int32.ofInt (σ a i)).length = true ∧ a < 1000 := ⟨by rw [List.length_map, List.length_range]; exact w_inb hj h0 (by omega), by omega⟩
      have e3 : am_nar (1 + 1) (Int32.ofInt x) = Int32.ofInt x := by
        rcases hv with rfl | rfl <;> rfl
      refine w_go hP hop (j := none) h ?_ hl hr (w_up_ms hσ hx)
      rw [← w_mem_set (σ := σ) (a := a) (fun b hb => w_up_ne hb), hk, w_cell_z (by omega) hc.2]
      simp only [am_step, List.map_cons, w_tv, e1, if_pos e2, w_nat hj, e3]
      rw [w_smr (g' := fun i => Int32.ofInt (w_up σ a j.toNat x a i)) (by simp only [w_up_at]) (fun i hi => by simp only [w_up_j hi])]
  · exact h.elim
theorem wS_aaload (hP : am_P mid = some M) (hop : M.1[pc]? = some .aaload) {cst : List am_E} (h : w_opG (w_Sem cst d mid Q) E rt Q .aaload (pc + 1) ls st σ) : w_Sem cst d mid Q pc ls st σ := by
  intro hl hst hσ
  simp only [w_opG] at h
  split at h
  · rename_i j k a r
    have hj : w_in j := w_vs_hd hst
    have hrv : w_rv k a := w_vs_hd (w_vs_tl hst)
    have hr := w_vs_tl (w_vs_tl hst)
    split at h
    · rename_i hc
      subst hc
      obtain ⟨h0, h1, h⟩ := h
      have hak : a < 134 ∧ w_kind a = 4002 := by unfold w_rv at hrv; omega
      have e1 : (w_mem σ)[a]? = some (.inr (.inr (0, (List.range 2).map fun j => some (88 + 17 * j)))) := by rw [w_mem_get hak.1, hak.2, w_cell_q (by omega) (by omega)]
      have e2 : am_inb (Int32.ofInt j) ((List.range 2).map fun j => some (88 + 17 * j)).length = true ∧ a < 1000 := ⟨by rw [List.length_map, List.length_range]; exact w_inb hj h0 h1, by omega⟩
      refine w_go hP hop (j := none) h ?_ hl (w_vs_cons (v := .inr (.inr (3, 88 + 17 * j.toNat))) (Or.inl (w_im_ok _ (by omega))) hr) hσ
      simp only [am_step, List.map_cons, w_tv, e1, if_pos e2, w_nat hj, w_gmr (show j.toNat < 2 by omega)]
    · obtain ⟨hc, h0, h1, h⟩ := h
      have hak : a < 134 ∧ w_kind a = k := by unfold w_rv at hrv; omega
      have e1 : (w_mem σ)[a]? = some (.inr (.inr (1, (List.range (k / 100 % 100)).map fun j => some (a + 1 + j)))) := by rw [w_mem_get hak.1, hak.2, w_cell_r hc]
      have e2 : am_inb (Int32.ofInt j) ((List.range (k / 100 % 100)).map fun j => some (a + 1 + j)).length = true ∧ a < 1000 := ⟨by rw [List.length_map, List.length_range]; exact w_inb hj h0 h1, by omega⟩
      have hv := w_aa_ok a hak.1 (by rw [hak.2]; exact hc) j.toNat (by rw [hak.2]; omega)
      rw [hak.2] at hv
      refine w_go hP hop (j := none) h ?_ hl (w_vs_cons (v := .inr (.inr (1000 + k % 100, a + 1 + j.toNat))) (Or.inl hv) hr) hσ
      simp only [am_step, List.map_cons, w_tv, e1, if_pos e2, w_nat hj, w_gmr (show j.toNat < k / 100 % 100 by omega)]
  · exact h.elim
end WS
end
section
/-! Fields, copies, calls, returns; the second layer is sound -/
theorem w_smrV {α : Type} {n j : Nat} {g g' : Nat → α} {v : α} (hj : g' j = v) (ho : ∀ i, i ≠ j → g' i = g i) : ((List.range n).map g).set j v = (List.range n).map g' := by
  apply List.ext_getElem?
  intro i
  rw [List.getElem?_set, List.length_map, List.length_range]
  by_cases hi : j = i
  · subst hi
    rw [if_pos rfl]
    by_cases hl : j < n
    · rw [if_pos hl, List.getElem?_map, List.getElem?_range hl, Option.map_some, hj]
    · rw [if_neg hl, List.getElem?_eq_none (by rw [List.length_map, List.length_range]; omega)]
  · rw [if_neg hi, List.getElem?_map, List.getElem?_map]
    by_cases hl : i < n
    · rw [List.getElem?_range hl, Option.map_some, Option.map_some, ho i (fun e => hi e.symm)]
    · rw [List.getElem?_eq_none (by rw [List.length_range]; omega)]
      rfl
theorem w_carr_len {xs : List Int} (h : xs.length ≤ 400) (a : Nat) : (w_carr xs a).length ≤ 400 := by
  unfold w_carr
  split
  · decide
  split
  · decide
  split
  · decide
  split
  · exact h
  · rw [List.getD_eq_getElem?_getD]
    cases hj : w_cbyt[(a - 1001) / 2]? with
    | none => simp
    | some l =>
      have := List.all_eq_true.mp (show (w_cbyt.all fun l => decide (l.length ≤ 400)) = true by decide) l (List.mem_of_getElem? hj)
      exact of_decide_eq_true this
theorem am_exec_fuel {cst : List am_E} : ∀ {n d mid i : Nat} {ls : am_L} {st : List Value} {mem : List am_E} {R : Option Value × List am_E}, am_exec am_ft am_P cst n d mid i ls st mem = some R → am_exec am_ft am_P cst (n + 1) d mid i ls st mem = some R := by
  intro n
  induction n with
  | zero => intro d mid i ls st mem R h; cases h
  | succ n ih =>
    intro d mid i ls st mem R h
    unfold am_exec at h ⊢
    split at h
    · cases h
    · split at h
      · cases h
      · split at h
        · exact h
        · exact h
        · split at h
          · split at h
            · rename_i hq
              rw [if_pos hq]
              split at h
              · rename_i h1
                rw [ih h1]
                exact ih h
              · cases h
            · cases h
          · cases h
        · split at h
          · exact ih h
          · cases h
theorem am_exec_fuel_le {cst : List am_E} {n m d mid i : Nat} {ls : am_L} {st : List Value} {mem : List am_E} {R : Option Value × List am_E} (hnm : n ≤ m) (h : am_exec am_ft am_P cst n d mid i ls st mem = some R) : am_exec am_ft am_P cst m d mid i ls st mem = some R := by
  obtain ⟨k, rfl⟩ := Nat.exists_eq_add_of_le hnm
  induction k with
  | zero => exact h
  | succ k ih => exact am_exec_fuel (ih (by omega))
theorem am_exec_deep {cst : List am_E} : ∀ {n d mid i : Nat} {ls : am_L} {st : List Value} {mem : List am_E} {R : Option Value × List am_E}, am_exec am_ft am_P cst n d mid i ls st mem = some R → am_exec am_ft am_P cst n (d + 1) mid i ls st mem = some R := by
  intro n
  induction n with
  | zero => intro d mid i ls st mem R h; cases h
  | succ n ih =>
    intro d mid i ls st mem R h
    unfold am_exec at h ⊢
    split at h
    · cases h
    · split at h
      · cases h
      · split at h
        · exact h
        · exact h
        · split at h
          · rename_i hPk
            split at h
            · rename_i hq
              simp only [hPk]
              rw [if_pos hq]
              split at h
              · rename_i h1
                rw [ih h1]
                exact ih h
              · cases h
            · cases h
          · cases h
        · split at h
          · exact ih h
          · cases h
theorem am_exec_deep_le {cst : List am_E} {n d d' mid i : Nat} {ls : am_L} {st : List Value} {mem : List am_E} {R : Option Value × List am_E} (hd : d ≤ d') (h : am_exec am_ft am_P cst n d mid i ls st mem = some R) : am_exec am_ft am_P cst n d' mid i ls st mem = some R := by
  obtain ⟨k, rfl⟩ := Nat.exists_eq_add_of_le hd
  induction k with
  | zero => exact h
  | succ k ih => exact am_exec_deep (ih (by omega))
theorem w_gf {mid pc f : Nat} (hm : mid < 240) (h : (am_mq mid).1[pc]? = some (.getfield f)) : (f = 2000 ∨ f = 2001) ∨ (f / 100 < 10 ∧ f % 100 < w_nf (f / 100)) := by
  obtain ⟨raw, p2, len, -, -, hc⟩ := am_site hm h
  simp only [am_chk, Bool.and_eq_true] at hc
  obtain ⟨-, hr⟩ := hc
  cases raw with
  | getfield ix =>
    simp only [Bool.and_eq_true, Bool.or_eq_true] at hr
    rcases hr.2 with h1 | h1
    · exact Or.inr (am_lf_fin h1)
    · rcases am_lsf_ok h1 with ⟨q, -⟩ | ⟨q, -⟩
      · exact Or.inl (Or.inl q)
      · exact Or.inl (Or.inr q)
  | _ => cases hr
theorem w_pf {mid pc f : Nat} (hm : mid < 240) (h : (am_mq mid).1[pc]? = some (.putfield f)) : f / 100 < 10 ∧ f % 100 < w_nf (f / 100) := by
  obtain ⟨raw, p2, len, -, -, hc⟩ := am_site hm h
  simp only [am_chk, Bool.and_eq_true] at hc
  obtain ⟨-, hr⟩ := hc
  cases raw with
  | putfield ix =>
    simp only [Bool.and_eq_true] at hr
    exact am_lf_fin hr.2
  | _ => cases hr
end
section
section WS
variable {d mid : Nat} {Q : Option w_V → w_M → Prop} {pc : Nat} {ls : w_L} {st : List w_V} {σ : w_M} {M : am_M} {xs : List Int} {E : w_C} {rt : Nat}
theorem w_ofn (n : Nat) : Int32.ofInt (n : Int) = Int32.ofNat n := rfl
theorem wS_arraylength (hP : am_P mid = some M) (hop : M.1[pc]? = some .arraylength) (hxl : E.1.length ≤ 400) (h : w_opG (w_Sem (am_cst (E.1.map Int32.ofInt)) d mid Q) E rt Q .arraylength (pc + 1) ls st σ) : w_Sem (am_cst (E.1.map Int32.ofInt)) d mid Q pc ls st σ := by
  intro hl hst hσ
  simp only [w_opG] at h
  split at h
  · rename_i k a r
    have hrv : w_rv k a := w_vs_hd hst
    have hr := w_vs_tl hst
    split at h
    · rename_i hc
      obtain ⟨ha, hk⟩ := w_rv_lo hrv hc.1 hc.2
      have e1 : ∃ t l, am_look (am_cst (E.1.map Int32.ofInt)) (w_mem σ) a = some (.inl (t, l)) ∧ l.length = k % 1000 := by
        rw [w_look_lo ha, w_mem_get ha, hk]
        by_cases c1 : k < 2000
        · rw [w_cell_i hc.1 c1]
          exact ⟨_, _, rfl, by rw [List.length_map, List.length_range]; omega⟩
        · by_cases c2 : k < 3000
          · rw [w_cell_b (by omega) c2]
            exact ⟨_, _, rfl, by rw [List.length_map, List.length_range]; omega⟩
          · rw [w_cell_z (by omega) hc.2]
            exact ⟨_, _, rfl, by rw [List.length_map, List.length_range]; omega⟩
      obtain ⟨t, l, e1, e2⟩ := e1
      refine w_go hP hop (j := none) h ?_ hl (w_vs_cons (v := .inl ((k % 1000 : Nat) : Int)) (show w_in _ by unfold w_in; omega) hr) hσ
      simp only [am_step, List.map_cons, w_tv, e1, e2, w_ofn]
    · obtain ⟨hc, h⟩ := h
      have e1 : ∃ t, am_look (am_cst (E.1.map Int32.ofInt)) (w_mem σ) a = some (.inl (t, (w_carr E.1 a).map Int32.ofInt)) := by
        unfold w_rv at hrv
        by_cases c7 : k = 7000
        · refine ⟨_, w_carr_b ?_⟩
          rcases hrv with ⟨q1, q2⟩ | q
          · have := w_kd_ok a q1
            omega
          · omega
        · refine ⟨_, w_carr_i ?_⟩
          rcases hrv with ⟨q1, q2⟩ | q
          · have := w_kd_ok a q1
            omega
          · omega
      obtain ⟨t, e1⟩ := e1
      have hle := w_carr_len hxl a
      refine w_go hP hop (j := none) h ?_ hl (w_vs_cons (v := .inl ((w_carr E.1 a).length : Int)) (show w_in _ by unfold w_in; omega) hr) hσ
      simp only [am_step, List.map_cons, w_tv, e1, List.length_map, w_ofn]
  · exact h.elim
theorem wS_getfield (hP : am_P mid = some M) {f : Nat} (hop : M.1[pc]? = some (.getfield f)) (hf : (f = 2000 ∨ f = 2001) ∨ (f / 100 < 10 ∧ f % 100 < w_nf (f / 100))) (h : w_opG (w_Sem (am_cst (E.1.map Int32.ofInt)) d mid Q) E rt Q (.getfield f) (pc + 1) ls st σ) : w_Sem (am_cst (E.1.map Int32.ofInt)) d mid Q pc ls st σ := by
  intro hl hst hσ
  simp only [w_opG] at h
  split at h
  · rename_i k a r
    have hrv : w_rv k a := w_vs_hd hst
    have hr := w_vs_tl hst
    split at h
    · rename_i hc
      subst hc
      obtain ⟨rfl, h⟩ := h
      have hs : 1000 ≤ a ∧ a < 1010 ∧ a % 2 = 0 := by
        unfold w_rv at hrv
        rcases hrv with ⟨q1, q2⟩ | q
        · have := (w_rf_ok a q1 (by omega)).1
          omega
        · omega
      refine w_go hP hop (j := none) h ?_ hl (w_vs_cons (v := .inr (.inr (7000, a + 1))) (Or.inr (Or.inr (Or.inl ⟨rfl, by omega, by omega, by omega⟩))) hr) hσ
      simp only [am_step, List.map_cons, w_tv, w_carr_s hs]
      rfl
    split at h
    · rename_i hc
      subst hc
      obtain ⟨rfl, h⟩ := h
      have hs : 1000 ≤ a ∧ a < 1010 ∧ a % 2 = 0 := by
        unfold w_rv at hrv
        rcases hrv with ⟨q1, q2⟩ | q
        · have := (w_rf_ok a q1 (by omega)).1
          omega
        · omega
      refine w_go hP hop (j := none) h ?_ hl (w_vs_cons (v := .inl 0) w_in0 hr) hσ
      simp only [am_step, List.map_cons, w_tv, w_carr_s hs]
      rfl
    · rename_i hc1 hc2
      obtain ⟨rfl, h⟩ := h
      obtain ⟨f1, f2⟩ := hf.resolve_left (by omega)
      have hak : a < 134 ∧ w_kind a = f / 100 := by unfold w_rv at hrv; omega
      have hff : f / 100 * 100 + f % 100 = f := by omega
      have e1 : am_look (am_cst (E.1.map Int32.ofInt)) (w_mem σ) a = some (.inr (.inl (f / 100, (List.range (w_nf (f / 100))).map (w_fv (f / 100) a (σ a))))) := by rw [w_look_lo hak.1, w_mem_get hak.1, hak.2, w_cell_o (by omega)]
      have e2 : ((List.range (w_nf (f / 100))).map (w_fv (f / 100) a (σ a)))[f % 100]? = some (w_fv (f / 100) a (σ a) (f % 100)) := by
        rw [List.getElem?_map, List.getElem?_range f2, Option.map_some]
      cases hrf : w_rf f with
      | some q =>
        rw [hrf] at h
        rw [w_fv_s (q := q) (by rw [hff]; exact hrf)] at e2
        have hv := (w_rf_ok a hak.1 (by omega)).2 (f % 100) (by rw [hak.2]; exact f2)
        unfold w_rfb at hv
        rw [hak.2, hff, hrf] at hv
        simp only [Bool.and_eq_true, decide_eq_true_eq] at hv
        refine w_go hP hop (j := none) h ?_ hl (w_vs_cons (v := .inr (.inr (q.1, a + q.2))) (Or.inl hv) hr) hσ
        simp only [am_step, List.map_cons, w_tv, e1, if_true, e2]
      | none =>
        rw [hrf] at h
        rw [w_fv_n (by rw [hff]; exact hrf)] at e2
        refine w_go hP hop (j := none) h ?_ hl (w_vs_cons (v := .inl (σ a (f % 100))) (hσ _ _) hr) hσ
        simp only [am_step, List.map_cons, w_tv, e1, if_true, e2]
  · exact h.elim
theorem wS_putfield (hP : am_P mid = some M) {f : Nat} (hop : M.1[pc]? = some (.putfield f)) (hf : f / 100 < 10 ∧ f % 100 < w_nf (f / 100)) {cst : List am_E} (h : w_opG (w_Sem cst d mid Q) E rt Q (.putfield f) (pc + 1) ls st σ) : w_Sem cst d mid Q pc ls st σ := by
  intro hl hst hσ
  simp only [w_opG] at h
  split at h
  · rename_i x k a r
    have hx : w_in x := w_vs_hd hst
    have hrv : w_rv k a := w_vs_hd (w_vs_tl hst)
    have hr := w_vs_tl (w_vs_tl hst)
    obtain ⟨rfl, hrf, hb, h⟩ := h
    obtain ⟨f1, f2⟩ := hf
    have hak : a < 134 ∧ w_kind a = f / 100 := by unfold w_rv at hrv; omega
    have hff : f / 100 * 100 + f % 100 = f := by omega
    have e1 : (w_mem σ)[a]? = some (.inr (.inl (f / 100, (List.range (w_nf (f / 100))).map (w_fv (f / 100) a (σ a))))) := by rw [w_mem_get hak.1, hak.2, w_cell_o (by omega)]
    have ht := w_ft_ok (f / 100) f1 (f % 100) f2
    unfold w_ftb at ht
    rw [hff, hrf] at ht
    cases hq : (am_ft (f / 100))[f % 100]? with
    | none => rw [hq] at ht; cases ht
    | some q =>
      obtain ⟨ty, fin, dv⟩ := q
      rw [hq] at ht
      simp only [Bool.or_eq_true, Bool.and_eq_true, decide_eq_true_eq] at ht
      have e3 : f / 100 = f / 100 ∧ a < 1000 ∧ f % 100 < ((List.range (w_nf (f / 100))).map (w_fv (f / 100) a (σ a))).length ∧ narrow ty (.int (Int32.ofInt x)) = .int (Int32.ofInt x) ∧ fits ty (.int (Int32.ofInt x)) = true := by
        refine ⟨rfl, by omega, by rw [List.length_map, List.length_range]; exact f2, ?_⟩
        rcases ht with rfl | ⟨rfl, h5⟩
        · exact ⟨rfl, rfl⟩
        · rcases hb h5 with rfl | rfl <;> exact ⟨rfl, rfl⟩
      refine w_go hP hop (j := none) h ?_ hl hr (w_up_ms hσ hx)
      rw [← w_mem_set (σ := σ) (a := a) (fun b hb => w_up_ne hb), hak.2, w_cell_o (by omega)]
      simp only [am_step, List.map_cons, w_tv, e1, hq, if_pos e3]
      rw [w_smrV (g' := w_fv (f / 100) a (w_up σ a (f % 100) x a)) (by rw [w_fv_n (by rw [hff]; exact hrf), w_up_at]) (fun i hi => by unfold w_fv; simp only [w_up_j hi])]
      rw [if_pos ⟨trivial, e3.2⟩]
  · exact h.elim
theorem w_cpy_ne {s dd sp dp n : Nat} {b : Nat} (h : b ≠ dd) : w_cpy σ s dd sp dp n b = σ b := by
  funext j
  simp [w_cpy, h]
theorem w_cpy_ms {s dd sp dp n : Nat} (h : w_ms σ) : w_ms (w_cpy σ s dd sp dp n) := by
  intro b j
  unfold w_cpy
  split
  · exact h _ _
  · exact h b j
theorem w_self (l : List Int32) : l = (List.range l.length).map fun j => l.getD j 0 := by
  apply List.ext_getElem?
  intro i
  rw [List.getElem?_map]
  by_cases h : i < l.length
  · rw [List.getElem?_range h, Option.map_some, List.getD_eq_getElem?_getD, List.getElem?_eq_getElem h]
    rfl
  · rw [List.getElem?_eq_none (by omega), List.getElem?_eq_none (by rw [List.length_range]; omega)]
    rfl
theorem wS_acopy (hP : am_P mid = some M) {z : Nat} (hop : M.1[pc]? = some (.invokedynamic z)) {cst : List am_E} (h : w_opG (w_Sem cst d mid Q) E rt Q (.invokedynamic z) (pc + 1) ls st σ) : w_Sem cst d mid Q pc ls st σ := by
  intro hl hst hσ
  simp only [w_opG] at h
  split at h
  · rename_i n dp k dd sp k2 s r
    have hn : w_in n := w_vs_hd hst
    have hst := w_vs_tl hst
    have hdp : w_in dp := w_vs_hd hst
    have hst := w_vs_tl hst
    have hrd : w_rv k dd := w_vs_hd hst
    have hst := w_vs_tl hst
    have hsp : w_in sp := w_vs_hd hst
    have hst := w_vs_tl hst
    have hrs : w_rv k2 s := w_vs_hd hst
    have hr := w_vs_tl hst
    obtain ⟨⟨c1, c2, c3, c4⟩, h8, h0, h1, h2, h3, h4, h⟩ := h
    obtain ⟨hd1, hd2⟩ := w_rv_lo hrd c1 (by omega)
    obtain ⟨hs1, hs2⟩ := w_rv_lo hrs c3 (by omega)
    have e1 : (w_mem σ)[s]? = some (.inl (0, (List.range (k2 - 1000)).map fun i => Int32.ofInt (σ s i))) := by rw [w_mem_get hs1, hs2, w_cell_i c3 c4]
    have e2 : (w_mem σ)[dd]? = some (.inl (0, (List.range (k - 1000)).map fun i => Int32.ofInt (σ dd i))) := by rw [w_mem_get hd1, hd2, w_cell_i c1 c2]
    have nn : ∀ x, w_in x → 0 ≤ x → ¬ Int32.ofInt x < 0 := fun x hx h0 q => by have := (w_neg hx).mp q; omega
    have l1 : sp.toNat + n.toNat ≤ ((List.range (k2 - 1000)).map fun i => Int32.ofInt (σ s i)).length := by rw [List.length_map, List.length_range]; omega
    have l2 : dp.toNat + n.toNat ≤ ((List.range (k - 1000)).map fun i => Int32.ofInt (σ dd i)).length := by rw [List.length_map, List.length_range]; omega
    have e3 : ¬ Int32.ofInt n < 0 ∧ ¬ Int32.ofInt dp < 0 ∧ ¬ Int32.ofInt sp < 0 ∧ sp.toNat + n.toNat ≤ ((List.range (k2 - 1000)).map fun i => Int32.ofInt (σ s i)).length ∧ dp.toNat + n.toNat ≤ ((List.range (k - 1000)).map fun i => Int32.ofInt (σ dd i)).length ∧ s < 1000 ∧ dd < 1000 ∧ ((r.map w_tv).map fun v => v.category).sum ≤ 8 :=
      ⟨nn n hn h0, nn dp hdp h1, nn sp hsp h2, l1, l2, by omega, by omega, by rw [w_cs_ok]; exact h8⟩
    have e4 : am_cpyl ((List.range (k2 - 1000)).map fun i => Int32.ofInt (σ s i)) ((List.range (k - 1000)).map fun i => Int32.ofInt (σ dd i)) sp.toNat dp.toNat n.toNat = (List.range (k - 1000)).map fun i => Int32.ofInt (w_cpy σ s dd sp.toNat dp.toNat n.toNat dd i) := by
      rw [w_self (am_cpyl _ _ _ _ _), am_cpyl_len l1 l2, List.length_map, List.length_range]
      apply List.map_congr_left
      intro i hi
      have hi := List.mem_range.mp hi
      have := congrFun (am_cpyl_cpy l1 l2) i
      rw [this]
      unfold va_cpy w_cpy
      by_cases hc : dp.toNat ≤ i ∧ i < dp.toNat + n.toNat
      · rw [if_pos hc, if_pos ⟨rfl, hc⟩]
        simp only
        rw [w_gmr (by omega)]
      · rw [if_neg hc, if_neg (fun q => hc q.2)]
        simp only
        rw [w_gmr hi]
    refine w_go hP hop (j := none) h ?_ hl hr (w_cpy_ms hσ)
    rw [← w_mem_set (σ := σ) (a := dd) (fun b hb => w_cpy_ne hb), hd2, w_cell_i c1 c2, ← e4]
    simp only [am_step, List.map_cons, w_tv, e1, e2, w_nat hn, w_nat hdp, w_nat hsp]
    rw [if_pos e3]
  · exact h.elim
theorem wS_monitorexit (hP : am_P mid = some M) (hop : M.1[pc]? = some .monitorexit) {cst : List am_E} (h : w_opG (w_Sem cst d mid Q) E rt Q .monitorexit (pc + 1) ls st σ) : w_Sem cst d mid Q pc ls st σ := by
  intro hl hst hσ
  simp only [w_opG] at h
  split at h
  · rename_i n i r
    have hn : w_in n := w_vs_hd hst
    have hi : w_in i := w_vs_hd (w_vs_tl hst)
    have hr := w_vs_tl (w_vs_tl hst)
    obtain ⟨⟨h0, h1⟩, h8, h⟩ := h
    have e1 : (¬ Int32.ofInt i < 0 ∧ Int32.ofInt i < Int32.ofInt n) ∧ ((r.map w_tv).map fun v => v.category).sum ≤ 8 :=
      ⟨⟨fun q => by have := (w_neg hi).mp q; omega, (w_lt hi hn).mpr h1⟩, by rw [w_cs_ok]; exact h8⟩
    refine w_go hP hop (j := none) h ?_ hl hr hσ
    simp only [am_step, List.map_cons, w_tv]
    rw [if_pos e1]
  · exact h.elim
theorem wS_call (hP : am_P mid = some M) {c : Nat} (hop : M.1[pc]? = some (.invokestatic c)) (hxs : w_xs E.1) (h : w_opG (w_Sem (am_cst (E.1.map Int32.ofInt)) E.2 mid Q) E rt Q (.invokestatic c) (pc + 1) ls st σ) : w_Sem (am_cst (E.1.map Int32.ofInt)) E.2 mid Q pc ls st σ := by
  intro hl hst hσ
  simp only [w_opG] at h
  obtain ⟨as, r, d', rfl, hd, h2, h4⟩ := h
  have hvas : w_vs as := fun v hv => hst v (List.mem_append_left _ (List.mem_reverse.mpr hv))
  have hvr : w_vs r := fun v hv => hst v (List.mem_append_right _ hv)
  obtain ⟨Mc, q1, q2, q3, q4, n1, rv, s1, q5, h5, q6, q7⟩ := h4 hxs hvas hσ
  have hvs2 : w_vs (w_push rv r) := by
    cases rv with
    | none => exact hvr
    | some v => exact w_vs_cons (q7 v rfl) hvr
  obtain ⟨n2, rr, s2, x1, x2⟩ := h5 hl hvs2 q6
  refine ⟨max n1 n2 + 1, rr, s2, ?_, x2⟩
  have y1 := am_exec_fuel_le (Nat.le_max_left n1 n2) q5
  have y2 := am_exec_fuel_le (Nat.le_max_right n1 n2) x1
  have hl1 : (as.reverse.map w_tv).length = as.length := by rw [List.length_map, List.length_reverse]
  have t1 : (((as.reverse ++ r).map w_tv).take Mc.2.2.1).reverse = as.map w_tv := by
    rw [q2, List.map_append, List.take_append_of_le_length (by rw [hl1]; exact Nat.le_refl _), List.take_of_length_le (by rw [hl1]; exact Nat.le_refl _), ← List.map_reverse, List.reverse_reverse]
  have t2 : ((as.reverse ++ r).map w_tv).drop Mc.2.2.1 = r.map w_tv := by
    rw [q2, List.map_append, List.drop_append_of_le_length (by rw [hl1]; exact Nat.le_refl _), List.drop_of_length_le (by rw [hl1]; exact Nat.le_refl _), List.nil_append]
  rw [hd] at y2 ⊢
  unfold am_exec
  rw [hP]
  simp only [hop, q1, t1, t2]
  rw [if_pos ⟨by rw [List.length_map, List.length_append, List.length_reverse, q2]; omega, by rw [w_cs_ok]; exact h2, q3, q4⟩]
  simp only [] at y1
  rw [y1]
  simp only
  cases rv with
  | none => exact y2
  | some v => exact y2
theorem wS_ireturn (hP : am_P mid = some M) (hrt : rt = M.2.2.2.2) (hop : M.1[pc]? = some .ireturn) {cst : List am_E} (h : w_opG (w_Sem cst d mid Q) E rt Q .ireturn (pc + 1) ls st σ) : w_Sem cst d mid Q pc ls st σ := by
  intro hl hst hσ
  simp only [w_opG] at h
  split at h
  · rename_i v
    refine ⟨1, some v, σ, ?_, h.2, hσ, fun x hx => by cases hx; exact w_vs_hd hst⟩
    have hv := w_vs_hd hst
    have hk : am_rok M.2.2.2.2 (w_tv v) = true := by
      rw [← hrt]
      have hw := h.1
      unfold w_rtk at hw
      split at hw
      · rfl
      · rcases hw with rfl | rfl <;> rfl
      · rfl
      · rfl
      · rename_i x
        have hx : w_in x := hv
        show decide (narrow .char (.int (Int32.ofInt x)) = .int (Int32.ofInt x)) = true
        have e1 : ((Int32.ofInt x).toUInt32 % 65536).toInt32 = Int32.ofInt x := lg_i2c_word (by rw [w_ci hx]; exact hw.1) (by rw [w_ci hx]; have := hw.2; omega)
        rw [lg_i2c_nf] at e1
        simp only [narrow, e1, decide_true]
      · rename_i x
        have hx : w_in x := hv
        show decide (narrow .byte (.int (Int32.ofInt x)) = .int (Int32.ofInt x)) = true
        have e1 : (Int32.ofInt x).toInt8.toInt32 = Int32.ofInt x := by rw [Int32.toInt8_ofInt, ← Int32.ofInt_int8ToInt, Int8.toInt_ofInt_of_le (by omega) (by omega)]
        simp only [narrow, e1, decide_true]
      · exact hw.elim
    unfold am_exec
    rw [hP]
    simp only [hop, List.map_cons, List.map_nil, if_pos hk, Option.map_some]
  · exact h.elim
theorem wS_return (hP : am_P mid = some M) (hrt : rt = M.2.2.2.2) (hop : M.1[pc]? = some .return_) {cst : List am_E} (h : w_opG (w_Sem cst d mid Q) E rt Q .return_ (pc + 1) ls st σ) : w_Sem cst d mid Q pc ls st σ := by
  intro hl hst hσ
  simp only [w_opG] at h
  split at h
  · refine ⟨1, none, σ, ?_, h.2, hσ, fun x hx => by cases hx⟩
    have hk : M.2.2.2.2 = 0 := by rw [← hrt]; exact h.1
    unfold am_exec
    rw [hP]
    simp only [hop, List.map_nil, if_pos hk, Option.map_none]
  · exact h.elim
end WS
end
section
noncomputable def w_cqo (op : Instr) : Bool := match op with
  | .bipush x => decide (-2147483648 ≤ x) && decide (x ≤ 2147483647)
  | .sipush x => decide (-9223372036854775808 ≤ x) && decide (x ≤ 9223372036854775807)
  | .ldc a => decide (1000 ≤ a) && decide (a < 1010) && decide (a % 2 = 0)
  | _ => true
theorem w_cq_at {mid pc : Nat} {op : Instr} (hm : mid < 240) (h : (am_mq mid).1[pc]? = some op) : w_cqo op = true := by
  have h1 := List.all_eq_true.mp w_cq_c mid (List.mem_range.mpr hm)
  unfold w_cq at h1
  exact List.all_eq_true.mp h1 op (List.mem_of_getElem? h)
set_option maxHeartbeats 4000000 in
/-- the second layer is sound -/
theorem w_sound {mid : Nat} (hm : mid < 240) (hP : am_P mid = some (am_mq mid)) {code : List Instr} (hc : code.map w_un = (am_mq mid).1) {E : w_C} {rt : Nat} (hrt : rt = (am_mq mid).2.2.2.2) (hxs : w_xs E.1) {Q : Option w_V → w_M → Prop} {pc : Nat} {ls : w_L} {st : List w_V} {σ : w_M}
    (h : w_Ex E rt code Q pc ls st σ) : w_Sem (am_cst (E.1.map Int32.ofInt)) E.2 mid Q pc ls st σ := by
  refine h (w_Sem (am_cst (E.1.map Int32.ofInt)) E.2 mid Q) (fun pc op ls st σ hop hw => ?_)
  have hop' : (am_mq mid).1[pc]? = some (w_un op) := by rw [← hc, List.getElem?_map, hop]; rfl
  have hq := w_cq_at hm hop'
  cases op
  case iadd => exact wS_iadd hP hop' hw
  case isub => exact wS_isub hP hop' hw
  case imul => exact wS_imul hP hop' hw
  case fadd => exact wS_fadd hP hop' hw
  case fsub => exact wS_fsub hP hop' hw
  case fmul => exact wS_fmul hP hop' hw
  case iand => exact wS_iand hP hop' hw
  case ior => exact wS_ior hP hop' hw
  case ixor => exact wS_ixor hP hop' hw
  case ishl => exact wS_ishl hP hop' hw
  case ishr => exact wS_ishr hP hop' hw
  case iushr => exact wS_iushr hP hop' hw
  case ladd => exact wS_ladd hP hop' hw
  case lmul => exact wS_lmul hP hop' hw
  case idiv => exact wS_idiv hP hop' hw
  case irem => exact wS_irem hP hop' hw
  case ldiv => exact wS_ldiv hP hop' hw
  case lrem => exact wS_lrem hP hop' hw
  case ineg => exact wS_ineg hP hop' hw
  case i2l => exact wS_i2l hP hop' hw
  case i2b => exact wS_i2b hP hop' hw
  case i2s => exact wS_i2s hP hop' hw
  case i2c => exact wS_i2c hP hop' hw
  case lcmp => exact wS_lcmp hP hop' hw
  case dup => exact wS_dup hP hop' hw
  case dup2 => exact wS_dup2 hP hop' hw
  case pop => exact wS_pop hP hop' hw
  case pop2 => exact wS_pop2 hP hop' hw
  case iload => exact wS_iload hP hop' hw
  case lload => exact wS_lload hP hop' hw
  case aload => exact wS_aload hP hop' hw
  case istore => exact wS_istore hP hop' hw
  case astore => exact wS_astore hP hop' hw
  case lstore => exact wS_lstore hP hop' hw
  case iinc => exact wS_iinc hP hop' hw
  case goto => exact wS_goto hP hop' hw
  case ifCond => exact wS_ifCond hP hop' hw
  case if_icmp => exact wS_if_icmp hP hop' hw
  case tableswitch => exact wS_tableswitch hP hop' hw
  case lookupswitch => exact wS_lookupswitch hP hop' hw
  case getstatic => exact wS_getstatic hP hop' hw
  case iaload => exact wS_iaload hP hop' hxs.1 hw
  case baload => exact wS_baload hP hop' hxs.1 hw
  case iastore => exact wS_iastore hP hop' hw
  case bastore => exact wS_bastore hP hop' hw
  case aaload => exact wS_aaload hP hop' hw
  case arraylength => exact wS_arraylength hP hop' hxs.2 hw
  case getfield => exact wS_getfield hP hop' (w_gf hm hop') hw
  case putfield => exact wS_putfield hP hop' (w_pf hm hop') hw
  case invokedynamic => exact wS_acopy hP hop' hw
  case invokestatic => exact wS_call hP hop' hxs hw
  case monitorexit => exact wS_monitorexit hP hop' hw
  case ireturn => exact wS_ireturn hP hrt hop' hw
  case return_ => exact wS_return hP hrt hop' hw
  case bipush => simp only [w_un, w_cqo, Bool.and_eq_true, decide_eq_true_eq] at hq; exact wS_bipush hP hq hop' hw
  case sipush => simp only [w_un, w_cqo, Bool.and_eq_true, decide_eq_true_eq] at hq; exact wS_sipush hP hq hop' hw
  case ldc => simp only [w_un, w_cqo, Bool.and_eq_true, decide_eq_true_eq] at hq; exact wS_ldc hP ⟨hq.1.1, hq.1.2, hq.2⟩ hop' hw
  all_goals exact False.elim hw
noncomputable def w_place : List w_V → w_L
  | [] => []
  | .inr (.inl x) :: r => some (.inr (.inl x)) :: none :: w_place r
  | v :: r => some v :: w_place r
noncomputable def w_args (as : List w_V) (ml : Nat) : w_L := w_place as ++ List.replicate (ml - (w_place as).length) none
theorem w_place_ok : ∀ as : List w_V, w_tl (w_place as) = am_place (as.map w_tv)
  | [] => rfl
  | .inl x :: r => by
    have := w_place_ok r
    simp only [w_place, w_tl, List.map_cons, am_place, w_tv] at this ⊢
    rw [this]
    rfl
  | .inr (.inr x) :: r => by
    have := w_place_ok r
    simp only [w_place, w_tl, List.map_cons, am_place, w_tv] at this ⊢
    rw [this]
    rfl
  | .inr (.inl x) :: r => by
    have := w_place_ok r
    simp only [w_place, w_tl, List.map_cons, am_place, w_tv] at this ⊢
    rw [this]
    rfl
theorem w_args_ok (as : List w_V) (ml : Nat) : w_tl (w_args as ml) = am_args (as.map w_tv) ml := by
  have h := w_place_ok as
  have h2 : (w_place as).length = (am_place (as.map w_tv)).length := by rw [← h]; unfold w_tl; rw [List.length_map]
  unfold w_args am_args
  rw [← h, h2, h]
  unfold w_tl at h ⊢
  rw [List.map_append, h, List.map_replicate]
  rfl
theorem w_place_vl : ∀ {as : List w_V}, w_vs as → ∀ l ∈ w_place as, ∀ v, l = some v → w_vv v
  | [], _, l, hl, _, _ => by cases hl
  | .inl x :: r, h, l, hl, v, hv => by
    rcases List.mem_cons.mp hl with e | e
    · rw [e] at hv; cases hv; exact w_vs_hd h
    · exact w_place_vl (w_vs_tl h) l e v hv
  | .inr (.inr x) :: r, h, l, hl, v, hv => by
    rcases List.mem_cons.mp hl with e | e
    · rw [e] at hv; cases hv; exact w_vs_hd h
    · exact w_place_vl (w_vs_tl h) l e v hv
  | .inr (.inl x) :: r, h, l, hl, v, hv => by
    rcases List.mem_cons.mp hl with e | e
    · rw [e] at hv; cases hv; exact w_vs_hd h
    · rcases List.mem_cons.mp e with e | e
      · rw [e] at hv; cases hv
      · exact w_place_vl (w_vs_tl h) l e v hv
theorem w_args_vl {as : List w_V} (h : w_vs as) (ml : Nat) : w_vl (w_args as ml) := fun i v hv => by
  have hm := List.mem_of_getElem? hv
  unfold w_args at hm
  rcases List.mem_append.mp hm with hm | hm
  · exact w_place_vl h _ hm v rfl
  · have := List.eq_of_mem_replicate hm
    cases this
/-- the receiver is of the method's class -/
noncomputable def w_rc (rc : Option Nat) (as : List w_V) : Prop := match rc with
  | none => True
  | some ci => match as with
    | .inr (.inr q) :: _ => q.1 = ci ∧ (ci < 10 ∨ ci = 20)
    | _ => False
theorem w_rc_ok {rc : Option Nat} {as : List w_V} (h : w_rc rc as) (hv : w_vs as) {xs : List Int} {σ : w_M} : am_recv (am_cst (xs.map Int32.ofInt)) (w_mem σ) rc (as.map w_tv) = true := by
  unfold w_rc at h
  unfold am_recv
  cases rc with
  | none => rfl
  | some ci =>
    match as, h with
    | .inr (.inr q) :: r, h =>
      obtain ⟨h1, h2⟩ := h
      have hr : w_rv q.1 q.2 := w_vs_hd hv
      rw [h1] at hr
      simp only [List.map_cons, w_tv]
      rcases h2 with h2 | h2
      · have ha : q.2 < 134 ∧ w_kind q.2 = ci := by unfold w_rv at hr; omega
        rw [w_look_lo ha.1, w_mem_get ha.1, ha.2, w_cell_o (by omega)]
        simp only [decide_true]
      · subst h2
        have hs : 1000 ≤ q.2 ∧ q.2 < 1010 ∧ q.2 % 2 = 0 := by
          unfold w_rv at hr
          rcases hr with ⟨q1, q2⟩ | q
          · have := (w_rf_ok _ q1 (by omega)).1
            omega
          · omega
        rw [w_carr_s hs]
        simp only [decide_true]
/-- a method's call out of its body -/
theorem w_mk {mid : Nat} (hm : mid < 240) (hP : am_P mid = some (am_mq mid)) {code : List Instr} (hc : code.map w_un = (am_mq mid).1) {E : w_C} {rt : Nat} (hrt : rt = (am_mq mid).2.2.2.2) {Q : Option w_V → w_M → Prop} {as : List w_V} {σ : w_M} {ls : w_L} (hn : (am_mq mid).2.2.1 = as.length) (hl : ls = w_args as (am_mq mid).2.1) (hp : (w_place as).length ≤ (am_mq mid).2.1) (hr : w_rc (am_mq mid).2.2.2.1 as)
    (h : w_Ex E rt code Q 0 ls [] σ) : w_Call E mid as σ Q := fun h1 h2 h3 => by
  refine ⟨am_mq mid, hP, hn, ?_, w_rc_ok hr h2, ?_⟩
  · rw [← w_place_ok]
    unfold w_tl
    rw [List.length_map]
    exact hp
  · rw [hl] at h
    obtain ⟨n, r, s, e⟩ := w_sound hm hP hc hrt h1 h (w_args_vl h2 _) w_vs_nil h3
    rw [w_args_ok] at e
    exact ⟨n, r, s, e⟩
end
section
/-! One rule an instruction: what must hold behind it, for it to hold ahead -/
noncomputable def w_fe (code : List Instr) (pc nx : Nat) (op : Instr) : Prop := code[pc]? = some op ∧ nx = pc + 1
noncomputable def w_if (code : List Instr) (pc nx : Nat) (c : Jvm.ClassFile.Cond) (t : Nat) : Prop := code[pc]? = some (.ifCond c (t : Int)) ∧ nx = pc + 1
noncomputable def w_ic (code : List Instr) (pc nx : Nat) (c : Jvm.ClassFile.Cond) (t : Nat) : Prop := code[pc]? = some (.if_icmp c (t : Int)) ∧ nx = pc + 1
noncomputable def w_gt (code : List Instr) (pc t : Nat) : Prop := code[pc]? = some (.goto (t : Int))
noncomputable def w_bi (P : Prop) : Int := @ite _ P (Classical.propDecidable P) 1 0
theorem w_bi_t {P : Prop} (h : P) : w_bi P = 1 := if_pos h
theorem w_bi_f {P : Prop} (h : ¬ P) : w_bi P = 0 := if_neg h
theorem w_bi01 (P : Prop) : w_bi P = 0 ∨ w_bi P = 1 := by
  by_cases h : P
  · exact Or.inr (w_bi_t h)
  · exact Or.inl (w_bi_f h)
theorem w_bi_0 {P : Prop} : w_bi P = 0 ↔ ¬ P := by
  by_cases h : P
  · rw [w_bi_t h]; simp [h]
  · rw [w_bi_f h]; simp [h]
theorem w_bi_n0 {P : Prop} : ¬ w_bi P = 0 ↔ P := by rw [w_bi_0]; exact Classical.not_not
theorem w_bi_congr {P R : Prop} (h : P ↔ R) : w_bi P = w_bi R := by rw [propext h]
section WI
variable {E : w_C} {rt : Nat} {code : List Instr} {Q : Option w_V → w_M → Prop} {pc nx : Nat} {ls : w_L} {st : List w_V} {σ : w_M}
theorem wi_bipush {n : Int} (hop : w_fe code pc nx (.bipush n))  (h : w_Ex E rt code Q nx ls (.inl n :: st) σ) : w_Ex E rt code Q pc ls st σ := by
  obtain ⟨h1, rfl⟩ := hop
  exact w_Ex_in h1 (h)
theorem wi_sipush {n : Int} (hop : w_fe code pc nx (.sipush n))  (h : w_Ex E rt code Q nx ls (.inr (.inl n) :: st) σ) : w_Ex E rt code Q pc ls st σ := by
  obtain ⟨h1, rfl⟩ := hop
  exact w_Ex_in h1 (h)
theorem wi_ldc {k : Nat} (hop : w_fe code pc nx (.ldc k))  (h : w_Ex E rt code Q nx ls (.inr (.inr (20, k)) :: st) σ) : w_Ex E rt code Q pc ls st σ := by
  obtain ⟨h1, rfl⟩ := hop
  exact w_Ex_in h1 (h)
theorem wi_getstatic0  (hop : w_fe code pc nx (.getstatic 0))  (h : w_Ex E rt code Q nx ls (.inl 1 :: st) σ) : w_Ex E rt code Q pc ls st σ := by
  obtain ⟨h1, rfl⟩ := hop
  exact w_Ex_in h1 (And.intro (by decide) h)
theorem wi_getstatic1  (hop : w_fe code pc nx (.getstatic 1))  (h : w_Ex E rt code Q nx ls (.inr (.inr (6005, 1010)) :: st) σ) : w_Ex E rt code Q pc ls st σ := by
  obtain ⟨h1, rfl⟩ := hop
  exact w_Ex_in h1 (And.intro (by decide) h)
theorem wi_getstatic2  (hop : w_fe code pc nx (.getstatic 2))  (h : w_Ex E rt code Q nx ls (.inr (.inr (6015, 1011)) :: st) σ) : w_Ex E rt code Q pc ls st σ := by
  obtain ⟨h1, rfl⟩ := hop
  exact w_Ex_in h1 (And.intro (by decide) h)
theorem wi_getstatic3  (hop : w_fe code pc nx (.getstatic 3))  (h : w_Ex E rt code Q nx ls (.inr (.inr (6015, 1012)) :: st) σ) : w_Ex E rt code Q pc ls st σ := by
  obtain ⟨h1, rfl⟩ := hop
  exact w_Ex_in h1 (And.intro (by decide) h)
theorem wi_iload0  {x : Int} {r : w_L} (hop : w_fe code pc nx (.iload 0))  (h : w_Ex E rt code Q nx (some (.inl x) :: r) (.inl x :: st) σ) : w_Ex E rt code Q pc (some (.inl x) :: r) st σ := by
  obtain ⟨h1, rfl⟩ := hop
  exact w_Ex_in h1 (h)
theorem wi_lload0  {x : Int} {r : w_L} (hop : w_fe code pc nx (.lload 0))  (h : w_Ex E rt code Q nx (some (.inr (.inl x)) :: r) (.inr (.inl x) :: st) σ) : w_Ex E rt code Q pc (some (.inr (.inl x)) :: r) st σ := by
  obtain ⟨h1, rfl⟩ := hop
  exact w_Ex_in h1 (h)
theorem wi_aload0  {x : Nat × Nat} {r : w_L} (hop : w_fe code pc nx (.aload 0))  (h : w_Ex E rt code Q nx (some (.inr (.inr x)) :: r) (.inr (.inr x) :: st) σ) : w_Ex E rt code Q pc (some (.inr (.inr x)) :: r) st σ := by
  obtain ⟨h1, rfl⟩ := hop
  exact w_Ex_in h1 (h)
theorem wi_istore0  {x : Int} {y : Option w_V} {r : w_L} (hop : w_fe code pc nx (.istore 0))  (h : w_Ex E rt code Q nx (some (.inl x) :: r) st σ) : w_Ex E rt code Q pc (y :: r) (.inl x :: st) σ := by
  obtain ⟨h1, rfl⟩ := hop
  exact w_Ex_in h1 (And.intro (by simp only [List.length_cons]; omega) (And.intro trivial h))
theorem wi_astore0  {x : Nat × Nat} {y : Option w_V} {r : w_L} (hop : w_fe code pc nx (.astore 0))  (h : w_Ex E rt code Q nx (some (.inr (.inr x)) :: r) st σ) : w_Ex E rt code Q pc (y :: r) (.inr (.inr x) :: st) σ := by
  obtain ⟨h1, rfl⟩ := hop
  exact w_Ex_in h1 (And.intro (by simp only [List.length_cons]; omega) (And.intro trivial h))
theorem wi_lstore0  {x : Int} {y z : Option w_V} {r : w_L} (hop : w_fe code pc nx (.lstore 0))  (h : w_Ex E rt code Q nx (some (.inr (.inl x)) :: none :: r) st σ) : w_Ex E rt code Q pc (y :: z :: r) (.inr (.inl x) :: st) σ := by
  obtain ⟨h1, rfl⟩ := hop
  exact w_Ex_in h1 (And.intro (by simp only [List.length_cons]; omega) (And.intro trivial h))
theorem wi_iinc0  {x n : Int} {r : w_L} (hop : w_fe code pc nx (.iinc 0 n)) (c0 : w_in (x + n)) (h : w_Ex E rt code Q nx (some (.inl (x + n)) :: r) st σ) : w_Ex E rt code Q pc (some (.inl x) :: r) st σ := by
  obtain ⟨h1, rfl⟩ := hop
  exact w_Ex_in h1 (And.intro trivial (And.intro c0 h))
theorem wi_iload1 {l0 : Option w_V} {x : Int} {r : w_L} (hop : w_fe code pc nx (.iload 1))  (h : w_Ex E rt code Q nx (l0 :: some (.inl x) :: r) (.inl x :: st) σ) : w_Ex E rt code Q pc (l0 :: some (.inl x) :: r) st σ := by
  obtain ⟨h1, rfl⟩ := hop
  exact w_Ex_in h1 (h)
theorem wi_lload1 {l0 : Option w_V} {x : Int} {r : w_L} (hop : w_fe code pc nx (.lload 1))  (h : w_Ex E rt code Q nx (l0 :: some (.inr (.inl x)) :: r) (.inr (.inl x) :: st) σ) : w_Ex E rt code Q pc (l0 :: some (.inr (.inl x)) :: r) st σ := by
  obtain ⟨h1, rfl⟩ := hop
  exact w_Ex_in h1 (h)
theorem wi_aload1 {l0 : Option w_V} {x : Nat × Nat} {r : w_L} (hop : w_fe code pc nx (.aload 1))  (h : w_Ex E rt code Q nx (l0 :: some (.inr (.inr x)) :: r) (.inr (.inr x) :: st) σ) : w_Ex E rt code Q pc (l0 :: some (.inr (.inr x)) :: r) st σ := by
  obtain ⟨h1, rfl⟩ := hop
  exact w_Ex_in h1 (h)
theorem wi_istore1 {l0 : Option w_V} {x : Int} {y : Option w_V} {r : w_L} (hop : w_fe code pc nx (.istore 1)) (c0 : w_nl l0) (h : w_Ex E rt code Q nx (l0 :: some (.inl x) :: r) st σ) : w_Ex E rt code Q pc (l0 :: y :: r) (.inl x :: st) σ := by
  obtain ⟨h1, rfl⟩ := hop
  exact w_Ex_in h1 (And.intro (by simp only [List.length_cons]; omega) (And.intro c0 h))
theorem wi_astore1 {l0 : Option w_V} {x : Nat × Nat} {y : Option w_V} {r : w_L} (hop : w_fe code pc nx (.astore 1)) (c0 : w_nl l0) (h : w_Ex E rt code Q nx (l0 :: some (.inr (.inr x)) :: r) st σ) : w_Ex E rt code Q pc (l0 :: y :: r) (.inr (.inr x) :: st) σ := by
  obtain ⟨h1, rfl⟩ := hop
  exact w_Ex_in h1 (And.intro (by simp only [List.length_cons]; omega) (And.intro c0 h))
theorem wi_lstore1 {l0 : Option w_V} {x : Int} {y z : Option w_V} {r : w_L} (hop : w_fe code pc nx (.lstore 1)) (c0 : w_nl l0) (h : w_Ex E rt code Q nx (l0 :: some (.inr (.inl x)) :: none :: r) st σ) : w_Ex E rt code Q pc (l0 :: y :: z :: r) (.inr (.inl x) :: st) σ := by
  obtain ⟨h1, rfl⟩ := hop
  exact w_Ex_in h1 (And.intro (by simp only [List.length_cons]; omega) (And.intro c0 h))
theorem wi_iinc1 {l0 : Option w_V} {x n : Int} {r : w_L} (hop : w_fe code pc nx (.iinc 1 n)) (c0 : w_nl l0) (c1 : w_in (x + n)) (h : w_Ex E rt code Q nx (l0 :: some (.inl (x + n)) :: r) st σ) : w_Ex E rt code Q pc (l0 :: some (.inl x) :: r) st σ := by
  obtain ⟨h1, rfl⟩ := hop
  exact w_Ex_in h1 (And.intro c0 (And.intro c1 h))
theorem wi_iload2 {l0 l1 : Option w_V} {x : Int} {r : w_L} (hop : w_fe code pc nx (.iload 2))  (h : w_Ex E rt code Q nx (l0 :: l1 :: some (.inl x) :: r) (.inl x :: st) σ) : w_Ex E rt code Q pc (l0 :: l1 :: some (.inl x) :: r) st σ := by
  obtain ⟨h1, rfl⟩ := hop
  exact w_Ex_in h1 (h)
theorem wi_lload2 {l0 l1 : Option w_V} {x : Int} {r : w_L} (hop : w_fe code pc nx (.lload 2))  (h : w_Ex E rt code Q nx (l0 :: l1 :: some (.inr (.inl x)) :: r) (.inr (.inl x) :: st) σ) : w_Ex E rt code Q pc (l0 :: l1 :: some (.inr (.inl x)) :: r) st σ := by
  obtain ⟨h1, rfl⟩ := hop
  exact w_Ex_in h1 (h)
theorem wi_aload2 {l0 l1 : Option w_V} {x : Nat × Nat} {r : w_L} (hop : w_fe code pc nx (.aload 2))  (h : w_Ex E rt code Q nx (l0 :: l1 :: some (.inr (.inr x)) :: r) (.inr (.inr x) :: st) σ) : w_Ex E rt code Q pc (l0 :: l1 :: some (.inr (.inr x)) :: r) st σ := by
  obtain ⟨h1, rfl⟩ := hop
  exact w_Ex_in h1 (h)
theorem wi_istore2 {l0 l1 : Option w_V} {x : Int} {y : Option w_V} {r : w_L} (hop : w_fe code pc nx (.istore 2)) (c0 : w_nl l1) (h : w_Ex E rt code Q nx (l0 :: l1 :: some (.inl x) :: r) st σ) : w_Ex E rt code Q pc (l0 :: l1 :: y :: r) (.inl x :: st) σ := by
  obtain ⟨h1, rfl⟩ := hop
  exact w_Ex_in h1 (And.intro (by simp only [List.length_cons]; omega) (And.intro c0 h))
theorem wi_astore2 {l0 l1 : Option w_V} {x : Nat × Nat} {y : Option w_V} {r : w_L} (hop : w_fe code pc nx (.astore 2)) (c0 : w_nl l1) (h : w_Ex E rt code Q nx (l0 :: l1 :: some (.inr (.inr x)) :: r) st σ) : w_Ex E rt code Q pc (l0 :: l1 :: y :: r) (.inr (.inr x) :: st) σ := by
  obtain ⟨h1, rfl⟩ := hop
  exact w_Ex_in h1 (And.intro (by simp only [List.length_cons]; omega) (And.intro c0 h))
theorem wi_lstore2 {l0 l1 : Option w_V} {x : Int} {y z : Option w_V} {r : w_L} (hop : w_fe code pc nx (.lstore 2)) (c0 : w_nl l1) (h : w_Ex E rt code Q nx (l0 :: l1 :: some (.inr (.inl x)) :: none :: r) st σ) : w_Ex E rt code Q pc (l0 :: l1 :: y :: z :: r) (.inr (.inl x) :: st) σ := by
  obtain ⟨h1, rfl⟩ := hop
  exact w_Ex_in h1 (And.intro (by simp only [List.length_cons]; omega) (And.intro c0 h))
theorem wi_iinc2 {l0 l1 : Option w_V} {x n : Int} {r : w_L} (hop : w_fe code pc nx (.iinc 2 n)) (c0 : w_nl l1) (c1 : w_in (x + n)) (h : w_Ex E rt code Q nx (l0 :: l1 :: some (.inl (x + n)) :: r) st σ) : w_Ex E rt code Q pc (l0 :: l1 :: some (.inl x) :: r) st σ := by
  obtain ⟨h1, rfl⟩ := hop
  exact w_Ex_in h1 (And.intro c0 (And.intro c1 h))
theorem wi_iload3 {l0 l1 l2 : Option w_V} {x : Int} {r : w_L} (hop : w_fe code pc nx (.iload 3))  (h : w_Ex E rt code Q nx (l0 :: l1 :: l2 :: some (.inl x) :: r) (.inl x :: st) σ) : w_Ex E rt code Q pc (l0 :: l1 :: l2 :: some (.inl x) :: r) st σ := by
  obtain ⟨h1, rfl⟩ := hop
  exact w_Ex_in h1 (h)
theorem wi_lload3 {l0 l1 l2 : Option w_V} {x : Int} {r : w_L} (hop : w_fe code pc nx (.lload 3))  (h : w_Ex E rt code Q nx (l0 :: l1 :: l2 :: some (.inr (.inl x)) :: r) (.inr (.inl x) :: st) σ) : w_Ex E rt code Q pc (l0 :: l1 :: l2 :: some (.inr (.inl x)) :: r) st σ := by
  obtain ⟨h1, rfl⟩ := hop
  exact w_Ex_in h1 (h)
theorem wi_aload3 {l0 l1 l2 : Option w_V} {x : Nat × Nat} {r : w_L} (hop : w_fe code pc nx (.aload 3))  (h : w_Ex E rt code Q nx (l0 :: l1 :: l2 :: some (.inr (.inr x)) :: r) (.inr (.inr x) :: st) σ) : w_Ex E rt code Q pc (l0 :: l1 :: l2 :: some (.inr (.inr x)) :: r) st σ := by
  obtain ⟨h1, rfl⟩ := hop
  exact w_Ex_in h1 (h)
theorem wi_istore3 {l0 l1 l2 : Option w_V} {x : Int} {y : Option w_V} {r : w_L} (hop : w_fe code pc nx (.istore 3)) (c0 : w_nl l2) (h : w_Ex E rt code Q nx (l0 :: l1 :: l2 :: some (.inl x) :: r) st σ) : w_Ex E rt code Q pc (l0 :: l1 :: l2 :: y :: r) (.inl x :: st) σ := by
  obtain ⟨h1, rfl⟩ := hop
  exact w_Ex_in h1 (And.intro (by simp only [List.length_cons]; omega) (And.intro c0 h))
theorem wi_astore3 {l0 l1 l2 : Option w_V} {x : Nat × Nat} {y : Option w_V} {r : w_L} (hop : w_fe code pc nx (.astore 3)) (c0 : w_nl l2) (h : w_Ex E rt code Q nx (l0 :: l1 :: l2 :: some (.inr (.inr x)) :: r) st σ) : w_Ex E rt code Q pc (l0 :: l1 :: l2 :: y :: r) (.inr (.inr x) :: st) σ := by
  obtain ⟨h1, rfl⟩ := hop
  exact w_Ex_in h1 (And.intro (by simp only [List.length_cons]; omega) (And.intro c0 h))
theorem wi_lstore3 {l0 l1 l2 : Option w_V} {x : Int} {y z : Option w_V} {r : w_L} (hop : w_fe code pc nx (.lstore 3)) (c0 : w_nl l2) (h : w_Ex E rt code Q nx (l0 :: l1 :: l2 :: some (.inr (.inl x)) :: none :: r) st σ) : w_Ex E rt code Q pc (l0 :: l1 :: l2 :: y :: z :: r) (.inr (.inl x) :: st) σ := by
  obtain ⟨h1, rfl⟩ := hop
  exact w_Ex_in h1 (And.intro (by simp only [List.length_cons]; omega) (And.intro c0 h))
theorem wi_iinc3 {l0 l1 l2 : Option w_V} {x n : Int} {r : w_L} (hop : w_fe code pc nx (.iinc 3 n)) (c0 : w_nl l2) (c1 : w_in (x + n)) (h : w_Ex E rt code Q nx (l0 :: l1 :: l2 :: some (.inl (x + n)) :: r) st σ) : w_Ex E rt code Q pc (l0 :: l1 :: l2 :: some (.inl x) :: r) st σ := by
  obtain ⟨h1, rfl⟩ := hop
  exact w_Ex_in h1 (And.intro c0 (And.intro c1 h))
theorem wi_iload4 {l0 l1 l2 l3 : Option w_V} {x : Int} {r : w_L} (hop : w_fe code pc nx (.iload 4))  (h : w_Ex E rt code Q nx (l0 :: l1 :: l2 :: l3 :: some (.inl x) :: r) (.inl x :: st) σ) : w_Ex E rt code Q pc (l0 :: l1 :: l2 :: l3 :: some (.inl x) :: r) st σ := by
  obtain ⟨h1, rfl⟩ := hop
  exact w_Ex_in h1 (h)
theorem wi_lload4 {l0 l1 l2 l3 : Option w_V} {x : Int} {r : w_L} (hop : w_fe code pc nx (.lload 4))  (h : w_Ex E rt code Q nx (l0 :: l1 :: l2 :: l3 :: some (.inr (.inl x)) :: r) (.inr (.inl x) :: st) σ) : w_Ex E rt code Q pc (l0 :: l1 :: l2 :: l3 :: some (.inr (.inl x)) :: r) st σ := by
  obtain ⟨h1, rfl⟩ := hop
  exact w_Ex_in h1 (h)
theorem wi_aload4 {l0 l1 l2 l3 : Option w_V} {x : Nat × Nat} {r : w_L} (hop : w_fe code pc nx (.aload 4))  (h : w_Ex E rt code Q nx (l0 :: l1 :: l2 :: l3 :: some (.inr (.inr x)) :: r) (.inr (.inr x) :: st) σ) : w_Ex E rt code Q pc (l0 :: l1 :: l2 :: l3 :: some (.inr (.inr x)) :: r) st σ := by
  obtain ⟨h1, rfl⟩ := hop
  exact w_Ex_in h1 (h)
theorem wi_istore4 {l0 l1 l2 l3 : Option w_V} {x : Int} {y : Option w_V} {r : w_L} (hop : w_fe code pc nx (.istore 4)) (c0 : w_nl l3) (h : w_Ex E rt code Q nx (l0 :: l1 :: l2 :: l3 :: some (.inl x) :: r) st σ) : w_Ex E rt code Q pc (l0 :: l1 :: l2 :: l3 :: y :: r) (.inl x :: st) σ := by
  obtain ⟨h1, rfl⟩ := hop
  exact w_Ex_in h1 (And.intro (by simp only [List.length_cons]; omega) (And.intro c0 h))
theorem wi_astore4 {l0 l1 l2 l3 : Option w_V} {x : Nat × Nat} {y : Option w_V} {r : w_L} (hop : w_fe code pc nx (.astore 4)) (c0 : w_nl l3) (h : w_Ex E rt code Q nx (l0 :: l1 :: l2 :: l3 :: some (.inr (.inr x)) :: r) st σ) : w_Ex E rt code Q pc (l0 :: l1 :: l2 :: l3 :: y :: r) (.inr (.inr x) :: st) σ := by
  obtain ⟨h1, rfl⟩ := hop
  exact w_Ex_in h1 (And.intro (by simp only [List.length_cons]; omega) (And.intro c0 h))
theorem wi_lstore4 {l0 l1 l2 l3 : Option w_V} {x : Int} {y z : Option w_V} {r : w_L} (hop : w_fe code pc nx (.lstore 4)) (c0 : w_nl l3) (h : w_Ex E rt code Q nx (l0 :: l1 :: l2 :: l3 :: some (.inr (.inl x)) :: none :: r) st σ) : w_Ex E rt code Q pc (l0 :: l1 :: l2 :: l3 :: y :: z :: r) (.inr (.inl x) :: st) σ := by
  obtain ⟨h1, rfl⟩ := hop
  exact w_Ex_in h1 (And.intro (by simp only [List.length_cons]; omega) (And.intro c0 h))
theorem wi_iinc4 {l0 l1 l2 l3 : Option w_V} {x n : Int} {r : w_L} (hop : w_fe code pc nx (.iinc 4 n)) (c0 : w_nl l3) (c1 : w_in (x + n)) (h : w_Ex E rt code Q nx (l0 :: l1 :: l2 :: l3 :: some (.inl (x + n)) :: r) st σ) : w_Ex E rt code Q pc (l0 :: l1 :: l2 :: l3 :: some (.inl x) :: r) st σ := by
  obtain ⟨h1, rfl⟩ := hop
  exact w_Ex_in h1 (And.intro c0 (And.intro c1 h))
theorem wi_iload5 {l0 l1 l2 l3 l4 : Option w_V} {x : Int} {r : w_L} (hop : w_fe code pc nx (.iload 5))  (h : w_Ex E rt code Q nx (l0 :: l1 :: l2 :: l3 :: l4 :: some (.inl x) :: r) (.inl x :: st) σ) : w_Ex E rt code Q pc (l0 :: l1 :: l2 :: l3 :: l4 :: some (.inl x) :: r) st σ := by
  obtain ⟨h1, rfl⟩ := hop
  exact w_Ex_in h1 (h)
theorem wi_lload5 {l0 l1 l2 l3 l4 : Option w_V} {x : Int} {r : w_L} (hop : w_fe code pc nx (.lload 5))  (h : w_Ex E rt code Q nx (l0 :: l1 :: l2 :: l3 :: l4 :: some (.inr (.inl x)) :: r) (.inr (.inl x) :: st) σ) : w_Ex E rt code Q pc (l0 :: l1 :: l2 :: l3 :: l4 :: some (.inr (.inl x)) :: r) st σ := by
  obtain ⟨h1, rfl⟩ := hop
  exact w_Ex_in h1 (h)
theorem wi_aload5 {l0 l1 l2 l3 l4 : Option w_V} {x : Nat × Nat} {r : w_L} (hop : w_fe code pc nx (.aload 5))  (h : w_Ex E rt code Q nx (l0 :: l1 :: l2 :: l3 :: l4 :: some (.inr (.inr x)) :: r) (.inr (.inr x) :: st) σ) : w_Ex E rt code Q pc (l0 :: l1 :: l2 :: l3 :: l4 :: some (.inr (.inr x)) :: r) st σ := by
  obtain ⟨h1, rfl⟩ := hop
  exact w_Ex_in h1 (h)
theorem wi_istore5 {l0 l1 l2 l3 l4 : Option w_V} {x : Int} {y : Option w_V} {r : w_L} (hop : w_fe code pc nx (.istore 5)) (c0 : w_nl l4) (h : w_Ex E rt code Q nx (l0 :: l1 :: l2 :: l3 :: l4 :: some (.inl x) :: r) st σ) : w_Ex E rt code Q pc (l0 :: l1 :: l2 :: l3 :: l4 :: y :: r) (.inl x :: st) σ := by
  obtain ⟨h1, rfl⟩ := hop
  exact w_Ex_in h1 (And.intro (by simp only [List.length_cons]; omega) (And.intro c0 h))
theorem wi_astore5 {l0 l1 l2 l3 l4 : Option w_V} {x : Nat × Nat} {y : Option w_V} {r : w_L} (hop : w_fe code pc nx (.astore 5)) (c0 : w_nl l4) (h : w_Ex E rt code Q nx (l0 :: l1 :: l2 :: l3 :: l4 :: some (.inr (.inr x)) :: r) st σ) : w_Ex E rt code Q pc (l0 :: l1 :: l2 :: l3 :: l4 :: y :: r) (.inr (.inr x) :: st) σ := by
  obtain ⟨h1, rfl⟩ := hop
  exact w_Ex_in h1 (And.intro (by simp only [List.length_cons]; omega) (And.intro c0 h))
theorem wi_lstore5 {l0 l1 l2 l3 l4 : Option w_V} {x : Int} {y z : Option w_V} {r : w_L} (hop : w_fe code pc nx (.lstore 5)) (c0 : w_nl l4) (h : w_Ex E rt code Q nx (l0 :: l1 :: l2 :: l3 :: l4 :: some (.inr (.inl x)) :: none :: r) st σ) : w_Ex E rt code Q pc (l0 :: l1 :: l2 :: l3 :: l4 :: y :: z :: r) (.inr (.inl x) :: st) σ := by
  obtain ⟨h1, rfl⟩ := hop
  exact w_Ex_in h1 (And.intro (by simp only [List.length_cons]; omega) (And.intro c0 h))
theorem wi_iinc5 {l0 l1 l2 l3 l4 : Option w_V} {x n : Int} {r : w_L} (hop : w_fe code pc nx (.iinc 5 n)) (c0 : w_nl l4) (c1 : w_in (x + n)) (h : w_Ex E rt code Q nx (l0 :: l1 :: l2 :: l3 :: l4 :: some (.inl (x + n)) :: r) st σ) : w_Ex E rt code Q pc (l0 :: l1 :: l2 :: l3 :: l4 :: some (.inl x) :: r) st σ := by
  obtain ⟨h1, rfl⟩ := hop
  exact w_Ex_in h1 (And.intro c0 (And.intro c1 h))
theorem wi_iload6 {l0 l1 l2 l3 l4 l5 : Option w_V} {x : Int} {r : w_L} (hop : w_fe code pc nx (.iload 6))  (h : w_Ex E rt code Q nx (l0 :: l1 :: l2 :: l3 :: l4 :: l5 :: some (.inl x) :: r) (.inl x :: st) σ) : w_Ex E rt code Q pc (l0 :: l1 :: l2 :: l3 :: l4 :: l5 :: some (.inl x) :: r) st σ := by
  obtain ⟨h1, rfl⟩ := hop
  exact w_Ex_in h1 (h)
theorem wi_lload6 {l0 l1 l2 l3 l4 l5 : Option w_V} {x : Int} {r : w_L} (hop : w_fe code pc nx (.lload 6))  (h : w_Ex E rt code Q nx (l0 :: l1 :: l2 :: l3 :: l4 :: l5 :: some (.inr (.inl x)) :: r) (.inr (.inl x) :: st) σ) : w_Ex E rt code Q pc (l0 :: l1 :: l2 :: l3 :: l4 :: l5 :: some (.inr (.inl x)) :: r) st σ := by
  obtain ⟨h1, rfl⟩ := hop
  exact w_Ex_in h1 (h)
theorem wi_aload6 {l0 l1 l2 l3 l4 l5 : Option w_V} {x : Nat × Nat} {r : w_L} (hop : w_fe code pc nx (.aload 6))  (h : w_Ex E rt code Q nx (l0 :: l1 :: l2 :: l3 :: l4 :: l5 :: some (.inr (.inr x)) :: r) (.inr (.inr x) :: st) σ) : w_Ex E rt code Q pc (l0 :: l1 :: l2 :: l3 :: l4 :: l5 :: some (.inr (.inr x)) :: r) st σ := by
  obtain ⟨h1, rfl⟩ := hop
  exact w_Ex_in h1 (h)
theorem wi_istore6 {l0 l1 l2 l3 l4 l5 : Option w_V} {x : Int} {y : Option w_V} {r : w_L} (hop : w_fe code pc nx (.istore 6)) (c0 : w_nl l5) (h : w_Ex E rt code Q nx (l0 :: l1 :: l2 :: l3 :: l4 :: l5 :: some (.inl x) :: r) st σ) : w_Ex E rt code Q pc (l0 :: l1 :: l2 :: l3 :: l4 :: l5 :: y :: r) (.inl x :: st) σ := by
  obtain ⟨h1, rfl⟩ := hop
  exact w_Ex_in h1 (And.intro (by simp only [List.length_cons]; omega) (And.intro c0 h))
theorem wi_astore6 {l0 l1 l2 l3 l4 l5 : Option w_V} {x : Nat × Nat} {y : Option w_V} {r : w_L} (hop : w_fe code pc nx (.astore 6)) (c0 : w_nl l5) (h : w_Ex E rt code Q nx (l0 :: l1 :: l2 :: l3 :: l4 :: l5 :: some (.inr (.inr x)) :: r) st σ) : w_Ex E rt code Q pc (l0 :: l1 :: l2 :: l3 :: l4 :: l5 :: y :: r) (.inr (.inr x) :: st) σ := by
  obtain ⟨h1, rfl⟩ := hop
  exact w_Ex_in h1 (And.intro (by simp only [List.length_cons]; omega) (And.intro c0 h))
theorem wi_lstore6 {l0 l1 l2 l3 l4 l5 : Option w_V} {x : Int} {y z : Option w_V} {r : w_L} (hop : w_fe code pc nx (.lstore 6)) (c0 : w_nl l5) (h : w_Ex E rt code Q nx (l0 :: l1 :: l2 :: l3 :: l4 :: l5 :: some (.inr (.inl x)) :: none :: r) st σ) : w_Ex E rt code Q pc (l0 :: l1 :: l2 :: l3 :: l4 :: l5 :: y :: z :: r) (.inr (.inl x) :: st) σ := by
  obtain ⟨h1, rfl⟩ := hop
  exact w_Ex_in h1 (And.intro (by simp only [List.length_cons]; omega) (And.intro c0 h))
theorem wi_iinc6 {l0 l1 l2 l3 l4 l5 : Option w_V} {x n : Int} {r : w_L} (hop : w_fe code pc nx (.iinc 6 n)) (c0 : w_nl l5) (c1 : w_in (x + n)) (h : w_Ex E rt code Q nx (l0 :: l1 :: l2 :: l3 :: l4 :: l5 :: some (.inl (x + n)) :: r) st σ) : w_Ex E rt code Q pc (l0 :: l1 :: l2 :: l3 :: l4 :: l5 :: some (.inl x) :: r) st σ := by
  obtain ⟨h1, rfl⟩ := hop
  exact w_Ex_in h1 (And.intro c0 (And.intro c1 h))
theorem wi_iload7 {l0 l1 l2 l3 l4 l5 l6 : Option w_V} {x : Int} {r : w_L} (hop : w_fe code pc nx (.iload 7))  (h : w_Ex E rt code Q nx (l0 :: l1 :: l2 :: l3 :: l4 :: l5 :: l6 :: some (.inl x) :: r) (.inl x :: st) σ) : w_Ex E rt code Q pc (l0 :: l1 :: l2 :: l3 :: l4 :: l5 :: l6 :: some (.inl x) :: r) st σ := by
  obtain ⟨h1, rfl⟩ := hop
  exact w_Ex_in h1 (h)
theorem wi_lload7 {l0 l1 l2 l3 l4 l5 l6 : Option w_V} {x : Int} {r : w_L} (hop : w_fe code pc nx (.lload 7))  (h : w_Ex E rt code Q nx (l0 :: l1 :: l2 :: l3 :: l4 :: l5 :: l6 :: some (.inr (.inl x)) :: r) (.inr (.inl x) :: st) σ) : w_Ex E rt code Q pc (l0 :: l1 :: l2 :: l3 :: l4 :: l5 :: l6 :: some (.inr (.inl x)) :: r) st σ := by
  obtain ⟨h1, rfl⟩ := hop
  exact w_Ex_in h1 (h)
theorem wi_aload7 {l0 l1 l2 l3 l4 l5 l6 : Option w_V} {x : Nat × Nat} {r : w_L} (hop : w_fe code pc nx (.aload 7))  (h : w_Ex E rt code Q nx (l0 :: l1 :: l2 :: l3 :: l4 :: l5 :: l6 :: some (.inr (.inr x)) :: r) (.inr (.inr x) :: st) σ) : w_Ex E rt code Q pc (l0 :: l1 :: l2 :: l3 :: l4 :: l5 :: l6 :: some (.inr (.inr x)) :: r) st σ := by
  obtain ⟨h1, rfl⟩ := hop
  exact w_Ex_in h1 (h)
theorem wi_istore7 {l0 l1 l2 l3 l4 l5 l6 : Option w_V} {x : Int} {y : Option w_V} {r : w_L} (hop : w_fe code pc nx (.istore 7)) (c0 : w_nl l6) (h : w_Ex E rt code Q nx (l0 :: l1 :: l2 :: l3 :: l4 :: l5 :: l6 :: some (.inl x) :: r) st σ) : w_Ex E rt code Q pc (l0 :: l1 :: l2 :: l3 :: l4 :: l5 :: l6 :: y :: r) (.inl x :: st) σ := by
  obtain ⟨h1, rfl⟩ := hop
  exact w_Ex_in h1 (And.intro (by simp only [List.length_cons]; omega) (And.intro c0 h))
theorem wi_astore7 {l0 l1 l2 l3 l4 l5 l6 : Option w_V} {x : Nat × Nat} {y : Option w_V} {r : w_L} (hop : w_fe code pc nx (.astore 7)) (c0 : w_nl l6) (h : w_Ex E rt code Q nx (l0 :: l1 :: l2 :: l3 :: l4 :: l5 :: l6 :: some (.inr (.inr x)) :: r) st σ) : w_Ex E rt code Q pc (l0 :: l1 :: l2 :: l3 :: l4 :: l5 :: l6 :: y :: r) (.inr (.inr x) :: st) σ := by
  obtain ⟨h1, rfl⟩ := hop
  exact w_Ex_in h1 (And.intro (by simp only [List.length_cons]; omega) (And.intro c0 h))
theorem wi_lstore7 {l0 l1 l2 l3 l4 l5 l6 : Option w_V} {x : Int} {y z : Option w_V} {r : w_L} (hop : w_fe code pc nx (.lstore 7)) (c0 : w_nl l6) (h : w_Ex E rt code Q nx (l0 :: l1 :: l2 :: l3 :: l4 :: l5 :: l6 :: some (.inr (.inl x)) :: none :: r) st σ) : w_Ex E rt code Q pc (l0 :: l1 :: l2 :: l3 :: l4 :: l5 :: l6 :: y :: z :: r) (.inr (.inl x) :: st) σ := by
  obtain ⟨h1, rfl⟩ := hop
  exact w_Ex_in h1 (And.intro (by simp only [List.length_cons]; omega) (And.intro c0 h))
theorem wi_iinc7 {l0 l1 l2 l3 l4 l5 l6 : Option w_V} {x n : Int} {r : w_L} (hop : w_fe code pc nx (.iinc 7 n)) (c0 : w_nl l6) (c1 : w_in (x + n)) (h : w_Ex E rt code Q nx (l0 :: l1 :: l2 :: l3 :: l4 :: l5 :: l6 :: some (.inl (x + n)) :: r) st σ) : w_Ex E rt code Q pc (l0 :: l1 :: l2 :: l3 :: l4 :: l5 :: l6 :: some (.inl x) :: r) st σ := by
  obtain ⟨h1, rfl⟩ := hop
  exact w_Ex_in h1 (And.intro c0 (And.intro c1 h))
theorem wi_iload8 {l0 l1 l2 l3 l4 l5 l6 l7 : Option w_V} {x : Int} {r : w_L} (hop : w_fe code pc nx (.iload 8))  (h : w_Ex E rt code Q nx (l0 :: l1 :: l2 :: l3 :: l4 :: l5 :: l6 :: l7 :: some (.inl x) :: r) (.inl x :: st) σ) : w_Ex E rt code Q pc (l0 :: l1 :: l2 :: l3 :: l4 :: l5 :: l6 :: l7 :: some (.inl x) :: r) st σ := by
  obtain ⟨h1, rfl⟩ := hop
  exact w_Ex_in h1 (h)
theorem wi_lload8 {l0 l1 l2 l3 l4 l5 l6 l7 : Option w_V} {x : Int} {r : w_L} (hop : w_fe code pc nx (.lload 8))  (h : w_Ex E rt code Q nx (l0 :: l1 :: l2 :: l3 :: l4 :: l5 :: l6 :: l7 :: some (.inr (.inl x)) :: r) (.inr (.inl x) :: st) σ) : w_Ex E rt code Q pc (l0 :: l1 :: l2 :: l3 :: l4 :: l5 :: l6 :: l7 :: some (.inr (.inl x)) :: r) st σ := by
  obtain ⟨h1, rfl⟩ := hop
  exact w_Ex_in h1 (h)
theorem wi_aload8 {l0 l1 l2 l3 l4 l5 l6 l7 : Option w_V} {x : Nat × Nat} {r : w_L} (hop : w_fe code pc nx (.aload 8))  (h : w_Ex E rt code Q nx (l0 :: l1 :: l2 :: l3 :: l4 :: l5 :: l6 :: l7 :: some (.inr (.inr x)) :: r) (.inr (.inr x) :: st) σ) : w_Ex E rt code Q pc (l0 :: l1 :: l2 :: l3 :: l4 :: l5 :: l6 :: l7 :: some (.inr (.inr x)) :: r) st σ := by
  obtain ⟨h1, rfl⟩ := hop
  exact w_Ex_in h1 (h)
theorem wi_istore8 {l0 l1 l2 l3 l4 l5 l6 l7 : Option w_V} {x : Int} {y : Option w_V} {r : w_L} (hop : w_fe code pc nx (.istore 8)) (c0 : w_nl l7) (h : w_Ex E rt code Q nx (l0 :: l1 :: l2 :: l3 :: l4 :: l5 :: l6 :: l7 :: some (.inl x) :: r) st σ) : w_Ex E rt code Q pc (l0 :: l1 :: l2 :: l3 :: l4 :: l5 :: l6 :: l7 :: y :: r) (.inl x :: st) σ := by
  obtain ⟨h1, rfl⟩ := hop
  exact w_Ex_in h1 (And.intro (by simp only [List.length_cons]; omega) (And.intro c0 h))
theorem wi_astore8 {l0 l1 l2 l3 l4 l5 l6 l7 : Option w_V} {x : Nat × Nat} {y : Option w_V} {r : w_L} (hop : w_fe code pc nx (.astore 8)) (c0 : w_nl l7) (h : w_Ex E rt code Q nx (l0 :: l1 :: l2 :: l3 :: l4 :: l5 :: l6 :: l7 :: some (.inr (.inr x)) :: r) st σ) : w_Ex E rt code Q pc (l0 :: l1 :: l2 :: l3 :: l4 :: l5 :: l6 :: l7 :: y :: r) (.inr (.inr x) :: st) σ := by
  obtain ⟨h1, rfl⟩ := hop
  exact w_Ex_in h1 (And.intro (by simp only [List.length_cons]; omega) (And.intro c0 h))
theorem wi_lstore8 {l0 l1 l2 l3 l4 l5 l6 l7 : Option w_V} {x : Int} {y z : Option w_V} {r : w_L} (hop : w_fe code pc nx (.lstore 8)) (c0 : w_nl l7) (h : w_Ex E rt code Q nx (l0 :: l1 :: l2 :: l3 :: l4 :: l5 :: l6 :: l7 :: some (.inr (.inl x)) :: none :: r) st σ) : w_Ex E rt code Q pc (l0 :: l1 :: l2 :: l3 :: l4 :: l5 :: l6 :: l7 :: y :: z :: r) (.inr (.inl x) :: st) σ := by
  obtain ⟨h1, rfl⟩ := hop
  exact w_Ex_in h1 (And.intro (by simp only [List.length_cons]; omega) (And.intro c0 h))
theorem wi_iinc8 {l0 l1 l2 l3 l4 l5 l6 l7 : Option w_V} {x n : Int} {r : w_L} (hop : w_fe code pc nx (.iinc 8 n)) (c0 : w_nl l7) (c1 : w_in (x + n)) (h : w_Ex E rt code Q nx (l0 :: l1 :: l2 :: l3 :: l4 :: l5 :: l6 :: l7 :: some (.inl (x + n)) :: r) st σ) : w_Ex E rt code Q pc (l0 :: l1 :: l2 :: l3 :: l4 :: l5 :: l6 :: l7 :: some (.inl x) :: r) st σ := by
  obtain ⟨h1, rfl⟩ := hop
  exact w_Ex_in h1 (And.intro c0 (And.intro c1 h))
theorem wi_iload9 {l0 l1 l2 l3 l4 l5 l6 l7 l8 : Option w_V} {x : Int} {r : w_L} (hop : w_fe code pc nx (.iload 9))  (h : w_Ex E rt code Q nx (l0 :: l1 :: l2 :: l3 :: l4 :: l5 :: l6 :: l7 :: l8 :: some (.inl x) :: r) (.inl x :: st) σ) : w_Ex E rt code Q pc (l0 :: l1 :: l2 :: l3 :: l4 :: l5 :: l6 :: l7 :: l8 :: some (.inl x) :: r) st σ := by
  obtain ⟨h1, rfl⟩ := hop
  exact w_Ex_in h1 (h)
theorem wi_lload9 {l0 l1 l2 l3 l4 l5 l6 l7 l8 : Option w_V} {x : Int} {r : w_L} (hop : w_fe code pc nx (.lload 9))  (h : w_Ex E rt code Q nx (l0 :: l1 :: l2 :: l3 :: l4 :: l5 :: l6 :: l7 :: l8 :: some (.inr (.inl x)) :: r) (.inr (.inl x) :: st) σ) : w_Ex E rt code Q pc (l0 :: l1 :: l2 :: l3 :: l4 :: l5 :: l6 :: l7 :: l8 :: some (.inr (.inl x)) :: r) st σ := by
  obtain ⟨h1, rfl⟩ := hop
  exact w_Ex_in h1 (h)
theorem wi_aload9 {l0 l1 l2 l3 l4 l5 l6 l7 l8 : Option w_V} {x : Nat × Nat} {r : w_L} (hop : w_fe code pc nx (.aload 9))  (h : w_Ex E rt code Q nx (l0 :: l1 :: l2 :: l3 :: l4 :: l5 :: l6 :: l7 :: l8 :: some (.inr (.inr x)) :: r) (.inr (.inr x) :: st) σ) : w_Ex E rt code Q pc (l0 :: l1 :: l2 :: l3 :: l4 :: l5 :: l6 :: l7 :: l8 :: some (.inr (.inr x)) :: r) st σ := by
  obtain ⟨h1, rfl⟩ := hop
  exact w_Ex_in h1 (h)
theorem wi_istore9 {l0 l1 l2 l3 l4 l5 l6 l7 l8 : Option w_V} {x : Int} {y : Option w_V} {r : w_L} (hop : w_fe code pc nx (.istore 9)) (c0 : w_nl l8) (h : w_Ex E rt code Q nx (l0 :: l1 :: l2 :: l3 :: l4 :: l5 :: l6 :: l7 :: l8 :: some (.inl x) :: r) st σ) : w_Ex E rt code Q pc (l0 :: l1 :: l2 :: l3 :: l4 :: l5 :: l6 :: l7 :: l8 :: y :: r) (.inl x :: st) σ := by
  obtain ⟨h1, rfl⟩ := hop
  exact w_Ex_in h1 (And.intro (by simp only [List.length_cons]; omega) (And.intro c0 h))
theorem wi_astore9 {l0 l1 l2 l3 l4 l5 l6 l7 l8 : Option w_V} {x : Nat × Nat} {y : Option w_V} {r : w_L} (hop : w_fe code pc nx (.astore 9)) (c0 : w_nl l8) (h : w_Ex E rt code Q nx (l0 :: l1 :: l2 :: l3 :: l4 :: l5 :: l6 :: l7 :: l8 :: some (.inr (.inr x)) :: r) st σ) : w_Ex E rt code Q pc (l0 :: l1 :: l2 :: l3 :: l4 :: l5 :: l6 :: l7 :: l8 :: y :: r) (.inr (.inr x) :: st) σ := by
  obtain ⟨h1, rfl⟩ := hop
  exact w_Ex_in h1 (And.intro (by simp only [List.length_cons]; omega) (And.intro c0 h))
theorem wi_lstore9 {l0 l1 l2 l3 l4 l5 l6 l7 l8 : Option w_V} {x : Int} {y z : Option w_V} {r : w_L} (hop : w_fe code pc nx (.lstore 9)) (c0 : w_nl l8) (h : w_Ex E rt code Q nx (l0 :: l1 :: l2 :: l3 :: l4 :: l5 :: l6 :: l7 :: l8 :: some (.inr (.inl x)) :: none :: r) st σ) : w_Ex E rt code Q pc (l0 :: l1 :: l2 :: l3 :: l4 :: l5 :: l6 :: l7 :: l8 :: y :: z :: r) (.inr (.inl x) :: st) σ := by
  obtain ⟨h1, rfl⟩ := hop
  exact w_Ex_in h1 (And.intro (by simp only [List.length_cons]; omega) (And.intro c0 h))
theorem wi_iinc9 {l0 l1 l2 l3 l4 l5 l6 l7 l8 : Option w_V} {x n : Int} {r : w_L} (hop : w_fe code pc nx (.iinc 9 n)) (c0 : w_nl l8) (c1 : w_in (x + n)) (h : w_Ex E rt code Q nx (l0 :: l1 :: l2 :: l3 :: l4 :: l5 :: l6 :: l7 :: l8 :: some (.inl (x + n)) :: r) st σ) : w_Ex E rt code Q pc (l0 :: l1 :: l2 :: l3 :: l4 :: l5 :: l6 :: l7 :: l8 :: some (.inl x) :: r) st σ := by
  obtain ⟨h1, rfl⟩ := hop
  exact w_Ex_in h1 (And.intro c0 (And.intro c1 h))
theorem wi_iload10 {l0 l1 l2 l3 l4 l5 l6 l7 l8 l9 : Option w_V} {x : Int} {r : w_L} (hop : w_fe code pc nx (.iload 10))  (h : w_Ex E rt code Q nx (l0 :: l1 :: l2 :: l3 :: l4 :: l5 :: l6 :: l7 :: l8 :: l9 :: some (.inl x) :: r) (.inl x :: st) σ) : w_Ex E rt code Q pc (l0 :: l1 :: l2 :: l3 :: l4 :: l5 :: l6 :: l7 :: l8 :: l9 :: some (.inl x) :: r) st σ := by
  obtain ⟨h1, rfl⟩ := hop
  exact w_Ex_in h1 (h)
theorem wi_lload10 {l0 l1 l2 l3 l4 l5 l6 l7 l8 l9 : Option w_V} {x : Int} {r : w_L} (hop : w_fe code pc nx (.lload 10))  (h : w_Ex E rt code Q nx (l0 :: l1 :: l2 :: l3 :: l4 :: l5 :: l6 :: l7 :: l8 :: l9 :: some (.inr (.inl x)) :: r) (.inr (.inl x) :: st) σ) : w_Ex E rt code Q pc (l0 :: l1 :: l2 :: l3 :: l4 :: l5 :: l6 :: l7 :: l8 :: l9 :: some (.inr (.inl x)) :: r) st σ := by
  obtain ⟨h1, rfl⟩ := hop
  exact w_Ex_in h1 (h)
theorem wi_aload10 {l0 l1 l2 l3 l4 l5 l6 l7 l8 l9 : Option w_V} {x : Nat × Nat} {r : w_L} (hop : w_fe code pc nx (.aload 10))  (h : w_Ex E rt code Q nx (l0 :: l1 :: l2 :: l3 :: l4 :: l5 :: l6 :: l7 :: l8 :: l9 :: some (.inr (.inr x)) :: r) (.inr (.inr x) :: st) σ) : w_Ex E rt code Q pc (l0 :: l1 :: l2 :: l3 :: l4 :: l5 :: l6 :: l7 :: l8 :: l9 :: some (.inr (.inr x)) :: r) st σ := by
  obtain ⟨h1, rfl⟩ := hop
  exact w_Ex_in h1 (h)
theorem wi_istore10 {l0 l1 l2 l3 l4 l5 l6 l7 l8 l9 : Option w_V} {x : Int} {y : Option w_V} {r : w_L} (hop : w_fe code pc nx (.istore 10)) (c0 : w_nl l9) (h : w_Ex E rt code Q nx (l0 :: l1 :: l2 :: l3 :: l4 :: l5 :: l6 :: l7 :: l8 :: l9 :: some (.inl x) :: r) st σ) : w_Ex E rt code Q pc (l0 :: l1 :: l2 :: l3 :: l4 :: l5 :: l6 :: l7 :: l8 :: l9 :: y :: r) (.inl x :: st) σ := by
  obtain ⟨h1, rfl⟩ := hop
  exact w_Ex_in h1 (And.intro (by simp only [List.length_cons]; omega) (And.intro c0 h))
theorem wi_astore10 {l0 l1 l2 l3 l4 l5 l6 l7 l8 l9 : Option w_V} {x : Nat × Nat} {y : Option w_V} {r : w_L} (hop : w_fe code pc nx (.astore 10)) (c0 : w_nl l9) (h : w_Ex E rt code Q nx (l0 :: l1 :: l2 :: l3 :: l4 :: l5 :: l6 :: l7 :: l8 :: l9 :: some (.inr (.inr x)) :: r) st σ) : w_Ex E rt code Q pc (l0 :: l1 :: l2 :: l3 :: l4 :: l5 :: l6 :: l7 :: l8 :: l9 :: y :: r) (.inr (.inr x) :: st) σ := by
  obtain ⟨h1, rfl⟩ := hop
  exact w_Ex_in h1 (And.intro (by simp only [List.length_cons]; omega) (And.intro c0 h))
theorem wi_lstore10 {l0 l1 l2 l3 l4 l5 l6 l7 l8 l9 : Option w_V} {x : Int} {y z : Option w_V} {r : w_L} (hop : w_fe code pc nx (.lstore 10)) (c0 : w_nl l9) (h : w_Ex E rt code Q nx (l0 :: l1 :: l2 :: l3 :: l4 :: l5 :: l6 :: l7 :: l8 :: l9 :: some (.inr (.inl x)) :: none :: r) st σ) : w_Ex E rt code Q pc (l0 :: l1 :: l2 :: l3 :: l4 :: l5 :: l6 :: l7 :: l8 :: l9 :: y :: z :: r) (.inr (.inl x) :: st) σ := by
  obtain ⟨h1, rfl⟩ := hop
  exact w_Ex_in h1 (And.intro (by simp only [List.length_cons]; omega) (And.intro c0 h))
theorem wi_iinc10 {l0 l1 l2 l3 l4 l5 l6 l7 l8 l9 : Option w_V} {x n : Int} {r : w_L} (hop : w_fe code pc nx (.iinc 10 n)) (c0 : w_nl l9) (c1 : w_in (x + n)) (h : w_Ex E rt code Q nx (l0 :: l1 :: l2 :: l3 :: l4 :: l5 :: l6 :: l7 :: l8 :: l9 :: some (.inl (x + n)) :: r) st σ) : w_Ex E rt code Q pc (l0 :: l1 :: l2 :: l3 :: l4 :: l5 :: l6 :: l7 :: l8 :: l9 :: some (.inl x) :: r) st σ := by
  obtain ⟨h1, rfl⟩ := hop
  exact w_Ex_in h1 (And.intro c0 (And.intro c1 h))
theorem wi_iload11 {l0 l1 l2 l3 l4 l5 l6 l7 l8 l9 l10 : Option w_V} {x : Int} {r : w_L} (hop : w_fe code pc nx (.iload 11))  (h : w_Ex E rt code Q nx (l0 :: l1 :: l2 :: l3 :: l4 :: l5 :: l6 :: l7 :: l8 :: l9 :: l10 :: some (.inl x) :: r) (.inl x :: st) σ) : w_Ex E rt code Q pc (l0 :: l1 :: l2 :: l3 :: l4 :: l5 :: l6 :: l7 :: l8 :: l9 :: l10 :: some (.inl x) :: r) st σ := by
  obtain ⟨h1, rfl⟩ := hop
  exact w_Ex_in h1 (h)
theorem wi_lload11 {l0 l1 l2 l3 l4 l5 l6 l7 l8 l9 l10 : Option w_V} {x : Int} {r : w_L} (hop : w_fe code pc nx (.lload 11))  (h : w_Ex E rt code Q nx (l0 :: l1 :: l2 :: l3 :: l4 :: l5 :: l6 :: l7 :: l8 :: l9 :: l10 :: some (.inr (.inl x)) :: r) (.inr (.inl x) :: st) σ) : w_Ex E rt code Q pc (l0 :: l1 :: l2 :: l3 :: l4 :: l5 :: l6 :: l7 :: l8 :: l9 :: l10 :: some (.inr (.inl x)) :: r) st σ := by
  obtain ⟨h1, rfl⟩ := hop
  exact w_Ex_in h1 (h)
theorem wi_aload11 {l0 l1 l2 l3 l4 l5 l6 l7 l8 l9 l10 : Option w_V} {x : Nat × Nat} {r : w_L} (hop : w_fe code pc nx (.aload 11))  (h : w_Ex E rt code Q nx (l0 :: l1 :: l2 :: l3 :: l4 :: l5 :: l6 :: l7 :: l8 :: l9 :: l10 :: some (.inr (.inr x)) :: r) (.inr (.inr x) :: st) σ) : w_Ex E rt code Q pc (l0 :: l1 :: l2 :: l3 :: l4 :: l5 :: l6 :: l7 :: l8 :: l9 :: l10 :: some (.inr (.inr x)) :: r) st σ := by
  obtain ⟨h1, rfl⟩ := hop
  exact w_Ex_in h1 (h)
theorem wi_istore11 {l0 l1 l2 l3 l4 l5 l6 l7 l8 l9 l10 : Option w_V} {x : Int} {y : Option w_V} {r : w_L} (hop : w_fe code pc nx (.istore 11)) (c0 : w_nl l10) (h : w_Ex E rt code Q nx (l0 :: l1 :: l2 :: l3 :: l4 :: l5 :: l6 :: l7 :: l8 :: l9 :: l10 :: some (.inl x) :: r) st σ) : w_Ex E rt code Q pc (l0 :: l1 :: l2 :: l3 :: l4 :: l5 :: l6 :: l7 :: l8 :: l9 :: l10 :: y :: r) (.inl x :: st) σ := by
  obtain ⟨h1, rfl⟩ := hop
  exact w_Ex_in h1 (And.intro (by simp only [List.length_cons]; omega) (And.intro c0 h))
theorem wi_astore11 {l0 l1 l2 l3 l4 l5 l6 l7 l8 l9 l10 : Option w_V} {x : Nat × Nat} {y : Option w_V} {r : w_L} (hop : w_fe code pc nx (.astore 11)) (c0 : w_nl l10) (h : w_Ex E rt code Q nx (l0 :: l1 :: l2 :: l3 :: l4 :: l5 :: l6 :: l7 :: l8 :: l9 :: l10 :: some (.inr (.inr x)) :: r) st σ) : w_Ex E rt code Q pc (l0 :: l1 :: l2 :: l3 :: l4 :: l5 :: l6 :: l7 :: l8 :: l9 :: l10 :: y :: r) (.inr (.inr x) :: st) σ := by
  obtain ⟨h1, rfl⟩ := hop
  exact w_Ex_in h1 (And.intro (by simp only [List.length_cons]; omega) (And.intro c0 h))
theorem wi_lstore11 {l0 l1 l2 l3 l4 l5 l6 l7 l8 l9 l10 : Option w_V} {x : Int} {y z : Option w_V} {r : w_L} (hop : w_fe code pc nx (.lstore 11)) (c0 : w_nl l10) (h : w_Ex E rt code Q nx (l0 :: l1 :: l2 :: l3 :: l4 :: l5 :: l6 :: l7 :: l8 :: l9 :: l10 :: some (.inr (.inl x)) :: none :: r) st σ) : w_Ex E rt code Q pc (l0 :: l1 :: l2 :: l3 :: l4 :: l5 :: l6 :: l7 :: l8 :: l9 :: l10 :: y :: z :: r) (.inr (.inl x) :: st) σ := by
  obtain ⟨h1, rfl⟩ := hop
  exact w_Ex_in h1 (And.intro (by simp only [List.length_cons]; omega) (And.intro c0 h))
theorem wi_iinc11 {l0 l1 l2 l3 l4 l5 l6 l7 l8 l9 l10 : Option w_V} {x n : Int} {r : w_L} (hop : w_fe code pc nx (.iinc 11 n)) (c0 : w_nl l10) (c1 : w_in (x + n)) (h : w_Ex E rt code Q nx (l0 :: l1 :: l2 :: l3 :: l4 :: l5 :: l6 :: l7 :: l8 :: l9 :: l10 :: some (.inl (x + n)) :: r) st σ) : w_Ex E rt code Q pc (l0 :: l1 :: l2 :: l3 :: l4 :: l5 :: l6 :: l7 :: l8 :: l9 :: l10 :: some (.inl x) :: r) st σ := by
  obtain ⟨h1, rfl⟩ := hop
  exact w_Ex_in h1 (And.intro c0 (And.intro c1 h))
theorem wi_iload12 {l0 l1 l2 l3 l4 l5 l6 l7 l8 l9 l10 l11 : Option w_V} {x : Int} {r : w_L} (hop : w_fe code pc nx (.iload 12))  (h : w_Ex E rt code Q nx (l0 :: l1 :: l2 :: l3 :: l4 :: l5 :: l6 :: l7 :: l8 :: l9 :: l10 :: l11 :: some (.inl x) :: r) (.inl x :: st) σ) : w_Ex E rt code Q pc (l0 :: l1 :: l2 :: l3 :: l4 :: l5 :: l6 :: l7 :: l8 :: l9 :: l10 :: l11 :: some (.inl x) :: r) st σ := by
  obtain ⟨h1, rfl⟩ := hop
  exact w_Ex_in h1 (h)
theorem wi_lload12 {l0 l1 l2 l3 l4 l5 l6 l7 l8 l9 l10 l11 : Option w_V} {x : Int} {r : w_L} (hop : w_fe code pc nx (.lload 12))  (h : w_Ex E rt code Q nx (l0 :: l1 :: l2 :: l3 :: l4 :: l5 :: l6 :: l7 :: l8 :: l9 :: l10 :: l11 :: some (.inr (.inl x)) :: r) (.inr (.inl x) :: st) σ) : w_Ex E rt code Q pc (l0 :: l1 :: l2 :: l3 :: l4 :: l5 :: l6 :: l7 :: l8 :: l9 :: l10 :: l11 :: some (.inr (.inl x)) :: r) st σ := by
  obtain ⟨h1, rfl⟩ := hop
  exact w_Ex_in h1 (h)
theorem wi_aload12 {l0 l1 l2 l3 l4 l5 l6 l7 l8 l9 l10 l11 : Option w_V} {x : Nat × Nat} {r : w_L} (hop : w_fe code pc nx (.aload 12))  (h : w_Ex E rt code Q nx (l0 :: l1 :: l2 :: l3 :: l4 :: l5 :: l6 :: l7 :: l8 :: l9 :: l10 :: l11 :: some (.inr (.inr x)) :: r) (.inr (.inr x) :: st) σ) : w_Ex E rt code Q pc (l0 :: l1 :: l2 :: l3 :: l4 :: l5 :: l6 :: l7 :: l8 :: l9 :: l10 :: l11 :: some (.inr (.inr x)) :: r) st σ := by
  obtain ⟨h1, rfl⟩ := hop
  exact w_Ex_in h1 (h)
theorem wi_istore12 {l0 l1 l2 l3 l4 l5 l6 l7 l8 l9 l10 l11 : Option w_V} {x : Int} {y : Option w_V} {r : w_L} (hop : w_fe code pc nx (.istore 12)) (c0 : w_nl l11) (h : w_Ex E rt code Q nx (l0 :: l1 :: l2 :: l3 :: l4 :: l5 :: l6 :: l7 :: l8 :: l9 :: l10 :: l11 :: some (.inl x) :: r) st σ) : w_Ex E rt code Q pc (l0 :: l1 :: l2 :: l3 :: l4 :: l5 :: l6 :: l7 :: l8 :: l9 :: l10 :: l11 :: y :: r) (.inl x :: st) σ := by
  obtain ⟨h1, rfl⟩ := hop
  exact w_Ex_in h1 (And.intro (by simp only [List.length_cons]; omega) (And.intro c0 h))
theorem wi_astore12 {l0 l1 l2 l3 l4 l5 l6 l7 l8 l9 l10 l11 : Option w_V} {x : Nat × Nat} {y : Option w_V} {r : w_L} (hop : w_fe code pc nx (.astore 12)) (c0 : w_nl l11) (h : w_Ex E rt code Q nx (l0 :: l1 :: l2 :: l3 :: l4 :: l5 :: l6 :: l7 :: l8 :: l9 :: l10 :: l11 :: some (.inr (.inr x)) :: r) st σ) : w_Ex E rt code Q pc (l0 :: l1 :: l2 :: l3 :: l4 :: l5 :: l6 :: l7 :: l8 :: l9 :: l10 :: l11 :: y :: r) (.inr (.inr x) :: st) σ := by
  obtain ⟨h1, rfl⟩ := hop
  exact w_Ex_in h1 (And.intro (by simp only [List.length_cons]; omega) (And.intro c0 h))
theorem wi_lstore12 {l0 l1 l2 l3 l4 l5 l6 l7 l8 l9 l10 l11 : Option w_V} {x : Int} {y z : Option w_V} {r : w_L} (hop : w_fe code pc nx (.lstore 12)) (c0 : w_nl l11) (h : w_Ex E rt code Q nx (l0 :: l1 :: l2 :: l3 :: l4 :: l5 :: l6 :: l7 :: l8 :: l9 :: l10 :: l11 :: some (.inr (.inl x)) :: none :: r) st σ) : w_Ex E rt code Q pc (l0 :: l1 :: l2 :: l3 :: l4 :: l5 :: l6 :: l7 :: l8 :: l9 :: l10 :: l11 :: y :: z :: r) (.inr (.inl x) :: st) σ := by
  obtain ⟨h1, rfl⟩ := hop
  exact w_Ex_in h1 (And.intro (by simp only [List.length_cons]; omega) (And.intro c0 h))
theorem wi_iinc12 {l0 l1 l2 l3 l4 l5 l6 l7 l8 l9 l10 l11 : Option w_V} {x n : Int} {r : w_L} (hop : w_fe code pc nx (.iinc 12 n)) (c0 : w_nl l11) (c1 : w_in (x + n)) (h : w_Ex E rt code Q nx (l0 :: l1 :: l2 :: l3 :: l4 :: l5 :: l6 :: l7 :: l8 :: l9 :: l10 :: l11 :: some (.inl (x + n)) :: r) st σ) : w_Ex E rt code Q pc (l0 :: l1 :: l2 :: l3 :: l4 :: l5 :: l6 :: l7 :: l8 :: l9 :: l10 :: l11 :: some (.inl x) :: r) st σ := by
  obtain ⟨h1, rfl⟩ := hop
  exact w_Ex_in h1 (And.intro c0 (And.intro c1 h))
theorem wi_iadd {x y : Int} (hop : w_fe code pc nx (.iadd)) (c0 : w_in (x + y)) (h : w_Ex E rt code Q nx ls (.inl (x + y) :: st) σ) : w_Ex E rt code Q pc ls (.inl y :: .inl x :: st) σ := by
  obtain ⟨h1, rfl⟩ := hop
  exact w_Ex_in h1 (And.intro c0 (h))
theorem wi_fadd {x y : Int} (hop : w_fe code pc nx (.fadd))  (h : w_Ex E rt code Q nx ls (.inl (w_wr (x + y)) :: st) σ) : w_Ex E rt code Q pc ls (.inl y :: .inl x :: st) σ := by
  obtain ⟨h1, rfl⟩ := hop
  exact w_Ex_in h1 (h)
theorem wi_isub {x y : Int} (hop : w_fe code pc nx (.isub)) (c0 : w_in (x - y)) (h : w_Ex E rt code Q nx ls (.inl (x - y) :: st) σ) : w_Ex E rt code Q pc ls (.inl y :: .inl x :: st) σ := by
  obtain ⟨h1, rfl⟩ := hop
  exact w_Ex_in h1 (And.intro c0 (h))
theorem wi_fsub {x y : Int} (hop : w_fe code pc nx (.fsub))  (h : w_Ex E rt code Q nx ls (.inl (w_wr (x - y)) :: st) σ) : w_Ex E rt code Q pc ls (.inl y :: .inl x :: st) σ := by
  obtain ⟨h1, rfl⟩ := hop
  exact w_Ex_in h1 (h)
theorem wi_imul {x y : Int} (hop : w_fe code pc nx (.imul)) (c0 : w_in (x * y)) (h : w_Ex E rt code Q nx ls (.inl (x * y) :: st) σ) : w_Ex E rt code Q pc ls (.inl y :: .inl x :: st) σ := by
  obtain ⟨h1, rfl⟩ := hop
  exact w_Ex_in h1 (And.intro c0 (h))
theorem wi_fmul {x y : Int} (hop : w_fe code pc nx (.fmul))  (h : w_Ex E rt code Q nx ls (.inl (w_wr (x * y)) :: st) σ) : w_Ex E rt code Q pc ls (.inl y :: .inl x :: st) σ := by
  obtain ⟨h1, rfl⟩ := hop
  exact w_Ex_in h1 (h)
theorem wi_ladd {x y : Int} (hop : w_fe code pc nx (.ladd)) (c0 : w_inl (x + y)) (h : w_Ex E rt code Q nx ls (.inr (.inl (x + y)) :: st) σ) : w_Ex E rt code Q pc ls (.inr (.inl y) :: .inr (.inl x) :: st) σ := by
  obtain ⟨h1, rfl⟩ := hop
  exact w_Ex_in h1 (And.intro c0 (h))
theorem wi_lmul {x y : Int} (hop : w_fe code pc nx (.lmul)) (c0 : w_inl (x * y)) (h : w_Ex E rt code Q nx ls (.inr (.inl (x * y)) :: st) σ) : w_Ex E rt code Q pc ls (.inr (.inl y) :: .inr (.inl x) :: st) σ := by
  obtain ⟨h1, rfl⟩ := hop
  exact w_Ex_in h1 (And.intro c0 (h))
theorem wi_idiv {x y : Int} (hop : w_fe code pc nx (.idiv)) (c0 : ¬ y = 0) (c1 : w_in (x.tdiv y)) (h : w_Ex E rt code Q nx ls (.inl (x.tdiv y) :: st) σ) : w_Ex E rt code Q pc ls (.inl y :: .inl x :: st) σ := by
  obtain ⟨h1, rfl⟩ := hop
  exact w_Ex_in h1 (And.intro c0 (And.intro c1 (h)))
theorem wi_irem {x y : Int} (hop : w_fe code pc nx (.irem)) (c0 : ¬ y = 0) (h : w_Ex E rt code Q nx ls (.inl (x.tmod y) :: st) σ) : w_Ex E rt code Q pc ls (.inl y :: .inl x :: st) σ := by
  obtain ⟨h1, rfl⟩ := hop
  exact w_Ex_in h1 (And.intro c0 (h))
theorem wi_ldiv {x y : Int} (hop : w_fe code pc nx (.ldiv)) (c0 : ¬ y = 0) (c1 : w_inl (x.tdiv y)) (h : w_Ex E rt code Q nx ls (.inr (.inl (x.tdiv y)) :: st) σ) : w_Ex E rt code Q pc ls (.inr (.inl y) :: .inr (.inl x) :: st) σ := by
  obtain ⟨h1, rfl⟩ := hop
  exact w_Ex_in h1 (And.intro c0 (And.intro c1 (h)))
theorem wi_lrem {x y : Int} (hop : w_fe code pc nx (.lrem)) (c0 : ¬ y = 0) (h : w_Ex E rt code Q nx ls (.inr (.inl (x.tmod y)) :: st) σ) : w_Ex E rt code Q pc ls (.inr (.inl y) :: .inr (.inl x) :: st) σ := by
  obtain ⟨h1, rfl⟩ := hop
  exact w_Ex_in h1 (And.intro c0 (h))
theorem wi_iand {x y : Int} (hop : w_fe code pc nx (.iand))  (h : w_Ex E rt code Q nx ls (.inl (w_and x y) :: st) σ) : w_Ex E rt code Q pc ls (.inl y :: .inl x :: st) σ := by
  obtain ⟨h1, rfl⟩ := hop
  exact w_Ex_in h1 (h)
theorem wi_ior {x y : Int} (hop : w_fe code pc nx (.ior))  (h : w_Ex E rt code Q nx ls (.inl (w_or x y) :: st) σ) : w_Ex E rt code Q pc ls (.inl y :: .inl x :: st) σ := by
  obtain ⟨h1, rfl⟩ := hop
  exact w_Ex_in h1 (h)
theorem wi_ixor {x y : Int} (hop : w_fe code pc nx (.ixor))  (h : w_Ex E rt code Q nx ls (.inl (w_xor x y) :: st) σ) : w_Ex E rt code Q pc ls (.inl y :: .inl x :: st) σ := by
  obtain ⟨h1, rfl⟩ := hop
  exact w_Ex_in h1 (h)
theorem wi_ishl {x y : Int} (hop : w_fe code pc nx (.ishl))  (h : w_Ex E rt code Q nx ls (.inl (w_shl x y) :: st) σ) : w_Ex E rt code Q pc ls (.inl y :: .inl x :: st) σ := by
  obtain ⟨h1, rfl⟩ := hop
  exact w_Ex_in h1 (h)
theorem wi_ishr {x y : Int} (hop : w_fe code pc nx (.ishr))  (h : w_Ex E rt code Q nx ls (.inl (w_shr x y) :: st) σ) : w_Ex E rt code Q pc ls (.inl y :: .inl x :: st) σ := by
  obtain ⟨h1, rfl⟩ := hop
  exact w_Ex_in h1 (h)
theorem wi_iushr {x y : Int} (hop : w_fe code pc nx (.iushr))  (h : w_Ex E rt code Q nx ls (.inl (w_ushr x y) :: st) σ) : w_Ex E rt code Q pc ls (.inl y :: .inl x :: st) σ := by
  obtain ⟨h1, rfl⟩ := hop
  exact w_Ex_in h1 (h)
theorem wi_ineg {x : Int} (hop : w_fe code pc nx (.ineg)) (c0 : w_in (-x)) (h : w_Ex E rt code Q nx ls (.inl (-x) :: st) σ) : w_Ex E rt code Q pc ls (.inl x :: st) σ := by
  obtain ⟨h1, rfl⟩ := hop
  exact w_Ex_in h1 (And.intro c0 (h))
theorem wi_i2l {x : Int} (hop : w_fe code pc nx (.i2l))  (h : w_Ex E rt code Q nx ls (.inr (.inl x) :: st) σ) : w_Ex E rt code Q pc ls (.inl x :: st) σ := by
  obtain ⟨h1, rfl⟩ := hop
  exact w_Ex_in h1 (h)
theorem wi_i2b {x : Int} (hop : w_fe code pc nx (.i2b))  (h : w_Ex E rt code Q nx ls (.inl (Int.bmod x 256) :: st) σ) : w_Ex E rt code Q pc ls (.inl x :: st) σ := by
  obtain ⟨h1, rfl⟩ := hop
  exact w_Ex_in h1 (h)
theorem wi_i2s {x : Int} (hop : w_fe code pc nx (.i2s))  (h : w_Ex E rt code Q nx ls (.inl (Int.bmod x 65536) :: st) σ) : w_Ex E rt code Q pc ls (.inl x :: st) σ := by
  obtain ⟨h1, rfl⟩ := hop
  exact w_Ex_in h1 (h)
theorem wi_i2c {x : Int} (hop : w_fe code pc nx (.i2c)) (c0 : 0 ≤ x ∧ x ≤ 65535) (h : w_Ex E rt code Q nx ls (.inl x :: st) σ) : w_Ex E rt code Q pc ls (.inl x :: st) σ := by
  obtain ⟨h1, rfl⟩ := hop
  exact w_Ex_in h1 (And.intro c0 (h))
theorem wi_dup_i {x : Int} (hop : w_fe code pc nx (.dup))  (h : w_Ex E rt code Q nx ls (.inl x :: .inl x :: st) σ) : w_Ex E rt code Q pc ls (.inl x :: st) σ := by
  obtain ⟨h1, rfl⟩ := hop
  exact w_Ex_in h1 (h)
theorem wi_dup_a {x : Nat × Nat} (hop : w_fe code pc nx (.dup))  (h : w_Ex E rt code Q nx ls (.inr (.inr x) :: .inr (.inr x) :: st) σ) : w_Ex E rt code Q pc ls (.inr (.inr x) :: st) σ := by
  obtain ⟨h1, rfl⟩ := hop
  exact w_Ex_in h1 (h)
theorem wi_dup2 {x : Int} {y : Nat × Nat} (hop : w_fe code pc nx (.dup2))  (h : w_Ex E rt code Q nx ls (.inl x :: .inr (.inr y) :: .inl x :: .inr (.inr y) :: st) σ) : w_Ex E rt code Q pc ls (.inl x :: .inr (.inr y) :: st) σ := by
  obtain ⟨h1, rfl⟩ := hop
  exact w_Ex_in h1 (h)
theorem wi_pop_i {x : Int} (hop : w_fe code pc nx (.pop))  (h : w_Ex E rt code Q nx ls st σ) : w_Ex E rt code Q pc ls (.inl x :: st) σ := by
  obtain ⟨h1, rfl⟩ := hop
  exact w_Ex_in h1 (h)
theorem wi_pop2 {x : Int} (hop : w_fe code pc nx (.pop2))  (h : w_Ex E rt code Q nx ls st σ) : w_Ex E rt code Q pc ls (.inr (.inl x) :: st) σ := by
  obtain ⟨h1, rfl⟩ := hop
  exact w_Ex_in h1 (h)
theorem wi_pop_a {x : Nat × Nat} (hop : w_fe code pc nx (.pop))  (h : w_Ex E rt code Q nx ls st σ) : w_Ex E rt code Q pc ls (.inr (.inr x) :: st) σ := by
  obtain ⟨h1, rfl⟩ := hop
  exact w_Ex_in h1 (h)
theorem wi_goto {t : Nat} (hop : w_gt code pc t) (h : w_Ex E rt code Q t ls st σ) : w_Ex E rt code Q pc ls st σ := w_Ex_in hop h
theorem wi_ic_eq {x y : Int} {t : Nat} (hop : w_ic code pc nx .eq t) (h1 : x = y → w_Ex E rt code Q t ls st σ) (h2 : ¬ x = y → w_Ex E rt code Q nx ls st σ) : w_Ex E rt code Q pc ls (.inl y :: .inl x :: st) σ := by
  obtain ⟨h, rfl⟩ := hop
  exact w_Ex_in h (And.intro h1 (h2))
theorem wi_if_eq {x : Int} {t : Nat} (hop : w_if code pc nx .eq t) (h1 : x = 0 → w_Ex E rt code Q t ls st σ) (h2 : ¬ x = 0 → w_Ex E rt code Q nx ls st σ) : w_Ex E rt code Q pc ls (.inl x :: st) σ := by
  obtain ⟨h, rfl⟩ := hop
  exact w_Ex_in h (And.intro h1 (h2))
theorem wi_lcmp_eq {x y : Int} {n2 t : Nat} (hop : w_fe code pc nx .lcmp) (hop2 : w_if code nx n2 .eq t) (h1 : x = y → w_Ex E rt code Q t ls st σ) (h2 : ¬ x = y → w_Ex E rt code Q n2 ls st σ) : w_Ex E rt code Q pc ls (.inr (.inl y) :: .inr (.inl x) :: st) σ := by
  obtain ⟨h, rfl⟩ := hop
  refine w_Ex_in h (wi_if_eq (x := if y < x then 1 else if x = y then 0 else -1) hop2 (fun c => h1 ?_) (fun c => h2 ?_))
  all_goals (split at c <;> try split at c) <;> omega
theorem wi_ic_ne {x y : Int} {t : Nat} (hop : w_ic code pc nx .ne t) (h1 : ¬ x = y → w_Ex E rt code Q t ls st σ) (h2 : x = y → w_Ex E rt code Q nx ls st σ) : w_Ex E rt code Q pc ls (.inl y :: .inl x :: st) σ := by
  obtain ⟨h, rfl⟩ := hop
  exact w_Ex_in h (And.intro h1 (fun c => h2 (Classical.not_not.mp c)))
theorem wi_if_ne {x : Int} {t : Nat} (hop : w_if code pc nx .ne t) (h1 : ¬ x = 0 → w_Ex E rt code Q t ls st σ) (h2 : x = 0 → w_Ex E rt code Q nx ls st σ) : w_Ex E rt code Q pc ls (.inl x :: st) σ := by
  obtain ⟨h, rfl⟩ := hop
  exact w_Ex_in h (And.intro h1 (fun c => h2 (Classical.not_not.mp c)))
theorem wi_lcmp_ne {x y : Int} {n2 t : Nat} (hop : w_fe code pc nx .lcmp) (hop2 : w_if code nx n2 .ne t) (h1 : ¬ x = y → w_Ex E rt code Q t ls st σ) (h2 : x = y → w_Ex E rt code Q n2 ls st σ) : w_Ex E rt code Q pc ls (.inr (.inl y) :: .inr (.inl x) :: st) σ := by
  obtain ⟨h, rfl⟩ := hop
  refine w_Ex_in h (wi_if_ne (x := if y < x then 1 else if x = y then 0 else -1) hop2 (fun c => h1 ?_) (fun c => h2 ?_))
  all_goals (split at c <;> try split at c) <;> omega
theorem wi_ic_lt {x y : Int} {t : Nat} (hop : w_ic code pc nx .lt t) (h1 : x < y → w_Ex E rt code Q t ls st σ) (h2 : y ≤ x → w_Ex E rt code Q nx ls st σ) : w_Ex E rt code Q pc ls (.inl y :: .inl x :: st) σ := by
  obtain ⟨h, rfl⟩ := hop
  exact w_Ex_in h (And.intro h1 (fun c => h2 (Int.not_lt.mp c)))
theorem wi_if_lt {x : Int} {t : Nat} (hop : w_if code pc nx .lt t) (h1 : x < 0 → w_Ex E rt code Q t ls st σ) (h2 : 0 ≤ x → w_Ex E rt code Q nx ls st σ) : w_Ex E rt code Q pc ls (.inl x :: st) σ := by
  obtain ⟨h, rfl⟩ := hop
  exact w_Ex_in h (And.intro h1 (fun c => h2 (Int.not_lt.mp c)))
theorem wi_lcmp_lt {x y : Int} {n2 t : Nat} (hop : w_fe code pc nx .lcmp) (hop2 : w_if code nx n2 .lt t) (h1 : x < y → w_Ex E rt code Q t ls st σ) (h2 : y ≤ x → w_Ex E rt code Q n2 ls st σ) : w_Ex E rt code Q pc ls (.inr (.inl y) :: .inr (.inl x) :: st) σ := by
  obtain ⟨h, rfl⟩ := hop
  refine w_Ex_in h (wi_if_lt (x := if y < x then 1 else if x = y then 0 else -1) hop2 (fun c => h1 ?_) (fun c => h2 ?_))
  all_goals (split at c <;> try split at c) <;> omega
theorem wi_ic_ge {x y : Int} {t : Nat} (hop : w_ic code pc nx .ge t) (h1 : y ≤ x → w_Ex E rt code Q t ls st σ) (h2 : x < y → w_Ex E rt code Q nx ls st σ) : w_Ex E rt code Q pc ls (.inl y :: .inl x :: st) σ := by
  obtain ⟨h, rfl⟩ := hop
  exact w_Ex_in h (And.intro h1 (fun c => h2 (Int.not_le.mp c)))
theorem wi_if_ge {x : Int} {t : Nat} (hop : w_if code pc nx .ge t) (h1 : 0 ≤ x → w_Ex E rt code Q t ls st σ) (h2 : x < 0 → w_Ex E rt code Q nx ls st σ) : w_Ex E rt code Q pc ls (.inl x :: st) σ := by
  obtain ⟨h, rfl⟩ := hop
  exact w_Ex_in h (And.intro h1 (fun c => h2 (Int.not_le.mp c)))
theorem wi_lcmp_ge {x y : Int} {n2 t : Nat} (hop : w_fe code pc nx .lcmp) (hop2 : w_if code nx n2 .ge t) (h1 : y ≤ x → w_Ex E rt code Q t ls st σ) (h2 : x < y → w_Ex E rt code Q n2 ls st σ) : w_Ex E rt code Q pc ls (.inr (.inl y) :: .inr (.inl x) :: st) σ := by
  obtain ⟨h, rfl⟩ := hop
  refine w_Ex_in h (wi_if_ge (x := if y < x then 1 else if x = y then 0 else -1) hop2 (fun c => h1 ?_) (fun c => h2 ?_))
  all_goals (split at c <;> try split at c) <;> omega
theorem wi_ic_gt {x y : Int} {t : Nat} (hop : w_ic code pc nx .gt t) (h1 : y < x → w_Ex E rt code Q t ls st σ) (h2 : x ≤ y → w_Ex E rt code Q nx ls st σ) : w_Ex E rt code Q pc ls (.inl y :: .inl x :: st) σ := by
  obtain ⟨h, rfl⟩ := hop
  exact w_Ex_in h (And.intro h1 (fun c => h2 (Int.not_lt.mp c)))
theorem wi_if_gt {x : Int} {t : Nat} (hop : w_if code pc nx .gt t) (h1 : 0 < x → w_Ex E rt code Q t ls st σ) (h2 : x ≤ 0 → w_Ex E rt code Q nx ls st σ) : w_Ex E rt code Q pc ls (.inl x :: st) σ := by
  obtain ⟨h, rfl⟩ := hop
  exact w_Ex_in h (And.intro h1 (fun c => h2 (Int.not_lt.mp c)))
theorem wi_lcmp_gt {x y : Int} {n2 t : Nat} (hop : w_fe code pc nx .lcmp) (hop2 : w_if code nx n2 .gt t) (h1 : y < x → w_Ex E rt code Q t ls st σ) (h2 : x ≤ y → w_Ex E rt code Q n2 ls st σ) : w_Ex E rt code Q pc ls (.inr (.inl y) :: .inr (.inl x) :: st) σ := by
  obtain ⟨h, rfl⟩ := hop
  refine w_Ex_in h (wi_if_gt (x := if y < x then 1 else if x = y then 0 else -1) hop2 (fun c => h1 ?_) (fun c => h2 ?_))
  all_goals (split at c <;> try split at c) <;> omega
theorem wi_ic_le {x y : Int} {t : Nat} (hop : w_ic code pc nx .le t) (h1 : x ≤ y → w_Ex E rt code Q t ls st σ) (h2 : y < x → w_Ex E rt code Q nx ls st σ) : w_Ex E rt code Q pc ls (.inl y :: .inl x :: st) σ := by
  obtain ⟨h, rfl⟩ := hop
  exact w_Ex_in h (And.intro h1 (fun c => h2 (Int.not_le.mp c)))
theorem wi_if_le {x : Int} {t : Nat} (hop : w_if code pc nx .le t) (h1 : x ≤ 0 → w_Ex E rt code Q t ls st σ) (h2 : 0 < x → w_Ex E rt code Q nx ls st σ) : w_Ex E rt code Q pc ls (.inl x :: st) σ := by
  obtain ⟨h, rfl⟩ := hop
  exact w_Ex_in h (And.intro h1 (fun c => h2 (Int.not_le.mp c)))
theorem wi_lcmp_le {x y : Int} {n2 t : Nat} (hop : w_fe code pc nx .lcmp) (hop2 : w_if code nx n2 .le t) (h1 : x ≤ y → w_Ex E rt code Q t ls st σ) (h2 : y < x → w_Ex E rt code Q n2 ls st σ) : w_Ex E rt code Q pc ls (.inr (.inl y) :: .inr (.inl x) :: st) σ := by
  obtain ⟨h, rfl⟩ := hop
  refine w_Ex_in h (wi_if_le (x := if y < x then 1 else if x = y then 0 else -1) hop2 (fun c => h1 ?_) (fun c => h2 ?_))
  all_goals (split at c <;> try split at c) <;> omega
theorem wi_ifb_eq {P : Prop} {t : Nat} (hop : w_if code pc nx .eq t) (h1 : ¬ P → w_Ex E rt code Q t ls st σ) (h2 : P → w_Ex E rt code Q nx ls st σ) : w_Ex E rt code Q pc ls (.inl (w_bi P) :: st) σ := wi_if_eq hop (fun c => h1 (w_bi_0.mp c)) (fun c => h2 (w_bi_n0.mp c))
theorem wi_ifb_ne {P : Prop} {t : Nat} (hop : w_if code pc nx .ne t) (h1 : P → w_Ex E rt code Q t ls st σ) (h2 : ¬ P → w_Ex E rt code Q nx ls st σ) : w_Ex E rt code Q pc ls (.inl (w_bi P) :: st) σ := wi_if_ne hop (fun c => h1 (w_bi_n0.mp c)) (fun c => h2 (w_bi_0.mp c))
theorem wi_iald1003 {j : Int} {a : Nat} (hop : w_fe code pc nx (.iaload)) (c0 : 0 ≤ j) (c1 : j < 3) (h : w_Ex E rt code Q nx ls (.inl (σ a j.toNat) :: st) σ) : w_Ex E rt code Q pc ls (.inl j :: .inr (.inr (1003, a)) :: st) σ := by
  obtain ⟨h1, rfl⟩ := hop
  exact w_Ex_in h1 (And.intro c0 (And.intro c1 (h)))
theorem wi_iast1003 {x j : Int} {a : Nat} (hop : w_fe code pc nx (.iastore)) (c0 : 0 ≤ j) (c1 : j < 3) (h : w_Ex E rt code Q nx ls st (w_up σ a j.toNat x)) : w_Ex E rt code Q pc ls (.inl x :: .inl j :: .inr (.inr (1003, a)) :: st) σ := by
  obtain ⟨h1, rfl⟩ := hop
  exact w_Ex_in h1 (And.intro (And.intro (by decide) (by decide)) (And.intro c0 (And.intro c1 h)))
theorem wi_alen1003 {a : Nat} (hop : w_fe code pc nx (.arraylength))  (h : w_Ex E rt code Q nx ls (.inl 3 :: st) σ) : w_Ex E rt code Q pc ls (.inr (.inr (1003, a)) :: st) σ := by
  obtain ⟨h1, rfl⟩ := hop
  exact w_Ex_in h1 (h)
theorem wi_iald1004 {j : Int} {a : Nat} (hop : w_fe code pc nx (.iaload)) (c0 : 0 ≤ j) (c1 : j < 4) (h : w_Ex E rt code Q nx ls (.inl (σ a j.toNat) :: st) σ) : w_Ex E rt code Q pc ls (.inl j :: .inr (.inr (1004, a)) :: st) σ := by
  obtain ⟨h1, rfl⟩ := hop
  exact w_Ex_in h1 (And.intro c0 (And.intro c1 (h)))
theorem wi_iast1004 {x j : Int} {a : Nat} (hop : w_fe code pc nx (.iastore)) (c0 : 0 ≤ j) (c1 : j < 4) (h : w_Ex E rt code Q nx ls st (w_up σ a j.toNat x)) : w_Ex E rt code Q pc ls (.inl x :: .inl j :: .inr (.inr (1004, a)) :: st) σ := by
  obtain ⟨h1, rfl⟩ := hop
  exact w_Ex_in h1 (And.intro (And.intro (by decide) (by decide)) (And.intro c0 (And.intro c1 h)))
theorem wi_alen1004 {a : Nat} (hop : w_fe code pc nx (.arraylength))  (h : w_Ex E rt code Q nx ls (.inl 4 :: st) σ) : w_Ex E rt code Q pc ls (.inr (.inr (1004, a)) :: st) σ := by
  obtain ⟨h1, rfl⟩ := hop
  exact w_Ex_in h1 (h)
theorem wi_iald1007 {j : Int} {a : Nat} (hop : w_fe code pc nx (.iaload)) (c0 : 0 ≤ j) (c1 : j < 7) (h : w_Ex E rt code Q nx ls (.inl (σ a j.toNat) :: st) σ) : w_Ex E rt code Q pc ls (.inl j :: .inr (.inr (1007, a)) :: st) σ := by
  obtain ⟨h1, rfl⟩ := hop
  exact w_Ex_in h1 (And.intro c0 (And.intro c1 (h)))
theorem wi_iast1007 {x j : Int} {a : Nat} (hop : w_fe code pc nx (.iastore)) (c0 : 0 ≤ j) (c1 : j < 7) (h : w_Ex E rt code Q nx ls st (w_up σ a j.toNat x)) : w_Ex E rt code Q pc ls (.inl x :: .inl j :: .inr (.inr (1007, a)) :: st) σ := by
  obtain ⟨h1, rfl⟩ := hop
  exact w_Ex_in h1 (And.intro (And.intro (by decide) (by decide)) (And.intro c0 (And.intro c1 h)))
theorem wi_alen1007 {a : Nat} (hop : w_fe code pc nx (.arraylength))  (h : w_Ex E rt code Q nx ls (.inl 7 :: st) σ) : w_Ex E rt code Q pc ls (.inr (.inr (1007, a)) :: st) σ := by
  obtain ⟨h1, rfl⟩ := hop
  exact w_Ex_in h1 (h)
theorem wi_iald1008 {j : Int} {a : Nat} (hop : w_fe code pc nx (.iaload)) (c0 : 0 ≤ j) (c1 : j < 8) (h : w_Ex E rt code Q nx ls (.inl (σ a j.toNat) :: st) σ) : w_Ex E rt code Q pc ls (.inl j :: .inr (.inr (1008, a)) :: st) σ := by
  obtain ⟨h1, rfl⟩ := hop
  exact w_Ex_in h1 (And.intro c0 (And.intro c1 (h)))
theorem wi_iast1008 {x j : Int} {a : Nat} (hop : w_fe code pc nx (.iastore)) (c0 : 0 ≤ j) (c1 : j < 8) (h : w_Ex E rt code Q nx ls st (w_up σ a j.toNat x)) : w_Ex E rt code Q pc ls (.inl x :: .inl j :: .inr (.inr (1008, a)) :: st) σ := by
  obtain ⟨h1, rfl⟩ := hop
  exact w_Ex_in h1 (And.intro (And.intro (by decide) (by decide)) (And.intro c0 (And.intro c1 h)))
theorem wi_alen1008 {a : Nat} (hop : w_fe code pc nx (.arraylength))  (h : w_Ex E rt code Q nx ls (.inl 8 :: st) σ) : w_Ex E rt code Q pc ls (.inr (.inr (1008, a)) :: st) σ := by
  obtain ⟨h1, rfl⟩ := hop
  exact w_Ex_in h1 (h)
theorem wi_iald1010 {j : Int} {a : Nat} (hop : w_fe code pc nx (.iaload)) (c0 : 0 ≤ j) (c1 : j < 10) (h : w_Ex E rt code Q nx ls (.inl (σ a j.toNat) :: st) σ) : w_Ex E rt code Q pc ls (.inl j :: .inr (.inr (1010, a)) :: st) σ := by
  obtain ⟨h1, rfl⟩ := hop
  exact w_Ex_in h1 (And.intro c0 (And.intro c1 (h)))
theorem wi_iast1010 {x j : Int} {a : Nat} (hop : w_fe code pc nx (.iastore)) (c0 : 0 ≤ j) (c1 : j < 10) (h : w_Ex E rt code Q nx ls st (w_up σ a j.toNat x)) : w_Ex E rt code Q pc ls (.inl x :: .inl j :: .inr (.inr (1010, a)) :: st) σ := by
  obtain ⟨h1, rfl⟩ := hop
  exact w_Ex_in h1 (And.intro (And.intro (by decide) (by decide)) (And.intro c0 (And.intro c1 h)))
theorem wi_alen1010 {a : Nat} (hop : w_fe code pc nx (.arraylength))  (h : w_Ex E rt code Q nx ls (.inl 10 :: st) σ) : w_Ex E rt code Q pc ls (.inr (.inr (1010, a)) :: st) σ := by
  obtain ⟨h1, rfl⟩ := hop
  exact w_Ex_in h1 (h)
theorem wi_iald1013 {j : Int} {a : Nat} (hop : w_fe code pc nx (.iaload)) (c0 : 0 ≤ j) (c1 : j < 13) (h : w_Ex E rt code Q nx ls (.inl (σ a j.toNat) :: st) σ) : w_Ex E rt code Q pc ls (.inl j :: .inr (.inr (1013, a)) :: st) σ := by
  obtain ⟨h1, rfl⟩ := hop
  exact w_Ex_in h1 (And.intro c0 (And.intro c1 (h)))
theorem wi_iast1013 {x j : Int} {a : Nat} (hop : w_fe code pc nx (.iastore)) (c0 : 0 ≤ j) (c1 : j < 13) (h : w_Ex E rt code Q nx ls st (w_up σ a j.toNat x)) : w_Ex E rt code Q pc ls (.inl x :: .inl j :: .inr (.inr (1013, a)) :: st) σ := by
  obtain ⟨h1, rfl⟩ := hop
  exact w_Ex_in h1 (And.intro (And.intro (by decide) (by decide)) (And.intro c0 (And.intro c1 h)))
theorem wi_alen1013 {a : Nat} (hop : w_fe code pc nx (.arraylength))  (h : w_Ex E rt code Q nx ls (.inl 13 :: st) σ) : w_Ex E rt code Q pc ls (.inr (.inr (1013, a)) :: st) σ := by
  obtain ⟨h1, rfl⟩ := hop
  exact w_Ex_in h1 (h)
theorem wi_iald1020 {j : Int} {a : Nat} (hop : w_fe code pc nx (.iaload)) (c0 : 0 ≤ j) (c1 : j < 20) (h : w_Ex E rt code Q nx ls (.inl (σ a j.toNat) :: st) σ) : w_Ex E rt code Q pc ls (.inl j :: .inr (.inr (1020, a)) :: st) σ := by
  obtain ⟨h1, rfl⟩ := hop
  exact w_Ex_in h1 (And.intro c0 (And.intro c1 (h)))
theorem wi_iast1020 {x j : Int} {a : Nat} (hop : w_fe code pc nx (.iastore)) (c0 : 0 ≤ j) (c1 : j < 20) (h : w_Ex E rt code Q nx ls st (w_up σ a j.toNat x)) : w_Ex E rt code Q pc ls (.inl x :: .inl j :: .inr (.inr (1020, a)) :: st) σ := by
  obtain ⟨h1, rfl⟩ := hop
  exact w_Ex_in h1 (And.intro (And.intro (by decide) (by decide)) (And.intro c0 (And.intro c1 h)))
theorem wi_alen1020 {a : Nat} (hop : w_fe code pc nx (.arraylength))  (h : w_Ex E rt code Q nx ls (.inl 20 :: st) σ) : w_Ex E rt code Q pc ls (.inr (.inr (1020, a)) :: st) σ := by
  obtain ⟨h1, rfl⟩ := hop
  exact w_Ex_in h1 (h)
theorem wi_iald1040 {j : Int} {a : Nat} (hop : w_fe code pc nx (.iaload)) (c0 : 0 ≤ j) (c1 : j < 40) (h : w_Ex E rt code Q nx ls (.inl (σ a j.toNat) :: st) σ) : w_Ex E rt code Q pc ls (.inl j :: .inr (.inr (1040, a)) :: st) σ := by
  obtain ⟨h1, rfl⟩ := hop
  exact w_Ex_in h1 (And.intro c0 (And.intro c1 (h)))
theorem wi_iast1040 {x j : Int} {a : Nat} (hop : w_fe code pc nx (.iastore)) (c0 : 0 ≤ j) (c1 : j < 40) (h : w_Ex E rt code Q nx ls st (w_up σ a j.toNat x)) : w_Ex E rt code Q pc ls (.inl x :: .inl j :: .inr (.inr (1040, a)) :: st) σ := by
  obtain ⟨h1, rfl⟩ := hop
  exact w_Ex_in h1 (And.intro (And.intro (by decide) (by decide)) (And.intro c0 (And.intro c1 h)))
theorem wi_alen1040 {a : Nat} (hop : w_fe code pc nx (.arraylength))  (h : w_Ex E rt code Q nx ls (.inl 40 :: st) σ) : w_Ex E rt code Q pc ls (.inr (.inr (1040, a)) :: st) σ := by
  obtain ⟨h1, rfl⟩ := hop
  exact w_Ex_in h1 (h)
theorem wi_iald1049 {j : Int} {a : Nat} (hop : w_fe code pc nx (.iaload)) (c0 : 0 ≤ j) (c1 : j < 49) (h : w_Ex E rt code Q nx ls (.inl (σ a j.toNat) :: st) σ) : w_Ex E rt code Q pc ls (.inl j :: .inr (.inr (1049, a)) :: st) σ := by
  obtain ⟨h1, rfl⟩ := hop
  exact w_Ex_in h1 (And.intro c0 (And.intro c1 (h)))
theorem wi_iast1049 {x j : Int} {a : Nat} (hop : w_fe code pc nx (.iastore)) (c0 : 0 ≤ j) (c1 : j < 49) (h : w_Ex E rt code Q nx ls st (w_up σ a j.toNat x)) : w_Ex E rt code Q pc ls (.inl x :: .inl j :: .inr (.inr (1049, a)) :: st) σ := by
  obtain ⟨h1, rfl⟩ := hop
  exact w_Ex_in h1 (And.intro (And.intro (by decide) (by decide)) (And.intro c0 (And.intro c1 h)))
theorem wi_alen1049 {a : Nat} (hop : w_fe code pc nx (.arraylength))  (h : w_Ex E rt code Q nx ls (.inl 49 :: st) σ) : w_Ex E rt code Q pc ls (.inr (.inr (1049, a)) :: st) σ := by
  obtain ⟨h1, rfl⟩ := hop
  exact w_Ex_in h1 (h)
theorem wi_iald1082 {j : Int} {a : Nat} (hop : w_fe code pc nx (.iaload)) (c0 : 0 ≤ j) (c1 : j < 82) (h : w_Ex E rt code Q nx ls (.inl (σ a j.toNat) :: st) σ) : w_Ex E rt code Q pc ls (.inl j :: .inr (.inr (1082, a)) :: st) σ := by
  obtain ⟨h1, rfl⟩ := hop
  exact w_Ex_in h1 (And.intro c0 (And.intro c1 (h)))
theorem wi_iast1082 {x j : Int} {a : Nat} (hop : w_fe code pc nx (.iastore)) (c0 : 0 ≤ j) (c1 : j < 82) (h : w_Ex E rt code Q nx ls st (w_up σ a j.toNat x)) : w_Ex E rt code Q pc ls (.inl x :: .inl j :: .inr (.inr (1082, a)) :: st) σ := by
  obtain ⟨h1, rfl⟩ := hop
  exact w_Ex_in h1 (And.intro (And.intro (by decide) (by decide)) (And.intro c0 (And.intro c1 h)))
theorem wi_alen1082 {a : Nat} (hop : w_fe code pc nx (.arraylength))  (h : w_Ex E rt code Q nx ls (.inl 82 :: st) σ) : w_Ex E rt code Q pc ls (.inr (.inr (1082, a)) :: st) σ := by
  obtain ⟨h1, rfl⟩ := hop
  exact w_Ex_in h1 (h)
theorem wi_iald1160 {j : Int} {a : Nat} (hop : w_fe code pc nx (.iaload)) (c0 : 0 ≤ j) (c1 : j < 160) (h : w_Ex E rt code Q nx ls (.inl (σ a j.toNat) :: st) σ) : w_Ex E rt code Q pc ls (.inl j :: .inr (.inr (1160, a)) :: st) σ := by
  obtain ⟨h1, rfl⟩ := hop
  exact w_Ex_in h1 (And.intro c0 (And.intro c1 (h)))
theorem wi_iast1160 {x j : Int} {a : Nat} (hop : w_fe code pc nx (.iastore)) (c0 : 0 ≤ j) (c1 : j < 160) (h : w_Ex E rt code Q nx ls st (w_up σ a j.toNat x)) : w_Ex E rt code Q pc ls (.inl x :: .inl j :: .inr (.inr (1160, a)) :: st) σ := by
  obtain ⟨h1, rfl⟩ := hop
  exact w_Ex_in h1 (And.intro (And.intro (by decide) (by decide)) (And.intro c0 (And.intro c1 h)))
theorem wi_alen1160 {a : Nat} (hop : w_fe code pc nx (.arraylength))  (h : w_Ex E rt code Q nx ls (.inl 160 :: st) σ) : w_Ex E rt code Q pc ls (.inr (.inr (1160, a)) :: st) σ := by
  obtain ⟨h1, rfl⟩ := hop
  exact w_Ex_in h1 (h)
theorem wi_iald1246 {j : Int} {a : Nat} (hop : w_fe code pc nx (.iaload)) (c0 : 0 ≤ j) (c1 : j < 246) (h : w_Ex E rt code Q nx ls (.inl (σ a j.toNat) :: st) σ) : w_Ex E rt code Q pc ls (.inl j :: .inr (.inr (1246, a)) :: st) σ := by
  obtain ⟨h1, rfl⟩ := hop
  exact w_Ex_in h1 (And.intro c0 (And.intro c1 (h)))
theorem wi_iast1246 {x j : Int} {a : Nat} (hop : w_fe code pc nx (.iastore)) (c0 : 0 ≤ j) (c1 : j < 246) (h : w_Ex E rt code Q nx ls st (w_up σ a j.toNat x)) : w_Ex E rt code Q pc ls (.inl x :: .inl j :: .inr (.inr (1246, a)) :: st) σ := by
  obtain ⟨h1, rfl⟩ := hop
  exact w_Ex_in h1 (And.intro (And.intro (by decide) (by decide)) (And.intro c0 (And.intro c1 h)))
theorem wi_alen1246 {a : Nat} (hop : w_fe code pc nx (.arraylength))  (h : w_Ex E rt code Q nx ls (.inl 246 :: st) σ) : w_Ex E rt code Q pc ls (.inr (.inr (1246, a)) :: st) σ := by
  obtain ⟨h1, rfl⟩ := hop
  exact w_Ex_in h1 (h)
theorem wi_iald6005 {j : Int} {a : Nat} (hop : w_fe code pc nx (.iaload)) (c0 : 0 ≤ j) (c1 : j < ((w_carr E.1 a).length : Int)) (h : w_Ex E rt code Q nx ls (.inl ((w_carr E.1 a).getD j.toNat 0) :: st) σ) : w_Ex E rt code Q pc ls (.inl j :: .inr (.inr (6005, a)) :: st) σ := by
  obtain ⟨h1, rfl⟩ := hop
  exact w_Ex_in h1 (And.intro (by decide) (And.intro c0 (And.intro c1 h)))
theorem wi_iald6015 {j : Int} {a : Nat} (hop : w_fe code pc nx (.iaload)) (c0 : 0 ≤ j) (c1 : j < ((w_carr E.1 a).length : Int)) (h : w_Ex E rt code Q nx ls (.inl ((w_carr E.1 a).getD j.toNat 0) :: st) σ) : w_Ex E rt code Q pc ls (.inl j :: .inr (.inr (6015, a)) :: st) σ := by
  obtain ⟨h1, rfl⟩ := hop
  exact w_Ex_in h1 (And.intro (by decide) (And.intro c0 (And.intro c1 h)))
theorem wi_iald8000 {j : Int} {a : Nat} (hop : w_fe code pc nx (.iaload)) (c0 : 0 ≤ j) (c1 : j < ((w_carr E.1 a).length : Int)) (h : w_Ex E rt code Q nx ls (.inl ((w_carr E.1 a).getD j.toNat 0) :: st) σ) : w_Ex E rt code Q pc ls (.inl j :: .inr (.inr (8000, a)) :: st) σ := by
  obtain ⟨h1, rfl⟩ := hop
  exact w_Ex_in h1 (And.intro (by decide) (And.intro c0 (And.intro c1 h)))
theorem wi_alen6005 {a : Nat} (hop : w_fe code pc nx (.arraylength))  (h : w_Ex E rt code Q nx ls (.inl ((w_carr E.1 a).length : Int) :: st) σ) : w_Ex E rt code Q pc ls (.inr (.inr (6005, a)) :: st) σ := by
  obtain ⟨h1, rfl⟩ := hop
  exact w_Ex_in h1 (And.intro (by decide) h)
theorem wi_alen6015 {a : Nat} (hop : w_fe code pc nx (.arraylength))  (h : w_Ex E rt code Q nx ls (.inl ((w_carr E.1 a).length : Int) :: st) σ) : w_Ex E rt code Q pc ls (.inr (.inr (6015, a)) :: st) σ := by
  obtain ⟨h1, rfl⟩ := hop
  exact w_Ex_in h1 (And.intro (by decide) h)
theorem wi_alen8000 {a : Nat} (hop : w_fe code pc nx (.arraylength))  (h : w_Ex E rt code Q nx ls (.inl ((w_carr E.1 a).length : Int) :: st) σ) : w_Ex E rt code Q pc ls (.inr (.inr (8000, a)) :: st) σ := by
  obtain ⟨h1, rfl⟩ := hop
  exact w_Ex_in h1 (And.intro (by decide) h)
theorem wi_alen7000 {a : Nat} (hop : w_fe code pc nx (.arraylength))  (h : w_Ex E rt code Q nx ls (.inl ((w_carr E.1 a).length : Int) :: st) σ) : w_Ex E rt code Q pc ls (.inr (.inr (7000, a)) :: st) σ := by
  obtain ⟨h1, rfl⟩ := hop
  exact w_Ex_in h1 (And.intro (by decide) h)
theorem wi_bald2160 {j : Int} {a : Nat} (hop : w_fe code pc nx (.baload)) (c0 : 0 ≤ j) (c1 : j < 160) (h : w_Ex E rt code Q nx ls (.inl (σ a j.toNat) :: st) σ) : w_Ex E rt code Q pc ls (.inl j :: .inr (.inr (2160, a)) :: st) σ := by
  obtain ⟨h1, rfl⟩ := hop
  exact w_Ex_in h1 (And.intro c0 (And.intro c1 (h)))
theorem wi_bast2160 {x j : Int} {a : Nat} (hop : w_fe code pc nx (.bastore)) (c0 : -128 ≤ x ∧ x ≤ 127) (c1 : 0 ≤ j) (c2 : j < 160) (h : w_Ex E rt code Q nx ls st (w_up σ a j.toNat x)) : w_Ex E rt code Q pc ls (.inl x :: .inl j :: .inr (.inr (2160, a)) :: st) σ := by
  obtain ⟨h1, rfl⟩ := hop
  exact w_Ex_in h1 (And.intro (And.intro (by decide) (by decide)) (And.intro c0 (And.intro c1 (And.intro c2 h))))
theorem wi_bald3002 {j : Int} {a : Nat} (hop : w_fe code pc nx (.baload)) (c0 : 0 ≤ j) (c1 : j < 2) (h : w_Ex E rt code Q nx ls (.inl (σ a j.toNat) :: st) σ) : w_Ex E rt code Q pc ls (.inl j :: .inr (.inr (3002, a)) :: st) σ := by
  obtain ⟨h1, rfl⟩ := hop
  exact w_Ex_in h1 (And.intro c0 (And.intro c1 (h)))
theorem wi_bast3002 {x j : Int} {a : Nat} (hop : w_fe code pc nx (.bastore)) (c0 : x = 0 ∨ x = 1) (c1 : 0 ≤ j) (c2 : j < 2) (h : w_Ex E rt code Q nx ls st (w_up σ a j.toNat x)) : w_Ex E rt code Q pc ls (.inl x :: .inl j :: .inr (.inr (3002, a)) :: st) σ := by
  obtain ⟨h1, rfl⟩ := hop
  exact w_Ex_in h1 (And.intro (And.intro (by decide) (by decide)) (And.intro c0 (And.intro c1 (And.intro c2 h))))
theorem wi_bald7000 {j : Int} {a : Nat} (hop : w_fe code pc nx (.baload)) (c0 : 0 ≤ j) (c1 : j < ((w_carr E.1 a).length : Int)) (h : w_Ex E rt code Q nx ls (.inl ((w_carr E.1 a).getD j.toNat 0) :: st) σ) : w_Ex E rt code Q pc ls (.inl j :: .inr (.inr (7000, a)) :: st) σ := by
  obtain ⟨h1, rfl⟩ := hop
  exact w_Ex_in h1 (And.intro rfl (And.intro c0 (And.intro c1 h)))
theorem wi_aald4002 {j : Int} {a : Nat} (hop : w_fe code pc nx (.aaload)) (c0 : 0 ≤ j) (c1 : j < 2) (h : w_Ex E rt code Q nx ls (.inr (.inr (3, 88 + 17 * j.toNat)) :: st) σ) : w_Ex E rt code Q pc ls (.inl j :: .inr (.inr (4002, a)) :: st) σ := by
  obtain ⟨h1, rfl⟩ := hop
  exact w_Ex_in h1 (And.intro c0 (And.intro c1 (h)))
theorem wi_aald10410 {j : Int} {a : Nat} (hop : w_fe code pc nx (.aaload)) (c0 : 0 ≤ j) (c1 : j < 4) (h : w_Ex E rt code Q nx ls (.inr (.inr (1010, a + 1 + j.toNat)) :: st) σ) : w_Ex E rt code Q pc ls (.inl j :: .inr (.inr (10410, a)) :: st) σ := by
  obtain ⟨h1, rfl⟩ := hop
  exact w_Ex_in h1 (And.intro (by decide) (And.intro c0 (And.intro c1 h)))
theorem wi_aald11220 {j : Int} {a : Nat} (hop : w_fe code pc nx (.aaload)) (c0 : 0 ≤ j) (c1 : j < 12) (h : w_Ex E rt code Q nx ls (.inr (.inr (1020, a + 1 + j.toNat)) :: st) σ) : w_Ex E rt code Q pc ls (.inl j :: .inr (.inr (11220, a)) :: st) σ := by
  obtain ⟨h1, rfl⟩ := hop
  exact w_Ex_in h1 (And.intro (by decide) (And.intro c0 (And.intro c1 h)))
theorem wi_aald10707 {j : Int} {a : Nat} (hop : w_fe code pc nx (.aaload)) (c0 : 0 ≤ j) (c1 : j < 7) (h : w_Ex E rt code Q nx ls (.inr (.inr (1007, a + 1 + j.toNat)) :: st) σ) : w_Ex E rt code Q pc ls (.inl j :: .inr (.inr (10707, a)) :: st) σ := by
  obtain ⟨h1, rfl⟩ := hop
  exact w_Ex_in h1 (And.intro (by decide) (And.intro c0 (And.intro c1 h)))
theorem wi_aald10440 {j : Int} {a : Nat} (hop : w_fe code pc nx (.aaload)) (c0 : 0 ≤ j) (c1 : j < 4) (h : w_Ex E rt code Q nx ls (.inr (.inr (1040, a + 1 + j.toNat)) :: st) σ) : w_Ex E rt code Q pc ls (.inl j :: .inr (.inr (10440, a)) :: st) σ := by
  obtain ⟨h1, rfl⟩ := hop
  exact w_Ex_in h1 (And.intro (by decide) (And.intro c0 (And.intro c1 h)))
theorem wi_getf2000 {a : Nat} (hop : w_fe code pc nx (.getfield 2000))  (h : w_Ex E rt code Q nx ls (.inr (.inr (7000, a + 1)) :: st) σ) : w_Ex E rt code Q pc ls (.inr (.inr (20, a)) :: st) σ := by
  obtain ⟨h1, rfl⟩ := hop
  exact w_Ex_in h1 (And.intro rfl h)
theorem wi_getf2001 {a : Nat} (hop : w_fe code pc nx (.getfield 2001))  (h : w_Ex E rt code Q nx ls (.inl 0 :: st) σ) : w_Ex E rt code Q pc ls (.inr (.inr (20, a)) :: st) σ := by
  obtain ⟨h1, rfl⟩ := hop
  exact w_Ex_in h1 (And.intro rfl h)
theorem wi_getf0 {a : Nat} (hop : w_fe code pc nx (.getfield 0))  (h : w_Ex E rt code Q nx ls (.inr (.inr (1, a + 1)) :: st) σ) : w_Ex E rt code Q pc ls (.inr (.inr (0, a)) :: st) σ := by
  obtain ⟨h1, rfl⟩ := hop
  exact w_Ex_in h1 (And.intro rfl h)
theorem wi_getf1 {a : Nat} (hop : w_fe code pc nx (.getfield 1))  (h : w_Ex E rt code Q nx ls (.inr (.inr (3, a + 13)) :: st) σ) : w_Ex E rt code Q pc ls (.inr (.inr (0, a)) :: st) σ := by
  obtain ⟨h1, rfl⟩ := hop
  exact w_Ex_in h1 (And.intro rfl h)
theorem wi_getf2 {a : Nat} (hop : w_fe code pc nx (.getfield 2))  (h : w_Ex E rt code Q nx ls (.inr (.inr (2, a + 14)) :: st) σ) : w_Ex E rt code Q pc ls (.inr (.inr (0, a)) :: st) σ := by
  obtain ⟨h1, rfl⟩ := hop
  exact w_Ex_in h1 (And.intro rfl h)
theorem wi_getf3 {a : Nat} (hop : w_fe code pc nx (.getfield 3))  (h : w_Ex E rt code Q nx ls (.inr (.inr (4002, a + 30)) :: st) σ) : w_Ex E rt code Q pc ls (.inr (.inr (0, a)) :: st) σ := by
  obtain ⟨h1, rfl⟩ := hop
  exact w_Ex_in h1 (And.intro rfl h)
theorem wi_getf4 {a : Nat} (hop : w_fe code pc nx (.getfield 4))  (h : w_Ex E rt code Q nx ls (.inr (.inr (6, a + 31)) :: st) σ) : w_Ex E rt code Q pc ls (.inr (.inr (0, a)) :: st) σ := by
  obtain ⟨h1, rfl⟩ := hop
  exact w_Ex_in h1 (And.intro rfl h)
theorem wi_getf5 {a : Nat} (hop : w_fe code pc nx (.getfield 5))  (h : w_Ex E rt code Q nx ls (.inr (.inr (7, a + 63)) :: st) σ) : w_Ex E rt code Q pc ls (.inr (.inr (0, a)) :: st) σ := by
  obtain ⟨h1, rfl⟩ := hop
  exact w_Ex_in h1 (And.intro rfl h)
theorem wi_getf6 {a : Nat} (hop : w_fe code pc nx (.getfield 6))  (h : w_Ex E rt code Q nx ls (.inr (.inr (8, a + 80)) :: st) σ) : w_Ex E rt code Q pc ls (.inr (.inr (0, a)) :: st) σ := by
  obtain ⟨h1, rfl⟩ := hop
  exact w_Ex_in h1 (And.intro rfl h)
theorem wi_getf7 {a : Nat} (hop : w_fe code pc nx (.getfield 7))  (h : w_Ex E rt code Q nx ls (.inl (σ a 7) :: st) σ) : w_Ex E rt code Q pc ls (.inr (.inr (0, a)) :: st) σ := by
  obtain ⟨h1, rfl⟩ := hop
  exact w_Ex_in h1 (And.intro rfl h)
theorem wi_putf7 {x : Int} {a : Nat} (hop : w_fe code pc nx (.putfield 7))  (h : w_Ex E rt code Q nx ls st (w_up σ a 7 x)) : w_Ex E rt code Q pc ls (.inl x :: .inr (.inr (0, a)) :: st) σ := by
  obtain ⟨h1, rfl⟩ := hop
  exact w_Ex_in h1 (And.intro rfl (And.intro rfl (And.intro (fun e => by omega) h)))
theorem wi_getf8 {a : Nat} (hop : w_fe code pc nx (.getfield 8))  (h : w_Ex E rt code Q nx ls (.inl (σ a 8) :: st) σ) : w_Ex E rt code Q pc ls (.inr (.inr (0, a)) :: st) σ := by
  obtain ⟨h1, rfl⟩ := hop
  exact w_Ex_in h1 (And.intro rfl h)
theorem wi_putf8 {x : Int} {a : Nat} (hop : w_fe code pc nx (.putfield 8))  (h : w_Ex E rt code Q nx ls st (w_up σ a 8 x)) : w_Ex E rt code Q pc ls (.inl x :: .inr (.inr (0, a)) :: st) σ := by
  obtain ⟨h1, rfl⟩ := hop
  exact w_Ex_in h1 (And.intro rfl (And.intro rfl (And.intro (fun e => by omega) h)))
theorem wi_getf9 {a : Nat} (hop : w_fe code pc nx (.getfield 9))  (h : w_Ex E rt code Q nx ls (.inl (σ a 9) :: st) σ) : w_Ex E rt code Q pc ls (.inr (.inr (0, a)) :: st) σ := by
  obtain ⟨h1, rfl⟩ := hop
  exact w_Ex_in h1 (And.intro rfl h)
theorem wi_putf9 {x : Int} {a : Nat} (hop : w_fe code pc nx (.putfield 9))  (h : w_Ex E rt code Q nx ls st (w_up σ a 9 x)) : w_Ex E rt code Q pc ls (.inl x :: .inr (.inr (0, a)) :: st) σ := by
  obtain ⟨h1, rfl⟩ := hop
  exact w_Ex_in h1 (And.intro rfl (And.intro rfl (And.intro (fun e => by omega) h)))
theorem wi_getf100 {a : Nat} (hop : w_fe code pc nx (.getfield 100))  (h : w_Ex E rt code Q nx ls (.inr (.inr (2160, a + 1)) :: st) σ) : w_Ex E rt code Q pc ls (.inr (.inr (1, a)) :: st) σ := by
  obtain ⟨h1, rfl⟩ := hop
  exact w_Ex_in h1 (And.intro rfl h)
theorem wi_getf101 {a : Nat} (hop : w_fe code pc nx (.getfield 101))  (h : w_Ex E rt code Q nx ls (.inl (σ a 1) :: st) σ) : w_Ex E rt code Q pc ls (.inr (.inr (1, a)) :: st) σ := by
  obtain ⟨h1, rfl⟩ := hop
  exact w_Ex_in h1 (And.intro rfl h)
theorem wi_putf101 {x : Int} {a : Nat} (hop : w_fe code pc nx (.putfield 101))  (h : w_Ex E rt code Q nx ls st (w_up σ a 1 x)) : w_Ex E rt code Q pc ls (.inl x :: .inr (.inr (1, a)) :: st) σ := by
  obtain ⟨h1, rfl⟩ := hop
  exact w_Ex_in h1 (And.intro rfl (And.intro rfl (And.intro (fun e => by omega) h)))
theorem wi_getf102 {a : Nat} (hop : w_fe code pc nx (.getfield 102))  (h : w_Ex E rt code Q nx ls (.inr (.inr (2, a + 2)) :: st) σ) : w_Ex E rt code Q pc ls (.inr (.inr (1, a)) :: st) σ := by
  obtain ⟨h1, rfl⟩ := hop
  exact w_Ex_in h1 (And.intro rfl h)
theorem wi_getf103 {a : Nat} (hop : w_fe code pc nx (.getfield 103))  (h : w_Ex E rt code Q nx ls (.inl (σ a 3) :: st) σ) : w_Ex E rt code Q pc ls (.inr (.inr (1, a)) :: st) σ := by
  obtain ⟨h1, rfl⟩ := hop
  exact w_Ex_in h1 (And.intro rfl h)
theorem wi_putf103 {x : Int} {a : Nat} (hop : w_fe code pc nx (.putfield 103))  (h : w_Ex E rt code Q nx ls st (w_up σ a 3 x)) : w_Ex E rt code Q pc ls (.inl x :: .inr (.inr (1, a)) :: st) σ := by
  obtain ⟨h1, rfl⟩ := hop
  exact w_Ex_in h1 (And.intro rfl (And.intro rfl (And.intro (fun e => by omega) h)))
theorem wi_getf104 {a : Nat} (hop : w_fe code pc nx (.getfield 104))  (h : w_Ex E rt code Q nx ls (.inl (σ a 4) :: st) σ) : w_Ex E rt code Q pc ls (.inr (.inr (1, a)) :: st) σ := by
  obtain ⟨h1, rfl⟩ := hop
  exact w_Ex_in h1 (And.intro rfl h)
theorem wi_putf104 {x : Int} {a : Nat} (hop : w_fe code pc nx (.putfield 104))  (h : w_Ex E rt code Q nx ls st (w_up σ a 4 x)) : w_Ex E rt code Q pc ls (.inl x :: .inr (.inr (1, a)) :: st) σ := by
  obtain ⟨h1, rfl⟩ := hop
  exact w_Ex_in h1 (And.intro rfl (And.intro rfl (And.intro (fun e => by omega) h)))
theorem wi_getf105 {a : Nat} (hop : w_fe code pc nx (.getfield 105))  (h : w_Ex E rt code Q nx ls (.inl (σ a 5) :: st) σ) : w_Ex E rt code Q pc ls (.inr (.inr (1, a)) :: st) σ := by
  obtain ⟨h1, rfl⟩ := hop
  exact w_Ex_in h1 (And.intro rfl h)
theorem wi_putf105 {x : Int} {a : Nat} (hop : w_fe code pc nx (.putfield 105)) (c0 : x = 0 ∨ x = 1) (h : w_Ex E rt code Q nx ls st (w_up σ a 5 x)) : w_Ex E rt code Q pc ls (.inl x :: .inr (.inr (1, a)) :: st) σ := by
  obtain ⟨h1, rfl⟩ := hop
  exact w_Ex_in h1 (And.intro rfl (And.intro rfl (And.intro (fun _ => c0) h)))
theorem wi_getf106 {a : Nat} (hop : w_fe code pc nx (.getfield 106))  (h : w_Ex E rt code Q nx ls (.inr (.inr (1003, a + 11)) :: st) σ) : w_Ex E rt code Q pc ls (.inr (.inr (1, a)) :: st) σ := by
  obtain ⟨h1, rfl⟩ := hop
  exact w_Ex_in h1 (And.intro rfl h)
theorem wi_getf107 {a : Nat} (hop : w_fe code pc nx (.getfield 107))  (h : w_Ex E rt code Q nx ls (.inl (σ a 7) :: st) σ) : w_Ex E rt code Q pc ls (.inr (.inr (1, a)) :: st) σ := by
  obtain ⟨h1, rfl⟩ := hop
  exact w_Ex_in h1 (And.intro rfl h)
theorem wi_putf107 {x : Int} {a : Nat} (hop : w_fe code pc nx (.putfield 107))  (h : w_Ex E rt code Q nx ls st (w_up σ a 7 x)) : w_Ex E rt code Q pc ls (.inl x :: .inr (.inr (1, a)) :: st) σ := by
  obtain ⟨h1, rfl⟩ := hop
  exact w_Ex_in h1 (And.intro rfl (And.intro rfl (And.intro (fun e => by omega) h)))
theorem wi_getf108 {a : Nat} (hop : w_fe code pc nx (.getfield 108))  (h : w_Ex E rt code Q nx ls (.inl (σ a 8) :: st) σ) : w_Ex E rt code Q pc ls (.inr (.inr (1, a)) :: st) σ := by
  obtain ⟨h1, rfl⟩ := hop
  exact w_Ex_in h1 (And.intro rfl h)
theorem wi_putf108 {x : Int} {a : Nat} (hop : w_fe code pc nx (.putfield 108))  (h : w_Ex E rt code Q nx ls st (w_up σ a 8 x)) : w_Ex E rt code Q pc ls (.inl x :: .inr (.inr (1, a)) :: st) σ := by
  obtain ⟨h1, rfl⟩ := hop
  exact w_Ex_in h1 (And.intro rfl (And.intro rfl (And.intro (fun e => by omega) h)))
theorem wi_getf109 {a : Nat} (hop : w_fe code pc nx (.getfield 109))  (h : w_Ex E rt code Q nx ls (.inl (σ a 9) :: st) σ) : w_Ex E rt code Q pc ls (.inr (.inr (1, a)) :: st) σ := by
  obtain ⟨h1, rfl⟩ := hop
  exact w_Ex_in h1 (And.intro rfl h)
theorem wi_putf109 {x : Int} {a : Nat} (hop : w_fe code pc nx (.putfield 109))  (h : w_Ex E rt code Q nx ls st (w_up σ a 9 x)) : w_Ex E rt code Q pc ls (.inl x :: .inr (.inr (1, a)) :: st) σ := by
  obtain ⟨h1, rfl⟩ := hop
  exact w_Ex_in h1 (And.intro rfl (And.intro rfl (And.intro (fun e => by omega) h)))
theorem wi_getf110 {a : Nat} (hop : w_fe code pc nx (.getfield 110))  (h : w_Ex E rt code Q nx ls (.inl (σ a 10) :: st) σ) : w_Ex E rt code Q pc ls (.inr (.inr (1, a)) :: st) σ := by
  obtain ⟨h1, rfl⟩ := hop
  exact w_Ex_in h1 (And.intro rfl h)
theorem wi_putf110 {x : Int} {a : Nat} (hop : w_fe code pc nx (.putfield 110))  (h : w_Ex E rt code Q nx ls st (w_up σ a 10 x)) : w_Ex E rt code Q pc ls (.inl x :: .inr (.inr (1, a)) :: st) σ := by
  obtain ⟨h1, rfl⟩ := hop
  exact w_Ex_in h1 (And.intro rfl (And.intro rfl (And.intro (fun e => by omega) h)))
theorem wi_getf200 {a : Nat} (hop : w_fe code pc nx (.getfield 200))  (h : w_Ex E rt code Q nx ls (.inl (σ a 0) :: st) σ) : w_Ex E rt code Q pc ls (.inr (.inr (2, a)) :: st) σ := by
  obtain ⟨h1, rfl⟩ := hop
  exact w_Ex_in h1 (And.intro rfl h)
theorem wi_putf200 {x : Int} {a : Nat} (hop : w_fe code pc nx (.putfield 200))  (h : w_Ex E rt code Q nx ls st (w_up σ a 0 x)) : w_Ex E rt code Q pc ls (.inl x :: .inr (.inr (2, a)) :: st) σ := by
  obtain ⟨h1, rfl⟩ := hop
  exact w_Ex_in h1 (And.intro rfl (And.intro rfl (And.intro (fun e => by omega) h)))
theorem wi_getf201 {a : Nat} (hop : w_fe code pc nx (.getfield 201))  (h : w_Ex E rt code Q nx ls (.inl (σ a 1) :: st) σ) : w_Ex E rt code Q pc ls (.inr (.inr (2, a)) :: st) σ := by
  obtain ⟨h1, rfl⟩ := hop
  exact w_Ex_in h1 (And.intro rfl h)
theorem wi_putf201 {x : Int} {a : Nat} (hop : w_fe code pc nx (.putfield 201))  (h : w_Ex E rt code Q nx ls st (w_up σ a 1 x)) : w_Ex E rt code Q pc ls (.inl x :: .inr (.inr (2, a)) :: st) σ := by
  obtain ⟨h1, rfl⟩ := hop
  exact w_Ex_in h1 (And.intro rfl (And.intro rfl (And.intro (fun e => by omega) h)))
theorem wi_getf202 {a : Nat} (hop : w_fe code pc nx (.getfield 202))  (h : w_Ex E rt code Q nx ls (.inl (σ a 2) :: st) σ) : w_Ex E rt code Q pc ls (.inr (.inr (2, a)) :: st) σ := by
  obtain ⟨h1, rfl⟩ := hop
  exact w_Ex_in h1 (And.intro rfl h)
theorem wi_putf202 {x : Int} {a : Nat} (hop : w_fe code pc nx (.putfield 202))  (h : w_Ex E rt code Q nx ls st (w_up σ a 2 x)) : w_Ex E rt code Q pc ls (.inl x :: .inr (.inr (2, a)) :: st) σ := by
  obtain ⟨h1, rfl⟩ := hop
  exact w_Ex_in h1 (And.intro rfl (And.intro rfl (And.intro (fun e => by omega) h)))
theorem wi_getf203 {a : Nat} (hop : w_fe code pc nx (.getfield 203))  (h : w_Ex E rt code Q nx ls (.inl (σ a 3) :: st) σ) : w_Ex E rt code Q pc ls (.inr (.inr (2, a)) :: st) σ := by
  obtain ⟨h1, rfl⟩ := hop
  exact w_Ex_in h1 (And.intro rfl h)
theorem wi_putf203 {x : Int} {a : Nat} (hop : w_fe code pc nx (.putfield 203))  (h : w_Ex E rt code Q nx ls st (w_up σ a 3 x)) : w_Ex E rt code Q pc ls (.inl x :: .inr (.inr (2, a)) :: st) σ := by
  obtain ⟨h1, rfl⟩ := hop
  exact w_Ex_in h1 (And.intro rfl (And.intro rfl (And.intro (fun e => by omega) h)))
theorem wi_getf204 {a : Nat} (hop : w_fe code pc nx (.getfield 204))  (h : w_Ex E rt code Q nx ls (.inl (σ a 4) :: st) σ) : w_Ex E rt code Q pc ls (.inr (.inr (2, a)) :: st) σ := by
  obtain ⟨h1, rfl⟩ := hop
  exact w_Ex_in h1 (And.intro rfl h)
theorem wi_putf204 {x : Int} {a : Nat} (hop : w_fe code pc nx (.putfield 204))  (h : w_Ex E rt code Q nx ls st (w_up σ a 4 x)) : w_Ex E rt code Q pc ls (.inl x :: .inr (.inr (2, a)) :: st) σ := by
  obtain ⟨h1, rfl⟩ := hop
  exact w_Ex_in h1 (And.intro rfl (And.intro rfl (And.intro (fun e => by omega) h)))
theorem wi_getf205 {a : Nat} (hop : w_fe code pc nx (.getfield 205))  (h : w_Ex E rt code Q nx ls (.inl (σ a 5) :: st) σ) : w_Ex E rt code Q pc ls (.inr (.inr (2, a)) :: st) σ := by
  obtain ⟨h1, rfl⟩ := hop
  exact w_Ex_in h1 (And.intro rfl h)
theorem wi_putf205 {x : Int} {a : Nat} (hop : w_fe code pc nx (.putfield 205))  (h : w_Ex E rt code Q nx ls st (w_up σ a 5 x)) : w_Ex E rt code Q pc ls (.inl x :: .inr (.inr (2, a)) :: st) σ := by
  obtain ⟨h1, rfl⟩ := hop
  exact w_Ex_in h1 (And.intro rfl (And.intro rfl (And.intro (fun e => by omega) h)))
theorem wi_getf206 {a : Nat} (hop : w_fe code pc nx (.getfield 206))  (h : w_Ex E rt code Q nx ls (.inl (σ a 6) :: st) σ) : w_Ex E rt code Q pc ls (.inr (.inr (2, a)) :: st) σ := by
  obtain ⟨h1, rfl⟩ := hop
  exact w_Ex_in h1 (And.intro rfl h)
theorem wi_putf206 {x : Int} {a : Nat} (hop : w_fe code pc nx (.putfield 206))  (h : w_Ex E rt code Q nx ls st (w_up σ a 6 x)) : w_Ex E rt code Q pc ls (.inl x :: .inr (.inr (2, a)) :: st) σ := by
  obtain ⟨h1, rfl⟩ := hop
  exact w_Ex_in h1 (And.intro rfl (And.intro rfl (And.intro (fun e => by omega) h)))
theorem wi_getf207 {a : Nat} (hop : w_fe code pc nx (.getfield 207))  (h : w_Ex E rt code Q nx ls (.inr (.inr (1007, a + 1)) :: st) σ) : w_Ex E rt code Q pc ls (.inr (.inr (2, a)) :: st) σ := by
  obtain ⟨h1, rfl⟩ := hop
  exact w_Ex_in h1 (And.intro rfl h)
theorem wi_getf208 {a : Nat} (hop : w_fe code pc nx (.getfield 208))  (h : w_Ex E rt code Q nx ls (.inr (.inr (1007, a + 2)) :: st) σ) : w_Ex E rt code Q pc ls (.inr (.inr (2, a)) :: st) σ := by
  obtain ⟨h1, rfl⟩ := hop
  exact w_Ex_in h1 (And.intro rfl h)
theorem wi_getf209 {a : Nat} (hop : w_fe code pc nx (.getfield 209))  (h : w_Ex E rt code Q nx ls (.inr (.inr (1004, a + 3)) :: st) σ) : w_Ex E rt code Q pc ls (.inr (.inr (2, a)) :: st) σ := by
  obtain ⟨h1, rfl⟩ := hop
  exact w_Ex_in h1 (And.intro rfl h)
theorem wi_getf210 {a : Nat} (hop : w_fe code pc nx (.getfield 210))  (h : w_Ex E rt code Q nx ls (.inr (.inr (1004, a + 4)) :: st) σ) : w_Ex E rt code Q pc ls (.inr (.inr (2, a)) :: st) σ := by
  obtain ⟨h1, rfl⟩ := hop
  exact w_Ex_in h1 (And.intro rfl h)
theorem wi_getf211 {a : Nat} (hop : w_fe code pc nx (.getfield 211))  (h : w_Ex E rt code Q nx ls (.inr (.inr (1004, a + 5)) :: st) σ) : w_Ex E rt code Q pc ls (.inr (.inr (2, a)) :: st) σ := by
  obtain ⟨h1, rfl⟩ := hop
  exact w_Ex_in h1 (And.intro rfl h)
theorem wi_getf212 {a : Nat} (hop : w_fe code pc nx (.getfield 212))  (h : w_Ex E rt code Q nx ls (.inr (.inr (1004, a + 6)) :: st) σ) : w_Ex E rt code Q pc ls (.inr (.inr (2, a)) :: st) σ := by
  obtain ⟨h1, rfl⟩ := hop
  exact w_Ex_in h1 (And.intro rfl h)
theorem wi_getf213 {a : Nat} (hop : w_fe code pc nx (.getfield 213))  (h : w_Ex E rt code Q nx ls (.inr (.inr (1004, a + 7)) :: st) σ) : w_Ex E rt code Q pc ls (.inr (.inr (2, a)) :: st) σ := by
  obtain ⟨h1, rfl⟩ := hop
  exact w_Ex_in h1 (And.intro rfl h)
theorem wi_getf214 {a : Nat} (hop : w_fe code pc nx (.getfield 214))  (h : w_Ex E rt code Q nx ls (.inr (.inr (1004, a + 8)) :: st) σ) : w_Ex E rt code Q pc ls (.inr (.inr (2, a)) :: st) σ := by
  obtain ⟨h1, rfl⟩ := hop
  exact w_Ex_in h1 (And.intro rfl h)
theorem wi_getf215 {a : Nat} (hop : w_fe code pc nx (.getfield 215))  (h : w_Ex E rt code Q nx ls (.inl (σ a 15) :: st) σ) : w_Ex E rt code Q pc ls (.inr (.inr (2, a)) :: st) σ := by
  obtain ⟨h1, rfl⟩ := hop
  exact w_Ex_in h1 (And.intro rfl h)
theorem wi_putf215 {x : Int} {a : Nat} (hop : w_fe code pc nx (.putfield 215))  (h : w_Ex E rt code Q nx ls st (w_up σ a 15 x)) : w_Ex E rt code Q pc ls (.inl x :: .inr (.inr (2, a)) :: st) σ := by
  obtain ⟨h1, rfl⟩ := hop
  exact w_Ex_in h1 (And.intro rfl (And.intro rfl (And.intro (fun e => by omega) h)))
theorem wi_getf300 {a : Nat} (hop : w_fe code pc nx (.getfield 300))  (h : w_Ex E rt code Q nx ls (.inr (.inr (2, a + 1)) :: st) σ) : w_Ex E rt code Q pc ls (.inr (.inr (3, a)) :: st) σ := by
  obtain ⟨h1, rfl⟩ := hop
  exact w_Ex_in h1 (And.intro rfl h)
theorem wi_getf301 {a : Nat} (hop : w_fe code pc nx (.getfield 301))  (h : w_Ex E rt code Q nx ls (.inr (.inr (4, a + 10)) :: st) σ) : w_Ex E rt code Q pc ls (.inr (.inr (3, a)) :: st) σ := by
  obtain ⟨h1, rfl⟩ := hop
  exact w_Ex_in h1 (And.intro rfl h)
theorem wi_getf302 {a : Nat} (hop : w_fe code pc nx (.getfield 302))  (h : w_Ex E rt code Q nx ls (.inr (.inr (5, a + 14)) :: st) σ) : w_Ex E rt code Q pc ls (.inr (.inr (3, a)) :: st) σ := by
  obtain ⟨h1, rfl⟩ := hop
  exact w_Ex_in h1 (And.intro rfl h)
theorem wi_getf400 {a : Nat} (hop : w_fe code pc nx (.getfield 400))  (h : w_Ex E rt code Q nx ls (.inl (σ a 0) :: st) σ) : w_Ex E rt code Q pc ls (.inr (.inr (4, a)) :: st) σ := by
  obtain ⟨h1, rfl⟩ := hop
  exact w_Ex_in h1 (And.intro rfl h)
theorem wi_putf400 {x : Int} {a : Nat} (hop : w_fe code pc nx (.putfield 400))  (h : w_Ex E rt code Q nx ls st (w_up σ a 0 x)) : w_Ex E rt code Q pc ls (.inl x :: .inr (.inr (4, a)) :: st) σ := by
  obtain ⟨h1, rfl⟩ := hop
  exact w_Ex_in h1 (And.intro rfl (And.intro rfl (And.intro (fun e => by omega) h)))
theorem wi_getf401 {a : Nat} (hop : w_fe code pc nx (.getfield 401))  (h : w_Ex E rt code Q nx ls (.inr (.inr (1008, a + 1)) :: st) σ) : w_Ex E rt code Q pc ls (.inr (.inr (4, a)) :: st) σ := by
  obtain ⟨h1, rfl⟩ := hop
  exact w_Ex_in h1 (And.intro rfl h)
theorem wi_getf402 {a : Nat} (hop : w_fe code pc nx (.getfield 402))  (h : w_Ex E rt code Q nx ls (.inr (.inr (1008, a + 2)) :: st) σ) : w_Ex E rt code Q pc ls (.inr (.inr (4, a)) :: st) σ := by
  obtain ⟨h1, rfl⟩ := hop
  exact w_Ex_in h1 (And.intro rfl h)
theorem wi_getf403 {a : Nat} (hop : w_fe code pc nx (.getfield 403))  (h : w_Ex E rt code Q nx ls (.inr (.inr (1008, a + 3)) :: st) σ) : w_Ex E rt code Q pc ls (.inr (.inr (4, a)) :: st) σ := by
  obtain ⟨h1, rfl⟩ := hop
  exact w_Ex_in h1 (And.intro rfl h)
theorem wi_getf500 {a : Nat} (hop : w_fe code pc nx (.getfield 500))  (h : w_Ex E rt code Q nx ls (.inl (σ a 0) :: st) σ) : w_Ex E rt code Q pc ls (.inr (.inr (5, a)) :: st) σ := by
  obtain ⟨h1, rfl⟩ := hop
  exact w_Ex_in h1 (And.intro rfl h)
theorem wi_putf500 {x : Int} {a : Nat} (hop : w_fe code pc nx (.putfield 500))  (h : w_Ex E rt code Q nx ls st (w_up σ a 0 x)) : w_Ex E rt code Q pc ls (.inl x :: .inr (.inr (5, a)) :: st) σ := by
  obtain ⟨h1, rfl⟩ := hop
  exact w_Ex_in h1 (And.intro rfl (And.intro rfl (And.intro (fun e => by omega) h)))
theorem wi_getf501 {a : Nat} (hop : w_fe code pc nx (.getfield 501))  (h : w_Ex E rt code Q nx ls (.inr (.inr (1004, a + 1)) :: st) σ) : w_Ex E rt code Q pc ls (.inr (.inr (5, a)) :: st) σ := by
  obtain ⟨h1, rfl⟩ := hop
  exact w_Ex_in h1 (And.intro rfl h)
theorem wi_getf502 {a : Nat} (hop : w_fe code pc nx (.getfield 502))  (h : w_Ex E rt code Q nx ls (.inr (.inr (1004, a + 2)) :: st) σ) : w_Ex E rt code Q pc ls (.inr (.inr (5, a)) :: st) σ := by
  obtain ⟨h1, rfl⟩ := hop
  exact w_Ex_in h1 (And.intro rfl h)
theorem wi_getf600 {a : Nat} (hop : w_fe code pc nx (.getfield 600))  (h : w_Ex E rt code Q nx ls (.inr (.inr (2, a + 1)) :: st) σ) : w_Ex E rt code Q pc ls (.inr (.inr (6, a)) :: st) σ := by
  obtain ⟨h1, rfl⟩ := hop
  exact w_Ex_in h1 (And.intro rfl h)
theorem wi_getf601 {a : Nat} (hop : w_fe code pc nx (.getfield 601))  (h : w_Ex E rt code Q nx ls (.inr (.inr (1004, a + 10)) :: st) σ) : w_Ex E rt code Q pc ls (.inr (.inr (6, a)) :: st) σ := by
  obtain ⟨h1, rfl⟩ := hop
  exact w_Ex_in h1 (And.intro rfl h)
theorem wi_getf602 {a : Nat} (hop : w_fe code pc nx (.getfield 602))  (h : w_Ex E rt code Q nx ls (.inr (.inr (1004, a + 11)) :: st) σ) : w_Ex E rt code Q pc ls (.inr (.inr (6, a)) :: st) σ := by
  obtain ⟨h1, rfl⟩ := hop
  exact w_Ex_in h1 (And.intro rfl h)
theorem wi_getf603 {a : Nat} (hop : w_fe code pc nx (.getfield 603))  (h : w_Ex E rt code Q nx ls (.inr (.inr (1004, a + 12)) :: st) σ) : w_Ex E rt code Q pc ls (.inr (.inr (6, a)) :: st) σ := by
  obtain ⟨h1, rfl⟩ := hop
  exact w_Ex_in h1 (And.intro rfl h)
theorem wi_getf604 {a : Nat} (hop : w_fe code pc nx (.getfield 604))  (h : w_Ex E rt code Q nx ls (.inr (.inr (1013, a + 13)) :: st) σ) : w_Ex E rt code Q pc ls (.inr (.inr (6, a)) :: st) σ := by
  obtain ⟨h1, rfl⟩ := hop
  exact w_Ex_in h1 (And.intro rfl h)
theorem wi_getf605 {a : Nat} (hop : w_fe code pc nx (.getfield 605))  (h : w_Ex E rt code Q nx ls (.inr (.inr (10410, a + 14)) :: st) σ) : w_Ex E rt code Q pc ls (.inr (.inr (6, a)) :: st) σ := by
  obtain ⟨h1, rfl⟩ := hop
  exact w_Ex_in h1 (And.intro rfl h)
theorem wi_getf606 {a : Nat} (hop : w_fe code pc nx (.getfield 606))  (h : w_Ex E rt code Q nx ls (.inr (.inr (11220, a + 19)) :: st) σ) : w_Ex E rt code Q pc ls (.inr (.inr (6, a)) :: st) σ := by
  obtain ⟨h1, rfl⟩ := hop
  exact w_Ex_in h1 (And.intro rfl h)
theorem wi_getf700 {a : Nat} (hop : w_fe code pc nx (.getfield 700))  (h : w_Ex E rt code Q nx ls (.inl (σ a 0) :: st) σ) : w_Ex E rt code Q pc ls (.inr (.inr (7, a)) :: st) σ := by
  obtain ⟨h1, rfl⟩ := hop
  exact w_Ex_in h1 (And.intro rfl h)
theorem wi_putf700 {x : Int} {a : Nat} (hop : w_fe code pc nx (.putfield 700))  (h : w_Ex E rt code Q nx ls st (w_up σ a 0 x)) : w_Ex E rt code Q pc ls (.inl x :: .inr (.inr (7, a)) :: st) σ := by
  obtain ⟨h1, rfl⟩ := hop
  exact w_Ex_in h1 (And.intro rfl (And.intro rfl (And.intro (fun e => by omega) h)))
theorem wi_getf701 {a : Nat} (hop : w_fe code pc nx (.getfield 701))  (h : w_Ex E rt code Q nx ls (.inr (.inr (10707, a + 1)) :: st) σ) : w_Ex E rt code Q pc ls (.inr (.inr (7, a)) :: st) σ := by
  obtain ⟨h1, rfl⟩ := hop
  exact w_Ex_in h1 (And.intro rfl h)
theorem wi_getf702 {a : Nat} (hop : w_fe code pc nx (.getfield 702))  (h : w_Ex E rt code Q nx ls (.inr (.inr (10707, a + 9)) :: st) σ) : w_Ex E rt code Q pc ls (.inr (.inr (7, a)) :: st) σ := by
  obtain ⟨h1, rfl⟩ := hop
  exact w_Ex_in h1 (And.intro rfl h)
theorem wi_getf800 {a : Nat} (hop : w_fe code pc nx (.getfield 800))  (h : w_Ex E rt code Q nx ls (.inr (.inr (10440, a + 1)) :: st) σ) : w_Ex E rt code Q pc ls (.inr (.inr (8, a)) :: st) σ := by
  obtain ⟨h1, rfl⟩ := hop
  exact w_Ex_in h1 (And.intro rfl h)
theorem wi_getf801 {a : Nat} (hop : w_fe code pc nx (.getfield 801))  (h : w_Ex E rt code Q nx ls (.inr (.inr (1004, a + 6)) :: st) σ) : w_Ex E rt code Q pc ls (.inr (.inr (8, a)) :: st) σ := by
  obtain ⟨h1, rfl⟩ := hop
  exact w_Ex_in h1 (And.intro rfl h)
theorem wi_getf802 {a : Nat} (hop : w_fe code pc nx (.getfield 802))  (h : w_Ex E rt code Q nx ls (.inr (.inr (1004, a + 7)) :: st) σ) : w_Ex E rt code Q pc ls (.inr (.inr (8, a)) :: st) σ := by
  obtain ⟨h1, rfl⟩ := hop
  exact w_Ex_in h1 (And.intro rfl h)
theorem wi_getf900 {a : Nat} (hop : w_fe code pc nx (.getfield 900))  (h : w_Ex E rt code Q nx ls (.inr (.inr (1246, a + 1)) :: st) σ) : w_Ex E rt code Q pc ls (.inr (.inr (9, a)) :: st) σ := by
  obtain ⟨h1, rfl⟩ := hop
  exact w_Ex_in h1 (And.intro rfl h)
theorem wi_getf901 {a : Nat} (hop : w_fe code pc nx (.getfield 901))  (h : w_Ex E rt code Q nx ls (.inr (.inr (1082, a + 2)) :: st) σ) : w_Ex E rt code Q pc ls (.inr (.inr (9, a)) :: st) σ := by
  obtain ⟨h1, rfl⟩ := hop
  exact w_Ex_in h1 (And.intro rfl h)
theorem wi_getf902 {a : Nat} (hop : w_fe code pc nx (.getfield 902))  (h : w_Ex E rt code Q nx ls (.inr (.inr (3002, a + 3)) :: st) σ) : w_Ex E rt code Q pc ls (.inr (.inr (9, a)) :: st) σ := by
  obtain ⟨h1, rfl⟩ := hop
  exact w_Ex_in h1 (And.intro rfl h)
theorem wi_getf903 {a : Nat} (hop : w_fe code pc nx (.getfield 903))  (h : w_Ex E rt code Q nx ls (.inl (σ a 3) :: st) σ) : w_Ex E rt code Q pc ls (.inr (.inr (9, a)) :: st) σ := by
  obtain ⟨h1, rfl⟩ := hop
  exact w_Ex_in h1 (And.intro rfl h)
theorem wi_putf903 {x : Int} {a : Nat} (hop : w_fe code pc nx (.putfield 903))  (h : w_Ex E rt code Q nx ls st (w_up σ a 3 x)) : w_Ex E rt code Q pc ls (.inl x :: .inr (.inr (9, a)) :: st) σ := by
  obtain ⟨h1, rfl⟩ := hop
  exact w_Ex_in h1 (And.intro rfl (And.intro rfl (And.intro (fun e => by omega) h)))
theorem wi_getf904 {a : Nat} (hop : w_fe code pc nx (.getfield 904))  (h : w_Ex E rt code Q nx ls (.inl (σ a 4) :: st) σ) : w_Ex E rt code Q pc ls (.inr (.inr (9, a)) :: st) σ := by
  obtain ⟨h1, rfl⟩ := hop
  exact w_Ex_in h1 (And.intro rfl h)
theorem wi_putf904 {x : Int} {a : Nat} (hop : w_fe code pc nx (.putfield 904))  (h : w_Ex E rt code Q nx ls st (w_up σ a 4 x)) : w_Ex E rt code Q pc ls (.inl x :: .inr (.inr (9, a)) :: st) σ := by
  obtain ⟨h1, rfl⟩ := hop
  exact w_Ex_in h1 (And.intro rfl (And.intro rfl (And.intro (fun e => by omega) h)))
theorem wi_getf905 {a : Nat} (hop : w_fe code pc nx (.getfield 905))  (h : w_Ex E rt code Q nx ls (.inl (σ a 5) :: st) σ) : w_Ex E rt code Q pc ls (.inr (.inr (9, a)) :: st) σ := by
  obtain ⟨h1, rfl⟩ := hop
  exact w_Ex_in h1 (And.intro rfl h)
theorem wi_putf905 {x : Int} {a : Nat} (hop : w_fe code pc nx (.putfield 905))  (h : w_Ex E rt code Q nx ls st (w_up σ a 5 x)) : w_Ex E rt code Q pc ls (.inl x :: .inr (.inr (9, a)) :: st) σ := by
  obtain ⟨h1, rfl⟩ := hop
  exact w_Ex_in h1 (And.intro rfl (And.intro rfl (And.intro (fun e => by omega) h)))
theorem wi_getf906 {a : Nat} (hop : w_fe code pc nx (.getfield 906))  (h : w_Ex E rt code Q nx ls (.inr (.inr (1082, a + 4)) :: st) σ) : w_Ex E rt code Q pc ls (.inr (.inr (9, a)) :: st) σ := by
  obtain ⟨h1, rfl⟩ := hop
  exact w_Ex_in h1 (And.intro rfl h)
theorem wi_getf907 {a : Nat} (hop : w_fe code pc nx (.getfield 907))  (h : w_Ex E rt code Q nx ls (.inl (σ a 7) :: st) σ) : w_Ex E rt code Q pc ls (.inr (.inr (9, a)) :: st) σ := by
  obtain ⟨h1, rfl⟩ := hop
  exact w_Ex_in h1 (And.intro rfl h)
theorem wi_putf907 {x : Int} {a : Nat} (hop : w_fe code pc nx (.putfield 907))  (h : w_Ex E rt code Q nx ls st (w_up σ a 7 x)) : w_Ex E rt code Q pc ls (.inl x :: .inr (.inr (9, a)) :: st) σ := by
  obtain ⟨h1, rfl⟩ := hop
  exact w_Ex_in h1 (And.intro rfl (And.intro rfl (And.intro (fun e => by omega) h)))
theorem wi_getf908 {a : Nat} (hop : w_fe code pc nx (.getfield 908))  (h : w_Ex E rt code Q nx ls (.inl (σ a 8) :: st) σ) : w_Ex E rt code Q pc ls (.inr (.inr (9, a)) :: st) σ := by
  obtain ⟨h1, rfl⟩ := hop
  exact w_Ex_in h1 (And.intro rfl h)
theorem wi_putf908 {x : Int} {a : Nat} (hop : w_fe code pc nx (.putfield 908))  (h : w_Ex E rt code Q nx ls st (w_up σ a 8 x)) : w_Ex E rt code Q pc ls (.inl x :: .inr (.inr (9, a)) :: st) σ := by
  obtain ⟨h1, rfl⟩ := hop
  exact w_Ex_in h1 (And.intro rfl (And.intro rfl (And.intro (fun e => by omega) h)))
theorem wi_getf909 {a : Nat} (hop : w_fe code pc nx (.getfield 909))  (h : w_Ex E rt code Q nx ls (.inl (σ a 9) :: st) σ) : w_Ex E rt code Q pc ls (.inr (.inr (9, a)) :: st) σ := by
  obtain ⟨h1, rfl⟩ := hop
  exact w_Ex_in h1 (And.intro rfl h)
theorem wi_putf909 {x : Int} {a : Nat} (hop : w_fe code pc nx (.putfield 909))  (h : w_Ex E rt code Q nx ls st (w_up σ a 9 x)) : w_Ex E rt code Q pc ls (.inl x :: .inr (.inr (9, a)) :: st) σ := by
  obtain ⟨h1, rfl⟩ := hop
  exact w_Ex_in h1 (And.intro rfl (And.intro rfl (And.intro (fun e => by omega) h)))
theorem wi_getf910 {a : Nat} (hop : w_fe code pc nx (.getfield 910))  (h : w_Ex E rt code Q nx ls (.inl (σ a 10) :: st) σ) : w_Ex E rt code Q pc ls (.inr (.inr (9, a)) :: st) σ := by
  obtain ⟨h1, rfl⟩ := hop
  exact w_Ex_in h1 (And.intro rfl h)
theorem wi_putf910 {x : Int} {a : Nat} (hop : w_fe code pc nx (.putfield 910)) (c0 : x = 0 ∨ x = 1) (h : w_Ex E rt code Q nx ls st (w_up σ a 10 x)) : w_Ex E rt code Q pc ls (.inl x :: .inr (.inr (9, a)) :: st) σ := by
  obtain ⟨h1, rfl⟩ := hop
  exact w_Ex_in h1 (And.intro rfl (And.intro rfl (And.intro (fun _ => c0) h)))
theorem wi_getf911 {a : Nat} (hop : w_fe code pc nx (.getfield 911))  (h : w_Ex E rt code Q nx ls (.inl (σ a 11) :: st) σ) : w_Ex E rt code Q pc ls (.inr (.inr (9, a)) :: st) σ := by
  obtain ⟨h1, rfl⟩ := hop
  exact w_Ex_in h1 (And.intro rfl h)
theorem wi_putf911 {x : Int} {a : Nat} (hop : w_fe code pc nx (.putfield 911))  (h : w_Ex E rt code Q nx ls st (w_up σ a 11 x)) : w_Ex E rt code Q pc ls (.inl x :: .inr (.inr (9, a)) :: st) σ := by
  obtain ⟨h1, rfl⟩ := hop
  exact w_Ex_in h1 (And.intro rfl (And.intro rfl (And.intro (fun e => by omega) h)))
theorem wi_getf912 {a : Nat} (hop : w_fe code pc nx (.getfield 912))  (h : w_Ex E rt code Q nx ls (.inl (σ a 12) :: st) σ) : w_Ex E rt code Q pc ls (.inr (.inr (9, a)) :: st) σ := by
  obtain ⟨h1, rfl⟩ := hop
  exact w_Ex_in h1 (And.intro rfl h)
theorem wi_putf912 {x : Int} {a : Nat} (hop : w_fe code pc nx (.putfield 912))  (h : w_Ex E rt code Q nx ls st (w_up σ a 12 x)) : w_Ex E rt code Q pc ls (.inl x :: .inr (.inr (9, a)) :: st) σ := by
  obtain ⟨h1, rfl⟩ := hop
  exact w_Ex_in h1 (And.intro rfl (And.intro rfl (And.intro (fun e => by omega) h)))
theorem wi_getf913 {a : Nat} (hop : w_fe code pc nx (.getfield 913))  (h : w_Ex E rt code Q nx ls (.inl (σ a 13) :: st) σ) : w_Ex E rt code Q pc ls (.inr (.inr (9, a)) :: st) σ := by
  obtain ⟨h1, rfl⟩ := hop
  exact w_Ex_in h1 (And.intro rfl h)
theorem wi_putf913 {x : Int} {a : Nat} (hop : w_fe code pc nx (.putfield 913))  (h : w_Ex E rt code Q nx ls st (w_up σ a 13 x)) : w_Ex E rt code Q pc ls (.inl x :: .inr (.inr (9, a)) :: st) σ := by
  obtain ⟨h1, rfl⟩ := hop
  exact w_Ex_in h1 (And.intro rfl (And.intro rfl (And.intro (fun e => by omega) h)))
theorem wi_getf914 {a : Nat} (hop : w_fe code pc nx (.getfield 914))  (h : w_Ex E rt code Q nx ls (.inr (.inr (1160, a + 5)) :: st) σ) : w_Ex E rt code Q pc ls (.inr (.inr (9, a)) :: st) σ := by
  obtain ⟨h1, rfl⟩ := hop
  exact w_Ex_in h1 (And.intro rfl h)
theorem wi_getf915 {a : Nat} (hop : w_fe code pc nx (.getfield 915))  (h : w_Ex E rt code Q nx ls (.inl (σ a 15) :: st) σ) : w_Ex E rt code Q pc ls (.inr (.inr (9, a)) :: st) σ := by
  obtain ⟨h1, rfl⟩ := hop
  exact w_Ex_in h1 (And.intro rfl h)
theorem wi_putf915 {x : Int} {a : Nat} (hop : w_fe code pc nx (.putfield 915))  (h : w_Ex E rt code Q nx ls st (w_up σ a 15 x)) : w_Ex E rt code Q pc ls (.inl x :: .inr (.inr (9, a)) :: st) σ := by
  obtain ⟨h1, rfl⟩ := hop
  exact w_Ex_in h1 (And.intro rfl (And.intro rfl (And.intro (fun e => by omega) h)))
theorem wi_getf916 {a : Nat} (hop : w_fe code pc nx (.getfield 916))  (h : w_Ex E rt code Q nx ls (.inl (σ a 16) :: st) σ) : w_Ex E rt code Q pc ls (.inr (.inr (9, a)) :: st) σ := by
  obtain ⟨h1, rfl⟩ := hop
  exact w_Ex_in h1 (And.intro rfl h)
theorem wi_putf916 {x : Int} {a : Nat} (hop : w_fe code pc nx (.putfield 916))  (h : w_Ex E rt code Q nx ls st (w_up σ a 16 x)) : w_Ex E rt code Q pc ls (.inl x :: .inr (.inr (9, a)) :: st) σ := by
  obtain ⟨h1, rfl⟩ := hop
  exact w_Ex_in h1 (And.intro rfl (And.intro rfl (And.intro (fun e => by omega) h)))
theorem wi_getf917 {a : Nat} (hop : w_fe code pc nx (.getfield 917))  (h : w_Ex E rt code Q nx ls (.inl (σ a 17) :: st) σ) : w_Ex E rt code Q pc ls (.inr (.inr (9, a)) :: st) σ := by
  obtain ⟨h1, rfl⟩ := hop
  exact w_Ex_in h1 (And.intro rfl h)
theorem wi_putf917 {x : Int} {a : Nat} (hop : w_fe code pc nx (.putfield 917))  (h : w_Ex E rt code Q nx ls st (w_up σ a 17 x)) : w_Ex E rt code Q pc ls (.inl x :: .inr (.inr (9, a)) :: st) σ := by
  obtain ⟨h1, rfl⟩ := hop
  exact w_Ex_in h1 (And.intro rfl (And.intro rfl (And.intro (fun e => by omega) h)))
theorem wi_getf918 {a : Nat} (hop : w_fe code pc nx (.getfield 918))  (h : w_Ex E rt code Q nx ls (.inl (σ a 18) :: st) σ) : w_Ex E rt code Q pc ls (.inr (.inr (9, a)) :: st) σ := by
  obtain ⟨h1, rfl⟩ := hop
  exact w_Ex_in h1 (And.intro rfl h)
theorem wi_putf918 {x : Int} {a : Nat} (hop : w_fe code pc nx (.putfield 918))  (h : w_Ex E rt code Q nx ls st (w_up σ a 18 x)) : w_Ex E rt code Q pc ls (.inl x :: .inr (.inr (9, a)) :: st) σ := by
  obtain ⟨h1, rfl⟩ := hop
  exact w_Ex_in h1 (And.intro rfl (And.intro rfl (And.intro (fun e => by omega) h)))
theorem wi_getf919 {a : Nat} (hop : w_fe code pc nx (.getfield 919))  (h : w_Ex E rt code Q nx ls (.inl (σ a 19) :: st) σ) : w_Ex E rt code Q pc ls (.inr (.inr (9, a)) :: st) σ := by
  obtain ⟨h1, rfl⟩ := hop
  exact w_Ex_in h1 (And.intro rfl h)
theorem wi_putf919 {x : Int} {a : Nat} (hop : w_fe code pc nx (.putfield 919))  (h : w_Ex E rt code Q nx ls st (w_up σ a 19 x)) : w_Ex E rt code Q pc ls (.inl x :: .inr (.inr (9, a)) :: st) σ := by
  obtain ⟨h1, rfl⟩ := hop
  exact w_Ex_in h1 (And.intro rfl (And.intro rfl (And.intro (fun e => by omega) h)))
theorem wi_getf920 {a : Nat} (hop : w_fe code pc nx (.getfield 920))  (h : w_Ex E rt code Q nx ls (.inl (σ a 20) :: st) σ) : w_Ex E rt code Q pc ls (.inr (.inr (9, a)) :: st) σ := by
  obtain ⟨h1, rfl⟩ := hop
  exact w_Ex_in h1 (And.intro rfl h)
theorem wi_putf920 {x : Int} {a : Nat} (hop : w_fe code pc nx (.putfield 920))  (h : w_Ex E rt code Q nx ls st (w_up σ a 20 x)) : w_Ex E rt code Q pc ls (.inl x :: .inr (.inr (9, a)) :: st) σ := by
  obtain ⟨h1, rfl⟩ := hop
  exact w_Ex_in h1 (And.intro rfl (And.intro rfl (And.intro (fun e => by omega) h)))
theorem wi_getf921 {a : Nat} (hop : w_fe code pc nx (.getfield 921))  (h : w_Ex E rt code Q nx ls (.inl (σ a 21) :: st) σ) : w_Ex E rt code Q pc ls (.inr (.inr (9, a)) :: st) σ := by
  obtain ⟨h1, rfl⟩ := hop
  exact w_Ex_in h1 (And.intro rfl h)
theorem wi_putf921 {x : Int} {a : Nat} (hop : w_fe code pc nx (.putfield 921))  (h : w_Ex E rt code Q nx ls st (w_up σ a 21 x)) : w_Ex E rt code Q pc ls (.inl x :: .inr (.inr (9, a)) :: st) σ := by
  obtain ⟨h1, rfl⟩ := hop
  exact w_Ex_in h1 (And.intro rfl (And.intro rfl (And.intro (fun e => by omega) h)))
theorem wi_getf922 {a : Nat} (hop : w_fe code pc nx (.getfield 922))  (h : w_Ex E rt code Q nx ls (.inr (.inr (1049, a + 6)) :: st) σ) : w_Ex E rt code Q pc ls (.inr (.inr (9, a)) :: st) σ := by
  obtain ⟨h1, rfl⟩ := hop
  exact w_Ex_in h1 (And.intro rfl h)
theorem wi_getf923 {a : Nat} (hop : w_fe code pc nx (.getfield 923))  (h : w_Ex E rt code Q nx ls (.inr (.inr (1049, a + 7)) :: st) σ) : w_Ex E rt code Q pc ls (.inr (.inr (9, a)) :: st) σ := by
  obtain ⟨h1, rfl⟩ := hop
  exact w_Ex_in h1 (And.intro rfl h)
theorem wi_getf924 {a : Nat} (hop : w_fe code pc nx (.getfield 924))  (h : w_Ex E rt code Q nx ls (.inr (.inr (1004, a + 8)) :: st) σ) : w_Ex E rt code Q pc ls (.inr (.inr (9, a)) :: st) σ := by
  obtain ⟨h1, rfl⟩ := hop
  exact w_Ex_in h1 (And.intro rfl h)
theorem wi_getf925 {a : Nat} (hop : w_fe code pc nx (.getfield 925))  (h : w_Ex E rt code Q nx ls (.inr (.inr (1004, a + 9)) :: st) σ) : w_Ex E rt code Q pc ls (.inr (.inr (9, a)) :: st) σ := by
  obtain ⟨h1, rfl⟩ := hop
  exact w_Ex_in h1 (And.intro rfl h)
theorem wi_getf926 {a : Nat} (hop : w_fe code pc nx (.getfield 926))  (h : w_Ex E rt code Q nx ls (.inr (.inr (1160, a + 10)) :: st) σ) : w_Ex E rt code Q pc ls (.inr (.inr (9, a)) :: st) σ := by
  obtain ⟨h1, rfl⟩ := hop
  exact w_Ex_in h1 (And.intro rfl h)
theorem wi_getf927 {a : Nat} (hop : w_fe code pc nx (.getfield 927))  (h : w_Ex E rt code Q nx ls (.inl (σ a 27) :: st) σ) : w_Ex E rt code Q pc ls (.inr (.inr (9, a)) :: st) σ := by
  obtain ⟨h1, rfl⟩ := hop
  exact w_Ex_in h1 (And.intro rfl h)
theorem wi_putf927 {x : Int} {a : Nat} (hop : w_fe code pc nx (.putfield 927))  (h : w_Ex E rt code Q nx ls st (w_up σ a 27 x)) : w_Ex E rt code Q pc ls (.inl x :: .inr (.inr (9, a)) :: st) σ := by
  obtain ⟨h1, rfl⟩ := hop
  exact w_Ex_in h1 (And.intro rfl (And.intro rfl (And.intro (fun e => by omega) h)))
theorem wi_getf928 {a : Nat} (hop : w_fe code pc nx (.getfield 928))  (h : w_Ex E rt code Q nx ls (.inr (.inr (1004, a + 11)) :: st) σ) : w_Ex E rt code Q pc ls (.inr (.inr (9, a)) :: st) σ := by
  obtain ⟨h1, rfl⟩ := hop
  exact w_Ex_in h1 (And.intro rfl h)
theorem wi_acopy {n dp sp : Int} {k d k2 s z : Nat} (hop : w_fe code pc nx (.invokedynamic z)) (c0 : 1000 ≤ k ∧ k < 2000 ∧ 1000 ≤ k2 ∧ k2 < 2000) (c1 : w_cs st ≤ 8) (c2 : 0 ≤ n) (c3 : 0 ≤ dp) (c4 : 0 ≤ sp) (c5 : sp + n ≤ ((k2 - 1000 : Nat) : Int)) (c6 : dp + n ≤ ((k - 1000 : Nat) : Int)) (h : w_Ex E rt code Q nx ls st (w_cpy σ s d sp.toNat dp.toNat n.toNat)) : w_Ex E rt code Q pc ls (.inl n :: .inl dp :: .inr (.inr (k, d)) :: .inl sp :: .inr (.inr (k2, s)) :: st) σ := by
  obtain ⟨h1, rfl⟩ := hop
  exact w_Ex_in h1 (And.intro c0 (And.intro c1 (And.intro c2 (And.intro c3 (And.intro c4 (And.intro c5 (And.intro c6 (h))))))))
theorem wi_chk {n i : Int} (hop : w_fe code pc nx (.monitorexit)) (c0 : 0 ≤ i ∧ i < n) (c1 : w_cs st ≤ 8) (h : w_Ex E rt code Q nx ls st σ) : w_Ex E rt code Q pc ls (.inl n :: .inl i :: st) σ := by
  obtain ⟨h1, rfl⟩ := hop
  exact w_Ex_in h1 (And.intro c0 (And.intro c1 (h)))
theorem wi_call0 {xs : List Int} {d : Nat}  {c : Nat} (hop : w_fe code pc nx (.invokestatic c)) (hc : w_cs st ≤ 8) (h : w_Call (xs, d) c [] σ (fun v σ' => w_Ex (xs, d + 1) rt code Q nx ls (w_push v st) σ')) : w_Ex (xs, d + 1) rt code Q pc ls (st) σ := by
  obtain ⟨h1, rfl⟩ := hop
  exact w_Ex_in h1 ⟨[], st, d, rfl, rfl, hc, h⟩
theorem wi_call1 {xs : List Int} {d : Nat} {x0 : w_V} {c : Nat} (hop : w_fe code pc nx (.invokestatic c)) (hc : w_cs st ≤ 8) (h : w_Call (xs, d) c [x0] σ (fun v σ' => w_Ex (xs, d + 1) rt code Q nx ls (w_push v st) σ')) : w_Ex (xs, d + 1) rt code Q pc ls (x0 :: st) σ := by
  obtain ⟨h1, rfl⟩ := hop
  exact w_Ex_in h1 ⟨[x0], st, d, rfl, rfl, hc, h⟩
theorem wi_call2 {xs : List Int} {d : Nat} {x0 x1 : w_V} {c : Nat} (hop : w_fe code pc nx (.invokestatic c)) (hc : w_cs st ≤ 8) (h : w_Call (xs, d) c [x0, x1] σ (fun v σ' => w_Ex (xs, d + 1) rt code Q nx ls (w_push v st) σ')) : w_Ex (xs, d + 1) rt code Q pc ls (x1 :: x0 :: st) σ := by
  obtain ⟨h1, rfl⟩ := hop
  exact w_Ex_in h1 ⟨[x0, x1], st, d, rfl, rfl, hc, h⟩
theorem wi_call3 {xs : List Int} {d : Nat} {x0 x1 x2 : w_V} {c : Nat} (hop : w_fe code pc nx (.invokestatic c)) (hc : w_cs st ≤ 8) (h : w_Call (xs, d) c [x0, x1, x2] σ (fun v σ' => w_Ex (xs, d + 1) rt code Q nx ls (w_push v st) σ')) : w_Ex (xs, d + 1) rt code Q pc ls (x2 :: x1 :: x0 :: st) σ := by
  obtain ⟨h1, rfl⟩ := hop
  exact w_Ex_in h1 ⟨[x0, x1, x2], st, d, rfl, rfl, hc, h⟩
theorem wi_call4 {xs : List Int} {d : Nat} {x0 x1 x2 x3 : w_V} {c : Nat} (hop : w_fe code pc nx (.invokestatic c)) (hc : w_cs st ≤ 8) (h : w_Call (xs, d) c [x0, x1, x2, x3] σ (fun v σ' => w_Ex (xs, d + 1) rt code Q nx ls (w_push v st) σ')) : w_Ex (xs, d + 1) rt code Q pc ls (x3 :: x2 :: x1 :: x0 :: st) σ := by
  obtain ⟨h1, rfl⟩ := hop
  exact w_Ex_in h1 ⟨[x0, x1, x2, x3], st, d, rfl, rfl, hc, h⟩
theorem wi_call5 {xs : List Int} {d : Nat} {x0 x1 x2 x3 x4 : w_V} {c : Nat} (hop : w_fe code pc nx (.invokestatic c)) (hc : w_cs st ≤ 8) (h : w_Call (xs, d) c [x0, x1, x2, x3, x4] σ (fun v σ' => w_Ex (xs, d + 1) rt code Q nx ls (w_push v st) σ')) : w_Ex (xs, d + 1) rt code Q pc ls (x4 :: x3 :: x2 :: x1 :: x0 :: st) σ := by
  obtain ⟨h1, rfl⟩ := hop
  exact w_Ex_in h1 ⟨[x0, x1, x2, x3, x4], st, d, rfl, rfl, hc, h⟩
theorem wi_ret1 {x : Int} (hop : w_fe code pc nx .ireturn)  (h : Q (some (.inl x)) σ) : w_Ex E 1 code Q pc ls [.inl x] σ := w_Ex_in hop.1 (And.intro trivial h)
theorem wi_ret2 {x : Int} (hop : w_fe code pc nx .ireturn) (c0 : x = 0 ∨ x = 1) (h : Q (some (.inl x)) σ) : w_Ex E 2 code Q pc ls [.inl x] σ := w_Ex_in hop.1 (And.intro c0 h)
theorem wi_ret3 {x : Int} (hop : w_fe code pc nx .ireturn)  (h : Q (some (.inr (.inl x))) σ) : w_Ex E 3 code Q pc ls [.inr (.inl x)] σ := w_Ex_in hop.1 (And.intro trivial h)
theorem wi_ret4 {x : Nat × Nat} (hop : w_fe code pc nx .ireturn)  (h : Q (some (.inr (.inr x))) σ) : w_Ex E 4 code Q pc ls [.inr (.inr x)] σ := w_Ex_in hop.1 (And.intro trivial h)
theorem wi_ret5 {x : Int} (hop : w_fe code pc nx .ireturn) (c0 : 0 ≤ x ∧ x ≤ 65535) (h : Q (some (.inl x)) σ) : w_Ex E 5 code Q pc ls [.inl x] σ := w_Ex_in hop.1 (And.intro c0 h)
theorem wi_ret6 {x : Int} (hop : w_fe code pc nx .ireturn) (c0 : -128 ≤ x ∧ x ≤ 127) (h : Q (some (.inl x)) σ) : w_Ex E 6 code Q pc ls [.inl x] σ := w_Ex_in hop.1 (And.intro c0 h)
theorem wi_ret0 (hop : w_fe code pc nx .return_) (h : Q none σ) : w_Ex E 0 code Q pc ls [] σ := w_Ex_in hop.1 (And.intro rfl h)
end WI
theorem w_n_eq {x y : Int} (h : ¬ x = y) : ¬ (x = y) := by omega
theorem w_m_eq {x y : Int} (h : x = y) : ¬ (¬ x = y) := by omega
theorem w_n_ne {x y : Int} (h : x = y) : ¬ (¬ x = y) := by omega
theorem w_m_ne {x y : Int} (h : ¬ x = y) : ¬ (x = y) := by omega
theorem w_n_lt {x y : Int} (h : y ≤ x) : ¬ (x < y) := by omega
theorem w_m_lt {x y : Int} (h : x < y) : ¬ (y ≤ x) := by omega
theorem w_n_ge {x y : Int} (h : x < y) : ¬ (y ≤ x) := by omega
theorem w_m_ge {x y : Int} (h : y ≤ x) : ¬ (x < y) := by omega
theorem w_n_gt {x y : Int} (h : x ≤ y) : ¬ (y < x) := by omega
theorem w_m_gt {x y : Int} (h : y < x) : ¬ (x ≤ y) := by omega
theorem w_n_le {x y : Int} (h : y < x) : ¬ (x ≤ y) := by omega
theorem w_m_le {x y : Int} (h : x ≤ y) : ¬ (y < x) := by omega
theorem w_n_eqb {P : Prop} (h : P) : ¬ ¬ P := fun k => k h
theorem w_m_eqb {P : Prop} (h : ¬ P) : ¬ P := h
theorem w_n_neb {P : Prop} (h : ¬ P) : ¬ P := h
theorem w_m_neb {P : Prop} (h : P) : ¬ ¬ P := fun k => k h
end
