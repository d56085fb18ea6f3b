/-! THE SECOND LAYER: cells of fixed shapes hold integers, σ : cell → index → Int; a run is told by what must hold ahead of it -/
abbrev w_V : Type := Int ⊕ (Int ⊕ (Nat × Nat))
abbrev w_M : Type := Nat → Nat → Int
abbrev w_L : Type := List (Option w_V)
/-- arguments, their shapes (0 an int, 1 a long, k + 2 a reference of kind k), what is asked, what comes out -/
abbrev w_S : Type := Nat × List Nat × (List w_V → w_M → Prop) × (List w_V → w_M → Option w_V × w_M)
/-- the script, the methods that may be called -/
abbrev w_C : Type := List Int × (Nat → w_S)
def w_up (σ : w_M) (a i : Nat) (x : Int) : w_M := fun b j => if b = a ∧ j = i then x else σ b j
def w_cpy (σ : w_M) (s d sp dp n : Nat) : w_M := fun b j => if b = d ∧ dp ≤ j ∧ j < dp + n then σ s (sp + (j - dp)) else σ b j
def w_in (x : Int) : Prop := -2147483648 ≤ x ∧ x ≤ 2147483647
def w_inl (x : Int) : Prop := -9223372036854775808 ≤ x ∧ x ≤ 9223372036854775807
def w_nl : Option w_V → Prop
  | some (.inr (.inl _)) => False
  | _ => True
def w_okp (ls : w_L) (i : Nat) : Prop := match i with
  | 0 => True
  | j + 1 => match ls[j]? with
    | some l => w_nl l
    | none => True
def w_cmp (c : Jvm.ClassFile.Cond) (x y : Int) : Prop := match c with
  | .eq => x = y
  | .ne => ¬ x = y
  | .lt => x < y
  | .ge => y ≤ x
  | .gt => y < x
  | .le => x ≤ y
def w_b2 (f : Int32 → Int32 → Int32) (x y : Int) : Int := (f (Int32.ofInt x) (Int32.ofInt y)).toInt
def w_and (x y : Int) : Int := w_b2 (fun a b => a &&& b) x y
def w_or (x y : Int) : Int := w_b2 (fun a b => a ||| b) x y
def w_xor (x y : Int) : Int := w_b2 (fun a b => a ^^^ b) x y
def w_shl (x y : Int) : Int := w_b2 (fun a b => a <<< (b &&& 31)) x y
def w_shr (x y : Int) : Int := w_b2 (fun a b => a >>> (b &&& 31)) x y
def w_ushr (x y : Int) : Int := w_b2 (fun a b => (a.toUInt32 >>> (b.toUInt32 &&& Int32.toUInt32 31)).toInt32) x y
/-- wrap-around -/
def w_wr (x : Int) : Int := Int.bmod x 4294967296
/-- reference fields: kind and distance of what they refer to -/
def w_rf : Nat → Option (Nat × Nat) := fun f => (([(0, 1, 1), (1, 3, 13), (2, 2, 14), (3, 4002, 30), (4, 6, 31), (5, 7, 63), (6, 8, 80), (100, 2160, 1), (102, 2, 2), (106, 1003, 11), (207, 1007, 1), (208, 1007, 2), (209, 1004, 3), (210, 1004, 4), (211, 1004, 5), (212, 1004, 6), (213, 1004, 7), (214, 1004, 8), (300, 2, 1), (301, 4, 10), (302, 5, 14), (401, 1008, 1), (402, 1008, 2), (403, 1008, 3), (501, 1004, 1), (502, 1004, 2), (600, 2, 1), (601, 1004, 10), (602, 1004, 11), (603, 1004, 12), (604, 1013, 13), (605, 10410, 14), (606, 11220, 19), (701, 10707, 1), (702, 10707, 9), (800, 10440, 1), (801, 1004, 6), (802, 1004, 7), (900, 1246, 1), (901, 1082, 2), (902, 3002, 3), (906, 1082, 4), (914, 1160, 5), (922, 1049, 6), (923, 1049, 7), (924, 1004, 8), (925, 1004, 9), (926, 1160, 10), (928, 1004, 11)] : List (Nat × Nat × Nat)).lookup f)
def w_stat (j : Nat) : w_V := match j with
  | 0 => .inl 1
  | 1 => .inr (.inr (6005, 1010))
  | 2 => .inr (.inr (6015, 1011))
  | _ => .inr (.inr (6015, 1012))
def w_cnum : List Int := [1, 2, 3, 1, 1]
def w_clow : List Int := [1, 0, 0, 0, 0, 0, 1, 0, 0, 0, 0, 0, 0, 0, 0]
def w_chig : List Int := [12, 0, 0, 40, 3, 0, 9, 9, 6, 11, 0, 0, 6, 0, 0]
def w_cbyt : List (List Int) := [[110, 105, 103, 104, 116], [115, 116, 114, 105, 112], [114, 101, 97, 112, 101, 114], [99, 108, 111, 117, 100], [116, 104, 105, 115, 116, 108, 101]]
/-- the constant arrays' contents, by address -/
def w_carr (xs : List Int) (a : Nat) : List Int := if a = 1010 then w_cnum else if a = 1011 then w_clow else if a = 1012 then w_chig else if a = 1013 then xs else w_cbyt.getD ((a - 1001) / 2) []
def w_cs : List w_V → Nat
  | [] => 0
  | .inr (.inl _) :: r => 2 + w_cs r
  | _ :: r => 1 + w_cs r
def w_pop : Nat → List w_V → List w_V → Option (List w_V × List w_V)
  | 0, acc, st => some (acc, st)
  | n + 1, acc, v :: st => w_pop n (v :: acc) st
  | _ + 1, _, [] => none
def w_shp : List Nat → List w_V → Prop
  | [], [] => True
  | 0 :: r, .inl _ :: q => w_shp r q
  | 1 :: r, .inr (.inl _) :: q => w_shp r q
  | (k + 2) :: r, .inr (.inr (j, _)) :: q => j = k ∧ w_shp r q
  | _, _ => False
def w_lks (K : Nat → Prop) (x : Int) : List (Int × Int) → Int → Prop
  | [], d => K d.toNat
  | (a, t) :: r, d => (x = a → K t.toNat) ∧ (¬ x = a → w_lks K x r d)
def w_tsw (K : Nat → Prop) (x : Int) : Int → List Int → Prop
  | _, [] => True
  | lo, t :: r => (x = lo → K t.toNat) ∧ w_tsw K x (lo + 1) r
def w_rtk (rt : Nat) (v : w_V) : Prop := match rt, v with
  | 1, .inl _ => True
  | 2, .inl x => x = 0 ∨ x = 1
  | 3, .inr (.inl _) => True
  | 4, .inr (.inr _) => True
  | 5, .inl x => 0 ≤ x ∧ x ≤ 65535
  | 6, .inl x => -128 ≤ x ∧ x ≤ 127
  | _, _ => False
/-- one instruction; wr: this arithmetic may wrap around -/
def w_opG (K : Nat → w_L → List w_V → w_M → Prop) (E : w_C) (rt : Nat) (Q : Option w_V → w_M → Prop) (op : Instr) (nx : Nat) (ls : w_L) (st : List w_V) (σ : w_M) : Prop := match op with
  | .bipush n => K nx ls (.inl n :: st) σ
  | .sipush n => K nx ls (.inr (.inl n) :: st) σ
  | .ldc k => K nx ls (.inr (.inr (20, k)) :: st) σ
  | .getstatic j => j < 4 ∧ K nx ls (w_stat j :: st) σ
  | .iload i => (match ls[i]? with | some (some (.inl x)) => K nx ls (.inl x :: st) σ | _ => False)
  | .lload i => (match ls[i]? with | some (some (.inr (.inl x))) => K nx ls (.inr (.inl x) :: st) σ | _ => False)
  | .aload i => (match ls[i]? with | some (some (.inr (.inr x))) => K nx ls (.inr (.inr x) :: st) σ | _ => False)
  | .istore i => (match st with | .inl x :: r => i < ls.length ∧ w_okp ls i ∧ K nx (ls.set i (some (.inl x))) r σ | _ => False)
  | .astore i => (match st with | .inr (.inr x) :: r => i < ls.length ∧ w_okp ls i ∧ K nx (ls.set i (some (.inr (.inr x)))) r σ | _ => False)
  | .lstore i => (match st with | .inr (.inl x) :: r => i + 1 < ls.length ∧ w_okp ls i ∧ K nx ((ls.set i (some (.inr (.inl x)))).set (i + 1) none) r σ | _ => False)
  | .iinc i n => (match ls[i]? with | some (some (.inl x)) => w_okp ls i ∧ w_in (x + n) ∧ K nx (ls.set i (some (.inl (x + n)))) st σ | _ => False)
  | .iadd => (match st with | .inl y :: .inl x :: r => w_in (x + y) ∧ K nx ls (.inl (x + y) :: r) σ | _ => False)
  | .isub => (match st with | .inl y :: .inl x :: r => w_in (x - y) ∧ K nx ls (.inl (x - y) :: r) σ | _ => False)
  | .imul => (match st with | .inl y :: .inl x :: r => w_in (x * y) ∧ K nx ls (.inl (x * y) :: r) σ | _ => False)
  | .fadd => (match st with | .inl y :: .inl x :: r => K nx ls (.inl (w_wr (x + y)) :: r) σ | _ => False)
  | .fsub => (match st with | .inl y :: .inl x :: r => K nx ls (.inl (w_wr (x - y)) :: r) σ | _ => False)
  | .fmul => (match st with | .inl y :: .inl x :: r => K nx ls (.inl (w_wr (x * y)) :: r) σ | _ => False)
  | .idiv => (match st with | .inl y :: .inl x :: r => ¬ y = 0 ∧ w_in (x.tdiv y) ∧ K nx ls (.inl (x.tdiv y) :: r) σ | _ => False)
  | .irem => (match st with | .inl y :: .inl x :: r => ¬ y = 0 ∧ K nx ls (.inl (x.tmod y) :: r) σ | _ => False)
  | .iand => (match st with | .inl y :: .inl x :: r => K nx ls (.inl (w_and x y) :: r) σ | _ => False)
  | .ior => (match st with | .inl y :: .inl x :: r => K nx ls (.inl (w_or x y) :: r) σ | _ => False)
  | .ixor => (match st with | .inl y :: .inl x :: r => K nx ls (.inl (w_xor x y) :: r) σ | _ => False)
  | .ishl => (match st with | .inl y :: .inl x :: r => K nx ls (.inl (w_shl x y) :: r) σ | _ => False)
  | .ishr => (match st with | .inl y :: .inl x :: r => K nx ls (.inl (w_shr x y) :: r) σ | _ => False)
  | .iushr => (match st with | .inl y :: .inl x :: r => K nx ls (.inl (w_ushr x y) :: r) σ | _ => False)
  | .ineg => (match st with | .inl x :: r => w_in (-x) ∧ K nx ls (.inl (-x) :: r) σ | _ => False)
  | .i2l => (match st with | .inl x :: r => K nx ls (.inr (.inl x) :: r) σ | _ => False)
  | .i2b => (match st with | .inl x :: r => K nx ls (.inl (Int.bmod x 256) :: r) σ | _ => False)
  | .i2s => (match st with | .inl x :: r => K nx ls (.inl (Int.bmod x 65536) :: r) σ | _ => False)
  | .i2c => (match st with | .inl x :: r => (0 ≤ x ∧ x ≤ 65535) ∧ K nx ls (.inl x :: r) σ | _ => False)
  | .ladd => (match st with | .inr (.inl y) :: .inr (.inl x) :: r => w_inl (x + y) ∧ K nx ls (.inr (.inl (x + y)) :: r) σ | _ => False)
  | .lmul => (match st with | .inr (.inl y) :: .inr (.inl x) :: r => w_inl (x * y) ∧ K nx ls (.inr (.inl (x * y)) :: r) σ | _ => False)
  | .ldiv => (match st with | .inr (.inl y) :: .inr (.inl x) :: r => ¬ y = 0 ∧ w_inl (x.tdiv y) ∧ K nx ls (.inr (.inl (x.tdiv y)) :: r) σ | _ => False)
  | .lrem => (match st with | .inr (.inl y) :: .inr (.inl x) :: r => ¬ y = 0 ∧ K nx ls (.inr (.inl (x.tmod y)) :: r) σ | _ => False)
  | .lcmp => (match st with | .inr (.inl y) :: .inr (.inl x) :: r => K nx ls (.inl (if y < x then 1 else if x = y then 0 else -1) :: r) σ | _ => False)
  | .dup => (match st with | .inl x :: r => K nx ls (.inl x :: .inl x :: r) σ | .inr (.inr x) :: r => K nx ls (.inr (.inr x) :: .inr (.inr x) :: r) σ | _ => False)
  | .dup2 => (match st with | .inl x :: .inr (.inr y) :: r => K nx ls (.inl x :: .inr (.inr y) :: .inl x :: .inr (.inr y) :: r) σ | _ => False)
  | .pop => (match st with | .inl _ :: r => K nx ls r σ | .inr (.inr _) :: r => K nx ls r σ | _ => False)
  | .ifCond c t => (match st with | .inl x :: r => (w_cmp c x 0 → K t.toNat ls r σ) ∧ (¬ w_cmp c x 0 → K nx ls r σ) | _ => False)
  | .if_icmp c t => (match st with | .inl y :: .inl x :: r => (w_cmp c x y → K t.toNat ls r σ) ∧ (¬ w_cmp c x y → K nx ls r σ) | _ => False)
  | .goto t => K t.toNat ls st σ
  | .tableswitch d lo hi ts => (match st with | .inl x :: r => (hi - lo + 1 = ts.toList.length) ∧ (x < lo ∨ hi < x → K d.toNat ls r σ) ∧ w_tsw (fun t => K t ls r σ) x lo ts.toList | _ => False)
  | .lookupswitch d ps => (match st with | .inl x :: r => w_lks (fun t => K t ls r σ) x ps.toList d | _ => False)
  | .iaload => (match st with
    | .inl j :: .inr (.inr (k, a)) :: r => if 1000 ≤ k ∧ k < 2000 then 0 ≤ j ∧ j < ((k - 1000 : Nat) : Int) ∧ K nx ls (.inl (σ a j.toNat) :: r) σ
        else (k = 6005 ∨ k = 6015 ∨ k = 8000) ∧ 0 ≤ j ∧ j < (w_carr E.1 a).length ∧ K nx ls (.inl ((w_carr E.1 a).getD j.toNat 0) :: r) σ
    | _ => False)
  | .baload => (match st with
    | .inl j :: .inr (.inr (k, a)) :: r => if 2000 ≤ k ∧ k < 4000 then 0 ≤ j ∧ j < ((k % 1000 : Nat) : Int) ∧ K nx ls (.inl (σ a j.toNat) :: r) σ
        else k = 7000 ∧ 0 ≤ j ∧ j < (w_carr E.1 a).length ∧ K nx ls (.inl ((w_carr E.1 a).getD j.toNat 0) :: r) σ
    | _ => False)
  | .iastore => (match st with
    | .inl x :: .inl j :: .inr (.inr (k, a)) :: r => (1000 ≤ k ∧ k < 2000) ∧ 0 ≤ j ∧ j < ((k - 1000 : Nat) : Int) ∧ K nx ls r (w_up σ a j.toNat x)
    | _ => False)
  | .bastore => (match st with
    | .inl x :: .inl j :: .inr (.inr (k, a)) :: r => (2000 ≤ k ∧ k < 4000) ∧ (if k < 3000 then -128 ≤ x ∧ x ≤ 127 else x = 0 ∨ x = 1) ∧ 0 ≤ j ∧ j < ((k % 1000 : Nat) : Int) ∧ K nx ls r (w_up σ a j.toNat x)
    | _ => False)
  | .aaload => (match st with
    | .inl j :: .inr (.inr (k, a)) :: r => if k = 4002 then 0 ≤ j ∧ j < 2 ∧ K nx ls (.inr (.inr (3, 88 + 17 * j.toNat)) :: r) σ
        else 10000 ≤ k ∧ 0 ≤ j ∧ j < ((k / 100 % 100 : Nat) : Int) ∧ K nx ls (.inr (.inr (1000 + k % 100, a + 1 + j.toNat)) :: r) σ
    | _ => False)
  | .arraylength => (match st with
    | .inr (.inr (k, a)) :: r => if 1000 ≤ k ∧ k < 4000 then K nx ls (.inl ((k % 1000 : Nat) : Int) :: r) σ
        else (k = 6005 ∨ k = 6015 ∨ k = 8000 ∨ k = 7000) ∧ K nx ls (.inl (w_carr E.1 a).length :: r) σ
    | _ => False)
  | .getfield f => (match st with
    | .inr (.inr (k, a)) :: r => if f = 2000 then k = 20 ∧ K nx ls (.inr (.inr (7000, a + 1)) :: r) σ else if f = 2001 then k = 20 ∧ K nx ls (.inl 0 :: r) σ
        else k = f / 100 ∧ (match w_rf f with | some q => K nx ls (.inr (.inr (q.1, a + q.2)) :: r) σ | none => K nx ls (.inl (σ a (f % 100)) :: r) σ)
    | _ => False)
  | .putfield f => (match st with
    | .inl x :: .inr (.inr (k, a)) :: r => k = f / 100 ∧ w_rf f = none ∧ (f = 105 ∨ f = 910 → x = 0 ∨ x = 1) ∧ K nx ls r (w_up σ a (f % 100) x)
    | _ => False)
  | .invokedynamic _ => (match st with
    | .inl n :: .inl dp :: .inr (.inr (k, d)) :: .inl sp :: .inr (.inr (k', s)) :: r => (1000 ≤ k ∧ k < 2000 ∧ 1000 ≤ k' ∧ k' < 2000) ∧ w_cs r ≤ 8 ∧ 0 ≤ n ∧ 0 ≤ dp ∧ 0 ≤ sp ∧ sp + n ≤ ((k' - 1000 : Nat) : Int) ∧ dp + n ≤ ((k - 1000 : Nat) : Int) ∧ K nx ls r (w_cpy σ s d sp.toNat dp.toNat n.toNat)
    | _ => False)
  | .invokestatic c => (match w_pop (E.2 c).1 [] st with
    | some (as, r) => w_shp (E.2 c).2.1 as ∧ w_cs r ≤ 8 ∧ (E.2 c).2.2.1 as σ ∧ K nx ls (((E.2 c).2.2.2 as σ).1.toList ++ r) ((E.2 c).2.2.2 as σ).2
    | none => False)
  | .ireturn => (match st with | [v] => w_rtk rt v ∧ Q (some v) σ | _ => False)
  | .return_ => (match st with | [] => rt = 0 ∧ Q none σ | _ => False)
  | _ => False
/-- the least predicate that every instruction's word carries backwards -/
def w_Ex (E : w_C) (rt : Nat) (code : List Instr) (Q : Option w_V → w_M → Prop) (pc : Nat) (ls : w_L) (st : List w_V) (σ : w_M) : Prop :=
  ∀ P : Nat → w_L → List w_V → w_M → Prop, (∀ (pc : Nat) (op : Instr) (ls : w_L) (st : List w_V) (σ : w_M), code[pc]? = some op → w_opG P E rt Q op (pc + 1) ls st σ → P pc ls st σ) → P pc ls st σ
def w_op (op : Instr) (E : w_C) (rt : Nat) (code : List Instr) (Q : Option w_V → w_M → Prop) (nx : Nat) (ls : w_L) (st : List w_V) (σ : w_M) : Prop := w_opG (w_Ex E rt code Q) E rt Q op nx ls st σ
theorem w_lks_mono {K K' : Nat → Prop} (hK : ∀ t, K t → K' t) {x : Int} : ∀ {ps : List (Int × Int)} {d : Int}, w_lks K x ps d → w_lks K' x ps d
  | [], _, h => hK _ h
  | (_, _) :: _, _, h => ⟨fun c => hK _ (h.1 c), fun c => w_lks_mono hK (h.2 c)⟩
theorem w_tsw_mono {K K' : Nat → Prop} (hK : ∀ t, K t → K' t) {x : Int} : ∀ {ts : List Int} {lo : Int}, w_tsw K x lo ts → w_tsw K' x lo ts
  | [], _, _ => trivial
  | _ :: _, _, h => ⟨fun c => hK _ (h.1 c), w_tsw_mono hK h.2⟩
set_option maxHeartbeats 4000000 in
theorem w_opG_mono {K K' : Nat → w_L → List w_V → w_M → Prop} (hK : ∀ a b c d, K a b c d → K' a b c d) {E : w_C} {rt : Nat} {Q : Option w_V → w_M → Prop} {op : Instr} {nx : Nat} {ls : w_L} {st : List w_V} {σ : w_M} (h : w_opG K E rt Q op nx ls st σ) : w_opG K' E rt Q op nx ls st σ := by
  unfold w_opG at h ⊢
  split at h
  all_goals first
    | exact h
    | exact hK _ _ _ _ h
    | exact ⟨h.1, hK _ _ _ _ h.2⟩
    | skip
  all_goals (split at h)
  all_goals first
    | exact h.elim
    | exact hK _ _ _ _ h
    | exact ⟨h.1, hK _ _ _ _ h.2⟩
    | exact ⟨h.1, h.2.1, hK _ _ _ _ h.2.2⟩
    | exact ⟨h.1, h.2.1, h.2.2.1, hK _ _ _ _ h.2.2.2⟩
    | exact ⟨h.1, h.2.1, h.2.2.1, h.2.2.2.1, hK _ _ _ _ h.2.2.2.2⟩
    | exact ⟨fun c => hK _ _ _ _ (h.1 c), fun c => hK _ _ _ _ (h.2 c)⟩
    | exact ⟨h.1, fun c => hK _ _ _ _ (h.2.1 c), w_tsw_mono (fun t => hK _ _ _ _) h.2.2⟩
    | exact w_lks_mono (fun t => hK _ _ _ _) h
    | exact h
    | exact ⟨h.1, h.2.1, h.2.2.1, h.2.2.2.1, h.2.2.2.2.1, h.2.2.2.2.2.1, h.2.2.2.2.2.2.1, hK _ _ _ _ h.2.2.2.2.2.2.2⟩
    | skip
  all_goals (split at h)
  all_goals first
    | (rename_i hc; rw [if_pos hc]; exact ⟨h.1, hK _ _ _ _ h.2⟩)
    | (rename_i hc; rw [if_pos hc]; exact ⟨h.1, h.2.1, hK _ _ _ _ h.2.2⟩)
    | (rename_i hc; rw [if_pos hc]; exact hK _ _ _ _ h)
    | (rename_i hc; rw [if_neg hc]; exact ⟨h.1, hK _ _ _ _ h.2⟩)
    | (rename_i hc; rw [if_neg hc]; exact ⟨h.1, h.2.1, h.2.2.1, hK _ _ _ _ h.2.2.2⟩)
    | skip
  all_goals (split at h)
  · rename_i h1 h2
    rw [if_neg h1, if_pos h2]
    exact ⟨h.1, hK _ _ _ _ h.2⟩
  · rename_i h1 h2
    rw [if_neg h1, if_neg h2]
    refine ⟨h.1, ?_⟩
    have h3 := h.2
    split at h3
    · exact hK _ _ _ _ h3
    · exact hK _ _ _ _ h3
theorem w_Ex_in {E : w_C} {rt : Nat} {code : List Instr} {Q : Option w_V → w_M → Prop} {pc : Nat} {op : Instr} {ls : w_L} {st : List w_V} {σ : w_M} (h : code[pc]? = some op) (hw : w_op op E rt code Q (pc + 1) ls st σ) : w_Ex E rt code Q pc ls st σ :=
  fun P hP => hP pc op ls st σ h (w_opG_mono (fun _ _ _ _ k => k P hP) hw)
theorem w_Ex_out {E : w_C} {rt : Nat} {code : List Instr} {Q : Option w_V → w_M → Prop} {pc : Nat} {op : Instr} {ls : w_L} {st : List w_V} {σ : w_M} (h : code[pc]? = some op) (hw : w_Ex E rt code Q pc ls st σ) : w_op op E rt code Q (pc + 1) ls st σ := by
  obtain ⟨op', h1, h2⟩ := hw (fun pc ls st σ => ∃ op, code[pc]? = some op ∧ w_op op E rt code Q (pc + 1) ls st σ) (fun pc op ls st σ h hw => ⟨op, h, w_opG_mono (fun _ _ _ _ k => by
    obtain ⟨o2, k1, k2⟩ := k
    exact w_Ex_in k1 k2) hw⟩)
  rw [h] at h1
  cases h1
  exact h2
theorem w_fetch {E : w_C} {rt : Nat} {code : List Instr} {Q : Option w_V → w_M → Prop} {pc : Nat} {op : Instr} {ls : w_L} {st : List w_V} {σ : w_M} (h : code[pc]? = some op) : w_Ex E rt code Q pc ls st σ = w_op op E rt code Q (pc + 1) ls st σ :=
  propext ⟨w_Ex_out h, w_Ex_in h⟩
