section
/-! The list machine's cells beside the heap's; its locals beside the frame's -/
noncomputable def am_phi (B : Nat) (ka : Nat → Nat) (k : Nat) : Nat := if k < 1000 then B + k else ka (k - 1000)
noncomputable def am_tv (f : Nat → Nat) : Value → Value
  | .ref k => .ref (f k)
  | v => v
theorem am_tv_cat (f : Nat → Nat) (v : Value) : (am_tv f v).category = v.category := by cases v <;> rfl
theorem am_tv_cats (f : Nat → Nat) (st : List Value) : ((st.map (am_tv f)).map fun v => v.category) = st.map fun v => v.category := by
  rw [List.map_map]
  exact List.map_congr_left fun v _ => am_tv_cat f v
noncomputable def am_te (f : Nat → Nat) (cA : ClassId) : am_E → va_E
  | .inl q => .inl (cA, q.2.length, .inl (fun j => q.2.getD j 0))
  | .inr (.inl q) => .inr (q.1, q.2.map (am_tv f))
  | .inr (.inr q) => .inl (cA, q.2.length, .inr (.inr (.inr (.inr (fun j => (q.2.getD j none).map f)))))
noncomputable def am_aty : am_E → Option FieldType
  | .inl (0, _) => some .int
  | .inl (1, _) => some .byte
  | .inl (_ + 2, _) => some .boolean
  | .inr (.inl _) => none
  | .inr (.inr (0, _)) => some (.object "MoonReapers$State")
  | .inr (.inr (_ + 1, _)) => some (.array .int)
noncomputable def am_ws (B : Nat) (ka : Nat → Nat) (cA : Nat → ClassId) (mem : List am_E) : va_W := mem.mapIdx fun k e => (B + k, am_te (am_phi B ka) (cA k) e)
theorem am_ws_get {B : Nat} {ka : Nat → Nat} {cA : Nat → ClassId} {mem : List am_E} (k : Nat) : (am_ws B ka cA mem)[k]? = (mem[k]?).map fun e => (B + k, am_te (am_phi B ka) (cA k) e) := List.getElem?_mapIdx
theorem am_ws_at {B : Nat} {ka : Nat → Nat} {cA : Nat → ClassId} {mem : List am_E} {k : Nat} {e : am_E} (h : mem[k]? = some e) : (am_ws B ka cA mem)[k]? = some (B + k, am_te (am_phi B ka) (cA k) e) := by rw [am_ws_get, h]; rfl
theorem am_ws_set {B : Nat} {ka : Nat → Nat} {cA : Nat → ClassId} {mem : List am_E} (k : Nat) (e : am_E) : (am_ws B ka cA mem).set k (B + k, am_te (am_phi B ka) (cA k) e) = am_ws B ka cA (mem.set k e) := by
  apply List.ext_getElem?
  intro i
  rw [am_ws_get, List.getElem?_set, List.getElem?_set, am_ws_get]
  unfold am_ws
  rw [List.length_mapIdx]
  by_cases h : k = i
  · subst h
    by_cases h2 : k < mem.length <;> simp [h2]
  · simp [h]
noncomputable def am_A (B : Nat) : Nat → Prop := fun q => B ≤ q
theorem am_ws_D {B : Nat} {ka : Nat → Nat} {cA : Nat → ClassId} {mem : List am_E} : va_D (am_A B) (am_ws B ka cA mem) := by
  refine ⟨fun i j x y hx hy hxy => ?_, fun k x hx => ?_⟩
  · rw [am_ws_get] at hx hy
    obtain ⟨a, -, rfl⟩ := Option.map_eq_some_iff.mp hx
    obtain ⟨b, -, rfl⟩ := Option.map_eq_some_iff.mp hy
    simpa using hxy
  · rw [am_ws_get] at hx
    obtain ⟨a, -, rfl⟩ := Option.map_eq_some_iff.mp hx
    exact Nat.le_add_right B k
noncomputable def am_upC (cA : Nat → ClassId) (n : Nat) (c : Nat → ClassId) : Nat → ClassId := fun k => if k < n then cA k else c k
theorem am_ws_app {B : Nat} {ka : Nat → Nat} {cA c : Nat → ClassId} {mem l : List am_E} : am_ws B ka (am_upC cA mem.length c) (mem ++ l) = am_ws B ka cA mem ++ l.mapIdx fun k e => (B + (mem.length + k), am_te (am_phi B ka) (c (mem.length + k)) e) := by
  apply List.ext_getElem?
  intro i
  have hl : (am_ws B ka cA mem).length = mem.length := by unfold am_ws; exact List.length_mapIdx
  rw [am_ws_get]
  by_cases h : i < mem.length
  · rw [List.getElem?_append_left h, List.getElem?_append_left (by omega), am_ws_get]
    simp [am_upC, h]
  · rw [List.getElem?_append_right (by omega), List.getElem?_append_right (by omega), hl, List.getElem?_mapIdx]
    simp [am_upC, h, show mem.length + (i - mem.length) = i by omega]
noncomputable def am_WK (cA : Nat → ClassId) (mem : List am_E) (U : State) : Prop := ∀ (k : Nat) (e : am_E) (ty : FieldType), mem[k]? = some e → am_aty e = some ty → ArrOfT U (cA k) ty ∧ va_RA U (cA k) ty
noncomputable def am_KC (D : va_G) (U : State) : Prop := ∀ (c : Nat) (q : vw_C), am_cl[c]? = some q → u_Kn U q.1 q.2.1 q.2.2 (D.1 c) (D.2 c)
theorem am_K1 {D : va_G} {U : State} {cA : Nat → ClassId} {mem : List am_E} {k : Nat} {e : am_E} {ty : FieldType} (hC : am_KC D U) (hW : am_WK cA mem U) (h : mem[k]? = some e) (ht : am_aty e = some ty) : va_K D am_cl [(cA k, ty)] U :=
  ⟨hC, fun j q hq => by
    match j, hq with
    | 0, hq => cases hq; exact hW k e ty h ht
    | _ + 1, hq => simp at hq⟩
theorem am_K0 {D : va_G} {U : State} (hC : am_KC D U) : va_K D am_cl [] U := ⟨hC, fun j q hq => by simp at hq⟩
theorem am_WK.moved {cA : Nat → ClassId} {mem : List am_E} {u U : State} (hvm : u.vm.Alike U.vm) (h : am_WK cA mem u) : am_WK cA mem U := fun k e ty h1 h2 => ⟨arrOfT_moved hvm (h k e ty h1 h2).1, (h k e ty h1 h2).2.moved hvm⟩
theorem am_KC.moved {D : va_G} {u U : State} (hvm : u.vm.Alike U.vm) (h : am_KC D u) : am_KC D U := fun c q hq => u_Kn_moved hvm (h c q hq)
theorem am_WK.set {cA : Nat → ClassId} {mem : List am_E} {U : State} (h : am_WK cA mem U) (k : Nat) {e0 e : am_E} (h0 : mem[k]? = some e0) (he : am_aty e = am_aty e0) : am_WK cA (mem.set k e) U := by
  intro i x ty hx hty
  rw [List.getElem?_set] at hx
  by_cases hi : k = i
  · subst hi
    rw [if_pos rfl] at hx
    split at hx
    · cases hx
      exact h k e0 ty h0 (he ▸ hty)
    · cases hx
  · rw [if_neg hi] at hx
    exact h i x ty hx hty
/-- constants: arrays, texts, statics -/
noncomputable def am_stn (k : Nat) : String × String × String := ([("java/lang/String", "COMPACT_STRINGS", "Z"), ("MoonReapers$Reader", "NUMBERS", "[I"), ("MoonReapers$Reader", "LOW", "[I"), ("MoonReapers$Reader", "HIGH", "[I")] : List (String × String × String)).getD k ("", "", "")
noncomputable def am_lst (k : Nat) : String := (["night", "strip", "reaper", "cloud", "thistle"] : List String).getD ((k - 1000) / 2) ""
noncomputable def am_CO (B : Nat) (ka : Nat → Nat) (cst : List am_E) (U : State) (H : Heap) : Prop :=
  (∀ (j : Nat) (q : Nat × List Int32) (ty : FieldType), cst[j]? = some (.inl q) → am_aty (.inl q) = some ty → va_T ty (ka j) q.2.length (fun i => .int (q.2.getD i 0)) (am_A B) U H) ∧
  (∀ (j : Nat) (fs : List Value), cst[j]? = some (.inr (.inl (20, fs))) → va_O "java/lang/String" (ka j) (am_A B) U H ∧ (∀ v, fs[0]? = some v → va_OF "java/lang/String" "value" "[B" (am_tv (am_phi B ka) v) (ka j) (am_A B) U H) ∧ (∀ v, fs[1]? = some v → va_OF "java/lang/String" "coder" "B" (am_tv (am_phi B ka) v) (ka j) (am_A B) U H)) ∧
  (∀ (j : Nat) (v : Value), am_stat[j]? = some v → va_Z (am_stn j).1 (am_stn j).2.1 (am_stn j).2.2 (am_tv (am_phi B ka) v) (am_A B) U H) ∧
  (∀ q ∈ am_ls, vk_R (am_ownS q.1) q.2.1 (am_lst q.2.2.1) (am_phi B ka q.2.2.1) U) ∧
  (∀ (j ci : Nat) (fs : List Value), cst[j]? = some (.inr (.inl (ci, fs))) → ci = 20) ∧
  va_Zq "jdk/internal/util/Preconditions" "SIOOBE_FORMATTER" "Ljava/util/function/BiFunction;" (am_A B) U H
theorem am_CO.kept {B : Nat} {ka : Nat → Nat} {cst : List am_E} {U : State} {H H1 : Heap} (h : am_CO B ka cst U H) (hq : ∀ a : Nat, a < H.size → ¬ am_A B a → H1[a]? = H[a]?) : am_CO B ka cst U H1 :=
  ⟨fun j q ty h1 h2 => (h.1 j q ty h1 h2).kept hq, fun j fs h1 => ⟨(h.2.1 j fs h1).1.kept hq, fun v h2 => ((h.2.1 j fs h1).2.1 v h2).kept hq, fun v h2 => ((h.2.1 j fs h1).2.2 v h2).kept hq⟩, fun j v h1 => (h.2.2.1 j v h1).kept hq, h.2.2.2.1, h.2.2.2.2.1, h.2.2.2.2.2.kept hq⟩
theorem am_CO.warm {B : Nat} {ka : Nat → Nat} {cst : List am_E} {s U : State} {H : Heap} (hW : s.WarmedH U.vm) (h : am_CO B ka cst s H) : am_CO B ka cst U H :=
  ⟨fun j q ty h1 h2 => (h.1 j q ty h1 h2).moved hW.alike, fun j fs h1 => ⟨(h.2.1 j fs h1).1.moved hW.alike, fun v h2 => ((h.2.1 j fs h1).2.1 v h2).moved hW.alike, fun v h2 => ((h.2.1 j fs h1).2.2 v h2).moved hW.alike⟩, fun j v h1 => (h.2.2.1 j v h1).moved hW.alike, fun q hq => (h.2.2.2.1 q hq).warm hW, h.2.2.2.2.1, h.2.2.2.2.2.moved hW.alike⟩
theorem am_CO.same {B : Nat} {ka : Nat → Nat} {cst : List am_E} {s U : State} {H : Heap} (hv : U.vm = s.vm) (h : am_CO B ka cst s H) : am_CO B ka cst U H :=
  have al : s.vm.Alike U.vm := by rw [hv]; exact Vm.Alike.refl s.vm
  ⟨fun j q ty h1 h2 => (h.1 j q ty h1 h2).moved al, fun j fs h1 => ⟨(h.2.1 j fs h1).1.moved al, fun v h2 => ((h.2.1 j fs h1).2.1 v h2).moved al, fun v h2 => ((h.2.1 j fs h1).2.2 v h2).moved al⟩, fun j v h1 => (h.2.2.1 j v h1).moved al, fun q hq => (h.2.2.2.1 q hq).same hv, h.2.2.2.2.1, h.2.2.2.2.2.moved al⟩
/-- words that go their own way: nest mates' methods, classes of arrays of references -/
noncomputable def am_NW (U : State) : Prop := (∀ q ∈ am_lm, ¬ q.2.2.2.1 < 3 → va_Nw (am_nw q) U) ∧ va_AO "MoonReapers$State" U ∧ (Cond.arrayOver (.array .int)).before #[] U = true
/-- locals -/
noncomputable def am_LV (f : Nat → Nat) (ls : am_L) (nL : Nat) (arr : Array Slot) : Prop := arr.size = nL ∧ ls.length = nL ∧ lv_wf arr ∧ ∀ (i : Nat) (v : Value), ls[i]? = some (some v) → arr[i]? = some (.val (am_tv f v))
noncomputable def am_asl (f : Nat → Nat) (ls : am_L) : List (Nat × Value) := ls.zipIdx.filterMap fun q => q.1.map fun v => (q.2, am_tv f v)
theorem am_asl_mem {f : Nat → Nat} {ls : am_L} {q : Nat × Value} : q ∈ am_asl f ls ↔ ∃ v, ls[q.1]? = some (some v) ∧ q.2 = am_tv f v := by
  unfold am_asl
  rw [List.mem_filterMap]
  constructor
  · rintro ⟨⟨o, i⟩, h1, h2⟩
    have h1 := List.mem_zipIdx_iff_getElem?.mp h1
    obtain ⟨v, hv, rfl⟩ := Option.map_eq_some_iff.mp h2
    exact ⟨v, by rw [← hv]; exact h1, rfl⟩
  · rintro ⟨v, h1, h2⟩
    refine ⟨(some v, q.1), List.mem_zipIdx_iff_getElem?.mpr h1, ?_⟩
    obtain ⟨i, w⟩ := q
    cases h2
    rfl
theorem am_LV.has {f : Nat → Nat} {ls : am_L} {nL : Nat} {arr : Array Slot} (h : am_LV f ls nL arr) : lv_has arr nL (am_asl f ls) :=
  ⟨h.1, h.2.2.1, fun q hq => by
    obtain ⟨v, h1, h2⟩ := am_asl_mem.mp hq
    rw [h2]
    exact h.2.2.2 _ _ h1⟩
theorem am_okp_cat {ls : am_L} {i j : Nat} {v : Value} (h : am_okp ls i = true) (hj : j + 1 = i) (hv : ls[j]? = some (some v)) : v.category = 1 := by
  subst hj
  simp only [am_okp, hv] at h
  exact beq_iff_eq.mp h
theorem am_LV.st1 {f : Nat → Nat} {ls : am_L} {nL : Nat} {arr arr' : Array Slot} {i : Nat} {v : Value} (h : am_LV f ls nL arr) (hp : am_okp ls i = true) (h' : lv_has arr' nL ((i, am_tv f v) :: (am_asl f ls).filter (fun q => !(q.1 == i) && !(q.1 + 1 == i && q.2.category == 2)))) : am_LV f (ls.set i (some v)) nL arr' := by
  refine ⟨h'.1, by rw [List.length_set]; exact h.2.1, h'.2.1, fun j w hw => ?_⟩
  rw [List.getElem?_set] at hw
  by_cases hj : i = j
  · subst hj
    rw [if_pos rfl] at hw
    split at hw
    · cases hw
      exact h'.2.2 (i, am_tv f v) List.mem_cons_self
    · cases hw
  · rw [if_neg hj] at hw
    refine h'.2.2 (j, am_tv f w) (List.mem_cons_of_mem _ (List.mem_filter.mpr ⟨am_asl_mem.mpr ⟨w, hw, rfl⟩, ?_⟩))
    have h1 : ¬ j = i := fun e => hj e.symm
    by_cases h2 : j + 1 = i
    · have := am_okp_cat hp h2 hw
      simp [h1, am_tv_cat, this]
    · simp [h1, h2]
theorem am_LV.st2 {f : Nat → Nat} {ls : am_L} {nL : Nat} {arr arr' : Array Slot} {i : Nat} {v : Value} (h : am_LV f ls nL arr) (hp : am_okp ls i = true) (h' : lv_has arr' nL ((i, am_tv f v) :: (am_asl f ls).filter (fun q => !(q.1 == i) && (!(q.1 == i + 1) && !(q.1 + 1 == i && q.2.category == 2))))) : am_LV f ((ls.set i (some v)).set (i + 1) none) nL arr' := by
  refine ⟨h'.1, by rw [List.length_set, List.length_set]; exact h.2.1, h'.2.1, fun j w hw => ?_⟩
  rw [List.getElem?_set] at hw
  by_cases hk : i + 1 = j
  · rw [if_pos hk] at hw
    split at hw <;> cases hw
  rw [if_neg hk, List.getElem?_set] at hw
  by_cases hj : i = j
  · subst hj
    rw [if_pos rfl] at hw
    split at hw
    · cases hw
      exact h'.2.2 (i, am_tv f v) List.mem_cons_self
    · cases hw
  · rw [if_neg hj] at hw
    refine h'.2.2 (j, am_tv f w) (List.mem_cons_of_mem _ (List.mem_filter.mpr ⟨am_asl_mem.mpr ⟨w, hw, rfl⟩, ?_⟩))
    have h1 : ¬ j = i := fun e => hj e.symm
    have h3 : ¬ j = i + 1 := fun e => hk e.symm
    by_cases h2 : j + 1 = i
    · have := am_okp_cat hp h2 hw
      simp [h1, h3, am_tv_cat, this]
    · simp [h1, h2, h3]
theorem am_place_cons (v : Value) (r : List Value) : am_place (v :: r) = if v.category = 2 then some v :: none :: am_place r else some v :: am_place r := rfl
theorem am_place_sl (f : Nat → Nat) : ∀ vs : List Value, (am_place vs).length = (lg_sl (vs.map (am_tv f))).length
  | [] => rfl
  | v :: r => by
    have ih := am_place_sl f r
    unfold lg_sl at ih ⊢
    rw [List.map_cons, List.flatMap_cons, List.length_append, ← ih, am_tv_cat, am_place_cons]
    by_cases h : v.category = 2
    · rw [if_pos h, if_pos h]; simp only [List.length_cons, List.length_nil]; omega
    · rw [if_neg h, if_neg h]; simp only [List.length_cons, List.length_nil]; omega
theorem am_place_at (f : Nat → Nat) : ∀ (vs : List Value) (k i : Nat) (v : Value), (am_place vs)[i]? = some (some v) → (k + i, am_tv f v) ∈ lv_args k (vs.map (am_tv f))
  | [], k, i, v, h => by simp [am_place] at h
  | w :: r, k, i, v, h => by
    unfold am_place at h
    rw [List.map_cons]
    unfold lv_args
    rw [am_tv_cat]
    by_cases hc : w.category = 2
    · rw [if_pos hc] at h ⊢
      match i, h with
      | 0, h => cases h; exact List.mem_cons_self
      | 1, h => simp at h
      | i + 2, h => exact List.mem_cons_of_mem _ (by rw [show k + (i + 2) = k + 2 + i by omega]; exact am_place_at f r (k + 2) i v h)
    · rw [if_neg hc] at h ⊢
      match i, h with
      | 0, h => cases h; exact List.mem_cons_self
      | i + 1, h => exact List.mem_cons_of_mem _ (by rw [show k + (i + 1) = k + 1 + i by omega]; exact am_place_at f r (k + 1) i v h)
theorem am_LV.entry (f : Nat → Nat) {vs : List Value} {ml : Nat} (h : (am_place vs).length ≤ ml) : am_LV f (am_args vs ml) ml ((lg_sl (vs.map (am_tv f)) ++ List.replicate (ml - (lg_sl (vs.map (am_tv f))).length) Slot.unset).toArray) := by
  have he := lv_entry (vs.map (am_tv f)) (n := ml) (by rw [← am_place_sl f]; exact h)
  refine ⟨he.1, by unfold am_args; rw [List.length_append, List.length_replicate]; omega, he.2.1, fun i v hi => ?_⟩
  unfold am_args at hi
  by_cases hl : i < (am_place vs).length
  · rw [List.getElem?_append_left hl] at hi
    have := am_place_at f vs 0 i v hi
    rw [Nat.zero_add] at this
    exact he.2.2 _ this
  · rw [List.getElem?_append_right (by omega), List.getElem?_replicate] at hi
    split at hi <;> cases hi
end
section
/-! Soundness of the list machine's single instructions -/
noncomputable def am_ez : am_E → Nat
  | .inl q => q.2.length
  | .inr (.inl q) => q.2.length
  | .inr (.inr q) => q.2.length
noncomputable def am_sz (mem : List am_E) : Nat := (mem.map am_ez).sum
theorem am_lsf_ok {o i f : Nat} (h : am_has4 am_lsf o i f = true) : (f = 2000 ∧ Cond.fieldLink (am_ownS o) i "java/lang/String" "value" "[B" ∈ am_big) ∨ (f = 2001 ∧ Cond.fieldLink (am_ownS o) i "java/lang/String" "coder" "B" ∈ am_big) := by
  obtain ⟨q, hq, he⟩ := List.any_eq_true.mp h
  simp only [Bool.and_eq_true, beq_iff_eq] at he
  obtain ⟨⟨rfl, rfl⟩, rfl⟩ := he
  unfold am_lsf at hq
  rcases List.mem_cons.mp hq with rfl | hq
  · exact Or.inr ⟨rfl, by decide +kernel⟩
  rcases List.mem_cons.mp hq with rfl | hq
  · exact Or.inl ⟨rfl, by decide +kernel⟩
  · cases hq
theorem am_lt_c : (am_lt.all fun q => am_wq q.2.2.2 (.fieldLink (am_ownS q.1) q.2.1 (am_stn q.2.2.1).1 (am_stn q.2.2.1).2.1 (am_stn q.2.2.1).2.2)) = true := by decide +kernel
theorem am_lt_ok {o i f : Nat} (h : am_has4 am_lt o i f = true) : Cond.fieldLink (am_ownS o) i (am_stn f).1 (am_stn f).2.1 (am_stn f).2.2 ∈ am_big := by
  obtain ⟨q, hq, he⟩ := List.any_eq_true.mp h
  simp only [Bool.and_eq_true, beq_iff_eq] at he
  obtain ⟨⟨rfl, rfl⟩, rfl⟩ := he
  exact am_wq_ok (List.all_eq_true.mp am_lt_c q hq)
section AMS
variable {p : Program} {l : Launch} {e : Env} {R : Room} {s : State} {m : MethodId} {args : Array Value} {below : List Frame} {meth : Method} {c : Code} {H : Heap} {locs : List Loc} {cells slots : Nat} {Q : State → Prop}
theorem am_sopW {cc : ByteArray} {pc : Nat} {ls : Array Slot} (hx : p.tables.exec = Jvm.exec) (hb : c.code = cc) {op : Instr} {st st' : List Value} (h : am_sop op st = some st') (hdg : decode cc pc = .ok (op, 1)) (f : Nat → Nat)
    (kk : W p l e R s m args below meth c H locs cells slots Q (F0 m (pc + 1) ls (st'.map (am_tv f)))) : W p l e R s m args below meth c H locs cells slots Q (F0 m pc ls (st.map (am_tv f))) := by
  cases op with
  | iadd =>
    simp only [am_sop] at h
    split at h
    · (injection h with h; subst h; exact lv_iadd hx hb hdg kk)
    · cases h
  | isub =>
    simp only [am_sop] at h
    split at h
    · (injection h with h; subst h; exact lv_isub hx hb hdg kk)
    · cases h
  | imul =>
    simp only [am_sop] at h
    split at h
    · (injection h with h; subst h; exact lv_imul hx hb hdg kk)
    · cases h
  | iand =>
    simp only [am_sop] at h
    split at h
    · (injection h with h; subst h; exact lv_iand hx hb hdg kk)
    · cases h
  | ior =>
    simp only [am_sop] at h
    split at h
    · (injection h with h; subst h; exact lv_ior hx hb hdg kk)
    · cases h
  | ixor =>
    simp only [am_sop] at h
    split at h
    · (injection h with h; subst h; exact lv_ixor hx hb hdg kk)
    · cases h
  | ishl =>
    simp only [am_sop] at h
    split at h
    · (injection h with h; subst h; exact lv_ishl hx hb hdg kk)
    · cases h
  | ishr =>
    simp only [am_sop] at h
    split at h
    · (injection h with h; subst h; exact lv_ishr hx hb hdg kk)
    · cases h
  | iushr =>
    simp only [am_sop] at h
    split at h
    · (injection h with h; subst h; exact lv_iushr hx hb hdg rfl kk)
    · cases h
  | ineg =>
    simp only [am_sop] at h
    split at h
    · (injection h with h; subst h; exact lv_ineg hx hb hdg kk)
    · cases h
  | i2l =>
    simp only [am_sop] at h
    split at h
    · (injection h with h; subst h; exact lv_i2l hx hb hdg rfl kk)
    · cases h
  | i2b =>
    simp only [am_sop] at h
    split at h
    · (injection h with h; subst h; exact lv_i2b hx hb hdg rfl kk)
    · cases h
  | i2s =>
    simp only [am_sop] at h
    split at h
    · (injection h with h; subst h; exact lv_i2s hx hb hdg rfl kk)
    · cases h
  | i2c =>
    simp only [am_sop] at h
    split at h
    · (injection h with h; subst h; exact lv_i2c hx hb hdg rfl kk)
    · cases h
  | ladd =>
    simp only [am_sop] at h
    split at h
    · (injection h with h; subst h; exact lv_ladd hx hb hdg kk)
    · cases h
  | lmul =>
    simp only [am_sop] at h
    split at h
    · (injection h with h; subst h; exact lv_lmul hx hb hdg kk)
    · cases h
  | lcmp =>
    simp only [am_sop] at h
    split at h
    · (injection h with h; subst h; exact W.lcmp hx hb hdg kk)
    · cases h
  | idiv =>
    simp only [am_sop] at h
    split at h
    · split at h
      · cases h
      · rename_i hne
        injection h with h; subst h; exact lv_idiv hx hb hdg hne kk
    · cases h
  | irem =>
    simp only [am_sop] at h
    split at h
    · split at h
      · cases h
      · rename_i hne
        injection h with h; subst h; exact lv_irem hx hb hdg hne kk
    · cases h
  | ldiv =>
    simp only [am_sop] at h
    split at h
    · split at h
      · cases h
      · rename_i hne
        injection h with h; subst h; exact lv_ldiv hx hb hdg hne kk
    · cases h
  | lrem =>
    simp only [am_sop] at h
    split at h
    · split at h
      · cases h
      · rename_i hne
        injection h with h; subst h; exact lv_lrem hx hb hdg hne kk
    · cases h
  | dup =>
    simp only [am_sop] at h
    split at h
    · split at h
      · rename_i hc
        injection h with h; subst h; exact lv_dup hx hb hdg (by rw [am_tv_cat]; exact hc) kk
      · cases h
    · cases h
  | dup2 =>
    simp only [am_sop] at h
    split at h
    · split at h
      · rename_i hc
        injection h with h; subst h; exact lv_dup2_11 hx hb hdg (by rw [am_tv_cat]; exact hc.1) (by rw [am_tv_cat]; exact hc.2) kk
      · cases h
    · cases h
  | pop =>
    simp only [am_sop] at h
    split at h
    · split at h
      · rename_i hc
        injection h with h; subst h; exact lv_pop hx hb hdg (by rw [am_tv_cat]; exact hc) kk
      · cases h
    · cases h
  | pop2 =>
    simp only [am_sop] at h
    split at h
    · split at h
      · rename_i hc
        injection h with h; subst h; exact lv_pop2_2 hx hb hdg (by rw [am_tv_cat]; exact hc) kk
      · cases h
    · cases h
  | _ => simp [am_sop] at h
end AMS
end
section
/-! A walk's ground at the list machine's state; instructions that leave the cells as they are -/
noncomputable def am_Cx (B : Nat) (ka : Nat → Nat) (D : va_G) (cst : List am_E) (mid n0 : Nat) (p : Program) (s : State) (m : MethodId) (args : Array Value) (meth : Method) (c : Code) : Prop :=
  p.tables.exec = Jvm.exec ∧ c.code = am_bytes mid ∧ c.maxLocals = (am_mq mid).2.1 ∧ s.vm.findClass (am_ownS (am_on.getD mid 0)) = some m.cls ∧ (∀ w ∈ am_big, w.before args s = true) ∧ am_KC D s ∧ am_CO B ka cst s s.heap ∧ s.heap.size = B + n0 ∧ ((am_infq mid).1.name = "<init>" → meth.name = "<init>") ∧ am_NW s
noncomputable def am_St (B : Nat) (ka : Nat → Nat) (D : va_G) (s : State) (mem : List am_E) (H : Heap) (locs : List Loc) : Prop :=
  ∃ cA : Nat → ClassId, va_P D am_cl (am_ws B ka cA mem) H ∧ am_WK cA mem s ∧ va_S (am_A B) s.heap H locs
noncomputable def am_G (B : Nat) (ka : Nat → Nat) (D : va_G) (mid n0 z0 : Nat) (p : Program) (l : Launch) (e : Env) (R : Room) (s : State) (m : MethodId) (args : Array Value) (below : List Frame) (meth : Method) (c : Code) (Q : State → Prop) (i : Nat) (ls : am_L) (st : List Value) (mem : List am_E) : Prop :=
  ∀ (lsA : Array Slot) (H : Heap) (locs : List Loc), am_LV (am_phi B ka) ls (am_mq mid).2.1 lsA → am_St B ka D s mem H locs → W p l e R s m args below meth c H locs (mem.length - n0) (am_sz mem - z0) Q (F0 m ((am_pcs mid).getD i 0) lsA (st.map (am_tv (am_phi B ka))))
theorem am_nx_ok {pcs : List Nat} {i pc len : Nat} (h : am_nx pcs i pc len = true) : pcs.getD (i + 1) 0 = pc + len := by
  rw [am_nx, beq_iff_eq] at h
  rw [List.getD_eq_getElem?_getD, h]
  rfl
theorem am_tg_ok {pcs : List Nat} {pc : Nat} {t off : Int} (h : am_tg pcs pc t off = true) : (pc : Int) + off = (pcs.getD t.toNat 0 : Nat) := by
  unfold am_tg at h
  split at h
  · rename_i q hq
    rw [List.getD_eq_getElem?_getD, hq]
    exact of_decide_eq_true h
  · cases h
theorem am_phi_lo {B : Nat} {ka : Nat → Nat} {k : Nat} (h : k < 1000) : am_phi B ka k = B + k := if_pos h
theorem am_phi_hi {B : Nat} {ka : Nat → Nat} {k : Nat} (h : ¬ k < 1000) : am_phi B ka k = ka (k - 1000) := if_neg h
theorem am_inb_ok {i : Int32} {n : Nat} (h : am_inb i n = true) : vp_in i n := by
  simp only [am_inb, Bool.and_eq_true, Bool.not_eq_true', decide_eq_false_iff_not, decide_eq_true_eq] at h
  intro q
  rcases q with q | q
  · exact h.1 q
  · omega
theorem am_inb_lt {i : Int32} {n : Nat} (h : am_inb i n = true) : i.toNatClampNeg < n := by
  simp only [am_inb, Bool.and_eq_true, decide_eq_true_eq] at h
  exact h.2
section AMS
variable {p : Program} {l : Launch} {e : Env} {R : Room} {s : State} {m : MethodId} {args : Array Value} {below : List Frame} {meth : Method} {c : Code} {Q : State → Prop} {B : Nat} {ka : Nat → Nat} {D : va_G} {cst : List am_E} {mid n0 z0 : Nat}
theorem am_ifW {cc : ByteArray} {pc : Nat} {ls : Array Slot} {rest : List Value} {H : Heap} {locs : List Loc} {cells slots : Nat} (hx : p.tables.exec = Jvm.exec) (hb : c.code = cc) {cd : Jvm.ClassFile.Cond} {x : Int32} {off : Int} {tgt : Nat} (hdg : decode cc pc = .ok (.ifCond cd off, 3)) (ht : (pc : Int) + off = (tgt : Int))
    (kt : am_cmp cd x 0 = true → W p l e R s m args below meth c H locs cells slots Q (F0 m tgt ls rest)) (kf : ¬ am_cmp cd x 0 = true → W p l e R s m args below meth c H locs cells slots Q (F0 m (pc + 3) ls rest)) : W p l e R s m args below meth c H locs cells slots Q (F0 m pc ls (.int x :: rest)) := by
  cases cd with
  | eq => exact lv_if_eq hx hb hdg ht (fun h => kt (by simp [am_cmp, h])) (fun h => kf (by simp [am_cmp, h]))
  | ne => exact lv_if_ne hx hb hdg ht (fun h => kt (by simp [am_cmp, h])) (fun h => kf (by simp [am_cmp, h]))
  | lt => exact lv_if_lt hx hb hdg ht (fun h => kt (by simp only [am_cmp, decide_eq_true_eq]; exact h)) (fun h => kf (by simp only [am_cmp, decide_eq_true_eq]; exact h))
  | ge => exact lv_if_ge hx hb hdg ht (fun h => kt (by simp only [am_cmp, decide_eq_true_eq]; exact h)) (fun h => kf (by simp only [am_cmp, decide_eq_true_eq]; exact h))
  | gt => exact lv_if_gt hx hb hdg ht (fun h => kt (by simp only [am_cmp, decide_eq_true_eq]; exact h)) (fun h => kf (by simp only [am_cmp, decide_eq_true_eq]; exact h))
  | le => exact lv_if_le hx hb hdg ht (fun h => kt (by simp only [am_cmp, decide_eq_true_eq]; exact h)) (fun h => kf (by simp only [am_cmp, decide_eq_true_eq]; exact h))
theorem am_icW {cc : ByteArray} {pc : Nat} {ls : Array Slot} {rest : List Value} {H : Heap} {locs : List Loc} {cells slots : Nat} (hx : p.tables.exec = Jvm.exec) (hb : c.code = cc) {cd : Jvm.ClassFile.Cond} {x y : Int32} {off : Int} {tgt : Nat} (hdg : decode cc pc = .ok (.if_icmp cd off, 3)) (ht : (pc : Int) + off = (tgt : Int))
    (kt : am_cmp cd x y = true → W p l e R s m args below meth c H locs cells slots Q (F0 m tgt ls rest)) (kf : ¬ am_cmp cd x y = true → W p l e R s m args below meth c H locs cells slots Q (F0 m (pc + 3) ls rest)) : W p l e R s m args below meth c H locs cells slots Q (F0 m pc ls (.int y :: .int x :: rest)) := by
  cases cd with
  | eq => exact lv_icmp_eq hx hb hdg ht (fun h => kt (by simp [am_cmp, h])) (fun h => kf (by simp [am_cmp, h]))
  | ne => exact lv_icmp_ne hx hb hdg ht (fun h => kt (by simp [am_cmp, h])) (fun h => kf (by simp [am_cmp, h]))
  | lt => exact lv_icmp_lt hx hb hdg ht (fun h => kt (by simp only [am_cmp, decide_eq_true_eq]; exact h)) (fun h => kf (by simp only [am_cmp, decide_eq_true_eq]; exact h))
  | ge => exact lv_icmp_ge hx hb hdg ht (fun h => kt (by simp only [am_cmp, decide_eq_true_eq]; exact h)) (fun h => kf (by simp only [am_cmp, decide_eq_true_eq]; exact h))
  | gt => exact lv_icmp_gt hx hb hdg ht (fun h => kt (by simp only [am_cmp, decide_eq_true_eq]; exact h)) (fun h => kf (by simp only [am_cmp, decide_eq_true_eq]; exact h))
  | le => exact lv_icmp_le hx hb hdg ht (fun h => kt (by simp only [am_cmp, decide_eq_true_eq]; exact h)) (fun h => kf (by simp only [am_cmp, decide_eq_true_eq]; exact h))
theorem am_tgs_ok {pcs : List Nat} {pc : Nat} : ∀ {ts os : List Int}, am_tgs pcs pc ts os = true → ∀ {k : Nat} {t : Int}, ts[k]? = some t → ∃ off, os[k]? = some off ∧ am_tg pcs pc t off = true
  | [], [], _, k, t, h => by simp at h
  | a :: r, b :: q, h, k, t, hk => by
    simp only [am_tgs, Bool.and_eq_true] at h
    match k, hk with
    | 0, hk => cases hk; exact ⟨b, rfl, h.1⟩
    | k + 1, hk => exact am_tgs_ok h.2 hk
  | [], _ :: _, h, _, _, _ => by cases h
  | _ :: _, [], h, _, _, _ => by cases h
theorem am_tgp_ok {pcs : List Nat} {pc : Nat} {d d' : Int} (hd : am_tg pcs pc d d' = true) (x : Int) : ∀ {ps os : List (Int × Int)}, am_tgp pcs pc ps os = true → am_tg pcs pc (am_lks ps d x) (Op.lookupswitch.offset os d' x) = true
  | [], [], _ => hd
  | (a, t) :: r, (b, o) :: q, h => by
    simp only [am_tgp, Bool.and_eq_true, decide_eq_true_eq] at h
    obtain ⟨⟨h1, h2⟩, h3⟩ := h
    subst h1
    have ih := am_tgp_ok hd x h3
    unfold am_lks
    by_cases hx : x = a
    · subst hx
      rw [if_pos rfl]
      simpa [Op.lookupswitch.offset] using h2
    · rw [if_neg hx]
      have e : Op.lookupswitch.offset ((a, o) :: q) d' x = Op.lookupswitch.offset q d' x := by
        have : ¬ a = x := fun h => hx h.symm
        simp [Op.lookupswitch.offset, this]
      rw [e]
      exact ih
  | [], _ :: _, h => by cases h
  | _ :: _, [], h => by cases h
set_option maxHeartbeats 4000000 in
/-- constants, locals, jumps, stack -/
theorem am_stepA (C : am_Cx B ka D cst mid n0 p s m args meth c) {i pc len rt : Nat} {op raw : Instr} {ls ls' : am_L} {st st' : List Value} {mem : List am_E} {j : Option Nat} (hpc : (am_pcs mid).getD i 0 = pc)
    (hdec : decode (am_bytes mid) pc = .ok (raw, len)) (hchk : am_chk (am_on.getD mid 0) rt (am_pcs mid) i op raw pc len = true)
    (hA : match op with | .bipush _ | .sipush _ | .ldc _ | .getstatic _ | .iload _ | .lload _ | .aload _ | .istore _ | .lstore _ | .astore _ | .iinc _ _ | .ifCond _ _ | .if_icmp _ _ | .goto _ | .tableswitch _ _ _ _ | .lookupswitch _ _ => True | o => am_isS o = true)
    {mem' : List am_E} (h : am_step am_ft cst op ls st mem = some (j, ls', st', mem')) (kk : am_G B ka D mid n0 z0 p l e R s m args below meth c Q (j.getD (i + 1)) ls' st' mem') : am_G B ka D mid n0 z0 p l e R s m args below meth c Q i ls st mem := by
  intro lsA H locs hl hSt
  obtain ⟨hx, hb, hml, hown, hts, hKC, hCO, hsz, hnm, -⟩ := C
  rw [hpc]
  cases op with
  | bipush n =>
    simp only [am_step, Option.some.injEq, Prod.mk.injEq] at h
    obtain ⟨rfl, rfl, rfl, rfl⟩ := h
    simp only [am_chk, Bool.and_eq_true] at hchk
    obtain ⟨hn, hr⟩ := hchk
    have kk := kk lsA H locs hl hSt
    rw [Option.getD_none, am_nx_ok hn] at kk
    split at hr
    · rename_i n; simp only [Bool.and_eq_true, beq_iff_eq, decide_eq_true_eq] at hr; obtain ⟨rfl, hr⟩ := hr; exact lv_iconst hx hb hdec hr kk
    · rename_i n; simp only [Bool.and_eq_true, beq_iff_eq, decide_eq_true_eq] at hr; obtain ⟨rfl, hr⟩ := hr; exact lv_bipush hx hb hdec hr kk
    · rename_i n; simp only [Bool.and_eq_true, beq_iff_eq, decide_eq_true_eq] at hr; obtain ⟨rfl, hr⟩ := hr; exact lv_sipush hx hb hdec hr kk
    · rename_i k; simp only [Bool.and_eq_true, beq_iff_eq] at hr; obtain ⟨rfl, hr⟩ := hr; exact lv_ldc hx hb hown (hts _ (am_lc_ok hr)) hdec kk
    · rename_i k; simp only [Bool.and_eq_true, beq_iff_eq] at hr; obtain ⟨rfl, hr⟩ := hr; exact lv_ldcw hx hb hown (hts _ (am_lc_ok hr)) hdec kk
    · cases hr
  | sipush n =>
    simp only [am_step, Option.some.injEq, Prod.mk.injEq] at h
    obtain ⟨rfl, rfl, rfl, rfl⟩ := h
    simp only [am_chk, Bool.and_eq_true] at hchk
    obtain ⟨hn, hr⟩ := hchk
    have kk := kk lsA H locs hl hSt
    rw [Option.getD_none, am_nx_ok hn] at kk
    split at hr
    · rename_i n; simp only [Bool.and_eq_true, beq_iff_eq, decide_eq_true_eq] at hr; obtain ⟨rfl, hr⟩ := hr; exact lv_lconst hx hb hdec hr kk
    · rename_i k; simp only [Bool.and_eq_true, beq_iff_eq] at hr; obtain ⟨rfl, hr⟩ := hr; exact lv_ldc2 hx hb hown (hts _ (am_ll_ok hr)) hdec kk
    · cases hr
  | ldc q =>
    simp only [am_step, Option.some.injEq, Prod.mk.injEq] at h
    obtain ⟨rfl, rfl, rfl, rfl⟩ := h
    simp only [am_chk, Bool.and_eq_true] at hchk
    obtain ⟨hn, hr⟩ := hchk
    have kk := kk lsA H locs hl hSt
    rw [Option.getD_none, am_nx_ok hn] at kk
    split at hr
    · rename_i k
      simp only [Bool.and_eq_true, beq_iff_eq] at hr
      obtain ⟨rfl, hr⟩ := hr
      obtain ⟨y, hy, he⟩ := List.any_eq_true.mp hr
      simp only [Bool.and_eq_true, beq_iff_eq] at he
      obtain ⟨⟨e1, rfl⟩, rfl⟩ := he
      exact va_ldcS hx hb hown (e1 ▸ hCO.2.2.2.1 y hy) hdec kk
    · cases hr
  | getstatic q =>
    simp only [am_step] at h
    split at h
    · rename_i v hv
      simp only [Option.some.injEq, Prod.mk.injEq] at h
      obtain ⟨rfl, rfl, rfl, rfl⟩ := h
      simp only [am_chk, Bool.and_eq_true] at hchk
      obtain ⟨hn, hr⟩ := hchk
      have kk := kk lsA H locs hl hSt
      rw [Option.getD_none, am_nx_ok hn] at kk
      obtain ⟨cA, hP, hWK, hS⟩ := hSt
      split at hr
      · rename_i k
        simp only [Bool.and_eq_true, beq_iff_eq] at hr
        obtain ⟨rfl, hr⟩ := hr
        exact va_gets hx hb (hCO.2.2.1 q v hv) hS hown (hts _ (am_lt_ok hr)) (fun x h => h) hdec kk
      · cases hr
    · cases h
  | iload q =>
    simp only [am_step] at h
    split at h
    · rename_i v hv
      simp only [Option.some.injEq, Prod.mk.injEq] at h
      obtain ⟨rfl, rfl, rfl, rfl⟩ := h
      simp only [am_chk, Bool.and_eq_true] at hchk
      obtain ⟨hn, hr⟩ := hchk
      have kk := kk lsA H locs hl hSt
      rw [Option.getD_none, am_nx_ok hn] at kk
      have hv' := hl.2.2.2 _ _ hv
      split at hr
      · rename_i k; simp only [Bool.and_eq_true, beq_iff_eq] at hr; obtain ⟨rfl, hr⟩ := hr; exact lv_iload_n hx hb hdec hr hv' kk
      · rename_i k; simp only [Bool.and_eq_true, beq_iff_eq] at hr; obtain ⟨rfl, rfl⟩ := hr; exact lv_iload hx hb hdec hv' kk
      · cases hr
    · cases h
  | lload q =>
    simp only [am_step] at h
    split at h
    · rename_i v hv
      simp only [Option.some.injEq, Prod.mk.injEq] at h
      obtain ⟨rfl, rfl, rfl, rfl⟩ := h
      simp only [am_chk, Bool.and_eq_true] at hchk
      obtain ⟨hn, hr⟩ := hchk
      have kk := kk lsA H locs hl hSt
      rw [Option.getD_none, am_nx_ok hn] at kk
      have hv' := hl.2.2.2 _ _ hv
      split at hr
      · rename_i k; simp only [Bool.and_eq_true, beq_iff_eq] at hr; obtain ⟨rfl, hr⟩ := hr; exact lv_lload_n hx hb hdec hr hv' kk
      · rename_i k; simp only [Bool.and_eq_true, beq_iff_eq] at hr; obtain ⟨rfl, rfl⟩ := hr; exact lv_lload hx hb hdec hv' kk
      · cases hr
    · cases h
  | aload q =>
    simp only [am_step] at h
    split at h
    · rename_i v hv
      simp only [Option.some.injEq, Prod.mk.injEq] at h
      obtain ⟨rfl, rfl, rfl, rfl⟩ := h
      simp only [am_chk, Bool.and_eq_true] at hchk
      obtain ⟨hn, hr⟩ := hchk
      have kk := kk lsA H locs hl hSt
      rw [Option.getD_none, am_nx_ok hn] at kk
      have hv' := hl.2.2.2 _ _ hv
      split at hr
      · rename_i k; simp only [Bool.and_eq_true, beq_iff_eq] at hr; obtain ⟨rfl, hr⟩ := hr; exact lv_aload_n hx hb hdec hr hv' kk
      · rename_i k; simp only [Bool.and_eq_true, beq_iff_eq] at hr; obtain ⟨rfl, rfl⟩ := hr; exact lv_aload hx hb hdec hv' kk
      · cases hr
    · cases h
  | istore q =>
    simp only [am_step] at h
    split at h
    · rename_i v r
      split at h
      · rename_i hq
        simp only [Option.some.injEq, Prod.mk.injEq] at h
        obtain ⟨rfl, rfl, rfl, rfl⟩ := h
        simp only [am_chk, Bool.and_eq_true] at hchk
        obtain ⟨hn, hr⟩ := hchk
        have hlt : q < (am_mq mid).2.1 := by have := hl.2.1; omega
        have kk := fun (lsB : Array Slot) (hB : lv_has lsB (am_mq mid).2.1 _) => kk lsB H locs (hl.st1 (v := .int v) hq.2 hB) hSt
        rw [Option.getD_none, am_nx_ok hn] at kk
        split at hr
        · rename_i k; simp only [Bool.and_eq_true, beq_iff_eq] at hr; obtain ⟨rfl, hr⟩ := hr; exact lv_istore_n hx hb hdec hr hl.has hlt rfl kk
        · rename_i k; simp only [Bool.and_eq_true, beq_iff_eq] at hr; obtain ⟨rfl, rfl⟩ := hr; exact lv_istore hx hb hdec hl.has hlt rfl kk
        · cases hr
      · cases h
    · cases h
  | astore q =>
    simp only [am_step] at h
    split at h
    · rename_i v r
      split at h
      · rename_i hq
        simp only [Option.some.injEq, Prod.mk.injEq] at h
        obtain ⟨rfl, rfl, rfl, rfl⟩ := h
        simp only [am_chk, Bool.and_eq_true] at hchk
        obtain ⟨hn, hr⟩ := hchk
        have hlt : q < (am_mq mid).2.1 := by have := hl.2.1; omega
        have kk := fun (lsB : Array Slot) (hB : lv_has lsB (am_mq mid).2.1 _) => kk lsB H locs (hl.st1 (v := .ref v) hq.2 hB) hSt
        rw [Option.getD_none, am_nx_ok hn] at kk
        split at hr
        · rename_i k; simp only [Bool.and_eq_true, beq_iff_eq] at hr; obtain ⟨rfl, hr⟩ := hr; exact lv_astore_n hx hb hdec hr hl.has hlt rfl kk
        · rename_i k; simp only [Bool.and_eq_true, beq_iff_eq] at hr; obtain ⟨rfl, rfl⟩ := hr; exact lv_astore hx hb hdec hl.has hlt rfl kk
        · cases hr
      · cases h
    · cases h
  | lstore q =>
    simp only [am_step] at h
    split at h
    · rename_i v r
      split at h
      · rename_i hq
        simp only [Option.some.injEq, Prod.mk.injEq] at h
        obtain ⟨rfl, rfl, rfl, rfl⟩ := h
        simp only [am_chk, Bool.and_eq_true] at hchk
        obtain ⟨hn, hr⟩ := hchk
        have hlt : q + 1 < (am_mq mid).2.1 := by have := hl.2.1; omega
        have kk := fun (lsB : Array Slot) (hB : lv_has lsB (am_mq mid).2.1 _) => kk lsB H locs (hl.st2 (v := .long v) hq.2 hB) hSt
        rw [Option.getD_none, am_nx_ok hn] at kk
        split at hr
        · rename_i k; simp only [Bool.and_eq_true, beq_iff_eq] at hr; obtain ⟨rfl, hr⟩ := hr; exact lv_lstore_n hx hb hdec hr hl.has hlt rfl kk
        · rename_i k; simp only [Bool.and_eq_true, beq_iff_eq] at hr; obtain ⟨rfl, rfl⟩ := hr; exact lv_lstore hx hb hdec hl.has hlt rfl kk
        · cases hr
      · cases h
    · cases h
  | iinc q n =>
    simp only [am_step] at h
    split at h
    · rename_i v hv
      split at h
      · rename_i hq
        simp only [Option.some.injEq, Prod.mk.injEq] at h
        obtain ⟨rfl, rfl, rfl, rfl⟩ := h
        simp only [am_chk, Bool.and_eq_true] at hchk
        obtain ⟨hn, hr⟩ := hchk
        have hlt : q < (am_mq mid).2.1 := by have := hl.2.1; have := (List.getElem?_eq_some_iff.mp hv).1; omega
        have kk := fun (lsB : Array Slot) (hB : lv_has lsB (am_mq mid).2.1 _) => kk lsB H locs (hl.st1 (v := .int (v + Int32.ofInt n)) hq hB) hSt
        rw [Option.getD_none, am_nx_ok hn] at kk
        split at hr
        · rename_i k n'
          simp only [Bool.and_eq_true, beq_iff_eq, decide_eq_true_eq] at hr
          obtain ⟨⟨rfl, rfl⟩, rfl⟩ := hr
          obtain ⟨t, ht⟩ := List.getElem?_of_mem ((am_asl_mem (f := am_phi B ka) (q := (k, .int v))).mpr ⟨.int v, hv, rfl⟩)
          exact lv_iinc hx hb hdec hl.has ht rfl hlt rfl kk
        · cases hr
      · cases h
    · cases h
  | ifCond cd t =>
    simp only [am_step] at h
    split at h
    · rename_i x r
      simp only [Option.some.injEq, Prod.mk.injEq] at h
      obtain ⟨rfl, rfl, rfl, rfl⟩ := h
      simp only [am_chk, Bool.and_eq_true] at hchk
      obtain ⟨hn, hr⟩ := hchk
      have kk := kk lsA H locs hl hSt
      split at hr
      · rename_i cd' off
        simp only [Bool.and_eq_true, beq_iff_eq, decide_eq_true_eq] at hr
        obtain ⟨⟨rfl, rfl⟩, hr⟩ := hr
        refine am_ifW hx hb hdec (am_tg_ok hr) (fun hc => ?_) (fun hc => ?_)
        · rw [if_pos hc] at kk
          exact kk
        · rw [if_neg hc, Option.getD_none, am_nx_ok hn] at kk
          exact kk
      · cases hr
    · cases h
  | if_icmp cd t =>
    simp only [am_step] at h
    split at h
    · rename_i y x r
      simp only [Option.some.injEq, Prod.mk.injEq] at h
      obtain ⟨rfl, rfl, rfl, rfl⟩ := h
      simp only [am_chk, Bool.and_eq_true] at hchk
      obtain ⟨hn, hr⟩ := hchk
      have kk := kk lsA H locs hl hSt
      split at hr
      · rename_i cd' off
        simp only [Bool.and_eq_true, beq_iff_eq, decide_eq_true_eq] at hr
        obtain ⟨⟨rfl, rfl⟩, hr⟩ := hr
        refine am_icW hx hb hdec (am_tg_ok hr) (fun hc => ?_) (fun hc => ?_)
        · rw [if_pos hc] at kk
          exact kk
        · rw [if_neg hc, Option.getD_none, am_nx_ok hn] at kk
          exact kk
      · cases hr
    · cases h
  | goto t =>
    simp only [am_step, Option.some.injEq, Prod.mk.injEq] at h
    obtain ⟨rfl, rfl, rfl, rfl⟩ := h
    simp only [am_chk] at hchk
    have kk := kk lsA H locs hl hSt
    split at hchk
    · rename_i off
      simp only [Bool.and_eq_true, beq_iff_eq] at hchk
      obtain ⟨rfl, hr⟩ := hchk
      exact lv_goto hx hb hdec (am_tg_ok hr) kk
    · cases hchk
  | tableswitch d lo hi ts =>
    simp only [am_step] at h
    split at h
    · rename_i x r
      simp only [am_chk] at hchk
      split at hchk
      · rename_i d' lo' hi' os
        simp only [Bool.and_eq_true, decide_eq_true_eq] at hchk
        obtain ⟨⟨⟨rfl, rfl⟩, hd⟩, ho⟩ := hchk
        split at h
        · rename_i hc
          simp only [Option.some.injEq, Prod.mk.injEq] at h
          obtain ⟨rfl, rfl, rfl, rfl⟩ := h
          have kk := kk lsA H locs hl hSt
          exact lv_tableOut hx hb hdec hc (am_tg_ok hd) kk
        · rename_i hc
          split at h
          · rename_i t ht
            simp only [Option.some.injEq, Prod.mk.injEq] at h
            obtain ⟨rfl, rfl, rfl, rfl⟩ := h
            have kk := kk lsA H locs hl hSt
            obtain ⟨off, h1, h2⟩ := am_tgs_ok ho (k := (x.toInt - lo').toNat) (t := t) (by rw [Array.getElem?_toList]; exact ht)
            exact lv_tableIn hx hb hdec (fun q => hc (Or.inl q)) (fun q => hc (Or.inr q)) (by rw [Array.getElem?_toList] at h1; exact h1) (am_tg_ok h2) kk
          · cases h
      · cases hchk
    · cases h
  | lookupswitch d ps =>
    simp only [am_step] at h
    split at h
    · rename_i x r
      simp only [Option.some.injEq, Prod.mk.injEq] at h
      obtain ⟨rfl, rfl, rfl, rfl⟩ := h
      simp only [am_chk] at hchk
      have kk := kk lsA H locs hl hSt
      split at hchk
      · rename_i d' os
        simp only [Bool.and_eq_true] at hchk
        obtain ⟨⟨hd, ho⟩, hs⟩ := hchk
        exact lv_lookup hx hb hdec hs rfl (am_tg_ok (am_tgp_ok hd x.toInt ho)) kk
      · cases hchk
    · cases h
  | _ =>
    first
    | (exfalso; revert hA; simp [am_isS]; done)
    | (simp only [am_step] at h
       obtain ⟨st2, h1, h2⟩ := Option.map_eq_some_iff.mp h
       simp only [Prod.mk.injEq] at h2
       obtain ⟨rfl, rfl, rfl, rfl⟩ := h2
       simp only [am_chk, am_isS, Bool.and_true, Bool.and_eq_true, decide_eq_true_eq, beq_iff_eq] at hchk
       obtain ⟨⟨hn, rfl⟩, rfl⟩ := hchk
       have kk := kk lsA H locs hl hSt
       rw [Option.getD_none, am_nx_ok hn] at kk
       exact am_sopW hx hb h1 hdec _ kk)
end AMS
end
section
/-! Instructions that read or write cells -/
theorem am_set_upd {xs : List Int32} {k : Nat} (h : k < xs.length) (x : Int32) : (fun j => (xs.set k x).getD j 0) = upd (fun j => xs.getD j 0) k x := by
  funext j
  unfold upd
  rw [List.getD_eq_getElem?_getD, List.getElem?_set]
  by_cases e : k = j
  · subst e
    simp [h]
  · have : ¬ j = k := fun q => e q.symm
    simp [e, this]
theorem am_nar_byte (x : Int32) : vp_nar .byte x = am_nar 1 x := vp_nar_byte x
theorem am_nar_bool (x : Int32) (t : Nat) : vp_nar .boolean x = am_nar (t + 2) x := rfl
section AMS
variable {p : Program} {l : Launch} {e : Env} {R : Room} {s : State} {m : MethodId} {args : Array Value} {below : List Frame} {meth : Method} {c : Code} {Q : State → Prop} {B : Nat} {ka : Nat → Nat} {D : va_G} {cst : List am_E} {mid n0 z0 : Nat}
theorem am_cq_get {ci : Nat} (h : ci < 10) : (∀ w ∈ u_ws (am_clq ci).1 (am_clq ci).2.1 (am_clq ci).2.2, w ∈ am_big) ∧
    (∀ k, k < (am_clq ci).2.2 → ∃ ty fin v, (am_ft ci)[k]? = some (ty, fin, v) ∧ parseFieldDescriptor ((am_clq ci).2.1 k).2.2.1 = some ty ∧ ((am_clq ci).2.1 k).2.2.2 = fin ∧ defaultValue ty = v) ∧ (am_ft ci).length = (am_clq ci).2.2 ∧
    (∀ a, a < (am_clq ci).2.2 → ∀ b, b < (am_clq ci).2.2 → a ≠ b → ((am_clq ci).2.1 a).2.1 ≠ ((am_clq ci).2.1 b).2.1) ∧ Cond.instantiable (am_clq ci).1 (am_clq ci).2.2 ∈ am_big ∧ Cond.initialized (am_clq ci).1 ∈ am_big := by
  have hq := am_cq_all h
  simp only [am_cq, Bool.and_eq_true, decide_eq_true_eq] at hq
  obtain ⟨⟨⟨⟨⟨h1, h2⟩, h3⟩, h4⟩, h5⟩, h6⟩ := hq
  refine ⟨fun w hw => ?_, fun k hk => ?_, h3, fun a ha b hb hab => ?_, am_wq_ok h5, am_wq_ok h6⟩
  · obtain ⟨k, hk, rfl⟩ := List.mem_map.mp hw
    exact am_wq_ok (List.all_eq_true.mp h1 k hk)
  · have := List.all_eq_true.mp h2 k (List.mem_range.mpr hk)
    cases hf : (am_ft ci)[k]? with
    | none => rw [hf] at this; cases this
    | some q =>
      rw [hf] at this
      simp only [Bool.and_eq_true, decide_eq_true_eq] at this
      exact ⟨q.1, q.2.1, q.2.2, rfl, this.1.1, this.1.2, this.2⟩
  · have := List.all_eq_true.mp (List.all_eq_true.mp h4 a (List.mem_range.mpr ha)) b (List.mem_range.mpr hb)
    simp only [Bool.or_eq_true, decide_eq_true_eq] at this
    rcases this with q | q
    · exact absurd q hab
    · exact q
theorem am_va_at_ci {mem : List am_E} {cA : Nat → ClassId} {H : Heap} {k ci : Nat} {fs : List Value} (hP : va_P D am_cl (am_ws B ka cA mem) H) (h : mem[k]? = some (.inr (.inl (ci, fs)))) : ci < 10 := by
  obtain ⟨r, hr, -⟩ := hP k _ (am_ws_at h)
  exact (List.getElem?_eq_some_iff.mp hr).1
set_option maxHeartbeats 4000000 in
theorem am_stepR (C : am_Cx B ka D cst mid n0 p s m args meth c) (hR : 1 ≤ R.frames ∧ 64 ≤ R.locals) {i pc len rt : Nat} {op raw : Instr} {ls ls' : am_L} {st st' : List Value} {mem : List am_E} {j : Option Nat} (hpc : (am_pcs mid).getD i 0 = pc)
    (hdec : decode (am_bytes mid) pc = .ok (raw, len)) (hchk : am_chk (am_on.getD mid 0) rt (am_pcs mid) i op raw pc len = true)
    (hA : match op with | .iaload | .baload | .aaload | .arraylength | .getfield _ | .monitorenter => True | _ => False)
    {mem' : List am_E} (h : am_step am_ft cst op ls st mem = some (j, ls', st', mem')) (kk : am_G B ka D mid n0 z0 p l e R s m args below meth c Q (j.getD (i + 1)) ls' st' mem') : am_G B ka D mid n0 z0 p l e R s m args below meth c Q i ls st mem := by
  intro lsA H locs hl hSt
  obtain ⟨hx, hb, hml, hown, hts, hKC, hCO, hsz, hnm, -⟩ := C
  rw [hpc]
  cases op with
  | iaload =>
    simp only [am_step] at h
    split at h
    · rename_i ix k r
      split at h
      · rename_i xs hk
        split at h
        · rename_i hin
          simp only [Option.some.injEq, Prod.mk.injEq] at h
          obtain ⟨rfl, rfl, rfl, rfl⟩ := h
          simp only [am_chk, Bool.and_eq_true] at hchk
          obtain ⟨hn, hr⟩ := hchk
          have kk := kk lsA H locs hl hSt
          rw [Option.getD_none, am_nx_ok hn] at kk
          obtain ⟨cA, hP, hWK, hS⟩ := hSt
          cases raw with
          | iaload =>
            obtain rfl := beq_iff_eq.mp hr
            unfold am_look at hk
            split at hk
            · rename_i hlo
              show W p l e R s m args below meth c H locs _ _ Q (F0 m pc lsA (.int ix :: .ref (am_phi B ka k) :: r.map (am_tv (am_phi B ka))))
              rw [am_phi_lo hlo]
              exact va_iald hx hb (am_K1 hKC hWK hk rfl) hP k 0 (am_ws_at hk) rfl (am_inb_ok hin) hdec kk
            · rename_i hhi
              show W p l e R s m args below meth c H locs _ _ Q (F0 m pc lsA (.int ix :: .ref (am_phi B ka k) :: r.map (am_tv (am_phi B ka))))
              rw [am_phi_hi hhi]
              exact va_ti hx hb (hCO.1 _ _ _ hk rfl) hS (am_inb_ok hin) rfl hdec kk
          | _ => cases hr
        · cases h
      · cases h
    · cases h
  | baload =>
    simp only [am_step] at h
    split at h
    · rename_i ix k r
      split at h
      · rename_i t xs hk
        split at h
        · rename_i hin
          simp only [Option.some.injEq, Prod.mk.injEq] at h
          obtain ⟨rfl, rfl, rfl, rfl⟩ := h
          simp only [am_chk, Bool.and_eq_true] at hchk
          obtain ⟨hn, hr⟩ := hchk
          have kk := kk lsA H locs hl hSt
          rw [Option.getD_none, am_nx_ok hn] at kk
          obtain ⟨cA, hP, hWK, hS⟩ := hSt
          cases raw with
          | baload =>
            obtain rfl := beq_iff_eq.mp hr
            unfold am_look at hk
            show W p l e R s m args below meth c H locs _ _ Q (F0 m pc lsA (.int ix :: .ref (am_phi B ka k) :: r.map (am_tv (am_phi B ka))))
            split at hk
            · rename_i hlo
              rw [am_phi_lo hlo]
              cases t with
              | zero => exact va_bald hx hb (am_K1 hKC hWK hk rfl) hP k 0 (am_ws_at hk) rfl (am_inb_ok hin) hdec kk
              | succ t => exact va_zald hx hb (am_K1 hKC hWK hk rfl) hP k 0 (am_ws_at hk) rfl (am_inb_ok hin) hdec kk
            · rename_i hhi
              rw [am_phi_hi hhi]
              cases t with
              | zero => exact va_tb hx hb (hCO.1 _ _ _ hk rfl) hS (am_inb_ok hin) rfl hdec kk
              | succ t => exact va_tz hx hb (hCO.1 _ _ _ hk rfl) hS (am_inb_ok hin) rfl hdec kk
          | _ => cases hr
        · cases h
      · cases h
    · cases h
  | aaload =>
    simp only [am_step] at h
    split at h
    · rename_i ix k r
      split at h
      · rename_i t rs hk
        split at h
        · rename_i hin
          split at h
          · rename_i q hq
            simp only [Option.some.injEq, Prod.mk.injEq] at h
            obtain ⟨rfl, rfl, rfl, rfl⟩ := h
            simp only [am_chk, Bool.and_eq_true] at hchk
            obtain ⟨hn, hr⟩ := hchk
            have kk := kk lsA H locs hl hSt
            rw [Option.getD_none, am_nx_ok hn] at kk
            obtain ⟨cA, hP, hWK, hS⟩ := hSt
            cases raw with
            | aaload =>
              obtain rfl := beq_iff_eq.mp hr
              show W p l e R s m args below meth c H locs _ _ Q (F0 m pc lsA (.int ix :: .ref (am_phi B ka k) :: r.map (am_tv (am_phi B ka))))
              rw [am_phi_lo hin.2]
              have hlt := am_inb_lt hin.1
              have hcell := hP k _ (am_ws_at hk)
              have hv : (vp_cell (cA k) (rs.length, .inr (.inr (.inr (.inr (fun j => (rs.getD j none).map (am_phi B ka))))))).slots[ix.toNatClampNeg]? = some (.ref (am_phi B ka q)) := by
                rw [vp_cell_q, arrV_read _ _ hlt, hq]
                rfl
              cases t with
              | zero => exact W.aald hx hb hcell ((hWK k _ _ hk rfl).1 rs.length (fun j => va_rf ((rs.getD j none).map (am_phi B ka)))) rfl (fun q => by cases q) (by show ¬ (ix < 0 ∨ (arrV _ _ _).slots.size ≤ _); rw [arrV_size]; exact am_inb_ok hin.1) hv rfl rfl hdec kk
              | succ t => exact W.aald hx hb hcell ((hWK k _ _ hk rfl).1 rs.length (fun j => va_rf ((rs.getD j none).map (am_phi B ka)))) rfl (fun q => by cases q) (by show ¬ (ix < 0 ∨ (arrV _ _ _).slots.size ≤ _); rw [arrV_size]; exact am_inb_ok hin.1) hv rfl rfl hdec kk
            | _ => cases hr
          · cases h
        · cases h
      · cases h
    · cases h
  | arraylength =>
    simp only [am_step] at h
    split at h
    · rename_i k r
      split at h
      · rename_i t xs hk
        simp only [Option.some.injEq, Prod.mk.injEq] at h
        obtain ⟨rfl, rfl, rfl, rfl⟩ := h
        simp only [am_chk, Bool.and_eq_true] at hchk
        obtain ⟨hn, hr⟩ := hchk
        have kk := kk lsA H locs hl hSt
        rw [Option.getD_none, am_nx_ok hn] at kk
        obtain ⟨cA, hP, hWK, hS⟩ := hSt
        cases raw with
        | arraylength =>
          obtain rfl := beq_iff_eq.mp hr
          unfold am_look at hk
          show W p l e R s m args below meth c H locs _ _ Q (F0 m pc lsA (.ref (am_phi B ka k) :: r.map (am_tv (am_phi B ka))))
          obtain ⟨ty, hty⟩ : ∃ ty, am_aty (.inl (t, xs)) = some ty := by
            match t with
            | 0 => exact ⟨_, rfl⟩
            | 1 => exact ⟨_, rfl⟩
            | _ + 2 => exact ⟨_, rfl⟩
          split at hk
          · rename_i hlo
            rw [am_phi_lo hlo]
            exact va_alen hx hb (am_K1 hKC hWK hk hty) hP k 0 (am_ws_at hk) rfl rfl hdec kk
          · rename_i hhi
            rw [am_phi_hi hhi]
            exact va_tlen hx hb (hCO.1 _ _ _ hk hty) hS rfl hdec kk
        | _ => cases hr
      · cases h
    · cases h
  | getfield f =>
    simp only [am_step] at h
    split at h
    · rename_i k r
      split at h
      · rename_i ci fs hk
        split at h
        · rename_i hci
          split at h
          · rename_i v hv
            simp only [Option.some.injEq, Prod.mk.injEq] at h
            obtain ⟨rfl, rfl, rfl, rfl⟩ := h
            simp only [am_chk, Bool.and_eq_true] at hchk
            obtain ⟨hn, hr⟩ := hchk
            have kk := kk lsA H locs hl hSt
            rw [Option.getD_none, am_nx_ok hn] at kk
            obtain ⟨cA, hP, hWK, hS⟩ := hSt
            cases raw with
            | getfield ix =>
              simp only [Bool.and_eq_true, beq_iff_eq, Bool.or_eq_true] at hr
              obtain ⟨rfl, hr⟩ := hr
              show W p l e R s m args below meth c H locs _ _ Q (F0 m pc lsA (.ref (am_phi B ka k) :: r.map (am_tv (am_phi B ka))))
              unfold am_look at hk
              split at hk
              · rename_i hlo
                rw [am_phi_lo hlo]
                have hc10 := am_va_at_ci hP hk
                rcases hr with hr | hr
                · obtain ⟨f1, f2⟩ := am_lf_fin hr
                  have hq := am_cq_get f1
                  subst hci
                  exact va_get hx hb hts hq.1 hown (am_K0 hKC) hP k (am_ws_at hk) (am_cl_get f1) (f % 100) f2 (hts _ (am_lf_ok hr)) (fun x h => h) (v := am_tv (am_phi B ka) v) (by rw [List.getElem?_map, hv]; rfl) hdec kk
                · rcases am_lsf_ok hr with ⟨rfl, -⟩ | ⟨rfl, -⟩ <;> omega
              · rename_i hhi
                rw [am_phi_hi hhi]
                have h20 := hCO.2.2.2.2.1 _ _ _ hk
                subst h20
                obtain ⟨-, o1, o2⟩ := hCO.2.1 _ _ hk
                rcases hr with hr | hr
                · have := (am_lf_fin hr).1
                  omega
                · rcases am_lsf_ok hr with ⟨rfl, hw⟩ | ⟨rfl, hw⟩
                  · exact vk_getf hx hb (o1 v hv) hS hown (hts _ hw) (fun x h => h) hdec kk
                  · exact vk_getf hx hb (o2 v hv) hS hown (hts _ hw) (fun x h => h) hdec kk
            | _ => cases hr
          · cases h
        · cases h
      · cases h
    · cases h
  | monitorenter =>
    simp only [am_step] at h
    split at h
    · rename_i k r
      split at h
      · rename_i hr8
        simp only [Option.some.injEq, Prod.mk.injEq] at h
        obtain ⟨rfl, rfl, rfl, rfl⟩ := h
        simp only [am_chk, Bool.and_eq_true] at hchk
        obtain ⟨hn, hr⟩ := hchk
        have kk := kk lsA H locs hl hSt
        rw [Option.getD_none, am_nx_ok hn] at kk
        cases raw with
        | invokespecial ix =>
          simp only [Bool.and_eq_true, beq_iff_eq] at hr
          obtain ⟨rfl, hr⟩ := hr
          exact W.objInit hx hb hown (hts _ (am_lo_ok hr)) (hts _ am_ob_w.1) (hts _ am_ob_w.2) rfl (hl.1.trans hml.symm) rfl hdec hR.1 (by
            have := lv_room (m := m) (pc := pc) (ls := lsA) (rest := r.map (am_tv (am_phi B ka))) (st := r.map (am_tv (am_phi B ka))) (by rw [am_tv_cats]; exact hr8)
            show 2 * (F0 m pc lsA _).monitorRoom + _ + 12 ≤ R.locals
            have h2 := hR.2
            simp only [F0] at this ⊢
            omega) kk
        | _ => cases hr
      · cases h
    · cases h
  | _ => exact absurd hA (by simp)
end AMS
end
section
/-! Instructions that write cells -/
theorem am_sz_set {mem : List am_E} {k : Nat} {e0 e : am_E} (h : mem[k]? = some e0) (he : am_ez e = am_ez e0) : am_sz (mem.set k e) = am_sz mem := by
  unfold am_sz
  rw [List.map_set]
  have : (mem.map am_ez).set k (am_ez e) = mem.map am_ez := by
    apply List.ext_getElem?
    intro i
    rw [List.getElem?_set]
    by_cases hi : k = i
    · subst hi
      rw [if_pos rfl, List.getElem?_map, h, he]
      have : k < mem.length := (List.getElem?_eq_some_iff.mp h).1
      simp [this]
    · rw [if_neg hi]
  rw [this]
theorem am_setq_upd {rs : List (Option Nat)} {k v : Nat} {f : Nat → Nat} (h : k < rs.length) : (fun j => ((rs.set k (some v)).getD j none).map f) = va_up (fun j => (rs.getD j none).map f) k (some (f v)) := by
  funext j
  unfold va_up
  rw [List.getD_eq_getElem?_getD, List.getElem?_set]
  by_cases e : k = j
  · subst e
    simp [h]
  · have : ¬ j = k := fun q => e q.symm
    simp [e, this]
theorem am_cpyl_len {f g : List Int32} {sp dp n : Nat} (h1 : sp + n ≤ f.length) (h2 : dp + n ≤ g.length) : (am_cpyl f g sp dp n).length = g.length := by
  unfold am_cpyl
  simp only [List.length_append, List.length_take, List.length_drop]
  omega
theorem am_cpyl_cpy {f g : List Int32} {sp dp n : Nat} (h1 : sp + n ≤ f.length) (h2 : dp + n ≤ g.length) : (fun j => (am_cpyl f g sp dp n).getD j 0) = va_cpy (fun j => f.getD j 0) (fun j => g.getD j 0) sp dp n := by
  funext j
  unfold va_cpy am_cpyl
  rw [List.getD_eq_getElem?_getD]
  have l1 : (g.take dp).length = dp := by rw [List.length_take]; omega
  have l2 : ((f.drop sp).take n).length = n := by rw [List.length_take, List.length_drop]; omega
  by_cases ha : j < dp
  · rw [List.getElem?_append_left (by omega), List.getElem?_take_of_lt ha, if_neg (by omega)]
    simp only [List.getD_eq_getElem?_getD]
  · rw [List.getElem?_append_right (by omega), l1]
    by_cases hb : j < dp + n
    · rw [if_pos (by omega), List.getElem?_append_left (by omega), List.getElem?_take_of_lt (by omega), List.getElem?_drop]
      simp only [List.getD_eq_getElem?_getD]
    · rw [if_neg (by omega), List.getElem?_append_right (by omega), l2, List.getElem?_drop]
      simp only [List.getD_eq_getElem?_getD]
      rw [show dp + n + (j - dp - n) = j by omega]
theorem am_nar_tv {ty : FieldType} {v : Value} {f : Nat → Nat} (h : narrow ty v = v) : narrow ty (am_tv f v) = am_tv f v := by
  cases v with
  | ref k => cases ty <;> rfl
  | _ => exact h
theorem am_fit_tv {ty : FieldType} {v : Value} {f : Nat → Nat} (h : fits ty v = true) : fits ty (am_tv f v) = true := by
  cases v with
  | ref k => cases ty <;> first | exact h | rfl
  | _ => exact h
section AMS
variable {p : Program} {l : Launch} {e : Env} {R : Room} {s : State} {m : MethodId} {args : Array Value} {below : List Frame} {meth : Method} {c : Code} {Q : State → Prop} {B : Nat} {ka : Nat → Nat} {D : va_G} {cst : List am_E} {mid n0 z0 : Nat}
theorem am_setW {i : Nat} {ls : am_L} {st : List Value} {mem : List am_E} {k : Nat} {e0 e1 : am_E} (kk : am_G B ka D mid n0 z0 p l e R s m args below meth c Q i ls st (mem.set k e1)) (h0 : mem[k]? = some e0) (hz : am_ez e1 = am_ez e0) (ht : am_aty e1 = am_aty e0)
    {lsA : Array Slot} {H1 : Heap} {locs1 : List Loc} {cA : Nat → ClassId} (hl : am_LV (am_phi B ka) ls (am_mq mid).2.1 lsA) (hWK : am_WK cA mem s) (hS1 : va_S (am_A B) s.heap H1 locs1) {x : va_E} (hx : am_te (am_phi B ka) (cA k) e1 = x) (hP1 : va_P D am_cl ((am_ws B ka cA mem).set k (B + k, x)) H1) :
    W p l e R s m args below meth c H1 locs1 (mem.length - n0) (am_sz mem - z0) Q (F0 m ((am_pcs mid).getD i 0) lsA (st.map (am_tv (am_phi B ka)))) := by
  subst hx
  rw [am_ws_set] at hP1
  have := kk lsA H1 locs1 hl ⟨cA, hP1, hWK.set k h0 ht, hS1⟩
  rw [List.length_set, am_sz_set h0 hz] at this
  exact this
set_option maxHeartbeats 4000000 in
theorem am_stepS (C : am_Cx B ka D cst mid n0 p s m args meth c) (hR : 1 ≤ R.frames ∧ 64 ≤ R.locals) (hmid : mid < 240) {i pc len rt : Nat} {op raw : Instr} (hop : op ∈ (am_mq mid).1) {ls ls' : am_L} {st st' : List Value} {mem : List am_E} {j : Option Nat} (hpc : (am_pcs mid).getD i 0 = pc)
    (hdec : decode (am_bytes mid) pc = .ok (raw, len)) (hchk : am_chk (am_on.getD mid 0) rt (am_pcs mid) i op raw pc len = true)
    (hA : match op with | .iastore | .bastore | .aastore | .putfield _ | .invokedynamic _ => True | _ => False)
    {mem' : List am_E} (h : am_step am_ft cst op ls st mem = some (j, ls', st', mem')) (kk : am_G B ka D mid n0 z0 p l e R s m args below meth c Q (j.getD (i + 1)) ls' st' mem') : am_G B ka D mid n0 z0 p l e R s m args below meth c Q i ls st mem := by
  intro lsA H locs hl hSt
  obtain ⟨hx, hb, hml, hown, hts, hKC, hCO, hsz, hnm, -⟩ := C
  rw [hpc]
  cases op with
  | iastore =>
    simp only [am_step] at h
    split at h
    · rename_i x ix k r
      split at h
      · rename_i xs hk
        split at h
        · rename_i hin
          simp only [Option.some.injEq, Prod.mk.injEq] at h
          obtain ⟨rfl, rfl, rfl, rfl⟩ := h
          simp only [am_chk, Bool.and_eq_true] at hchk
          obtain ⟨hn, hr⟩ := hchk
          rw [Option.getD_none] at kk
          obtain ⟨cA, hP, hWK, hS⟩ := hSt
          cases raw with
          | iastore =>
            obtain rfl := beq_iff_eq.mp hr
            show W p l e R s m args below meth c H locs _ _ Q (F0 m pc lsA (.int x :: .int ix :: .ref (am_phi B ka k) :: r.map (am_tv (am_phi B ka))))
            rw [am_phi_lo hin.2]
            refine va_iast hx hb (am_K1 hKC hWK hk rfl) hP am_ws_D hS k 0 (am_ws_at hk) rfl (am_inb_ok hin.1) hdec (fun H1 locs1 hP1 _ hS1 => ?_)
            rw [← am_nx_ok hn]
            refine am_setW kk hk (by simp [am_ez]) rfl hl hWK hS1 ?_ hP1
            simp only [am_te, List.length_set, am_set_upd (am_inb_lt hin.1)]
          | _ => cases hr
        · cases h
      · cases h
    · cases h
  | bastore =>
    simp only [am_step] at h
    split at h
    · rename_i x ix k r
      split at h
      · rename_i t xs hk
        split at h
        · rename_i hin
          simp only [Option.some.injEq, Prod.mk.injEq] at h
          obtain ⟨rfl, rfl, rfl, rfl⟩ := h
          simp only [am_chk, Bool.and_eq_true] at hchk
          obtain ⟨hn, hr⟩ := hchk
          rw [Option.getD_none] at kk
          obtain ⟨cA, hP, hWK, hS⟩ := hSt
          cases raw with
          | bastore =>
            obtain rfl := beq_iff_eq.mp hr
            show W p l e R s m args below meth c H locs _ _ Q (F0 m pc lsA (.int x :: .int ix :: .ref (am_phi B ka k) :: r.map (am_tv (am_phi B ka))))
            rw [am_phi_lo hin.2]
            cases t with
            | zero =>
              refine va_bast hx hb (am_K1 hKC hWK hk rfl) hP am_ws_D hS k 0 (am_ws_at hk) rfl (am_inb_ok hin.1) hdec (fun H1 locs1 hP1 _ hS1 => ?_)
              rw [← am_nx_ok hn]
              refine am_setW kk hk (by simp [am_ez]) rfl hl hWK hS1 ?_ hP1
              simp only [am_te, List.length_set, am_set_upd (am_inb_lt hin.1), am_nar_byte]
            | succ t =>
              refine va_zast hx hb (am_K1 hKC hWK hk rfl) hP am_ws_D hS k 0 (am_ws_at hk) rfl (am_inb_ok hin.1) hdec (fun H1 locs1 hP1 _ hS1 => ?_)
              rw [← am_nx_ok hn]
              refine am_setW kk hk (by simp [am_ez]) rfl hl hWK hS1 ?_ hP1
              simp only [am_te, List.length_set, am_set_upd (am_inb_lt hin.1), am_nar_bool x t]
          | _ => cases hr
        · cases h
      · cases h
    · cases h
  | aastore =>
    simp only [am_step] at h
    split at h
    · rename_i v ix k r
      split at h
      · rename_i rs fs hk hv
        split at h
        · rename_i hin
          simp only [Option.some.injEq, Prod.mk.injEq] at h
          obtain ⟨rfl, rfl, rfl, rfl⟩ := h
          simp only [am_chk, Bool.and_eq_true] at hchk
          obtain ⟨hn, hr⟩ := hchk
          rw [Option.getD_none] at kk
          obtain ⟨cA, hP, hWK, hS⟩ := hSt
          cases raw with
          | aastore =>
            obtain rfl := beq_iff_eq.mp hr
            show W p l e R s m args below meth c H locs _ _ Q (F0 m pc lsA (.ref (am_phi B ka v) :: .int ix :: .ref (am_phi B ka k) :: r.map (am_tv (am_phi B ka))))
            rw [am_phi_lo hin.2.1, am_phi_lo hin.2.2]
            refine va_astq hx hb (am_K1 hKC hWK hk rfl) hP am_ws_D hS k 0 v 3 (r := am_clq 3) (am_ws_at hk) rfl (am_ws_at hv) rfl (am_inb_ok hin.1) hdec (fun H1 locs1 hP1 _ hS1 => ?_)
            rw [← am_nx_ok hn]
            refine am_setW kk hk (by simp [am_ez]) rfl hl hWK hS1 ?_ hP1
            simp only [am_te, List.length_set, am_setq_upd (am_inb_lt hin.1), am_phi_lo hin.2.2]
          | _ => cases hr
        · cases h
      · cases h
    · cases h
  | putfield f =>
    simp only [am_step] at h
    split at h
    · rename_i v k r
      split at h
      · rename_i ci fs ty fin dv hk hft
        split at h
        · rename_i hq
          obtain ⟨hci, hlo, hlen, hnar, hfit⟩ := hq
          simp only [Option.some.injEq, Prod.mk.injEq] at h
          obtain ⟨rfl, rfl, rfl, rfl⟩ := h
          simp only [am_chk, Bool.and_eq_true] at hchk
          obtain ⟨hn, hr⟩ := hchk
          rw [Option.getD_none] at kk
          obtain ⟨cA, hP, hWK, hS⟩ := hSt
          cases raw with
          | putfield ix =>
            simp only [Bool.and_eq_true, beq_iff_eq] at hr
            obtain ⟨rfl, hr⟩ := hr
            show W p l e R s m args below meth c H locs _ _ Q (F0 m pc lsA (am_tv (am_phi B ka) v :: .ref (am_phi B ka k) :: r.map (am_tv (am_phi B ka))))
            rw [am_phi_lo hlo]
            obtain ⟨f1, f2⟩ := am_lf_fin hr
            obtain ⟨g1, g2, g3, g4, -, -⟩ := am_cq_get f1
            obtain ⟨ty', fin', v', t1, t2, t3, t4⟩ := g2 _ f2
            rw [hft] at t1
            cases t1
            subst hci
            have hty : ∀ k, k < (am_clq (f / 100)).2.2 → parseFieldDescriptor ((am_clq (f / 100)).2.1 k).2.2.1 = some (((am_ft (f / 100)).getD k (.int, false, .null)).1) := fun k hk => by
              obtain ⟨ty', fin', v', t1, t2, t3, t4⟩ := g2 k hk
              rw [t2, List.getD_eq_getElem?_getD, t1]
              rfl
            have he : am_te (am_phi B ka) (cA k) (.inr (.inl (f / 100, fs.set (f % 100) v))) = .inr (f / 100, (fs.map (am_tv (am_phi B ka))).set (f % 100) (am_tv (am_phi B ka) v)) := by
              simp only [am_te, List.map_set]
            cases hfin : fin with
            | false =>
              subst hfin
              refine va_put hx hb hts g1 _ hty g4 hown (am_K0 hKC) hP am_ws_D hS k (am_ws_at hk) (am_cl_get f1) (f % 100) f2 (hts _ (am_lf_ok hr)) (fun x h => h) t3 t2 (am_nar_tv hnar) (am_fit_tv hfit) (by rw [List.length_map]; exact hlen) hdec (fun H1 locs1 hP1 _ hS1 => ?_)
              rw [← am_nx_ok hn]
              exact am_setW kk hk (by simp [am_ez]) rfl hl hWK hS1 he hP1
            | true =>
              subst hfin
              have hpf := List.all_eq_true.mp (List.all_eq_true.mp am_pf_c mid (List.mem_range.mpr hmid)) _ hop
              simp only [t3, Bool.not_true, Bool.false_or, Bool.and_eq_true, decide_eq_true_eq] at hpf
              refine va_putF hx hb hts g1 _ hty g4 hown (am_K0 hKC) hP am_ws_D hS k (am_ws_at hk) (am_cl_get f1) (f % 100) f2 (hts _ (am_lf_ok hr)) (fun x h => h) t3 (hnm hpf.1) hpf.2 t2 (am_nar_tv hnar) (am_fit_tv hfit) (by rw [List.length_map]; exact hlen) hdec (fun H1 locs1 hP1 _ hS1 => ?_)
              rw [← am_nx_ok hn]
              exact am_setW kk hk (by simp [am_ez]) rfl hl hWK hS1 he hP1
          | _ => cases hr
        · cases h
      · cases h
    · cases h
  | invokedynamic _ =>
    simp only [am_step] at h
    split at h
    · rename_i n dp d sp a r
      split at h
      · rename_i fl gl ha hd
        split at h
        · rename_i hq
          obtain ⟨q1, q2, q3, q4, q5, q6, q7, q8⟩ := hq
          simp only [Option.some.injEq, Prod.mk.injEq] at h
          obtain ⟨rfl, rfl, rfl, rfl⟩ := h
          simp only [am_chk, Bool.and_eq_true] at hchk
          obtain ⟨hn, hr⟩ := hchk
          rw [Option.getD_none] at kk
          obtain ⟨cA, hP, hWK, hS⟩ := hSt
          cases raw with
          | invokestatic ix =>
            simp only [Bool.and_eq_true, beq_iff_eq] at hr
            obtain ⟨rfl, hr⟩ := hr
            show W p l e R s m args below meth c H locs _ _ Q (F0 m pc lsA (.int n :: .int dp :: .ref (am_phi B ka d) :: .int sp :: .ref (am_phi B ka a) :: r.map (am_tv (am_phi B ka))))
            rw [am_phi_lo q6, am_phi_lo q7]
            refine va_copyi hx hb (hml.trans hl.1.symm) hown (hts _ (am_la_ok hr)) (hts _ am_ac_w.1) (hts _ am_ac_w.2.1) (hts _ am_ac_w.2.2) (tys := [(cA a, .int), (cA d, .int)]) ⟨hKC, fun j q hq => ?_⟩ hP am_ws_D hS a d 0 1 (am_ws_at ha) (am_ws_at hd) rfl rfl rfl q3 q2 q1 q4 q5 (fun _ _ => rfl) hR.1 ?_ hdec (fun H1 locs1 hP1 _ hS1 => ?_)
            · match j, hq with
              | 0, hq => cases hq; exact hWK a _ _ ha rfl
              | 1, hq => cases hq; exact hWK d _ _ hd rfl
              | _ + 2, hq => simp at hq
            · rw [am_tv_cats]
              have h2 := hR.2
              show _ + (7 + 11) ≤ R.locals
              omega
            · rw [← am_nx_ok hn]
              refine am_setW kk hd (by simp only [am_ez]; exact am_cpyl_len q4 q5) rfl hl hWK hS1 ?_ hP1
              simp only [am_te, am_cpyl_len q4 q5, am_cpyl_cpy q4 q5]
          | _ => cases hr
        · cases h
      · cases h
    · cases h
  | _ => exact absurd hA (by simp)
end AMS
end
section
/-! Instructions that make cells -/
theorem am_outer (c : ClassId) (N h0 : Nat) : ∀ i : Nat, Jvm.Free.Multi.outerC c N h0 i = arrV c N (fun j => va_rf (if j < i then some (h0 + 1 + j) else none))
  | 0 => by
    show ({ cls := c, slots := Array.replicate N .null, vm := .none } : Cell) = _
    rw [arrV_new]
    exact congrArg (arrV c N) (funext fun j => by simp [va_rf])
  | i + 1 => by
    show (Jvm.Free.Multi.outerC c N h0 i).setSlot i (.ref (h0 + 1 + i)) = _
    rw [am_outer c N h0 i, arrV_store]
    refine congrArg (arrV c N) (funext fun j => ?_)
    rcases Nat.lt_trichotomy j i with h | h | h
    · simp [updV, va_rf, show ¬ j = i by omega, h, Nat.lt_succ_of_lt h]
    · subst h
      simp [updV, va_rf]
    · simp [updV, va_rf, show ¬ j = i by omega, show ¬ j < i by omega, show ¬ j < i + 1 by omega]
theorem am_rep0 (n j : Nat) : (List.replicate n (0 : Int32)).getD j 0 = 0 := by
  rw [List.getD_eq_getElem?_getD, List.getElem?_replicate]
  split <;> rfl
theorem am_repN (n j : Nat) (f : Nat → Nat) : ((List.replicate n (none : Option Nat)).getD j none).map f = none := by
  rw [List.getD_eq_getElem?_getD, List.getElem?_replicate]
  split <;> rfl
theorem am_tv_def (f : Nat → Nat) (ty : FieldType) : am_tv f (defaultValue ty) = defaultValue ty := by cases ty <;> rfl
section AMS
variable {p : Program} {l : Launch} {e : Env} {R : Room} {s : State} {m : MethodId} {args : Array Value} {below : List Frame} {meth : Method} {c : Code} {Q : State → Prop} {B : Nat} {ka : Nat → Nat} {D : va_G} {cst : List am_E} {mid n0 z0 : Nat}
theorem am_newq {mem : List am_E} {cA : Nat → ClassId} {q : Nat} {x : va_E} {H1 : Heap} (hP : va_P D am_cl (am_ws B ka cA mem ++ [(q, x)]) H1) (hD : va_D (am_A B) (am_ws B ka cA mem ++ [(q, x)])) (hs : H1.size ≤ B + mem.length + 1) : q = B + mem.length := by
  have hl : (am_ws B ka cA mem).length = mem.length := by unfold am_ws; exact List.length_mapIdx
  have hg : (am_ws B ka cA mem ++ [(q, x)])[mem.length]? = some (q, x) := by rw [List.getElem?_append_right (by omega), hl, Nat.sub_self]; rfl
  have h1 : q < H1.size := (hP _ _ hg).lt
  have h2 : B ≤ q := hD.2 _ _ hg
  rcases Nat.lt_or_ge q (B + mem.length) with h | h
  · exfalso
    have hk : q - B < mem.length := by omega
    have hg2 : (am_ws B ka cA mem ++ [(q, x)])[q - B]? = some (B + (q - B), am_te (am_phi B ka) (cA (q - B)) mem[q - B]) := by
      rw [List.getElem?_append_left (by omega)]
      exact am_ws_at (List.getElem?_eq_getElem hk)
    have := hD.1 _ _ _ _ hg hg2 (by show q = B + (q - B); omega)
    omega
  · omega
theorem am_sz_app (mem l : List am_E) : am_sz (mem ++ l) = am_sz mem + am_sz l := by unfold am_sz; rw [List.map_append, List.sum_append]
theorem am_appW {i : Nat} {ls : am_L} {r : List Value} {mem : List am_E} {e1 : am_E} (kk : am_G B ka D mid n0 z0 p l e R s m args below meth c Q i ls (.ref mem.length :: r) (mem ++ [e1])) (hlt : mem.length < 1000) (hn : n0 ≤ mem.length) (hz : z0 ≤ am_sz mem) (hsz : s.heap.size = B + n0)
    {lsA : Array Slot} {H1 : Heap} {locs : List Loc} {cA : Nat → ClassId} {cN : ClassId} {q : Nat} {x : va_E} (hl : am_LV (am_phi B ka) ls (am_mq mid).2.1 lsA) (hWK : am_WK cA mem s) (hS1 : va_S (am_A B) s.heap H1 locs) (hN : ∀ ty, am_aty e1 = some ty → ArrOfT s cN ty ∧ va_RA s cN ty)
    (hx : am_te (am_phi B ka) cN e1 = x) (hP1 : va_P D am_cl (am_ws B ka cA mem ++ [(q, x)]) H1) (hD1 : va_D (am_A B) (am_ws B ka cA mem ++ [(q, x)])) :
    W p l e R s m args below meth c H1 locs (mem.length - n0 + 1) (am_sz mem - z0 + am_ez e1) Q (F0 m ((am_pcs mid).getD i 0) lsA (.ref q :: r.map (am_tv (am_phi B ka)))) := by
  intro T hT X
  have hh := X.heapSize
  rw [hT, hsz] at hh
  have hq := am_newq hP1 hD1 (by omega)
  subst hq hx
  have hP2 : va_P D am_cl (am_ws B ka (am_upC cA mem.length (fun _ => cN)) (mem ++ [e1])) H1 := by
    rw [am_ws_app]
    exact hP1
  have hWK2 : am_WK (am_upC cA mem.length (fun _ => cN)) (mem ++ [e1]) s := by
    intro k e2 ty hk hty
    by_cases h : k < mem.length
    · rw [List.getElem?_append_left h] at hk
      simp only [am_upC, h, if_true]
      exact hWK k e2 ty hk hty
    · rw [List.getElem?_append_right (by omega)] at hk
      have h0 : k - mem.length < 1 := (List.getElem?_eq_some_iff.mp hk).1
      rw [show k - mem.length = 0 by omega] at hk
      cases hk
      simp only [am_upC, h, if_false]
      exact hN ty hty
  have := kk lsA H1 locs hl ⟨_, hP2, hWK2, hS1⟩
  rw [List.length_append, am_sz_app, show mem.length + [e1].length - n0 = mem.length - n0 + 1 by simp only [List.length_cons, List.length_nil]; omega, show am_sz mem + am_sz [e1] - z0 = am_sz mem - z0 + am_ez e1 by simp only [am_sz, List.map_cons, List.map_nil, List.sum_cons, List.sum_nil] at hz ⊢; omega] at this
  simp only [List.map_cons, am_tv, am_phi_lo hlt] at this
  exact this T hT X
set_option maxHeartbeats 4000000 in
theorem am_stepN (C : am_Cx B ka D cst mid n0 p s m args meth c) {i pc len rt : Nat} {op raw : Instr} {ls ls' : am_L} {st st' : List Value} {mem : List am_E} {j : Option Nat} (hpc : (am_pcs mid).getD i 0 = pc)
    (hdec : decode (am_bytes mid) pc = .ok (raw, len)) (hchk : am_chk (am_on.getD mid 0) rt (am_pcs mid) i op raw pc len = true)
    (hA : match op with | .new _ | .newarray _ | .anewarray _ | .multianewarray _ _ => True | _ => False) (hn0 : n0 ≤ mem.length) (hz0 : z0 ≤ am_sz mem)
    {mem' : List am_E} (hr1 : mem'.length - n0 ≤ R.cells) (hr2 : am_sz mem' - z0 ≤ R.slots) (h : am_step am_ft cst op ls st mem = some (j, ls', st', mem')) (kk : am_G B ka D mid n0 z0 p l e R s m args below meth c Q (j.getD (i + 1)) ls' st' mem') : am_G B ka D mid n0 z0 p l e R s m args below meth c Q i ls st mem := by
  intro lsA H locs hl hSt
  obtain ⟨hx, hb, hml, hown, hts, hKC, hCO, hsz, hnm, hnw⟩ := C
  rw [hpc]
  have hAA : ∀ q, s.heap.size ≤ q → am_A B q := fun q hq => by show B ≤ q; omega
  cases op with
  | new ci =>
    simp only [am_step] at h
    split at h
    · rename_i hlt
      simp only [Option.some.injEq, Prod.mk.injEq] at h
      obtain ⟨rfl, rfl, rfl, rfl⟩ := h
      simp only [am_chk, Bool.and_eq_true] at hchk
      obtain ⟨hn, hr⟩ := hchk
      rw [Option.getD_none] at kk
      obtain ⟨cA, hP, hWK, hS⟩ := hSt
      cases raw with
      | new ix =>
        simp only [Bool.and_eq_true, beq_iff_eq] at hr
        obtain ⟨rfl, hr⟩ := hr
        have f1 := am_ln_fin hr
        obtain ⟨g1, g2, g3, g4, g5, g6⟩ := am_cq_get f1
        rw [List.length_append] at hr1
        rw [am_sz_app] at hr2
        have hez : am_ez (.inr (.inl (ci, (am_ft ci).map fun q => q.2.2))) = (am_clq ci).2.2 := by simp only [am_ez, List.length_map]; exact g3
        have hs1 : am_sz [(.inr (.inl (ci, (am_ft ci).map fun q => q.2.2)) : am_E)] = (am_clq ci).2.2 := by simp only [am_sz, List.map_cons, List.map_nil, List.sum_cons, List.sum_nil, hez, Nat.add_zero]
        rw [hs1] at hr2
        simp only [List.length_cons, List.length_nil] at hr1
        refine va_new hx hb hts g1 (fun k => ((am_ft ci).getD k (.int, false, .null)).1) (fun k hk => ?_) hown (hts _ (am_ln_ok hr)) (hts _ g5) (hts _ g6) (am_K0 hKC) hP am_ws_D hS hAA (am_cl_get f1) (fs := ((am_ft ci).map fun q => q.2.2).map (am_tv (am_phi B ka))) (fun k hk => ?_) (by omega) (by omega) hdec (fun q H1 hP1 hD1 hS1 => ?_)
        · obtain ⟨ty', fin', v', t1, t2, t3, t4⟩ := g2 k hk
          rw [t2, List.getD_eq_getElem?_getD, t1]
          rfl
        · obtain ⟨ty', fin', v', t1, t2, t3, t4⟩ := g2 k hk
          rw [vp_V, List.getD_eq_getElem?_getD, List.getD_eq_getElem?_getD, List.getElem?_map, List.getElem?_map, t1]
          show defaultValue ty' = am_tv _ v'
          rw [← t4, am_tv_def]
        · rw [← am_nx_ok hn, ← hez]
          exact am_appW kk hlt hn0 hz0 hsz (cN := cA 0) hl hWK hS1 (fun ty hty => by cases hty) rfl hP1 hD1
      | _ => cases hr
    · cases h
  | newarray a =>
    simp only [am_step] at h
    split at h
    · rename_i n r t ha
      split at h
      · rename_i hq
        obtain ⟨q1, q2, q3⟩ := hq
        simp only [Option.some.injEq, Prod.mk.injEq] at h
        obtain ⟨rfl, rfl, rfl, rfl⟩ := h
        simp only [am_chk, Bool.and_eq_true] at hchk
        obtain ⟨hn, hr⟩ := hchk
        rw [Option.getD_none] at kk
        obtain ⟨cA, hP, hWK, hS⟩ := hSt
        cases raw with
        | newarray a' =>
          simp only [Bool.and_eq_true, beq_iff_eq, decide_eq_true_eq] at hr
          obtain ⟨rfl, rfl⟩ := hr
          rw [List.length_append] at hr1
          rw [am_sz_app] at hr2
          have hez : am_ez (.inl (t, List.replicate n.toNatClampNeg 0)) = n.toNatClampNeg := by simp only [am_ez, List.length_replicate]
          have hs1 : am_sz [(.inl (t, List.replicate n.toNatClampNeg 0) : am_E)] = n.toNatClampNeg := by simp only [am_sz, List.map_cons, List.map_nil, List.sum_cons, List.sum_nil, hez, Nat.add_zero]
          rw [hs1] at hr2
          simp only [List.length_cons, List.length_nil] at hr1
          have key : ∀ ty : FieldType, newarray.typeOf a' = ty → Cond.arrayClass ty ∈ am_big → defaultValue ty = .int 0 → componentBytes ty ≤ 4 → (am_aty (.inl (t, List.replicate n.toNatClampNeg 0)) = some ty) →
              W p l e R s m args below meth c H locs (mem.length - n0) (am_sz mem - z0) Q (F0 m pc lsA (.int n :: r.map (am_tv (am_phi B ka)))) := by
            intro ty hty hw hdv hcb hat
            refine va_newa hx hb (by rw [hty]; exact hts _ hw) hty (am_K0 hKC) hP am_ws_D hS hAA (a0 := (n.toNatClampNeg, .inl (fun j => (List.replicate n.toNatClampNeg (0 : Int32)).getD j 0))) (fun cB => ?_) q1 rfl ?_ (by omega) (by omega) hdec (fun q cN H1 hK1 hP1 hD1 hS1 => ?_)
            · rw [vp_cell_i, hdv]
              exact congrArg (arrV cB n.toNatClampNeg) (funext fun j => by rw [am_rep0])
            · have := Nat.mul_le_mul q2 hcb
              omega
            · rw [← am_nx_ok hn]
              have := am_appW kk q3 hn0 hz0 hsz (cN := cN) (q := q) hl hWK hS1 (fun ty' hty' => by
                rw [hat] at hty'
                cases hty'
                exact hK1.2 0 _ rfl) rfl (by simp only [am_te, List.length_replicate]; exact hP1) (by simp only [am_te, List.length_replicate]; exact hD1)
              rw [hez] at this
              exact this
          cases a' with
          | int => cases ha; exact key .int rfl am_arr_w.1 rfl (by decide) rfl
          | byte => cases ha; exact key .byte rfl am_arr_w.2.1 rfl (by decide) rfl
          | boolean => cases ha; exact key .boolean rfl am_arr_w.2.2 rfl (by decide) rfl
          | _ => cases ha
        | _ => cases hr
      · cases h
    · cases h
  | anewarray a =>
    simp only [am_step] at h
    split at h
    · rename_i n r
      split at h
      · rename_i hq
        obtain ⟨q1, q2, q3⟩ := hq
        simp only [Option.some.injEq, Prod.mk.injEq] at h
        obtain ⟨rfl, rfl, rfl, rfl⟩ := h
        simp only [am_chk, Bool.and_eq_true] at hchk
        obtain ⟨hn, hr⟩ := hchk
        rw [Option.getD_none] at kk
        obtain ⟨cA, hP, hWK, hS⟩ := hSt
        cases raw with
        | anewarray ix =>
          simp only [Bool.and_eq_true, beq_iff_eq] at hr
          obtain ⟨rfl, hr⟩ := hr
          rw [List.length_append] at hr1
          rw [am_sz_app] at hr2
          have hez : am_ez (.inr (.inr (0, List.replicate n.toNatClampNeg none))) = n.toNatClampNeg := by simp only [am_ez, List.length_replicate]
          have hs1 : am_sz [(.inr (.inr (0, List.replicate n.toNatClampNeg none)) : am_E)] = n.toNatClampNeg := by simp only [am_sz, List.map_cons, List.map_nil, List.sum_cons, List.sum_nil, hez, Nat.add_zero]
          rw [hs1] at hr2
          simp only [List.length_cons, List.length_nil] at hr1
          refine va_newq hx hb hown (hts _ (am_lan_ok hr)) hnw.2.1 (am_K0 hKC) hP am_ws_D hS hAA q1 rfl (by omega) (by omega) (by omega) hdec (fun q cN H1 hK1 hP1 hD1 hS1 => ?_)
          rw [← am_nx_ok hn]
          have he : am_te (am_phi B ka) cN (.inr (.inr (0, List.replicate n.toNatClampNeg none))) = .inl (cN, n.toNatClampNeg, .inr (.inr (.inr (.inr (fun _ => none))))) := by
            simp only [am_te, List.length_replicate, am_repN]
          have := am_appW kk q3 hn0 hz0 hsz (cN := cN) (q := q) hl hWK hS1 (fun ty' hty' => by
            cases hty'
            exact hK1.2 0 _ rfl) he hP1 hD1
          rw [hez] at this
          exact this
        | _ => cases hr
      · cases h
    · cases h
  | multianewarray a b =>
    simp only [am_step] at h
    split at h
    · rename_i k n r
      split at h
      · rename_i hq
        obtain ⟨q1, q2, q3, q4, q5⟩ := hq
        simp only [Option.some.injEq, Prod.mk.injEq] at h
        obtain ⟨rfl, rfl, rfl, rfl⟩ := h
        simp only [am_chk, Bool.and_eq_true] at hchk
        obtain ⟨hn, hr⟩ := hchk
        rw [Option.getD_none] at kk
        obtain ⟨cA, hP, hWK, hS⟩ := hSt
        cases raw with
        | multianewarray ix dm =>
          simp only [Bool.and_eq_true, beq_iff_eq] at hr
          obtain ⟨⟨rfl, rfl⟩, hr⟩ := hr
          generalize hN : n.toNatClampNeg = N at *
          generalize hK : k.toNatClampNeg = K at *
          have hszl : am_sz ((.inr (.inr (1, (List.range N).map fun j => some (mem.length + 1 + j))) : am_E) :: List.replicate N (.inl (0, List.replicate K 0))) = N + N * K := by
            simp only [am_sz, List.map_cons, List.sum_cons, am_ez, List.length_map, List.length_range, List.map_replicate, List.length_replicate, List.sum_replicate_nat]
          rw [List.length_append, List.length_cons, List.length_replicate] at hr1
          rw [am_sz_app, hszl] at hr2
          intro T hT X
          have hh := X.heapSize
          rw [hT, hsz] at hh
          have hlow : B + mem.length ≤ H.size := by
            rcases Nat.eq_zero_or_pos mem.length with h0 | h0
            · have := hS.1
              omega
            · have := (hP (mem.length - 1) _ (am_ws_at (List.getElem?_eq_getElem (show mem.length - 1 < mem.length by omega)))).lt
              simp only at this
              omega
          have hHs : H.size = B + mem.length := by omega
          obtain ⟨vm₁, cO, comp, -, fA, fC, hO, hI, X', step⟩ := X.multianewarray2F hx hown (hts _ (am_lma_ok hr)) hnw.2.2 (hts _ am_arr_w.1) (g := F0 m pc lsA (.int k :: .int n :: r.map (am_tv (am_phi B ka)))) rfl (by rw [hb]; exact hdec) rfl q1 q2 (by rw [hN]; omega) (by rw [hK]; show K * 4 ≤ _; omega) (by rw [hK]; omega) rfl rfl (by rw [hN]; omega) (by rw [hN, hK]; omega)
          rw [hN, hK] at X' step
          obtain ⟨f1, f2, -, -⟩ := Jvm.Free.Multi.fill_facts (T.setVm vm₁) cO comp N K (defaultValue .int) N
          have hTh : (T.setVm vm₁).heap = H := hT
          have hold : ∀ x : Nat, x < H.size → (Jvm.Free.Multi.fill (T.setVm vm₁) cO comp N K (defaultValue .int) N).heap[x]? = H[x]? := fun x hx => by
            have := Jvm.Free.Multi.fill_old (T.setVm vm₁) cO comp N K (defaultValue .int) (a := x) (by rw [hTh]; exact hx) N
            rw [hTh] at this
            exact this
          have hrow : ∀ j : Nat, j < N → (Jvm.Free.Multi.fill (T.setVm vm₁) cO comp N K (defaultValue .int) N).heap[H.size + 1 + j]? = some (Jvm.Free.Multi.innerC comp K (defaultValue .int)) := fun j hj => by
            have := Jvm.Free.Multi.fill_inner (T.setVm vm₁) cO comp N K (defaultValue .int) N j hj
            rw [hTh] at this
            exact this
          rw [hTh] at f1 f2
          generalize Jvm.Free.Multi.fill (T.setVm vm₁) cO comp N K (defaultValue .int) N = F at *
          rw [am_outer, hHs] at f2
          have hin : Jvm.Free.Multi.innerC comp K (defaultValue .int) = vp_cell comp (K, .inl (fun j => (List.replicate K (0 : Int32)).getD j 0)) := by
            show ({ cls := comp, slots := Array.replicate K (.int 0), vm := .none } : Cell) = _
            rw [arrV_new, vp_cell_i]
            exact congrArg (arrV comp K) (funext fun j => by rw [am_rep0])
          have hout : arrV cO N (fun j => va_rf (if j < N then some (B + mem.length + 1 + j) else none)) = vp_cell cO (N, .inr (.inr (.inr (.inr (fun j => (((List.range N).map fun j => some (mem.length + 1 + j)).getD j none).map (am_phi B ka)))))) := by
            rw [vp_cell_q]
            refine congrArg (arrV cO N) (funext fun j => ?_)
            rw [List.getD_eq_getElem?_getD, List.getElem?_map]
            by_cases hj : j < N
            · rw [List.getElem?_range hj, if_pos hj]
              show va_rf (some _) = va_rf (some (am_phi B ka (mem.length + 1 + j)))
              rw [am_phi_lo (by omega), show B + (mem.length + 1 + j) = B + mem.length + 1 + j by omega]
            · rw [List.getElem?_eq_none (by rw [List.length_range]; omega), if_neg hj]
              rfl
          rw [hout] at f2
          have hAO : ArrOfT s cO (.array .int) := fun N9 z9 => by
            obtain ⟨-, k9, hk9, cm9, hkk9⟩ := (hO 0 0 0).1
            exact ⟨(fun q hq => by cases hq), k9, hk9, cm9, hkk9⟩
          have hAI : ArrOfT s comp .int := fun N9 z9 => by
            obtain ⟨-, k9, hk9, cm9, hkk9⟩ := (hI 0 .null).1
            exact ⟨(fun q hq => by cases hq), k9, hk9, cm9, hkk9⟩
          have hcell : ∀ (k : Nat) (e2 : am_E), mem.length ≤ k → (mem ++ ((.inr (.inr (1, (List.range N).map fun j => some (mem.length + 1 + j))) : am_E) :: List.replicate N (.inl (0, List.replicate K 0))))[k]? = some e2 →
              (k = mem.length ∧ e2 = .inr (.inr (1, (List.range N).map fun j => some (mem.length + 1 + j)))) ∨ (∃ j, j < N ∧ k = mem.length + 1 + j ∧ e2 = .inl (0, List.replicate K 0)) := by
            intro k e2 hk he
            rw [List.getElem?_append_right hk] at he
            rcases Nat.eq_or_lt_of_le hk with h | h
            · rw [show k - mem.length = 0 by omega] at he
              cases he
              exact Or.inl ⟨h.symm, rfl⟩
            · rw [show k - mem.length = (k - mem.length - 1) + 1 by omega, List.getElem?_cons_succ, List.getElem?_replicate] at he
              split at he
              · rename_i hj
                cases he
                exact Or.inr ⟨k - mem.length - 1, hj, by omega, rfl⟩
              · cases he
          have hW := kk lsA F.heap locs hl ⟨am_upC cA mem.length (fun k => if k = mem.length then cO else comp), fun k2 x2 hx2 => ?_, fun k2 e2 ty he2 hty => ?_, ⟨by have := hS.1; omega, fun x h1 h2 => (hold x (Nat.lt_of_lt_of_le h1 hS.1)).trans (hS.2.1 x h1 h2), hS.2.2⟩⟩
          · rw [List.length_append, List.length_cons, List.length_replicate, am_sz_app, hszl, show mem.length + (N + 1) - n0 = mem.length - n0 + 1 + N by omega, show am_sz mem + (N + N * K) - z0 = am_sz mem - z0 + N + N * K by omega] at hW
            obtain ⟨t, a1, b1⟩ := hW F rfl X'
            refine ⟨t, step t ?_, b1⟩
            rw [hT, hHs]
            simp only [List.map_cons, am_tv, am_phi_lo (show mem.length < 1000 by omega)] at a1
            rw [← am_nx_ok hn]
            exact a1
          · rw [am_ws_get] at hx2
            obtain ⟨e2, he2, rfl⟩ := Option.map_eq_some_iff.mp hx2
            by_cases h : k2 < mem.length
            · rw [List.getElem?_append_left h] at he2
              have := hP k2 _ (am_ws_at he2)
              simp only [am_upC, h, if_true]
              exact this.kept (hold _ this.lt)
            · rcases hcell k2 e2 (by omega) he2 with ⟨rfl, rfl⟩ | ⟨jj, hj, rfl, rfl⟩
              · simp only [am_upC, Nat.lt_irrefl, if_false, if_true]
                show F.heap[B + mem.length]? = some (vp_cell cO _)
                rw [f2]
                simp only [List.length_map, List.length_range]
              · simp only [am_upC, show ¬ mem.length + 1 + jj < mem.length by omega, show ¬ mem.length + 1 + jj = mem.length by omega, if_false]
                show F.heap[B + (mem.length + 1 + jj)]? = some (vp_cell comp _)
                rw [show B + (mem.length + 1 + jj) = H.size + 1 + jj by omega, hrow jj hj, hin]
                simp only [List.length_replicate]
          · by_cases h : k2 < mem.length
            · rw [List.getElem?_append_left h] at he2
              simp only [am_upC, h, if_true]
              exact hWK k2 e2 ty he2 hty
            · rcases hcell k2 e2 (by omega) he2 with ⟨rfl, rfl⟩ | ⟨jj, hj, rfl, rfl⟩
              · cases hty
                simp only [am_upC, Nat.lt_irrefl, if_false, if_true]
                exact ⟨hAO, fA⟩
              · cases hty
                simp only [am_upC, show ¬ mem.length + 1 + jj < mem.length by omega, show ¬ mem.length + 1 + jj = mem.length by omega, if_false]
                exact ⟨hAI, fC⟩
        | _ => cases hr
      · cases h
    · cases h
  | _ => exact absurd hA (by simp)
end AMS
end
section
/-! String.checkIndex, in one step of the list machine -/
noncomputable def ck_yP : MethodName := ⟨"jdk/internal/util/Preconditions", "checkIndex", "(IILjava/util/function/BiFunction;)I"⟩
noncomputable def ck_bS : ByteArray := prog_14_method_155_code
noncomputable def ck_bP : ByteArray := prog_19_method_11_code
noncomputable def ck_wS : Cond := .code ck_yS ck_bS 2 none
noncomputable def ck_wP : Cond := .code ck_yP ck_bP 3 (some .int)
theorem ck_wS_in : ck_wS ∈ am_big := by
  refine am_big_at 477 ?_ (by decide +kernel)
  decide +kernel
theorem ck_wP_in : ck_wP ∈ am_big := by
  refine am_big_at 482 ?_ (by decide +kernel)
  decide +kernel
theorem ck_ws : Cond.static ck_yS ∈ am_big ∧ Cond.initialized "java/lang/String" ∈ am_big ∧ Cond.static ck_yP ∈ am_big ∧ Cond.initialized "jdk/internal/util/Preconditions" ∈ am_big ∧ Cond.methodLink "java/lang/String" 1059 ck_yP ∈ am_big ∧ Cond.fieldLink "java/lang/String" 1053 "jdk/internal/util/Preconditions" "SIOOBE_FORMATTER" "Ljava/util/function/BiFunction;" ∈ am_big := by
  refine ⟨by decide +kernel, by decide +kernel, by decide +kernel, by decide +kernel, by decide +kernel, by decide +kernel⟩
theorem ck_good {ws : List Cond} (h : ∀ w ∈ ws, w ∈ am_big) : GoodIn am_big ws := fun w hw => ⟨h w hw, good_of_word (am_big_good (h w hw))⟩
theorem ck_dS0 : decode ck_bS 0 = .ok (.iload_n 0, 1) := by decide +kernel
theorem ck_dS1 : decode ck_bS 1 = .ok (.iload_n 1, 1) := by decide +kernel
theorem ck_dS2 : decode ck_bS 2 = .ok (.getstatic 1053, 3) := by decide +kernel
theorem ck_dS5 : decode ck_bS 5 = .ok (.invokestatic 1059, 3) := by decide +kernel
theorem ck_dS8 : decode ck_bS 8 = .ok (.pop, 1) := by decide +kernel
theorem ck_dS9 : decode ck_bS 9 = .ok (.return_, 1) := by decide +kernel
theorem ck_dP0 : decode ck_bP 0 = .ok (.iload_n 0, 1) := by decide +kernel
theorem ck_dP1 : decode ck_bP 1 = .ok (.ifCond .lt 8, 3) := by decide +kernel
theorem ck_dP4 : decode ck_bP 4 = .ok (.iload_n 0, 1) := by decide +kernel
theorem ck_dP5 : decode ck_bP 5 = .ok (.iload_n 1, 1) := by decide +kernel
theorem ck_dP6 : decode ck_bP 6 = .ok (.if_icmp .lt 10, 3) := by decide +kernel
theorem ck_dP16 : decode ck_bP 16 = .ok (.iload_n 0, 1) := by decide +kernel
theorem ck_dP17 : decode ck_bP 17 = .ok (.ireturn, 1) := by decide +kernel
noncomputable def ck_no : Nat → Prop := fun _ => False
set_option maxHeartbeats 4000000 in
set_option maxRecDepth 100000 in
theorem ck_P (l : Launch) (i n : Int32) (v : Value) (hvv : v = .null ∨ ∃ t : Nat, v = .ref t) (h0 : ¬ i < 0) (h1 : i < n) : Met l ck_yP (ck_wP :: am_big) ({ frames := 0, cells := 0, slots := 0, locals := 0 }) (va_Pc [.int i, .int n, v] (fun _ => True)) (va_Qi (fun (_ : Int32) (_ : Unit) => True) (fun _ _ => True) ck_no) 0 0 ck_no := by
  refine Met.ofW (cc := ck_bP) (maxL := 3) (ret := some .int) (by decide) rfl ?_
  intro p e s m args below meth c s₁ B hml hv
  obtain ⟨rfl, -⟩ := hv
  have hx := B.exec
  have hb := B.bytes
  have hr := B.returns
  have hlocks := B.notSynchronized
  have hS : va_S ck_no s.heap s.heap [] := va_S.rf
  have hl : ∃ ls : Array Slot, entryFrame m ([.int i, .int n, v] : List Value).toArray 3 = F0 m 0 ls [] ∧ lv_has ls 3 [(0, .int i), (1, .int n), (2, v)] := by
    rcases hvv with rfl | ⟨t, rfl⟩
    · exact ⟨_, by rw [lg_entry_eq], lv_entry ([.int i, .int n, .null]) (n := 3) (Nat.le_of_ble_eq_true rfl)⟩
    · exact ⟨_, by rw [lg_entry_eq], lv_entry ([.int i, .int n, .ref t]) (n := 3) (Nat.le_of_ble_eq_true rfl)⟩
  obtain ⟨ls, he, hl⟩ := hl
  rw [he]
  refine lv_iload_n hx hb ck_dP0 rfl (lv_at hl 0 rfl) ?_
  refine lv_if_lt hx hb ck_dP1 (tgt := 9) rfl (fun q => absurd q h0) (fun _ => ?_)
  refine lv_iload_n hx hb ck_dP4 rfl (lv_at hl 0 rfl) ?_
  refine lv_iload_n hx hb ck_dP5 rfl (lv_at hl 1 rfl) ?_
  refine lv_icmp_lt hx hb ck_dP6 (tgt := 16) rfl (fun _ => ?_) (fun q => absurd h1 q)
  refine lv_iload_n hx hb ck_dP16 rfl (lv_at hl 0 rfl) ?_
  exact W.iret (v := i) hx hb hr (fun t ht hW => ⟨⟨i, (), rfl, trivial, trivial⟩, hS.F ht⟩) hS.2.2 ck_dP17
set_option maxHeartbeats 4000000 in
set_option maxRecDepth 100000 in
theorem ck_S (l : Launch) (i n : Int32) (v : Value) (hvv : v = .null ∨ ∃ t : Nat, v = .ref t) (h0 : ¬ i < 0) (h1 : i < n) (A : Nat → Prop) : Met l ck_yS (ck_wS :: am_big) ({ frames := 1, cells := 0, slots := 0, locals := 22 }) (va_Pc [.int i, .int n] (fun U => va_Z "jdk/internal/util/Preconditions" "SIOOBE_FORMATTER" "Ljava/util/function/BiFunction;" v A U U.heap)) (va_Qv (fun (_ : Unit) => True) (fun _ _ => True) ck_no) 0 0 ck_no := by
  refine Met.ofW (cc := ck_bS) (maxL := 2) (ret := none) (by decide) rfl ?_
  intro p e s m args below meth c s₁ B hml hv
  obtain ⟨rfl, hZ⟩ := hv
  have hx := B.exec
  have hb := B.bytes
  have hr := B.returns
  have hts0 := atoms_spec (ws := ck_wS :: am_big) B.pre
  have hts : ∀ w ∈ am_big, w.before #[.int i, .int n] s = true := fun w hw => hts0 w (List.mem_cons_of_mem _ hw)
  have hown : s.vm.findClass "java/lang/String" = some m.cls := findClass_of_methodNamed B.named
  have hlocks := B.notSynchronized
  have hS : va_S ck_no s.heap s.heap [] := va_S.rf
  have hS2 : va_S A s.heap s.heap [] := va_S.rf
  have hl := lv_entry ([.int i, .int n]) (n := 2) (Nat.le_of_ble_eq_true rfl)
  rw [lg_entry_eq]
  generalize (lg_sl ([.int i, .int n]) ++ List.replicate (2 - (lg_sl ([.int i, .int n])).length) Slot.unset).toArray = ls at hl ⊢
  have hl : lv_has ls 2 [(0, .int i), (1, .int n)] := hl
  refine lv_iload_n hx hb ck_dS0 rfl (lv_at hl 0 rfl) ?_
  refine lv_iload_n hx hb ck_dS1 rfl (lv_at hl 1 rfl) ?_
  refine va_gets hx hb hZ hS2 hown (hts _ ck_ws.2.2.2.2.2) (fun x h => h) ck_dS2 ?_
  have hG : GoodIn am_big (va_wsS "java/lang/String" 1059 ck_yP (ck_wP :: am_big)) := ck_good fun w hw => by
    unfold va_wsS at hw
    rcases List.mem_append.mp hw with hw | hw
    · simp only [List.mem_cons, List.not_mem_nil, or_false] at hw
      rcases hw with rfl | rfl | rfl
      · exact ck_ws.2.2.2.2.1
      · exact ck_ws.2.2.1
      · exact ck_ws.2.2.2.1
    · rcases List.mem_cons.mp hw with rfl | hw
      · exact ck_wP_in
      · exact hw
  refine va_calli (va_runS (As := [.int i, .int n, v]) (rest := []) ⟨hx, hb, hml, hown, hts⟩ (ck_P l i n v hvv h0 h1) (va_cwS 3 hts hG rfl rfl rfl ⟨by decide, by decide, by decide +kernel⟩ ⟨Nat.le_refl _, Nat.le_refl _⟩) ⟨fun a U g mk q => q, fun U hU hW => ⟨rfl, trivial⟩⟩ rfl rfl hl.1 rfl (lv_room (Nat.zero_le _)) ck_dS5 ⟨Nat.le_refl _, Nat.le_refl _⟩) hS (fun q _ h => h) (fun q h => h) (fun r u t H1 locs1 ht hvm hp hB hz hk hS => ?_)
  refine lv_pop hx hb ck_dS8 rfl ?_
  exact W.vret hx hb hr (fun t ht hW => ⟨⟨(), rfl, trivial, trivial⟩, hS.F ht⟩) hS.2.2 ck_dS9
section AMS
variable {p : Program} {l : Launch} {e : Env} {R : Room} {s : State} {m : MethodId} {args : Array Value} {below : List Frame} {meth : Method} {c : Code} {Q : State → Prop} {B : Nat} {ka : Nat → Nat} {D : va_G} {cst : List am_E} {mid n0 z0 : Nat}
set_option maxHeartbeats 4000000 in
theorem am_stepK (C : am_Cx B ka D cst mid n0 p s m args meth c) (hR : 3 ≤ R.frames ∧ 192 ≤ R.locals) {i pc len rt : Nat} {raw : Instr} {ls ls' : am_L} {st st' : List Value} {mem : List am_E} {j : Option Nat} (hpc : (am_pcs mid).getD i 0 = pc)
    (hdec : decode (am_bytes mid) pc = .ok (raw, len)) (hchk : am_chk (am_on.getD mid 0) rt (am_pcs mid) i .monitorexit raw pc len = true) {mem' : List am_E} (hn0 : n0 ≤ mem.length) (hr1 : mem'.length - n0 ≤ R.cells) (hr2 : am_sz mem' - z0 ≤ R.slots)
    (h : am_step am_ft cst .monitorexit ls st mem = some (j, ls', st', mem')) (kk : am_G B ka D mid n0 z0 p l e R s m args below meth c Q (j.getD (i + 1)) ls' st' mem') : am_G B ka D mid n0 z0 p l e R s m args below meth c Q i ls st mem := by
  intro lsA H locs hl hSt
  obtain ⟨hx, hb, hml, hown, hts, hKC, hCO, hsz, hnm, -⟩ := C
  rw [hpc]
  simp only [am_step] at h
  split at h
  · rename_i n ix r
    split at h
    · rename_i hq
      obtain ⟨⟨q0, q1⟩, hr8⟩ := hq
      simp only [Option.some.injEq, Prod.mk.injEq] at h
      obtain ⟨rfl, rfl, rfl, rfl⟩ := h
      simp only [am_chk, Bool.and_eq_true] at hchk
      obtain ⟨hn, hr⟩ := hchk
      obtain ⟨cA, hP, hWK, hS⟩ := hSt
      cases raw with
      | invokestatic ix2 =>
        simp only [Bool.and_eq_true, beq_iff_eq] at hr
        obtain ⟨rfl, hr⟩ := hr
        obtain ⟨q, hq, he⟩ := List.any_eq_true.mp hr
        simp only [Bool.and_eq_true, beq_iff_eq] at he
        obtain ⟨e1, e2⟩ := he
        have hw := am_wq_ok (List.all_eq_true.mp am_lck_c q hq)
        rw [e1, e2] at hw
        have hG : GoodIn am_big (va_wsS (am_ownS (am_on.getD mid 0)) ix2 ck_yS (ck_wS :: am_big)) := ck_good fun w hw2 => by
          unfold va_wsS at hw2
          rcases List.mem_append.mp hw2 with hw2 | hw2
          · simp only [List.mem_cons, List.not_mem_nil, or_false] at hw2
            rcases hw2 with rfl | rfl | rfl
            · exact hw
            · exact ck_ws.1
            · exact ck_ws.2.1
          · rcases List.mem_cons.mp hw2 with rfl | hw2
            · exact ck_wS_in
            · exact hw2
        have hz : ∃ v : Value, (v = .null ∨ ∃ t : Nat, v = .ref t) ∧ va_Z "jdk/internal/util/Preconditions" "SIOOBE_FORMATTER" "Ljava/util/function/BiFunction;" v (am_A B) s s.heap := by
          rcases hCO.2.2.2.2.2 with hz | ⟨t, hz⟩
          · exact ⟨_, Or.inl rfl, hz⟩
          · exact ⟨_, Or.inr ⟨t, rfl⟩, hz⟩
        obtain ⟨v, hv, hZ⟩ := hz
        refine va_callv (va_runS (As := [.int ix, .int n]) (rest := r.map (am_tv (am_phi B ka))) ⟨hx, hb, hml, hown, hts⟩ (ck_S l ix n v hv q0 q1 (am_A B)) (va_cwS 2 hts hG rfl rfl rfl ⟨by decide, by decide, by decide +kernel⟩ ⟨by show 1 + 1 ≤ R.frames; omega, by show 8 + (2 + 11) + 22 ≤ R.locals; omega⟩) ⟨fun a U g mk q => ⟨q.1, va_Z.moved (u := U) (U := U.calling g mk a) (Vm.Alike.refl U.vm) q.2⟩, fun U hU hW => ⟨rfl, va_Z.moved hW.alike (by rw [hU]; exact hZ.kept hS.2.1)⟩⟩ rfl rfl hl.1 rfl (lv_room (by rw [am_tv_cats]; exact hr8)) hdec ⟨by omega, by omega⟩) hS (fun q _ h => h.elim) (fun q h => h.elim) (fun u t H1 locs1 ht hvm hp hB hz hk hS1 => ?_)
        have hP1 : va_P D am_cl (am_ws B ka cA mem) H1 := hP.kept (fun k q hk2 => hk _ ((hP k q hk2).lt) (fun h => h))
        have kk := kk lsA H1 locs1 hl ⟨cA, hP1, hWK, hS1⟩
        rw [Option.getD_none, am_nx_ok hn] at kk
        exact kk
      | _ => cases hr
    · cases h
  · cases h
end AMS
end
