/-! The list machine's cells beside the heap's; its locals beside the frame's -/
noncomputable def am_phi (B : Nat) (ka : Nat → Nat) (k : Nat) : Nat := if k < 1000 then B + k else ka (k - 1000)
noncomputable def am_tv (f : Nat → Nat) : Value → Value
  | .ref k => .ref (f k)
  | v => v
theorem am_tv_cat (f : Nat → Nat) (v : Value) : (am_tv f v).category = v.category := by cases v <;> rfl
theorem am_tv_cats (f : Nat → Nat) (st : List Value) : ((st.map (am_tv f)).map fun v => v.category) = st.map fun v => v.category := by
  rw [List.map_map]
  exact List.map_congr_left fun v _ => am_tv_cat f v
noncomputable def am_te (f : Nat → Nat) (cA : ClassId) : am_E → va_E
  | .inl q => .inl (cA, q.2.length, .inl (fun j => q.2.getD j 0))
  | .inr (.inl q) => .inr (q.1, q.2.map (am_tv f))
  | .inr (.inr q) => .inl (cA, q.2.length, .inr (.inr (.inr (.inr (fun j => (q.2.getD j none).map f)))))
noncomputable def am_aty : am_E → Option FieldType
  | .inl (0, _) => some .int
  | .inl (1, _) => some .byte
  | .inl (_ + 2, _) => some .boolean
  | .inr (.inl _) => none
  | .inr (.inr (0, _)) => some (.object "MoonReapers$State")
  | .inr (.inr (_ + 1, _)) => some (.array .int)
noncomputable def am_ws (B : Nat) (ka : Nat → Nat) (cA : Nat → ClassId) (mem : List am_E) : va_W := mem.mapIdx fun k e => (B + k, am_te (am_phi B ka) (cA k) e)
theorem am_ws_get {B : Nat} {ka : Nat → Nat} {cA : Nat → ClassId} {mem : List am_E} (k : Nat) : (am_ws B ka cA mem)[k]? = (mem[k]?).map fun e => (B + k, am_te (am_phi B ka) (cA k) e) := List.getElem?_mapIdx
theorem am_ws_at {B : Nat} {ka : Nat → Nat} {cA : Nat → ClassId} {mem : List am_E} {k : Nat} {e : am_E} (h : mem[k]? = some e) : (am_ws B ka cA mem)[k]? = some (B + k, am_te (am_phi B ka) (cA k) e) := by rw [am_ws_get, h]; rfl
theorem am_ws_set {B : Nat} {ka : Nat → Nat} {cA : Nat → ClassId} {mem : List am_E} (k : Nat) (e : am_E) : (am_ws B ka cA mem).set k (B + k, am_te (am_phi B ka) (cA k) e) = am_ws B ka cA (mem.set k e) := by
  apply List.ext_getElem?
  intro i
  rw [am_ws_get, List.getElem?_set, List.getElem?_set, am_ws_get]
  unfold am_ws
  rw [List.length_mapIdx]
  by_cases h : k = i
  · subst h
    by_cases h2 : k < mem.length <;> simp [h2]
  · simp [h]
noncomputable def am_A (B : Nat) : Nat → Prop := fun q => B ≤ q
theorem am_ws_D {B : Nat} {ka : Nat → Nat} {cA : Nat → ClassId} {mem : List am_E} : va_D (am_A B) (am_ws B ka cA mem) := by
  refine ⟨fun i j x y hx hy hxy => ?_, fun k x hx => ?_⟩
  · rw [am_ws_get] at hx hy
    obtain ⟨a, -, rfl⟩ := Option.map_eq_some_iff.mp hx
    obtain ⟨b, -, rfl⟩ := Option.map_eq_some_iff.mp hy
    simpa using hxy
  · rw [am_ws_get] at hx
    obtain ⟨a, -, rfl⟩ := Option.map_eq_some_iff.mp hx
    exact Nat.le_add_right B k
noncomputable def am_upC (cA : Nat → ClassId) (n : Nat) (c : Nat → ClassId) : Nat → ClassId := fun k => if k < n then cA k else c k
theorem am_ws_app {B : Nat} {ka : Nat → Nat} {cA c : Nat → ClassId} {mem l : List am_E} : am_ws B ka (am_upC cA mem.length c) (mem ++ l) = am_ws B ka cA mem ++ l.mapIdx fun k e => (B + (mem.length + k), am_te (am_phi B ka) (c (mem.length + k)) e) := by
  apply List.ext_getElem?
  intro i
  have hl : (am_ws B ka cA mem).length = mem.length := by unfold am_ws; exact List.length_mapIdx
  rw [am_ws_get]
  by_cases h : i < mem.length
  · rw [List.getElem?_append_left h, List.getElem?_append_left (by omega), am_ws_get]
    simp [am_upC, h]
  · rw [List.getElem?_append_right (by omega), List.getElem?_append_right (by omega), hl, List.getElem?_mapIdx]
    simp [am_upC, h, show mem.length + (i - mem.length) = i by omega]
noncomputable def am_WK (cA : Nat → ClassId) (mem : List am_E) (U : State) : Prop := ∀ (k : Nat) (e : am_E) (ty : FieldType), mem[k]? = some e → am_aty e = some ty → ArrOfT U (cA k) ty ∧ va_RA U (cA k) ty
noncomputable def am_KC (D : va_G) (U : State) : Prop := ∀ (c : Nat) (q : vw_C), am_cl[c]? = some q → u_Kn U q.1 q.2.1 q.2.2 (D.1 c) (D.2 c)
theorem am_K1 {D : va_G} {U : State} {cA : Nat → ClassId} {mem : List am_E} {k : Nat} {e : am_E} {ty : FieldType} (hC : am_KC D U) (hW : am_WK cA mem U) (h : mem[k]? = some e) (ht : am_aty e = some ty) : va_K D am_cl [(cA k, ty)] U :=
  ⟨hC, fun j q hq => by
    match j, hq with
    | 0, hq => cases hq; exact hW k e ty h ht
    | _ + 1, hq => simp at hq⟩
theorem am_K0 {D : va_G} {U : State} (hC : am_KC D U) : va_K D am_cl [] U := ⟨hC, fun j q hq => by simp at hq⟩
theorem am_WK.moved {cA : Nat → ClassId} {mem : List am_E} {u U : State} (hvm : u.vm.Alike U.vm) (h : am_WK cA mem u) : am_WK cA mem U := fun k e ty h1 h2 => ⟨arrOfT_moved hvm (h k e ty h1 h2).1, (h k e ty h1 h2).2.moved hvm⟩
theorem am_KC.moved {D : va_G} {u U : State} (hvm : u.vm.Alike U.vm) (h : am_KC D u) : am_KC D U := fun c q hq => u_Kn_moved hvm (h c q hq)
theorem am_WK.set {cA : Nat → ClassId} {mem : List am_E} {U : State} (h : am_WK cA mem U) (k : Nat) {e0 e : am_E} (h0 : mem[k]? = some e0) (he : am_aty e = am_aty e0) : am_WK cA (mem.set k e) U := by
  intro i x ty hx hty
  rw [List.getElem?_set] at hx
  by_cases hi : k = i
  · subst hi
    rw [if_pos rfl] at hx
    split at hx
    · cases hx
      exact h k e0 ty h0 (he ▸ hty)
    · cases hx
  · rw [if_neg hi] at hx
    exact h i x ty hx hty
/-- constants: arrays, texts, statics -/
noncomputable def am_stn (k : Nat) : String × String × String := ([("java/lang/String", "COMPACT_STRINGS", "Z"), ("MoonReapers$Reader", "NUMBERS", "[I"), ("MoonReapers$Reader", "LOW", "[I"), ("MoonReapers$Reader", "HIGH", "[I")] : List (String × String × String)).getD k ("", "", "")
noncomputable def am_lst (k : Nat) : String := (["night", "strip", "reaper", "cloud", "thistle"] : List String).getD ((k - 1000) / 2) ""
noncomputable def am_CO (B : Nat) (ka : Nat → Nat) (cst : List am_E) (U : State) (H : Heap) : Prop :=
  (∀ (j : Nat) (q : Nat × List Int32) (ty : FieldType), cst[j]? = some (.inl q) → am_aty (.inl q) = some ty → va_T ty (ka j) q.2.length (fun i => .int (q.2.getD i 0)) (am_A B) U H) ∧
  (∀ (j : Nat) (fs : List Value), cst[j]? = some (.inr (.inl (20, fs))) → va_O "java/lang/String" (ka j) (am_A B) U H ∧ (∀ v, fs[0]? = some v → va_OF "java/lang/String" "value" "[B" (am_tv (am_phi B ka) v) (ka j) (am_A B) U H) ∧ (∀ v, fs[1]? = some v → va_OF "java/lang/String" "coder" "B" (am_tv (am_phi B ka) v) (ka j) (am_A B) U H)) ∧
  (∀ (j : Nat) (v : Value), am_stat[j]? = some v → va_Z (am_stn j).1 (am_stn j).2.1 (am_stn j).2.2 (am_tv (am_phi B ka) v) (am_A B) U H) ∧
  (∀ q ∈ am_ls, vk_R (am_ownS q.1) q.2.1 (am_lst q.2.2.1) (am_phi B ka q.2.2.1) U) ∧
  (∀ (j ci : Nat) (fs : List Value), cst[j]? = some (.inr (.inl (ci, fs))) → ci = 20) ∧
  va_Zq "jdk/internal/util/Preconditions" "SIOOBE_FORMATTER" "Ljava/util/function/BiFunction;" (am_A B) U H
theorem am_CO.kept {B : Nat} {ka : Nat → Nat} {cst : List am_E} {U : State} {H H1 : Heap} (h : am_CO B ka cst U H) (hq : ∀ a : Nat, a < H.size → ¬ am_A B a → H1[a]? = H[a]?) : am_CO B ka cst U H1 :=
  ⟨fun j q ty h1 h2 => (h.1 j q ty h1 h2).kept hq, fun j fs h1 => ⟨(h.2.1 j fs h1).1.kept hq, fun v h2 => ((h.2.1 j fs h1).2.1 v h2).kept hq, fun v h2 => ((h.2.1 j fs h1).2.2 v h2).kept hq⟩, fun j v h1 => (h.2.2.1 j v h1).kept hq, h.2.2.2.1, h.2.2.2.2.1, h.2.2.2.2.2.kept hq⟩
theorem am_CO.warm {B : Nat} {ka : Nat → Nat} {cst : List am_E} {s U : State} {H : Heap} (hW : s.WarmedH U.vm) (h : am_CO B ka cst s H) : am_CO B ka cst U H :=
  ⟨fun j q ty h1 h2 => (h.1 j q ty h1 h2).moved hW.alike, fun j fs h1 => ⟨(h.2.1 j fs h1).1.moved hW.alike, fun v h2 => ((h.2.1 j fs h1).2.1 v h2).moved hW.alike, fun v h2 => ((h.2.1 j fs h1).2.2 v h2).moved hW.alike⟩, fun j v h1 => (h.2.2.1 j v h1).moved hW.alike, fun q hq => (h.2.2.2.1 q hq).warm hW, h.2.2.2.2.1, h.2.2.2.2.2.moved hW.alike⟩
theorem am_CO.same {B : Nat} {ka : Nat → Nat} {cst : List am_E} {s U : State} {H : Heap} (hv : U.vm = s.vm) (h : am_CO B ka cst s H) : am_CO B ka cst U H :=
  have al : s.vm.Alike U.vm := by rw [hv]; exact Vm.Alike.refl s.vm
  ⟨fun j q ty h1 h2 => (h.1 j q ty h1 h2).moved al, fun j fs h1 => ⟨(h.2.1 j fs h1).1.moved al, fun v h2 => ((h.2.1 j fs h1).2.1 v h2).moved al, fun v h2 => ((h.2.1 j fs h1).2.2 v h2).moved al⟩, fun j v h1 => (h.2.2.1 j v h1).moved al, fun q hq => (h.2.2.2.1 q hq).same hv, h.2.2.2.2.1, h.2.2.2.2.2.moved al⟩
/-- words that go their own way: nest mates' methods, classes of arrays of references -/
noncomputable def am_NW (U : State) : Prop := (∀ q ∈ am_lm, ¬ q.2.2.2.1 < 3 → va_Nw (am_nw q) U) ∧ va_AO "MoonReapers$State" U ∧ (Cond.arrayOver (.array .int)).before #[] U = true
/-- locals -/
noncomputable def am_LV (f : Nat → Nat) (ls : am_L) (nL : Nat) (arr : Array Slot) : Prop := arr.size = nL ∧ ls.length = nL ∧ lv_wf arr ∧ ∀ (i : Nat) (v : Value), ls[i]? = some (some v) → arr[i]? = some (.val (am_tv f v))
noncomputable def am_asl (f : Nat → Nat) (ls : am_L) : List (Nat × Value) := ls.zipIdx.filterMap fun q => q.1.map fun v => (q.2, am_tv f v)
theorem am_asl_mem {f : Nat → Nat} {ls : am_L} {q : Nat × Value} : q ∈ am_asl f ls ↔ ∃ v, ls[q.1]? = some (some v) ∧ q.2 = am_tv f v := by
  unfold am_asl
  rw [List.mem_filterMap]
  constructor
  · rintro ⟨⟨o, i⟩, h1, h2⟩
    have h1 := List.mem_zipIdx_iff_getElem?.mp h1
    obtain ⟨v, hv, rfl⟩ := Option.map_eq_some_iff.mp h2
    exact ⟨v, by rw [← hv]; exact h1, rfl⟩
  · rintro ⟨v, h1, h2⟩
    refine ⟨(some v, q.1), List.mem_zipIdx_iff_getElem?.mpr h1, ?_⟩
    obtain ⟨i, w⟩ := q
    cases h2
    rfl
theorem am_LV.has {f : Nat → Nat} {ls : am_L} {nL : Nat} {arr : Array Slot} (h : am_LV f ls nL arr) : lv_has arr nL (am_asl f ls) :=
  ⟨h.1, h.2.2.1, fun q hq => by
    obtain ⟨v, h1, h2⟩ := am_asl_mem.mp hq
    rw [h2]
    exact h.2.2.2 _ _ h1⟩
theorem am_okp_cat {ls : am_L} {i j : Nat} {v : Value} (h : am_okp ls i = true) (hj : j + 1 = i) (hv : ls[j]? = some (some v)) : v.category = 1 := by
  subst hj
  simp only [am_okp, hv] at h
  exact beq_iff_eq.mp h
theorem am_LV.st1 {f : Nat → Nat} {ls : am_L} {nL : Nat} {arr arr' : Array Slot} {i : Nat} {v : Value} (h : am_LV f ls nL arr) (hp : am_okp ls i = true) (h' : lv_has arr' nL ((i, am_tv f v) :: (am_asl f ls).filter (fun q => !(q.1 == i) && !(q.1 + 1 == i && q.2.category == 2)))) : am_LV f (ls.set i (some v)) nL arr' := by
  refine ⟨h'.1, by rw [List.length_set]; exact h.2.1, h'.2.1, fun j w hw => ?_⟩
  rw [List.getElem?_set] at hw
  by_cases hj : i = j
  · subst hj
    rw [if_pos rfl] at hw
    split at hw
    · cases hw
      exact h'.2.2 (i, am_tv f v) List.mem_cons_self
    · cases hw
  · rw [if_neg hj] at hw
    refine h'.2.2 (j, am_tv f w) (List.mem_cons_of_mem _ (List.mem_filter.mpr ⟨am_asl_mem.mpr ⟨w, hw, rfl⟩, ?_⟩))
    have h1 : ¬ j = i := fun e => hj e.symm
    by_cases h2 : j + 1 = i
    · have := am_okp_cat hp h2 hw
      simp [h1, am_tv_cat, this]
    · simp [h1, h2]
theorem am_LV.st2 {f : Nat → Nat} {ls : am_L} {nL : Nat} {arr arr' : Array Slot} {i : Nat} {v : Value} (h : am_LV f ls nL arr) (hp : am_okp ls i = true) (h' : lv_has arr' nL ((i, am_tv f v) :: (am_asl f ls).filter (fun q => !(q.1 == i) && (!(q.1 == i + 1) && !(q.1 + 1 == i && q.2.category == 2))))) : am_LV f ((ls.set i (some v)).set (i + 1) none) nL arr' := by
  refine ⟨h'.1, by rw [List.length_set, List.length_set]; exact h.2.1, h'.2.1, fun j w hw => ?_⟩
  rw [List.getElem?_set] at hw
  by_cases hk : i + 1 = j
  · rw [if_pos hk] at hw
    split at hw <;> cases hw
  rw [if_neg hk, List.getElem?_set] at hw
  by_cases hj : i = j
  · subst hj
    rw [if_pos rfl] at hw
    split at hw
    · cases hw
      exact h'.2.2 (i, am_tv f v) List.mem_cons_self
    · cases hw
  · rw [if_neg hj] at hw
    refine h'.2.2 (j, am_tv f w) (List.mem_cons_of_mem _ (List.mem_filter.mpr ⟨am_asl_mem.mpr ⟨w, hw, rfl⟩, ?_⟩))
    have h1 : ¬ j = i := fun e => hj e.symm
    have h3 : ¬ j = i + 1 := fun e => hk e.symm
    by_cases h2 : j + 1 = i
    · have := am_okp_cat hp h2 hw
      simp [h1, h3, am_tv_cat, this]
    · simp [h1, h2, h3]
theorem am_place_cons (v : Value) (r : List Value) : am_place (v :: r) = if v.category = 2 then some v :: none :: am_place r else some v :: am_place r := rfl
theorem am_place_sl (f : Nat → Nat) : ∀ vs : List Value, (am_place vs).length = (lg_sl (vs.map (am_tv f))).length
  | [] => rfl
  | v :: r => by
    have ih := am_place_sl f r
    unfold lg_sl at ih ⊢
    rw [List.map_cons, List.flatMap_cons, List.length_append, ← ih, am_tv_cat, am_place_cons]
    by_cases h : v.category = 2
    · rw [if_pos h, if_pos h]; simp only [List.length_cons, List.length_nil]; omega
    · rw [if_neg h, if_neg h]; simp only [List.length_cons, List.length_nil]; omega
theorem am_place_at (f : Nat → Nat) : ∀ (vs : List Value) (k i : Nat) (v : Value), (am_place vs)[i]? = some (some v) → (k + i, am_tv f v) ∈ lv_args k (vs.map (am_tv f))
  | [], k, i, v, h => by simp [am_place] at h
  | w :: r, k, i, v, h => by
    unfold am_place at h
    rw [List.map_cons]
    unfold lv_args
    rw [am_tv_cat]
    by_cases hc : w.category = 2
    · rw [if_pos hc] at h ⊢
      match i, h with
      | 0, h => cases h; exact List.mem_cons_self
      | 1, h => simp at h
      | i + 2, h => exact List.mem_cons_of_mem _ (by rw [show k + (i + 2) = k + 2 + i by omega]; exact am_place_at f r (k + 2) i v h)
    · rw [if_neg hc] at h ⊢
      match i, h with
      | 0, h => cases h; exact List.mem_cons_self
      | i + 1, h => exact List.mem_cons_of_mem _ (by rw [show k + (i + 1) = k + 1 + i by omega]; exact am_place_at f r (k + 1) i v h)
theorem am_LV.entry (f : Nat → Nat) {vs : List Value} {ml : Nat} (h : (am_place vs).length ≤ ml) : am_LV f (am_args vs ml) ml ((lg_sl (vs.map (am_tv f)) ++ List.replicate (ml - (lg_sl (vs.map (am_tv f))).length) Slot.unset).toArray) := by
  have he := lv_entry (vs.map (am_tv f)) (n := ml) (by rw [← am_place_sl f]; exact h)
  refine ⟨he.1, by unfold am_args; rw [List.length_append, List.length_replicate]; omega, he.2.1, fun i v hi => ?_⟩
  unfold am_args at hi
  by_cases hl : i < (am_place vs).length
  · rw [List.getElem?_append_left hl] at hi
    have := am_place_at f vs 0 i v hi
    rw [Nat.zero_add] at this
    exact he.2.2 _ this
  · rw [List.getElem?_append_right (by omega), List.getElem?_replicate] at hi
    split at hi <;> cases hi
