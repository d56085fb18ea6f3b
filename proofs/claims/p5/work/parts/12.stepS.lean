/-! Instructions that write cells -/
theorem am_sz_set {mem : List am_E} {k : Nat} {e0 e : am_E} (h : mem[k]? = some e0) (he : am_ez e = am_ez e0) : am_sz (mem.set k e) = am_sz mem := by
  unfold am_sz
  rw [List.map_set]
  have : (mem.map am_ez).set k (am_ez e) = mem.map am_ez := by
    apply List.ext_getElem?
    intro i
    rw [List.getElem?_set]
    by_cases hi : k = i
    · subst hi
      rw [if_pos rfl, List.getElem?_map, h, he]
      have : k < mem.length := (List.getElem?_eq_some_iff.mp h).1
      simp [this]
    · rw [if_neg hi]
  rw [this]
theorem am_setq_upd {rs : List (Option Nat)} {k v : Nat} {f : Nat → Nat} (h : k < rs.length) : (fun j => ((rs.set k (some v)).getD j none).map f) = va_up (fun j => (rs.getD j none).map f) k (some (f v)) := by
  funext j
  unfold va_up
  rw [List.getD_eq_getElem?_getD, List.getElem?_set]
  by_cases e : k = j
  · subst e
    simp [h]
  · have : ¬ j = k := fun q => e q.symm
    simp [e, this]
theorem am_cpyl_len {f g : List Int32} {sp dp n : Nat} (h1 : sp + n ≤ f.length) (h2 : dp + n ≤ g.length) : (am_cpyl f g sp dp n).length = g.length := by
  unfold am_cpyl
  simp only [List.length_append, List.length_take, List.length_drop]
  omega
theorem am_cpyl_cpy {f g : List Int32} {sp dp n : Nat} (h1 : sp + n ≤ f.length) (h2 : dp + n ≤ g.length) : (fun j => (am_cpyl f g sp dp n).getD j 0) = va_cpy (fun j => f.getD j 0) (fun j => g.getD j 0) sp dp n := by
  funext j
  unfold va_cpy am_cpyl
  rw [List.getD_eq_getElem?_getD]
  have l1 : (g.take dp).length = dp := by rw [List.length_take]; omega
  have l2 : ((f.drop sp).take n).length = n := by rw [List.length_take, List.length_drop]; omega
  by_cases ha : j < dp
  · rw [List.getElem?_append_left (by omega), List.getElem?_take_of_lt ha, if_neg (by omega)]
    simp only [List.getD_eq_getElem?_getD]
  · rw [List.getElem?_append_right (by omega), l1]
    by_cases hb : j < dp + n
    · rw [if_pos (by omega), List.getElem?_append_left (by omega), List.getElem?_take_of_lt (by omega), List.getElem?_drop]
      simp only [List.getD_eq_getElem?_getD]
    · rw [if_neg (by omega), List.getElem?_append_right (by omega), l2, List.getElem?_drop]
      simp only [List.getD_eq_getElem?_getD]
      rw [show dp + n + (j - dp - n) = j by omega]
theorem am_nar_tv {ty : FieldType} {v : Value} {f : Nat → Nat} (h : narrow ty v = v) : narrow ty (am_tv f v) = am_tv f v := by
  cases v with
  | ref k => cases ty <;> rfl
  | _ => exact h
theorem am_fit_tv {ty : FieldType} {v : Value} {f : Nat → Nat} (h : fits ty v = true) : fits ty (am_tv f v) = true := by
  cases v with
  | ref k => cases ty <;> first | exact h | rfl
  | _ => exact h
section AMS
variable {p : Program} {l : Launch} {e : Env} {R : Room} {s : State} {m : MethodId} {args : Array Value} {below : List Frame} {meth : Method} {c : Code} {Q : State → Prop} {B : Nat} {ka : Nat → Nat} {D : va_G} {cst : List am_E} {mid n0 z0 : Nat}
theorem am_setW {i : Nat} {ls : am_L} {st : List Value} {mem : List am_E} {k : Nat} {e0 e1 : am_E} (kk : am_G B ka D mid n0 z0 p l e R s m args below meth c Q i ls st (mem.set k e1)) (h0 : mem[k]? = some e0) (hz : am_ez e1 = am_ez e0) (ht : am_aty e1 = am_aty e0)
    {lsA : Array Slot} {H1 : Heap} {locs1 : List Loc} {cA : Nat → ClassId} (hl : am_LV (am_phi B ka) ls (am_mq mid).2.1 lsA) (hWK : am_WK cA mem s) (hS1 : va_S (am_A B) s.heap H1 locs1) {x : va_E} (hx : am_te (am_phi B ka) (cA k) e1 = x) (hP1 : va_P D am_cl ((am_ws B ka cA mem).set k (B + k, x)) H1) :
    W p l e R s m args below meth c H1 locs1 (mem.length - n0) (am_sz mem - z0) Q (F0 m ((am_pcs mid).getD i 0) lsA (st.map (am_tv (am_phi B ka)))) := by
  subst hx
  rw [am_ws_set] at hP1
  have := kk lsA H1 locs1 hl ⟨cA, hP1, hWK.set k h0 ht, hS1⟩
  rw [List.length_set, am_sz_set h0 hz] at this
  exact this
set_option maxHeartbeats 4000000 in
theorem am_stepS (C : am_Cx B ka D cst mid n0 p s m args meth c) (hR : 1 ≤ R.frames ∧ 64 ≤ R.locals) (hmid : mid < 240) {i pc len rt : Nat} {op raw : Instr} (hop : op ∈ (am_mq mid).1) {ls ls' : am_L} {st st' : List Value} {mem : List am_E} {j : Option Nat} (hpc : (am_pcs mid).getD i 0 = pc)
    (hdec : decode (am_bytes mid) pc = .ok (raw, len)) (hchk : am_chk (am_on.getD mid 0) rt (am_pcs mid) i op raw pc len = true)
    (hA : match op with | .iastore | .bastore | .aastore | .putfield _ | .invokedynamic _ => True | _ => False)
    {mem' : List am_E} (h : am_step am_ft cst op ls st mem = some (j, ls', st', mem')) (kk : am_G B ka D mid n0 z0 p l e R s m args below meth c Q (j.getD (i + 1)) ls' st' mem') : am_G B ka D mid n0 z0 p l e R s m args below meth c Q i ls st mem := by
  intro lsA H locs hl hSt
  obtain ⟨hx, hb, hml, hown, hts, hKC, hCO, hsz, hnm, -⟩ := C
  rw [hpc]
  cases op with
  | iastore =>
    simp only [am_step] at h
    split at h
    · rename_i x ix k r
      split at h
      · rename_i xs hk
        split at h
        · rename_i hin
          simp only [Option.some.injEq, Prod.mk.injEq] at h
          obtain ⟨rfl, rfl, rfl, rfl⟩ := h
          simp only [am_chk, Bool.and_eq_true] at hchk
          obtain ⟨hn, hr⟩ := hchk
          rw [Option.getD_none] at kk
          obtain ⟨cA, hP, hWK, hS⟩ := hSt
          cases raw with
          | iastore =>
            obtain rfl := beq_iff_eq.mp hr
            show W p l e R s m args below meth c H locs _ _ Q (F0 m pc lsA (.int x :: .int ix :: .ref (am_phi B ka k) :: r.map (am_tv (am_phi B ka))))
            rw [am_phi_lo hin.2]
            refine va_iast hx hb (am_K1 hKC hWK hk rfl) hP am_ws_D hS k 0 (am_ws_at hk) rfl (am_inb_ok hin.1) hdec (fun H1 locs1 hP1 _ hS1 => ?_)
            rw [← am_nx_ok hn]
            refine am_setW kk hk (by simp [am_ez]) rfl hl hWK hS1 ?_ hP1
            simp only [am_te, List.length_set, am_set_upd (am_inb_lt hin.1)]
          | _ => cases hr
        · cases h
      · cases h
    · cases h
  | bastore =>
    simp only [am_step] at h
    split at h
    · rename_i x ix k r
      split at h
      · rename_i t xs hk
        split at h
        · rename_i hin
          simp only [Option.some.injEq, Prod.mk.injEq] at h
          obtain ⟨rfl, rfl, rfl, rfl⟩ := h
          simp only [am_chk, Bool.and_eq_true] at hchk
          obtain ⟨hn, hr⟩ := hchk
          rw [Option.getD_none] at kk
          obtain ⟨cA, hP, hWK, hS⟩ := hSt
          cases raw with
          | bastore =>
            obtain rfl := beq_iff_eq.mp hr
            show W p l e R s m args below meth c H locs _ _ Q (F0 m pc lsA (.int x :: .int ix :: .ref (am_phi B ka k) :: r.map (am_tv (am_phi B ka))))
            rw [am_phi_lo hin.2]
            cases t with
            | zero =>
              refine va_bast hx hb (am_K1 hKC hWK hk rfl) hP am_ws_D hS k 0 (am_ws_at hk) rfl (am_inb_ok hin.1) hdec (fun H1 locs1 hP1 _ hS1 => ?_)
              rw [← am_nx_ok hn]
              refine am_setW kk hk (by simp [am_ez]) rfl hl hWK hS1 ?_ hP1
              simp only [am_te, List.length_set, am_set_upd (am_inb_lt hin.1), am_nar_byte]
            | succ t =>
              refine va_zast hx hb (am_K1 hKC hWK hk rfl) hP am_ws_D hS k 0 (am_ws_at hk) rfl (am_inb_ok hin.1) hdec (fun H1 locs1 hP1 _ hS1 => ?_)
              rw [← am_nx_ok hn]
              refine am_setW kk hk (by simp [am_ez]) rfl hl hWK hS1 ?_ hP1
              simp only [am_te, List.length_set, am_set_upd (am_inb_lt hin.1), am_nar_bool x t]
          | _ => cases hr
        · cases h
      · cases h
    · cases h
  | aastore =>
    simp only [am_step] at h
    split at h
    · rename_i v ix k r
      split at h
      · rename_i rs fs hk hv
        split at h
        · rename_i hin
          simp only [Option.some.injEq, Prod.mk.injEq] at h
          obtain ⟨rfl, rfl, rfl, rfl⟩ := h
          simp only [am_chk, Bool.and_eq_true] at hchk
          obtain ⟨hn, hr⟩ := hchk
          rw [Option.getD_none] at kk
          obtain ⟨cA, hP, hWK, hS⟩ := hSt
          cases raw with
          | aastore =>
            obtain rfl := beq_iff_eq.mp hr
            show W p l e R s m args below meth c H locs _ _ Q (F0 m pc lsA (.ref (am_phi B ka v) :: .int ix :: .ref (am_phi B ka k) :: r.map (am_tv (am_phi B ka))))
            rw [am_phi_lo hin.2.1, am_phi_lo hin.2.2]
            refine va_astq hx hb (am_K1 hKC hWK hk rfl) hP am_ws_D hS k 0 v 3 (r := am_clq 3) (am_ws_at hk) rfl (am_ws_at hv) rfl (am_inb_ok hin.1) hdec (fun H1 locs1 hP1 _ hS1 => ?_)
            rw [← am_nx_ok hn]
            refine am_setW kk hk (by simp [am_ez]) rfl hl hWK hS1 ?_ hP1
            simp only [am_te, List.length_set, am_setq_upd (am_inb_lt hin.1), am_phi_lo hin.2.2]
          | _ => cases hr
        · cases h
      · cases h
    · cases h
  | putfield f =>
    simp only [am_step] at h
    split at h
    · rename_i v k r
      split at h
      · rename_i ci fs ty fin dv hk hft
        split at h
        · rename_i hq
          obtain ⟨hci, hlo, hlen, hnar, hfit⟩ := hq
          simp only [Option.some.injEq, Prod.mk.injEq] at h
          obtain ⟨rfl, rfl, rfl, rfl⟩ := h
          simp only [am_chk, Bool.and_eq_true] at hchk
          obtain ⟨hn, hr⟩ := hchk
          rw [Option.getD_none] at kk
          obtain ⟨cA, hP, hWK, hS⟩ := hSt
          cases raw with
          | putfield ix =>
            simp only [Bool.and_eq_true, beq_iff_eq] at hr
            obtain ⟨rfl, hr⟩ := hr
            show W p l e R s m args below meth c H locs _ _ Q (F0 m pc lsA (am_tv (am_phi B ka) v :: .ref (am_phi B ka k) :: r.map (am_tv (am_phi B ka))))
            rw [am_phi_lo hlo]
            obtain ⟨f1, f2⟩ := am_lf_fin hr
            obtain ⟨g1, g2, g3, g4, -, -⟩ := am_cq_get f1
            obtain ⟨ty', fin', v', t1, t2, t3, t4⟩ := g2 _ f2
            rw [hft] at t1
            cases t1
            subst hci
            have hty : ∀ k, k < (am_clq (f / 100)).2.2 → parseFieldDescriptor ((am_clq (f / 100)).2.1 k).2.2.1 = some (((am_ft (f / 100)).getD k (.int, false, .null)).1) := fun k hk => by
              obtain ⟨ty', fin', v', t1, t2, t3, t4⟩ := g2 k hk
              rw [t2, List.getD_eq_getElem?_getD, t1]
              rfl
            have he : am_te (am_phi B ka) (cA k) (.inr (.inl (f / 100, fs.set (f % 100) v))) = .inr (f / 100, (fs.map (am_tv (am_phi B ka))).set (f % 100) (am_tv (am_phi B ka) v)) := by
              simp only [am_te, List.map_set]
            cases hfin : fin with
            | false =>
              subst hfin
              refine va_put hx hb hts g1 _ hty g4 hown (am_K0 hKC) hP am_ws_D hS k (am_ws_at hk) (am_cl_get f1) (f % 100) f2 (hts _ (am_lf_ok hr)) (fun x h => h) t3 t2 (am_nar_tv hnar) (am_fit_tv hfit) (by rw [List.length_map]; exact hlen) hdec (fun H1 locs1 hP1 _ hS1 => ?_)
              rw [← am_nx_ok hn]
              exact am_setW kk hk (by simp [am_ez]) rfl hl hWK hS1 he hP1
            | true =>
              subst hfin
              have hpf := List.all_eq_true.mp (List.all_eq_true.mp am_pf_c mid (List.mem_range.mpr hmid)) _ hop
              simp only [t3, Bool.not_true, Bool.false_or, Bool.and_eq_true, decide_eq_true_eq] at hpf
              refine va_putF hx hb hts g1 _ hty g4 hown (am_K0 hKC) hP am_ws_D hS k (am_ws_at hk) (am_cl_get f1) (f % 100) f2 (hts _ (am_lf_ok hr)) (fun x h => h) t3 (hnm hpf.1) hpf.2 t2 (am_nar_tv hnar) (am_fit_tv hfit) (by rw [List.length_map]; exact hlen) hdec (fun H1 locs1 hP1 _ hS1 => ?_)
              rw [← am_nx_ok hn]
              exact am_setW kk hk (by simp [am_ez]) rfl hl hWK hS1 he hP1
          | _ => cases hr
        · cases h
      · cases h
    · cases h
  | invokedynamic _ =>
    simp only [am_step] at h
    split at h
    · rename_i n dp d sp a r
      split at h
      · rename_i fl gl ha hd
        split at h
        · rename_i hq
          obtain ⟨q1, q2, q3, q4, q5, q6, q7, q8⟩ := hq
          simp only [Option.some.injEq, Prod.mk.injEq] at h
          obtain ⟨rfl, rfl, rfl, rfl⟩ := h
          simp only [am_chk, Bool.and_eq_true] at hchk
          obtain ⟨hn, hr⟩ := hchk
          rw [Option.getD_none] at kk
          obtain ⟨cA, hP, hWK, hS⟩ := hSt
          cases raw with
          | invokestatic ix =>
            simp only [Bool.and_eq_true, beq_iff_eq] at hr
            obtain ⟨rfl, hr⟩ := hr
            show W p l e R s m args below meth c H locs _ _ Q (F0 m pc lsA (.int n :: .int dp :: .ref (am_phi B ka d) :: .int sp :: .ref (am_phi B ka a) :: r.map (am_tv (am_phi B ka))))
            rw [am_phi_lo q6, am_phi_lo q7]
            refine va_copyi hx hb (hml.trans hl.1.symm) hown (hts _ (am_la_ok hr)) (hts _ am_ac_w.1) (hts _ am_ac_w.2.1) (hts _ am_ac_w.2.2) (tys := [(cA a, .int), (cA d, .int)]) ⟨hKC, fun j q hq => ?_⟩ hP am_ws_D hS a d 0 1 (am_ws_at ha) (am_ws_at hd) rfl rfl rfl q3 q2 q1 q4 q5 (fun _ _ => rfl) hR.1 ?_ hdec (fun H1 locs1 hP1 _ hS1 => ?_)
            · match j, hq with
              | 0, hq => cases hq; exact hWK a _ _ ha rfl
              | 1, hq => cases hq; exact hWK d _ _ hd rfl
              | _ + 2, hq => simp at hq
            · rw [am_tv_cats]
              have h2 := hR.2
              show _ + (7 + 11) ≤ R.locals
              omega
            · rw [← am_nx_ok hn]
              refine am_setW kk hd (by simp only [am_ez]; exact am_cpyl_len q4 q5) rfl hl hWK hS1 ?_ hP1
              simp only [am_te, am_cpyl_len q4 q5, am_cpyl_cpy q4 q5]
          | _ => cases hr
        · cases h
      · cases h
    · cases h
  | _ => exact absurd hA (by simp)
end AMS
