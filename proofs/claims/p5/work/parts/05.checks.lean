/-! The instructions of the list machine beside the decoded ones; the links' words -/
noncomputable def am_big : List Cond := lw_tbl.filter goodWord
theorem am_big_in {w : Cond} (h : w ∈ am_big) : w ∈ lw_tbl := (List.mem_filter.mp h).1
theorem am_big_good {w : Cond} (h : w ∈ am_big) : goodWord w = true := (List.mem_filter.mp h).2
theorem am_big_at {w : Cond} (i : Nat) (h : lw_tbl[i]? = some w) (g : goodWord w = true) : w ∈ am_big := List.mem_filter.mpr ⟨List.mem_of_getElem? h, g⟩
noncomputable def am_ownS (o : Nat) : String := am_own.getD o ""
noncomputable def am_clq (ci : Nat) : vw_C := am_cl.getD ci ("", am_F0, 0)
noncomputable def am_infq (k : Nat) : MethodName × Option FieldType := (am_inf.getD (k / 16) []).getD (k % 16) (⟨"", "", ""⟩, none)
noncomputable def am_nx (pcs : List Nat) (i pc len : Nat) : Bool := pcs[i + 1]? == some (pc + len)
noncomputable def am_tg (pcs : List Nat) (pc : Nat) (t off : Int) : Bool := match pcs[t.toNat]? with
  | some q => decide ((pc : Int) + off = (q : Int))
  | none => false
noncomputable def am_tgs (pcs : List Nat) (pc : Nat) : List Int → List Int → Bool
  | [], [] => true
  | a :: r, b :: q => am_tg pcs pc a b && am_tgs pcs pc r q
  | _, _ => false
noncomputable def am_tgp (pcs : List Nat) (pc : Nat) : List (Int × Int) → List (Int × Int) → Bool
  | [], [] => true
  | a :: r, b :: q => decide (a.1 = b.1) && am_tg pcs pc a.2 b.2 && am_tgp pcs pc r q
  | _, _ => false
noncomputable def am_has3 (l : List (Nat × Nat × Nat)) (o i : Nat) : Bool := l.any fun q => q.1 == o && q.2.1 == i
noncomputable def am_has4 (l : List (Nat × Nat × Nat × Nat)) (o i f : Nat) : Bool := l.any fun q => q.1 == o && q.2.1 == i && q.2.2.1 == f
noncomputable def am_hasI (l : List (Nat × Nat × Int × Nat)) (o i : Nat) (f : Int) : Bool := l.any fun q => q.1 == o && q.2.1 == i && q.2.2.1 == f
noncomputable def am_has5 (l : List (Nat × Nat × Nat × Nat × Nat)) (o i f k : Nat) : Bool := l.any fun q => q.1 == o && q.2.1 == i && q.2.2.1 == f && (q.2.2.2.1 == k || q.2.2.2.1 == k + 3)
noncomputable def am_isS (op : Instr) : Bool := match op with
  | .iadd | .isub | .imul | .idiv | .irem | .iand | .ior | .ixor | .ishl | .ishr | .iushr | .ineg | .i2l | .i2b | .i2s | .i2c | .ladd | .lmul | .ldiv | .lrem | .lcmp | .dup | .dup2 | .pop | .pop2 => true
  | _ => false
/-- class number, kind of answer, byte places, ordinal, the list machine's instruction, the decoded one, its place, its length -/
noncomputable def am_chk (o rt : Nat) (pcs : List Nat) (i : Nat) (op raw : Instr) (pc len : Nat) : Bool := match op with
  | .athrow => true
  | .bipush x => am_nx pcs i pc len && (match raw with
    | .iconst n => len == 1 && decide (Int32.ofInt n = Int32.ofInt x)
    | .bipush n => len == 2 && decide ((Int8.ofInt n).toInt32 = Int32.ofInt x)
    | .sipush n => len == 3 && decide ((Int16.ofInt n).toInt32 = Int32.ofInt x)
    | .ldc k => len == 2 && am_hasI am_lc o k x
    | .ldc_w k => len == 3 && am_hasI am_lc o k x
    | _ => false)
  | .sipush x => am_nx pcs i pc len && (match raw with
    | .lconst n => len == 1 && decide (Int64.ofNat n.val = Int64.ofInt x)
    | .ldc2_w k => len == 3 && am_hasI am_ll o k x
    | _ => false)
  | .ldc q => am_nx pcs i pc len && (match raw with | .ldc k => len == 2 && am_has4 am_ls o k q | _ => false)
  | .getstatic q => am_nx pcs i pc len && (match raw with | .getstatic k => len == 3 && am_has4 am_lt o k q | _ => false)
  | .iload q => am_nx pcs i pc len && (match raw with | .iload_n k => len == 1 && k.val == q | .iload k => len == 2 && k == q | _ => false)
  | .lload q => am_nx pcs i pc len && (match raw with | .lload_n k => len == 1 && k.val == q | .lload k => len == 2 && k == q | _ => false)
  | .aload q => am_nx pcs i pc len && (match raw with | .aload_n k => len == 1 && k.val == q | .aload k => len == 2 && k == q | _ => false)
  | .istore q => am_nx pcs i pc len && (match raw with | .istore_n k => len == 1 && k.val == q | .istore k => len == 2 && k == q | _ => false)
  | .lstore q => am_nx pcs i pc len && (match raw with | .lstore_n k => len == 1 && k.val == q | .lstore k => len == 2 && k == q | _ => false)
  | .astore q => am_nx pcs i pc len && (match raw with | .astore_n k => len == 1 && k.val == q | .astore k => len == 2 && k == q | _ => false)
  | .iinc q n => am_nx pcs i pc len && (match raw with | .iinc k m => len == 3 && k == q && decide (m = n) | _ => false)
  | .ifCond c t => am_nx pcs i pc len && (match raw with | .ifCond c' off => len == 3 && decide (c' = c) && am_tg pcs pc t off | _ => false)
  | .if_icmp c t => am_nx pcs i pc len && (match raw with | .if_icmp c' off => len == 3 && decide (c' = c) && am_tg pcs pc t off | _ => false)
  | .goto t => (match raw with | .goto off => len == 3 && am_tg pcs pc t off | _ => false)
  | .tableswitch d lo hi ts => (match raw with | .tableswitch d' lo' hi' os => decide (lo' = lo) && decide (hi' = hi) && am_tg pcs pc d d' && am_tgs pcs pc ts.toList os.toList | _ => false)
  | .lookupswitch d ps => (match raw with | .lookupswitch d' os => am_tg pcs pc d d' && am_tgp pcs pc ps.toList os.toList && (os.toList.zip (os.toList.drop 1)).all (fun (a, next) => a.1 < next.1) | _ => false)
  | .iaload => am_nx pcs i pc len && (match raw with | .iaload => len == 1 | _ => false)
  | .baload => am_nx pcs i pc len && (match raw with | .baload => len == 1 | _ => false)
  | .iastore => am_nx pcs i pc len && (match raw with | .iastore => len == 1 | _ => false)
  | .bastore => am_nx pcs i pc len && (match raw with | .bastore => len == 1 | _ => false)
  | .aaload => am_nx pcs i pc len && (match raw with | .aaload => len == 1 | _ => false)
  | .aastore => am_nx pcs i pc len && (match raw with | .aastore => len == 1 | _ => false)
  | .arraylength => am_nx pcs i pc len && (match raw with | .arraylength => len == 1 | _ => false)
  | .getfield f => am_nx pcs i pc len && (match raw with | .getfield k => len == 3 && (am_has4 am_lf o k f || am_has4 am_lsf o k f) | _ => false)
  | .putfield f => am_nx pcs i pc len && (match raw with | .putfield k => len == 3 && am_has4 am_lf o k f | _ => false)
  | .monitorenter => am_nx pcs i pc len && (match raw with | .invokespecial k => len == 3 && am_has3 am_lo o k | _ => false)
  | .monitorexit => am_nx pcs i pc len && (match raw with | .invokestatic k => len == 3 && am_has3 am_lck o k | _ => false)
  | .new ci => am_nx pcs i pc len && (match raw with | .new k => len == 3 && am_has4 am_ln o k ci | _ => false)
  | .newarray a => am_nx pcs i pc len && (match raw with | .newarray b => len == 2 && decide (b = a) | _ => false)
  | .anewarray _ => am_nx pcs i pc len && (match raw with | .anewarray k => len == 3 && am_has3 am_lan o k | _ => false)
  | .multianewarray _ _ => am_nx pcs i pc len && (match raw with | .multianewarray k n => len == 4 && n == 2 && am_has3 am_lma o k | _ => false)
  | .invokedynamic _ => am_nx pcs i pc len && (match raw with | .invokestatic k => len == 3 && am_has3 am_la o k | _ => false)
  | .invokestatic f => am_nx pcs i pc len && (match raw with
    | .invokevirtual k => len == 3 && am_has5 am_lm o k f 0
    | .invokestatic k => len == 3 && am_has5 am_lm o k f 1
    | .invokespecial k => len == 3 && am_has5 am_lm o k f 2
    | _ => false)
  | .ireturn => (match raw with
    | .ireturn => len == 1 && (rt == 1 || rt == 2 || rt == 5 || rt == 6)
    | .lreturn => len == 1 && rt == 3
    | .areturn => len == 1 && rt == 4
    | _ => false)
  | .return_ => (match raw with | .return_ => len == 1 && rt == 0 | _ => false)
  | op => am_nx pcs i pc len && am_isS op && decide (raw = op) && len == 1
noncomputable def am_zchk (o rt : Nat) (pcs : List Nat) : Nat → List Instr → List (Instr × Nat × Nat) → Bool
  | _, [], [] => true
  | i, a :: r, b :: q => am_chk o rt pcs i a b.1 b.2.1 b.2.2 && am_zchk o rt pcs (i + 1) r q
  | _, _, _ => false
noncomputable def am_pcs (k : Nat) : List Nat := (am_raw.getD k []).map fun q => q.2.1
noncomputable def am_mq (k : Nat) : am_M := am_tab.getD k ([], 0, 0, none, 0)
noncomputable def am_mchk (k : Nat) : Bool := am_zchk (am_on.getD k 0) (am_mq k).2.2.2.2 (am_pcs k) 0 (am_mq k).1 (am_raw.getD k [])
/-- the same, with what is looked up handed in: one walk along a method, no place counted from its start -/
noncomputable def am_tgsG (tg : Int → Int → Bool) : List Int → List Int → Bool
  | [], [] => true
  | a :: r, b :: q => tg a b && am_tgsG tg r q
  | _, _ => false
noncomputable def am_tgpG (tg : Int → Int → Bool) : List (Int × Int) → List (Int × Int) → Bool
  | [], [] => true
  | a :: r, b :: q => decide (a.1 = b.1) && tg a.2 b.2 && am_tgpG tg r q
  | _, _ => false
theorem am_tgs_eq {pcs : List Nat} {pc : Nat} : ∀ ts os : List Int, am_tgsG (am_tg pcs pc) ts os = am_tgs pcs pc ts os
  | [], [] => rfl
  | [], _ :: _ => rfl
  | _ :: _, [] => rfl
  | a :: r, b :: q => by
    show (am_tg pcs pc a b && am_tgsG (am_tg pcs pc) r q) = (am_tg pcs pc a b && am_tgs pcs pc r q)
    rw [am_tgs_eq r q]
theorem am_tgp_eq {pcs : List Nat} {pc : Nat} : ∀ ts os : List (Int × Int), am_tgpG (am_tg pcs pc) ts os = am_tgp pcs pc ts os
  | [], [] => rfl
  | [], _ :: _ => rfl
  | _ :: _, [] => rfl
  | a :: r, b :: q => by
    show (decide (a.1 = b.1) && am_tg pcs pc a.2 b.2 && am_tgpG (am_tg pcs pc) r q) = (decide (a.1 = b.1) && am_tg pcs pc a.2 b.2 && am_tgp pcs pc r q)
    rw [am_tgp_eq r q]
theorem am_tgs_fn {pcs : List Nat} {pc : Nat} : am_tgsG (am_tg pcs pc) = am_tgs pcs pc := funext fun ts => funext fun os => am_tgs_eq ts os
theorem am_tgp_fn {pcs : List Nat} {pc : Nat} : am_tgpG (am_tg pcs pc) = am_tgp pcs pc := funext fun ts => funext fun os => am_tgp_eq ts os
noncomputable def am_chkG (o rt : Nat) (nx : Bool) (tg : Int → Int → Bool) (op raw : Instr) (len : Nat) : Bool := match op with
  | .athrow => true
  | .bipush x => nx && (match raw with
    | .iconst n => len == 1 && decide (Int32.ofInt n = Int32.ofInt x)
    | .bipush n => len == 2 && decide ((Int8.ofInt n).toInt32 = Int32.ofInt x)
    | .sipush n => len == 3 && decide ((Int16.ofInt n).toInt32 = Int32.ofInt x)
    | .ldc k => len == 2 && am_hasI am_lc o k x
    | .ldc_w k => len == 3 && am_hasI am_lc o k x
    | _ => false)
  | .sipush x => nx && (match raw with
    | .lconst n => len == 1 && decide (Int64.ofNat n.val = Int64.ofInt x)
    | .ldc2_w k => len == 3 && am_hasI am_ll o k x
    | _ => false)
  | .ldc q => nx && (match raw with | .ldc k => len == 2 && am_has4 am_ls o k q | _ => false)
  | .getstatic q => nx && (match raw with | .getstatic k => len == 3 && am_has4 am_lt o k q | _ => false)
  | .iload q => nx && (match raw with | .iload_n k => len == 1 && k.val == q | .iload k => len == 2 && k == q | _ => false)
  | .lload q => nx && (match raw with | .lload_n k => len == 1 && k.val == q | .lload k => len == 2 && k == q | _ => false)
  | .aload q => nx && (match raw with | .aload_n k => len == 1 && k.val == q | .aload k => len == 2 && k == q | _ => false)
  | .istore q => nx && (match raw with | .istore_n k => len == 1 && k.val == q | .istore k => len == 2 && k == q | _ => false)
  | .lstore q => nx && (match raw with | .lstore_n k => len == 1 && k.val == q | .lstore k => len == 2 && k == q | _ => false)
  | .astore q => nx && (match raw with | .astore_n k => len == 1 && k.val == q | .astore k => len == 2 && k == q | _ => false)
  | .iinc q n => nx && (match raw with | .iinc k m => len == 3 && k == q && decide (m = n) | _ => false)
  | .ifCond c t => nx && (match raw with | .ifCond c' off => len == 3 && decide (c' = c) && tg t off | _ => false)
  | .if_icmp c t => nx && (match raw with | .if_icmp c' off => len == 3 && decide (c' = c) && tg t off | _ => false)
  | .goto t => (match raw with | .goto off => len == 3 && tg t off | _ => false)
  | .tableswitch d lo hi ts => (match raw with | .tableswitch d' lo' hi' os => decide (lo' = lo) && decide (hi' = hi) && tg d d' && am_tgsG tg ts.toList os.toList | _ => false)
  | .lookupswitch d ps => (match raw with | .lookupswitch d' os => tg d d' && am_tgpG tg ps.toList os.toList && (os.toList.zip (os.toList.drop 1)).all (fun (a, next) => a.1 < next.1) | _ => false)
  | .iaload => nx && (match raw with | .iaload => len == 1 | _ => false)
  | .baload => nx && (match raw with | .baload => len == 1 | _ => false)
  | .iastore => nx && (match raw with | .iastore => len == 1 | _ => false)
  | .bastore => nx && (match raw with | .bastore => len == 1 | _ => false)
  | .aaload => nx && (match raw with | .aaload => len == 1 | _ => false)
  | .aastore => nx && (match raw with | .aastore => len == 1 | _ => false)
  | .arraylength => nx && (match raw with | .arraylength => len == 1 | _ => false)
  | .getfield f => nx && (match raw with | .getfield k => len == 3 && (am_has4 am_lf o k f || am_has4 am_lsf o k f) | _ => false)
  | .putfield f => nx && (match raw with | .putfield k => len == 3 && am_has4 am_lf o k f | _ => false)
  | .monitorenter => nx && (match raw with | .invokespecial k => len == 3 && am_has3 am_lo o k | _ => false)
  | .monitorexit => nx && (match raw with | .invokestatic k => len == 3 && am_has3 am_lck o k | _ => false)
  | .new ci => nx && (match raw with | .new k => len == 3 && am_has4 am_ln o k ci | _ => false)
  | .newarray a => nx && (match raw with | .newarray b => len == 2 && decide (b = a) | _ => false)
  | .anewarray _ => nx && (match raw with | .anewarray k => len == 3 && am_has3 am_lan o k | _ => false)
  | .multianewarray _ _ => nx && (match raw with | .multianewarray k n => len == 4 && n == 2 && am_has3 am_lma o k | _ => false)
  | .invokedynamic _ => nx && (match raw with | .invokestatic k => len == 3 && am_has3 am_la o k | _ => false)
  | .invokestatic f => nx && (match raw with
    | .invokevirtual k => len == 3 && am_has5 am_lm o k f 0
    | .invokestatic k => len == 3 && am_has5 am_lm o k f 1
    | .invokespecial k => len == 3 && am_has5 am_lm o k f 2
    | _ => false)
  | .ireturn => (match raw with
    | .ireturn => len == 1 && (rt == 1 || rt == 2 || rt == 5 || rt == 6)
    | .lreturn => len == 1 && rt == 3
    | .areturn => len == 1 && rt == 4
    | _ => false)
  | .return_ => (match raw with | .return_ => len == 1 && rt == 0 | _ => false)
  | op => nx && am_isS op && decide (raw = op) && len == 1
theorem am_chkG_eq {o rt : Nat} {pcs : List Nat} {i pc len : Nat} {op raw : Instr} : am_chkG o rt (am_nx pcs i pc len) (am_tg pcs pc) op raw len = am_chk o rt pcs i op raw pc len := by
  cases op
  case tableswitch => simp only [am_chkG, am_chk, am_tgs_fn]
  case lookupswitch => simp only [am_chkG, am_chk, am_tgp_fn]
  all_goals rfl
noncomputable def am_nh (ps : List Nat) (n : Nat) : Bool := ps.head? == some n
noncomputable def am_tf (pcs ps : List Nat) (i pc : Nat) (t off : Int) : Bool := match (bif Nat.ble i t.toNat then ps[t.toNat - i]? else pcs[t.toNat]?) with
  | some q => decide ((pc : Int) + off = (q : Int))
  | none => false
theorem am_tf_eq {pcs : List Nat} {i pc : Nat} : am_tf pcs (pcs.drop i) i pc = am_tg pcs pc := by
  funext t off
  have e : (bif Nat.ble i t.toNat then (pcs.drop i)[t.toNat - i]? else pcs[t.toNat]?) = pcs[t.toNat]? := by
    cases h : Nat.ble i t.toNat with
    | false => rfl
    | true => rw [cond_true, List.getElem?_drop, Nat.add_sub_cancel' (Nat.le_of_ble_eq_true h)]
  unfold am_tf am_tg
  rw [e]
theorem am_nh_eq {pcs : List Nat} {i pc len : Nat} : am_nh (pcs.drop (i + 1)) (pc + len) = am_nx pcs i pc len := by
  unfold am_nh am_nx
  rw [List.head?_drop]
noncomputable def am_zf (o rt : Nat) (pcs : List Nat) : Nat → List Nat → List Instr → List (Instr × Nat × Nat) → Bool
  | _, _, [], [] => true
  | i, ps, a :: r, b :: q => am_chkG o rt (am_nh (ps.drop 1) (b.2.1 + b.2.2)) (am_tf pcs ps i b.2.1) a b.1 b.2.2 && am_zf o rt pcs (i + 1) (ps.drop 1) r q
  | _, _, _, _ => false
theorem am_zf_ok {o rt : Nat} {pcs : List Nat} : ∀ (ops : List Instr) (raws : List (Instr × Nat × Nat)) (i : Nat), am_zf o rt pcs i (pcs.drop i) ops raws = true → am_zchk o rt pcs i ops raws = true
  | [], [], _, _ => rfl
  | [], _ :: _, _, h => h
  | _ :: _, [], _, h => h
  | a :: r, b :: q, i, h => by
    have e : (pcs.drop i).drop 1 = pcs.drop (i + 1) := by
      rw [List.drop_drop]
    have h' : (am_chkG o rt (am_nh ((pcs.drop i).drop 1) (b.2.1 + b.2.2)) (am_tf pcs (pcs.drop i) i b.2.1) a b.1 b.2.2 && am_zf o rt pcs (i + 1) ((pcs.drop i).drop 1) r q) = true := h
    rw [e, am_nh_eq, am_tf_eq, am_chkG_eq, Bool.and_eq_true] at h'
    show (am_chk o rt pcs i a b.1 b.2.1 b.2.2 && am_zchk o rt pcs (i + 1) r q) = true
    rw [h'.1, am_zf_ok r q (i + 1) h'.2]
    rfl
noncomputable def am_mf (k : Nat) : Bool := am_zf (am_on.getD k 0) (am_mq k).2.2.2.2 (am_pcs k) 0 (am_pcs k) (am_mq k).1 (am_raw.getD k [])
theorem am_mf_ok {k : Nat} (h : am_mf k = true) : am_mchk k = true := am_zf_ok _ _ 0 h
