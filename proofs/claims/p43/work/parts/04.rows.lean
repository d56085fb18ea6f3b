section
/-! Each instruction is what its bytes decode to: one walk along a method's bytes (by program, gen04.py) -/
noncomputable def am_dchk (cc : ByteArray) (r : List (Instr × Nat × Nat)) : Bool := r.all fun q => decide (decode cc q.2.1 = .ok (q.1, q.2.2))
/-- what follows upon an instruction's first byte -/
noncomputable def am_K (p : Nat) : { K : Nat → Jvm.ClassFile.Decoder Instr // Jvm.ClassFile.Decoder.instr p = (Jvm.ClassFile.Reader.u1 >>= K) } := ⟨_, rfl⟩
noncomputable abbrev am_ru1 : Jvm.ClassFile.Decoder Nat := Jvm.ClassFile.Reader.u1
noncomputable abbrev am_rs1 : Jvm.ClassFile.Decoder Int := Jvm.ClassFile.Reader.s1
noncomputable abbrev am_ru2 : Jvm.ClassFile.Decoder Nat := Jvm.ClassFile.Reader.u2
noncomputable abbrev am_rs2 : Jvm.ClassFile.Decoder Int := Jvm.ClassFile.Reader.s2
theorem am_u1 {cc : ByteArray} {p : Nat} {a : UInt8} {t : List UInt8} (h : cc.data.toList.drop p = a :: t) : am_ru1 cc p = .ok (a.toNat, p + 1) := by
  have hl : p < cc.data.toList.length := by
    have := congrArg List.length h
    rw [List.length_drop, List.length_cons] at this
    omega
  have hs : p < cc.size := hl
  have hg : cc[p] = a := by
    rw [List.drop_eq_getElem_cons hl] at h
    exact (List.cons.inj h).1
  show (if h : p < cc.size then (do set (p + 1); pure cc[p].toNat : Jvm.ClassFile.Decoder Nat) else throw (Jvm.ClassFile.HasTruncated.truncated p)) cc p = _
  rw [dif_pos hs, hg]
  rfl
theorem am_dn {l : List UInt8} {p : Nat} {a : UInt8} {t : List UInt8} (h : l.drop p = a :: t) : l.drop (p + 1) = t := by
  have := congrArg (List.drop 1) h
  rwa [List.drop_drop, List.drop_one, List.tail_cons] at this
theorem am_us1 {cc : ByteArray} {p : Nat} {a : UInt8} {t : List UInt8} (h : cc.data.toList.drop p = a :: t) : am_rs1 cc p = .ok (Jvm.ClassFile.Reader.signed 8 a.toNat, p + 1) := by
  have e := am_u1 h
  show Except.map (fun q : Nat × Nat => (Jvm.ClassFile.Reader.signed 8 q.1, q.2)) (am_ru1 cc p) = _
  rw [e]
  rfl
theorem am_u2 {cc : ByteArray} {p : Nat} {a b : UInt8} {t : List UInt8} (h : cc.data.toList.drop p = a :: b :: t) : am_ru2 cc p = .ok (a.toNat * 256 + b.toNat, p + 2) := by
  have e := am_u1 h
  have e' := am_u1 (am_dn h)
  show Except.bind (am_ru1 cc p) (fun q => Except.bind (am_ru1 cc q.2) (fun q' => .ok (q.1 * 256 + q'.1, q'.2))) = _
  rw [e]
  show Except.bind (am_ru1 cc (p + 1)) (fun q' => .ok (a.toNat * 256 + q'.1, q'.2)) = _
  rw [e']
  rfl
theorem am_us2 {cc : ByteArray} {p : Nat} {a b : UInt8} {t : List UInt8} (h : cc.data.toList.drop p = a :: b :: t) : am_rs2 cc p = .ok (Jvm.ClassFile.Reader.signed 16 (a.toNat * 256 + b.toNat), p + 2) := by
  have e := am_u2 h
  show Except.map (fun q : Nat × Nat => (Jvm.ClassFile.Reader.signed 16 q.1, q.2)) (am_ru2 cc p) = _
  rw [e]
  rfl
theorem am_decN {cc : ByteArray} {p b n : Nat} {I : Instr} (h : am_ru1 cc p = .ok (b, p + 1)) (hr : (am_K p).1 b cc (p + 1) = .ok (I, p + n)) : decode cc p = .ok (I, n) := by
  have e : Jvm.ClassFile.Reader.runAt (Jvm.ClassFile.Decoder.instr p) cc p = .ok (I, p + n) := by
    rw [(am_K p).2]
    show Except.bind (am_ru1 cc p) (fun q => (am_K p).1 q.1 cc q.2) = _
    rw [h]
    exact hr
  show Except.bind (Jvm.ClassFile.Reader.runAt (Jvm.ClassFile.Decoder.instr p) cc p) (fun q => .ok (q.1, q.2 - p)) = _
  rw [e]
  show Except.ok (I, p + n - p) = _
  rw [Nat.add_sub_cancel_left]
noncomputable def am_f0 (op len : Nat) : List UInt8 → Bool
  | a :: _ => Nat.beq a.toNat op && Nat.beq len 1
  | _ => false
noncomputable def am_fu (op k len : Nat) : List UInt8 → Bool
  | a :: b :: _ => Nat.beq a.toNat op && (Nat.beq b.toNat k && Nat.beq len 2)
  | _ => false
noncomputable def am_fs (op : Nat) (x : Int) (len : Nat) : List UInt8 → Bool
  | a :: b :: _ => Nat.beq a.toNat op && (decide (Jvm.ClassFile.Reader.signed 8 b.toNat = x) && Nat.beq len 2)
  | _ => false
noncomputable def am_fu2 (op k len : Nat) : List UInt8 → Bool
  | a :: b :: c :: _ => Nat.beq a.toNat op && (Nat.beq (b.toNat * 256 + c.toNat) k && Nat.beq len 3)
  | _ => false
noncomputable def am_fs2 (op : Nat) (x : Int) (len : Nat) : List UInt8 → Bool
  | a :: b :: c :: _ => Nat.beq a.toNat op && (decide (Jvm.ClassFile.Reader.signed 16 (b.toNat * 256 + c.toNat) = x) && Nat.beq len 3)
  | _ => false
noncomputable def am_fi (op k : Nat) (x : Int) (len : Nat) : List UInt8 → Bool
  | a :: b :: c :: _ => Nat.beq a.toNat op && (Nat.beq b.toNat k && (decide (Jvm.ClassFile.Reader.signed 8 c.toNat = x) && Nat.beq len 3))
  | _ => false
theorem am_f0ok {cc : ByteArray} {bs : List UInt8} {p op len : Nat} {I : Instr} (hb : cc.data.toList.drop p = bs) (h : am_f0 op len bs = true) (hK : (am_K p).1 op = Pure.pure I) : decode cc p = .ok (I, len) := by
  match bs, hb, h with
  | a :: t, hb, h =>
    obtain ⟨h1, h2⟩ := am_and h
    have e := am_u1 hb
    rw [am_beq h1] at e
    rw [am_beq h2]
    refine am_decN e ?_
    rw [hK]
    rfl
theorem am_fuok {cc : ByteArray} {bs : List UInt8} {p op k len : Nat} (F : Nat → Instr) (hb : cc.data.toList.drop p = bs) (h : am_fu op k len bs = true) (hK : (am_K p).1 op = (am_ru1 >>= fun k => Pure.pure (F k))) : decode cc p = .ok (F k, len) := by
  match bs, hb, h with
  | a :: b :: t, hb, h =>
    obtain ⟨h1, h2⟩ := am_and h
    obtain ⟨h2, h3⟩ := am_and h2
    have e := am_u1 hb
    have e' := am_u1 (am_dn hb)
    rw [am_beq h1] at e
    rw [am_beq h2] at e'
    rw [am_beq h3]
    refine am_decN e ?_
    rw [hK]
    show Except.bind (am_ru1 cc (p + 1)) (fun q => .ok (F q.1, q.2)) = _
    rw [e']
    rfl
theorem am_fvok {cc : ByteArray} {bs : List UInt8} {p op k len : Nat} {I : Instr} {G : Nat → Jvm.ClassFile.Decoder Instr} (hb : cc.data.toList.drop p = bs) (h : am_fu op k len bs = true) (hK : (am_K p).1 op = (am_ru1 >>= G)) (hG : G k = Pure.pure I) : decode cc p = .ok (I, len) := by
  match bs, hb, h with
  | a :: b :: t, hb, h =>
    obtain ⟨h1, h2⟩ := am_and h
    obtain ⟨h2, h3⟩ := am_and h2
    have e := am_u1 hb
    have e' := am_u1 (am_dn hb)
    rw [am_beq h1] at e
    rw [am_beq h2] at e'
    rw [am_beq h3]
    refine am_decN e ?_
    rw [hK]
    show Except.bind (am_ru1 cc (p + 1)) (fun q => G q.1 cc q.2) = _
    rw [e']
    show G k cc (p + 1 + 1) = _
    rw [hG]
    rfl
theorem am_fsok {cc : ByteArray} {bs : List UInt8} {p op len : Nat} {x : Int} (F : Int → Instr) (hb : cc.data.toList.drop p = bs) (h : am_fs op x len bs = true) (hK : (am_K p).1 op = (am_rs1 >>= fun k => Pure.pure (F k))) : decode cc p = .ok (F x, len) := by
  match bs, hb, h with
  | a :: b :: t, hb, h =>
    obtain ⟨h1, h2⟩ := am_and h
    obtain ⟨h2, h3⟩ := am_and h2
    have e := am_u1 hb
    have e' := am_us1 (am_dn hb)
    rw [am_beq h1] at e
    rw [of_decide_eq_true h2] at e'
    rw [am_beq h3]
    refine am_decN e ?_
    rw [hK]
    show Except.bind (am_rs1 cc (p + 1)) (fun q => .ok (F q.1, q.2)) = _
    rw [e']
    rfl
theorem am_fu2ok {cc : ByteArray} {bs : List UInt8} {p op k len : Nat} (F : Nat → Instr) (hb : cc.data.toList.drop p = bs) (h : am_fu2 op k len bs = true) (hK : (am_K p).1 op = (am_ru2 >>= fun k => Pure.pure (F k))) : decode cc p = .ok (F k, len) := by
  match bs, hb, h with
  | a :: b :: c :: t, hb, h =>
    obtain ⟨h1, h2⟩ := am_and h
    obtain ⟨h2, h3⟩ := am_and h2
    have e := am_u1 hb
    have e' := am_u2 (am_dn hb)
    rw [am_beq h1] at e
    rw [am_beq h2] at e'
    rw [am_beq h3]
    refine am_decN e ?_
    rw [hK]
    show Except.bind (am_ru2 cc (p + 1)) (fun q => .ok (F q.1, q.2)) = _
    rw [e']
    rfl
theorem am_fs2ok {cc : ByteArray} {bs : List UInt8} {p op len : Nat} {x : Int} (F : Int → Instr) (hb : cc.data.toList.drop p = bs) (h : am_fs2 op x len bs = true) (hK : (am_K p).1 op = (am_rs2 >>= fun k => Pure.pure (F k))) : decode cc p = .ok (F x, len) := by
  match bs, hb, h with
  | a :: b :: c :: t, hb, h =>
    obtain ⟨h1, h2⟩ := am_and h
    obtain ⟨h2, h3⟩ := am_and h2
    have e := am_u1 hb
    have e' := am_us2 (am_dn hb)
    rw [am_beq h1] at e
    rw [of_decide_eq_true h2] at e'
    rw [am_beq h3]
    refine am_decN e ?_
    rw [hK]
    show Except.bind (am_rs2 cc (p + 1)) (fun q => .ok (F q.1, q.2)) = _
    rw [e']
    rfl
theorem am_fiok {cc : ByteArray} {bs : List UInt8} {p op k len : Nat} {x : Int} (F : Nat → Int → Instr) (hb : cc.data.toList.drop p = bs) (h : am_fi op k x len bs = true) (hK : (am_K p).1 op = (am_ru1 >>= fun k => am_rs1 >>= fun x => Pure.pure (F k x))) : decode cc p = .ok (F k x, len) := by
  match bs, hb, h with
  | a :: b :: c :: t, hb, h =>
    obtain ⟨h1, h2⟩ := am_and h
    obtain ⟨h2, h3⟩ := am_and h2
    obtain ⟨h3, h4⟩ := am_and h3
    have e := am_u1 hb
    have e' := am_u1 (am_dn hb)
    have e'' := am_us1 (am_dn (am_dn hb))
    rw [am_beq h1] at e
    rw [am_beq h2] at e'
    rw [of_decide_eq_true h3] at e''
    rw [am_beq h4]
    refine am_decN e ?_
    rw [hK]
    show Except.bind (am_ru1 cc (p + 1)) (fun q => Except.bind (am_rs1 cc q.2) (fun r => .ok (F q.1 r.1, r.2))) = _
    rw [e']
    show Except.bind (am_rs1 cc (p + 1 + 1)) (fun r => .ok (F k r.1, r.2)) = _
    rw [e'']
    rfl
noncomputable def am_en (I : Instr) : Nat × Nat × Nat × Int := match I with
  | .aload_n 0 => (0, 42, 0, 0)
  | .aload_n 1 => (0, 43, 0, 0)
  | .aload_n 2 => (0, 44, 0, 0)
  | .aload_n 3 => (0, 45, 0, 0)
  | .iload_n 0 => (0, 26, 0, 0)
  | .iload_n 1 => (0, 27, 0, 0)
  | .iload_n 2 => (0, 28, 0, 0)
  | .iload_n 3 => (0, 29, 0, 0)
  | .istore_n 0 => (0, 59, 0, 0)
  | .istore_n 1 => (0, 60, 0, 0)
  | .istore_n 2 => (0, 61, 0, 0)
  | .istore_n 3 => (0, 62, 0, 0)
  | .lload_n 0 => (0, 30, 0, 0)
  | .lload_n 1 => (0, 31, 0, 0)
  | .lload_n 2 => (0, 32, 0, 0)
  | .lload_n 3 => (0, 33, 0, 0)
  | .iconst (.ofNat 0) => (0, 3, 0, 0)
  | .iconst (.ofNat 1) => (0, 4, 0, 0)
  | .iconst (.ofNat 2) => (0, 5, 0, 0)
  | .iconst (.ofNat 3) => (0, 6, 0, 0)
  | .iconst (.ofNat 4) => (0, 7, 0, 0)
  | .iconst (.ofNat 5) => (0, 8, 0, 0)
  | .iconst (.negSucc 0) => (0, 2, 0, 0)
  | .lconst 0 => (0, 9, 0, 0)
  | .lconst 1 => (0, 10, 0, 0)
  | .ireturn => (0, 172, 0, 0)
  | .iaload => (0, 46, 0, 0)
  | .iadd => (0, 96, 0, 0)
  | .pop => (0, 87, 0, 0)
  | .iastore => (0, 79, 0, 0)
  | .isub => (0, 100, 0, 0)
  | .return_ => (0, 177, 0, 0)
  | .i2l => (0, 133, 0, 0)
  | .imul => (0, 104, 0, 0)
  | .dup => (0, 89, 0, 0)
  | .iand => (0, 126, 0, 0)
  | .aaload => (0, 50, 0, 0)
  | .dup2 => (0, 92, 0, 0)
  | .ishr => (0, 122, 0, 0)
  | .lreturn => (0, 173, 0, 0)
  | .ishl => (0, 120, 0, 0)
  | .arraylength => (0, 190, 0, 0)
  | .areturn => (0, 176, 0, 0)
  | .iload k => (1, 21, k, 0)
  | .istore k => (1, 54, k, 0)
  | .lload k => (1, 22, k, 0)
  | .lstore k => (1, 55, k, 0)
  | .ldc k => (1, 18, k, 0)
  | .getfield k => (2, 180, k, 0)
  | .invokevirtual k => (2, 182, k, 0)
  | .invokestatic k => (2, 184, k, 0)
  | .putfield k => (2, 181, k, 0)
  | .ldc2_w k => (2, 20, k, 0)
  | .invokespecial k => (2, 183, k, 0)
  | .new k => (2, 187, k, 0)
  | .newarray .int => (1, 188, 10, 0)
  | .bipush x => (3, 16, 0, x)
  | .sipush x => (4, 17, 0, x)
  | .goto x => (4, 167, 0, x)
  | .ifCond .eq x => (4, 153, 0, x)
  | .ifCond .ne x => (4, 154, 0, x)
  | .ifCond .lt x => (4, 155, 0, x)
  | .ifCond .ge x => (4, 156, 0, x)
  | .ifCond .gt x => (4, 157, 0, x)
  | .ifCond .le x => (4, 158, 0, x)
  | .if_icmp .eq x => (4, 159, 0, x)
  | .if_icmp .ne x => (4, 160, 0, x)
  | .if_icmp .lt x => (4, 161, 0, x)
  | .if_icmp .ge x => (4, 162, 0, x)
  | .if_icmp .gt x => (4, 163, 0, x)
  | .if_icmp .le x => (4, 164, 0, x)
  | .iinc k x => (5, 132, k, x)
  | _ => (6, 0, 0, 0)
noncomputable def am_fe (cc : ByteArray) (p len : Nat) (bs : List UInt8) (I : Instr) : Nat × Nat × Nat × Int → Bool
  | (0, op, _, _) => am_f0 op len bs
  | (1, op, k, _) => am_fu op k len bs
  | (2, op, k, _) => am_fu2 op k len bs
  | (3, op, _, x) => am_fs op x len bs
  | (4, op, _, x) => am_fs2 op x len bs
  | (5, op, k, x) => am_fi op k x len bs
  | _ => decide (decode cc p = .ok (I, len))
noncomputable def am_fd (cc : ByteArray) (p len : Nat) (bs : List UInt8) (I : Instr) : Bool := am_fe cc p len bs I (am_en I)
theorem am_fdok {cc : ByteArray} {bs : List UInt8} {p len : Nat} {I : Instr} (hb : cc.data.toList.drop p = bs) (h : am_fd cc p len bs I = true) : decode cc p = .ok (I, len) := by
  unfold am_fd am_en at h
  split at h
  · exact am_f0ok hb h rfl
  · exact am_f0ok hb h rfl
  · exact am_f0ok hb h rfl
  · exact am_f0ok hb h rfl
  · exact am_f0ok hb h rfl
  · exact am_f0ok hb h rfl
  · exact am_f0ok hb h rfl
  · exact am_f0ok hb h rfl
  · exact am_f0ok hb h rfl
  · exact am_f0ok hb h rfl
  · exact am_f0ok hb h rfl
  · exact am_f0ok hb h rfl
  · exact am_f0ok hb h rfl
  · exact am_f0ok hb h rfl
  · exact am_f0ok hb h rfl
  · exact am_f0ok hb h rfl
  · exact am_f0ok hb h rfl
  · exact am_f0ok hb h rfl
  · exact am_f0ok hb h rfl
  · exact am_f0ok hb h rfl
  · exact am_f0ok hb h rfl
  · exact am_f0ok hb h rfl
  · exact am_f0ok hb h rfl
  · exact am_f0ok hb h rfl
  · exact am_f0ok hb h rfl
  · exact am_f0ok hb h rfl
  · exact am_f0ok hb h rfl
  · exact am_f0ok hb h rfl
  · exact am_f0ok hb h rfl
  · exact am_f0ok hb h rfl
  · exact am_f0ok hb h rfl
  · exact am_f0ok hb h rfl
  · exact am_f0ok hb h rfl
  · exact am_f0ok hb h rfl
  · exact am_f0ok hb h rfl
  · exact am_f0ok hb h rfl
  · exact am_f0ok hb h rfl
  · exact am_f0ok hb h rfl
  · exact am_f0ok hb h rfl
  · exact am_f0ok hb h rfl
  · exact am_f0ok hb h rfl
  · exact am_f0ok hb h rfl
  · exact am_f0ok hb h rfl
  · exact am_fuok .iload hb h rfl
  · exact am_fuok .istore hb h rfl
  · exact am_fuok .lload hb h rfl
  · exact am_fuok .lstore hb h rfl
  · exact am_fuok .ldc hb h rfl
  · exact am_fu2ok .getfield hb h rfl
  · exact am_fu2ok .invokevirtual hb h rfl
  · exact am_fu2ok .invokestatic hb h rfl
  · exact am_fu2ok .putfield hb h rfl
  · exact am_fu2ok .ldc2_w hb h rfl
  · exact am_fu2ok .invokespecial hb h rfl
  · exact am_fu2ok .new hb h rfl
  · exact am_fvok hb h rfl rfl
  · exact am_fsok .bipush hb h rfl
  · exact am_fs2ok .sipush hb h rfl
  · exact am_fs2ok .goto hb h rfl
  · exact am_fs2ok (.ifCond .eq) hb h rfl
  · exact am_fs2ok (.ifCond .ne) hb h rfl
  · exact am_fs2ok (.ifCond .lt) hb h rfl
  · exact am_fs2ok (.ifCond .ge) hb h rfl
  · exact am_fs2ok (.ifCond .gt) hb h rfl
  · exact am_fs2ok (.ifCond .le) hb h rfl
  · exact am_fs2ok (.if_icmp .eq) hb h rfl
  · exact am_fs2ok (.if_icmp .ne) hb h rfl
  · exact am_fs2ok (.if_icmp .lt) hb h rfl
  · exact am_fs2ok (.if_icmp .ge) hb h rfl
  · exact am_fs2ok (.if_icmp .gt) hb h rfl
  · exact am_fs2ok (.if_icmp .le) hb h rfl
  · exact am_fiok .iinc hb h rfl
  · exact of_decide_eq_true h
noncomputable def am_nxt (n : Nat) : List (Instr × Nat × Nat) → Bool
  | [] => true
  | q :: _ => Nat.beq q.2.1 n
noncomputable def am_lin (cc : ByteArray) : List (Instr × Nat × Nat) → List UInt8 → Bool
  | [], _ => true
  | (I, p, len) :: r, bs => am_fd cc p len bs I && (am_nxt (p + len) r && am_lin cc r (bs.drop len))
theorem am_linok {cc : ByteArray} : ∀ (r : List (Instr × Nat × Nat)) (p : Nat) (bs : List UInt8), cc.data.toList.drop p = bs → am_nxt p r = true → am_lin cc r bs = true → am_dchk cc r = true
  | [], _, _, _, _, _ => rfl
  | (I, q, len) :: r, p, bs, hb, hn, h => by
    have hp : q = p := am_beq hn
    subst hp
    have h : (am_fd cc q len bs I && (am_nxt (q + len) r && am_lin cc r (bs.drop len))) = true := h
    obtain ⟨h1, h2⟩ := am_and h
    obtain ⟨h2, h3⟩ := am_and h2
    have e := am_fdok hb h1
    have i := am_linok r (q + len) (bs.drop len) (by rw [← hb, List.drop_drop]) h2 h3
    unfold am_dchk at *
    rw [List.all_cons, i, decide_eq_true e]
    rfl
theorem am_fast {cc : ByteArray} {r : List (Instr × Nat × Nat)} (h : (am_nxt 0 r && am_lin cc r cc.data.toList) = true) : am_dchk cc r = true :=
  am_linok r 0 _ rfl (am_and h).1 (am_and h).2
end
section
noncomputable def am_nls : Nat → Nat → List Nat
  | 0, _ => []
  | n + 1, c => c :: am_nls n (c + 1)
theorem am_rng : ∀ (n c k : Nat), c ≤ k → k < c + n → k ∈ am_nls n c
  | 0, _, _, h1, h2 => absurd h2 (by omega)
  | n + 1, c, k, h1, h2 => by
    rcases Nat.eq_or_lt_of_le h1 with e | e
    · subst e
      exact List.mem_cons_self
    · exact List.mem_cons_of_mem _ (am_rng n (c + 1) k e (by omega))
noncomputable def am_dq (k : Nat) : Bool := am_nxt 0 (am_raw.getD k []) && am_lin (am_bytes k) (am_raw.getD k []) (am_bytes k).data.toList
theorem am_d0 : am_dq 0 = true := by decide +kernel
theorem am_d1 : am_dq 1 = true := by decide +kernel
theorem am_d2 : am_dq 2 = true := by decide +kernel
theorem am_d3 : am_dq 3 = true := by decide +kernel
theorem am_d4 : am_dq 4 = true := by decide +kernel
theorem am_d5 : am_dq 5 = true := by decide +kernel
theorem am_d6 : am_dq 6 = true := by decide +kernel
theorem am_d7 : am_dq 7 = true := by decide +kernel
theorem am_d8 : am_dq 8 = true := by decide +kernel
theorem am_d9 : am_dq 9 = true := by decide +kernel
theorem am_d10 : am_dq 10 = true := by decide +kernel
theorem am_d11 : am_dq 11 = true := by decide +kernel
theorem am_d12 : am_dq 12 = true := by decide +kernel
theorem am_d13 : am_dq 13 = true := by decide +kernel
theorem am_d14 : am_dq 14 = true := by decide +kernel
theorem am_d15 : am_dq 15 = true := by decide +kernel
theorem am_d16 : am_dq 16 = true := by decide +kernel
theorem am_d17 : am_dq 17 = true := by decide +kernel
theorem am_d18 : am_dq 18 = true := by decide +kernel
theorem am_d19 : am_dq 19 = true := by decide +kernel
theorem am_d20 : am_dq 20 = true := by decide +kernel
theorem am_d21 : am_dq 21 = true := by decide +kernel
theorem am_d22 : am_dq 22 = true := by decide +kernel
theorem am_d23 : am_dq 23 = true := by decide +kernel
theorem am_d24 : am_dq 24 = true := by decide +kernel
theorem am_d25 : am_dq 25 = true := by decide +kernel
theorem am_d26 : am_dq 26 = true := by decide +kernel
theorem am_d27 : am_dq 27 = true := by decide +kernel
theorem am_d28 : am_dq 28 = true := by decide +kernel
theorem am_d29 : am_dq 29 = true := by decide +kernel
theorem am_d30 : am_dq 30 = true := by decide +kernel
theorem am_d31 : am_dq 31 = true := by decide +kernel
theorem am_d32 : am_dq 32 = true := by decide +kernel
theorem am_d33 : am_dq 33 = true := by decide +kernel
theorem am_d34 : am_dq 34 = true := by decide +kernel
theorem am_d35 : am_dq 35 = true := by decide +kernel
theorem am_d36 : am_dq 36 = true := by decide +kernel
theorem am_d37 : am_dq 37 = true := by decide +kernel
theorem am_d38 : am_dq 38 = true := by decide +kernel
theorem am_d39 : am_dq 39 = true := by decide +kernel
theorem am_d40 : am_dq 40 = true := by decide +kernel
theorem am_d41 : am_dq 41 = true := by decide +kernel
theorem am_d42 : am_dq 42 = true := by decide +kernel
theorem am_d43 : am_dq 43 = true := by decide +kernel
theorem am_d44 : am_dq 44 = true := by decide +kernel
theorem am_d45 : am_dq 45 = true := by decide +kernel
theorem am_d46 : am_dq 46 = true := by decide +kernel
theorem am_d47 : am_dq 47 = true := by decide +kernel
theorem am_d48 : am_dq 48 = true := by decide +kernel
theorem am_d49 : am_dq 49 = true := by decide +kernel
theorem am_d50 : am_dq 50 = true := by decide +kernel
theorem am_d51 : am_dq 51 = true := by decide +kernel
theorem am_d52 : am_dq 52 = true := by decide +kernel
theorem am_d53 : am_dq 53 = true := by decide +kernel
theorem am_d54 : am_dq 54 = true := by decide +kernel
theorem am_d55 : am_dq 55 = true := by decide +kernel
theorem am_d56 : am_dq 56 = true := by decide +kernel
theorem am_d57 : am_dq 57 = true := by decide +kernel
theorem am_d58 : am_dq 58 = true := by decide +kernel
theorem am_d59 : am_dq 59 = true := by decide +kernel
theorem am_d60 : am_dq 60 = true := by decide +kernel
theorem am_d61 : am_dq 61 = true := by decide +kernel
theorem am_d62 : am_dq 62 = true := by decide +kernel
theorem am_d63 : am_dq 63 = true := by decide +kernel
theorem am_d64 : am_dq 64 = true := by decide +kernel
theorem am_d65 : am_dq 65 = true := by decide +kernel
theorem am_d66 : am_dq 66 = true := by decide +kernel
theorem am_d67 : am_dq 67 = true := by decide +kernel
theorem am_d68 : am_dq 68 = true := by decide +kernel
theorem am_d69 : am_dq 69 = true := by decide +kernel
theorem am_d70 : am_dq 70 = true := by decide +kernel
theorem am_d71 : am_dq 71 = true := by decide +kernel
theorem am_d72 : am_dq 72 = true := by decide +kernel
theorem am_d73 : am_dq 73 = true := by decide +kernel
theorem am_d74 : am_dq 74 = true := by decide +kernel
theorem am_d75 : am_dq 75 = true := by decide +kernel
theorem am_d76 : am_dq 76 = true := by decide +kernel
theorem am_d77 : am_dq 77 = true := by decide +kernel
theorem am_d78 : am_dq 78 = true := by decide +kernel
theorem am_d79 : am_dq 79 = true := by decide +kernel
theorem am_d80 : am_dq 80 = true := by decide +kernel
theorem am_d81 : am_dq 81 = true := by decide +kernel
theorem am_d82 : am_dq 82 = true := by decide +kernel
theorem am_d83 : am_dq 83 = true := by decide +kernel
theorem am_d84 : am_dq 84 = true := by decide +kernel
theorem am_d85 : am_dq 85 = true := by decide +kernel
theorem am_d86 : am_dq 86 = true := by decide +kernel
theorem am_d87 : am_dq 87 = true := by decide +kernel
theorem am_d88 : am_dq 88 = true := by decide +kernel
theorem am_d89 : am_dq 89 = true := by decide +kernel
theorem am_d90 : am_dq 90 = true := by decide +kernel
theorem am_d91 : am_dq 91 = true := by decide +kernel
theorem am_d92 : am_dq 92 = true := by decide +kernel
theorem am_d93 : am_dq 93 = true := by decide +kernel
theorem am_d94 : am_dq 94 = true := by decide +kernel
theorem am_d95 : am_dq 95 = true := by decide +kernel
theorem am_d96 : am_dq 96 = true := by decide +kernel
theorem am_d97 : am_dq 97 = true := by decide +kernel
theorem am_d98 : am_dq 98 = true := by decide +kernel
theorem am_d99 : am_dq 99 = true := by decide +kernel
theorem am_d100 : am_dq 100 = true := by decide +kernel
theorem am_d101 : am_dq 101 = true := by decide +kernel
theorem am_d102 : am_dq 102 = true := by decide +kernel
theorem am_d103 : am_dq 103 = true := by decide +kernel
theorem am_d104 : am_dq 104 = true := by decide +kernel
theorem am_d105 : am_dq 105 = true := by decide +kernel
theorem am_d106 : am_dq 106 = true := by decide +kernel
theorem am_d107 : am_dq 107 = true := by decide +kernel
theorem am_d108 : am_dq 108 = true := by decide +kernel
theorem am_d109 : am_dq 109 = true := by decide +kernel
theorem am_d110 : am_dq 110 = true := by decide +kernel
theorem am_d111 : am_dq 111 = true := by decide +kernel
theorem am_d112 : am_dq 112 = true := by decide +kernel
theorem am_d113 : am_dq 113 = true := by decide +kernel
theorem am_d114 : am_dq 114 = true := by decide +kernel
theorem am_d115 : am_dq 115 = true := by decide +kernel
theorem am_d116 : am_dq 116 = true := by decide +kernel
theorem am_d117 : am_dq 117 = true := by decide +kernel
theorem am_d118 : am_dq 118 = true := by decide +kernel
theorem am_d119 : am_dq 119 = true := by decide +kernel
theorem am_d120 : am_dq 120 = true := by decide +kernel
theorem am_d121 : am_dq 121 = true := by decide +kernel
theorem am_d122 : am_dq 122 = true := by decide +kernel
theorem am_d123 : am_dq 123 = true := by decide +kernel
theorem am_d124 : am_dq 124 = true := by decide +kernel
theorem am_d125 : am_dq 125 = true := by decide +kernel
theorem am_d126 : am_dq 126 = true := by decide +kernel
theorem am_d127 : am_dq 127 = true := by decide +kernel
theorem am_d128 : am_dq 128 = true := by decide +kernel
theorem am_d129 : am_dq 129 = true := by decide +kernel
theorem am_d130 : am_dq 130 = true := by decide +kernel
theorem am_d131 : am_dq 131 = true := by decide +kernel
theorem am_d132 : am_dq 132 = true := by decide +kernel
theorem am_d133 : am_dq 133 = true := by decide +kernel
theorem am_d134 : am_dq 134 = true := by decide +kernel
theorem am_d135 : am_dq 135 = true := by decide +kernel
theorem am_d136 : am_dq 136 = true := by decide +kernel
theorem am_d137 : am_dq 137 = true := by decide +kernel
theorem am_d138 : am_dq 138 = true := by decide +kernel
theorem am_d139 : am_dq 139 = true := by decide +kernel
theorem am_d140 : am_dq 140 = true := by decide +kernel
theorem am_d141 : am_dq 141 = true := by decide +kernel
theorem am_d142 : am_dq 142 = true := by decide +kernel
theorem am_d143 : am_dq 143 = true := by decide +kernel
theorem am_d144 : am_dq 144 = true := by decide +kernel
theorem am_d145 : am_dq 145 = true := by decide +kernel
theorem am_d146 : am_dq 146 = true := by decide +kernel
theorem am_d147 : am_dq 147 = true := by decide +kernel
theorem am_d148 : am_dq 148 = true := by decide +kernel
theorem am_d149 : am_dq 149 = true := by decide +kernel
theorem am_d150 : am_dq 150 = true := by decide +kernel
theorem am_d151 : am_dq 151 = true := by decide +kernel
theorem am_d152 : am_dq 152 = true := by decide +kernel
theorem am_d153 : am_dq 153 = true := by decide +kernel
theorem am_d154 : am_dq 154 = true := by decide +kernel
theorem am_d155 : am_dq 155 = true := by decide +kernel
theorem am_d156 : am_dq 156 = true := by decide +kernel
theorem am_d157 : am_dq 157 = true := by decide +kernel
theorem am_d158 : am_dq 158 = true := by decide +kernel
theorem am_d159 : am_dq 159 = true := by decide +kernel
theorem am_d160 : am_dq 160 = true := by decide +kernel
theorem am_d161 : am_dq 161 = true := by decide +kernel
theorem am_d162 : am_dq 162 = true := by decide +kernel
theorem am_d163 : am_dq 163 = true := by decide +kernel
theorem am_d164 : am_dq 164 = true := by decide +kernel
theorem am_d165 : am_dq 165 = true := by decide +kernel
theorem am_d166 : am_dq 166 = true := by decide +kernel
theorem am_d167 : am_dq 167 = true := by decide +kernel
theorem am_d168 : am_dq 168 = true := by decide +kernel
theorem am_d169 : am_dq 169 = true := by decide +kernel
theorem am_d170 : am_dq 170 = true := by decide +kernel
theorem am_d171 : am_dq 171 = true := by decide +kernel
theorem am_d172 : am_dq 172 = true := by decide +kernel
theorem am_d173 : am_dq 173 = true := by decide +kernel
theorem am_d174 : am_dq 174 = true := by decide +kernel
theorem am_d175 : am_dq 175 = true := by decide +kernel
theorem am_d176 : am_dq 176 = true := by decide +kernel
theorem am_d177 : am_dq 177 = true := by decide +kernel
theorem am_d178 : am_dq 178 = true := by decide +kernel
theorem am_d179 : am_dq 179 = true := by decide +kernel
theorem am_d180 : am_dq 180 = true := by decide +kernel
theorem am_d181 : am_dq 181 = true := by decide +kernel
theorem am_d182 : am_dq 182 = true := by decide +kernel
theorem am_d183 : am_dq 183 = true := by decide +kernel
theorem am_d184 : am_dq 184 = true := by decide +kernel
theorem am_d185 : am_dq 185 = true := by decide +kernel
theorem am_d186 : am_dq 186 = true := by decide +kernel
theorem am_d187 : am_dq 187 = true := by decide +kernel
theorem am_d188 : am_dq 188 = true := by decide +kernel
theorem am_d189 : am_dq 189 = true := by decide +kernel
theorem am_d190 : am_dq 190 = true := by decide +kernel
theorem am_d191 : am_dq 191 = true := by decide +kernel
theorem am_d192 : am_dq 192 = true := by decide +kernel
theorem am_d193 : am_dq 193 = true := by decide +kernel
theorem am_d194 : am_dq 194 = true := by decide +kernel
theorem am_d195 : am_dq 195 = true := by decide +kernel
theorem am_d196 : am_dq 196 = true := by decide +kernel
theorem am_d197 : am_dq 197 = true := by decide +kernel
theorem am_d198 : am_dq 198 = true := by decide +kernel
theorem am_d199 : am_dq 199 = true := by decide +kernel
theorem am_d200 : am_dq 200 = true := by decide +kernel
theorem am_d201 : am_dq 201 = true := by decide +kernel
theorem am_d202 : am_dq 202 = true := by decide +kernel
theorem am_d203 : am_dq 203 = true := by decide +kernel
theorem am_d204 : am_dq 204 = true := by decide +kernel
theorem am_d205 : am_dq 205 = true := by decide +kernel
theorem am_d206 : am_dq 206 = true := by decide +kernel
theorem am_d207 : am_dq 207 = true := by decide +kernel
theorem am_d208 : am_dq 208 = true := by decide +kernel
theorem am_d209 : am_dq 209 = true := by decide +kernel
theorem am_d210 : am_dq 210 = true := by decide +kernel
theorem am_d211 : am_dq 211 = true := by decide +kernel
theorem am_d212 : am_dq 212 = true := by decide +kernel
theorem am_d213 : am_dq 213 = true := by decide +kernel
theorem am_d214 : am_dq 214 = true := by decide +kernel
theorem am_d215 : am_dq 215 = true := by decide +kernel
theorem am_d216 : am_dq 216 = true := by decide +kernel
theorem am_d217 : am_dq 217 = true := by decide +kernel
theorem am_d218 : am_dq 218 = true := by decide +kernel
theorem am_d219 : am_dq 219 = true := by decide +kernel
theorem am_d220 : am_dq 220 = true := by decide +kernel
theorem am_d221 : am_dq 221 = true := by decide +kernel
theorem am_d222 : am_dq 222 = true := by decide +kernel
theorem am_d223 : am_dq 223 = true := by decide +kernel
theorem am_d224 : am_dq 224 = true := by decide +kernel
theorem am_d225 : am_dq 225 = true := by decide +kernel
theorem am_d226 : am_dq 226 = true := by decide +kernel
theorem am_d227 : am_dq 227 = true := by decide +kernel
theorem am_d228 : am_dq 228 = true := by decide +kernel
theorem am_d229 : am_dq 229 = true := by decide +kernel
theorem am_d230 : am_dq 230 = true := by decide +kernel
theorem am_d231 : am_dq 231 = true := by decide +kernel
theorem am_d232 : am_dq 232 = true := by decide +kernel
theorem am_d233 : am_dq 233 = true := by decide +kernel
theorem am_d234 : am_dq 234 = true := by decide +kernel
theorem am_d235 : am_dq 235 = true := by decide +kernel
theorem am_d236 : am_dq 236 = true := by decide +kernel
theorem am_d237 : am_dq 237 = true := by decide +kernel
theorem am_d238 : am_dq 238 = true := by decide +kernel
theorem am_d239 : am_dq 239 = true := by decide +kernel
set_option maxRecDepth 20000 in
theorem am_dqall_0 : ∀ k ∈ ([0, 1, 2, 3, 4, 5, 6, 7, 8, 9, 10, 11, 12, 13, 14, 15, 16, 17, 18, 19, 20, 21, 22, 23] : List Nat), am_dq k = true := List.forall_mem_cons.mpr ⟨am_d0, List.forall_mem_cons.mpr ⟨am_d1, List.forall_mem_cons.mpr ⟨am_d2, List.forall_mem_cons.mpr ⟨am_d3, List.forall_mem_cons.mpr ⟨am_d4, List.forall_mem_cons.mpr ⟨am_d5, List.forall_mem_cons.mpr ⟨am_d6, List.forall_mem_cons.mpr ⟨am_d7, List.forall_mem_cons.mpr ⟨am_d8, List.forall_mem_cons.mpr ⟨am_d9, List.forall_mem_cons.mpr ⟨am_d10, List.forall_mem_cons.mpr ⟨am_d11, List.forall_mem_cons.mpr ⟨am_d12, List.forall_mem_cons.mpr ⟨am_d13, List.forall_mem_cons.mpr ⟨am_d14, List.forall_mem_cons.mpr ⟨am_d15, List.forall_mem_cons.mpr ⟨am_d16, List.forall_mem_cons.mpr ⟨am_d17, List.forall_mem_cons.mpr ⟨am_d18, List.forall_mem_cons.mpr ⟨am_d19, List.forall_mem_cons.mpr ⟨am_d20, List.forall_mem_cons.mpr ⟨am_d21, List.forall_mem_cons.mpr ⟨am_d22, List.forall_mem_cons.mpr ⟨am_d23, fun _ h => absurd h List.not_mem_nil⟩⟩⟩⟩⟩⟩⟩⟩⟩⟩⟩⟩⟩⟩⟩⟩⟩⟩⟩⟩⟩⟩⟩⟩
set_option maxRecDepth 20000 in
theorem am_dqall_24 : ∀ k ∈ ([24, 25, 26, 27, 28, 29, 30, 31, 32, 33, 34, 35, 36, 37, 38, 39, 40, 41, 42, 43, 44, 45, 46, 47] : List Nat), am_dq k = true := List.forall_mem_cons.mpr ⟨am_d24, List.forall_mem_cons.mpr ⟨am_d25, List.forall_mem_cons.mpr ⟨am_d26, List.forall_mem_cons.mpr ⟨am_d27, List.forall_mem_cons.mpr ⟨am_d28, List.forall_mem_cons.mpr ⟨am_d29, List.forall_mem_cons.mpr ⟨am_d30, List.forall_mem_cons.mpr ⟨am_d31, List.forall_mem_cons.mpr ⟨am_d32, List.forall_mem_cons.mpr ⟨am_d33, List.forall_mem_cons.mpr ⟨am_d34, List.forall_mem_cons.mpr ⟨am_d35, List.forall_mem_cons.mpr ⟨am_d36, List.forall_mem_cons.mpr ⟨am_d37, List.forall_mem_cons.mpr ⟨am_d38, List.forall_mem_cons.mpr ⟨am_d39, List.forall_mem_cons.mpr ⟨am_d40, List.forall_mem_cons.mpr ⟨am_d41, List.forall_mem_cons.mpr ⟨am_d42, List.forall_mem_cons.mpr ⟨am_d43, List.forall_mem_cons.mpr ⟨am_d44, List.forall_mem_cons.mpr ⟨am_d45, List.forall_mem_cons.mpr ⟨am_d46, List.forall_mem_cons.mpr ⟨am_d47, fun _ h => absurd h List.not_mem_nil⟩⟩⟩⟩⟩⟩⟩⟩⟩⟩⟩⟩⟩⟩⟩⟩⟩⟩⟩⟩⟩⟩⟩⟩
set_option maxRecDepth 20000 in
theorem am_dqall_48 : ∀ k ∈ ([48, 49, 50, 51, 52, 53, 54, 55, 56, 57, 58, 59, 60, 61, 62, 63, 64, 65, 66, 67, 68, 69, 70, 71] : List Nat), am_dq k = true := List.forall_mem_cons.mpr ⟨am_d48, List.forall_mem_cons.mpr ⟨am_d49, List.forall_mem_cons.mpr ⟨am_d50, List.forall_mem_cons.mpr ⟨am_d51, List.forall_mem_cons.mpr ⟨am_d52, List.forall_mem_cons.mpr ⟨am_d53, List.forall_mem_cons.mpr ⟨am_d54, List.forall_mem_cons.mpr ⟨am_d55, List.forall_mem_cons.mpr ⟨am_d56, List.forall_mem_cons.mpr ⟨am_d57, List.forall_mem_cons.mpr ⟨am_d58, List.forall_mem_cons.mpr ⟨am_d59, List.forall_mem_cons.mpr ⟨am_d60, List.forall_mem_cons.mpr ⟨am_d61, List.forall_mem_cons.mpr ⟨am_d62, List.forall_mem_cons.mpr ⟨am_d63, List.forall_mem_cons.mpr ⟨am_d64, List.forall_mem_cons.mpr ⟨am_d65, List.forall_mem_cons.mpr ⟨am_d66, List.forall_mem_cons.mpr ⟨am_d67, List.forall_mem_cons.mpr ⟨am_d68, List.forall_mem_cons.mpr ⟨am_d69, List.forall_mem_cons.mpr ⟨am_d70, List.forall_mem_cons.mpr ⟨am_d71, fun _ h => absurd h List.not_mem_nil⟩⟩⟩⟩⟩⟩⟩⟩⟩⟩⟩⟩⟩⟩⟩⟩⟩⟩⟩⟩⟩⟩⟩⟩
set_option maxRecDepth 20000 in
theorem am_dqall_72 : ∀ k ∈ ([72, 73, 74, 75, 76, 77, 78, 79, 80, 81, 82, 83, 84, 85, 86, 87, 88, 89, 90, 91, 92, 93, 94, 95] : List Nat), am_dq k = true := List.forall_mem_cons.mpr ⟨am_d72, List.forall_mem_cons.mpr ⟨am_d73, List.forall_mem_cons.mpr ⟨am_d74, List.forall_mem_cons.mpr ⟨am_d75, List.forall_mem_cons.mpr ⟨am_d76, List.forall_mem_cons.mpr ⟨am_d77, List.forall_mem_cons.mpr ⟨am_d78, List.forall_mem_cons.mpr ⟨am_d79, List.forall_mem_cons.mpr ⟨am_d80, List.forall_mem_cons.mpr ⟨am_d81, List.forall_mem_cons.mpr ⟨am_d82, List.forall_mem_cons.mpr ⟨am_d83, List.forall_mem_cons.mpr ⟨am_d84, List.forall_mem_cons.mpr ⟨am_d85, List.forall_mem_cons.mpr ⟨am_d86, List.forall_mem_cons.mpr ⟨am_d87, List.forall_mem_cons.mpr ⟨am_d88, List.forall_mem_cons.mpr ⟨am_d89, List.forall_mem_cons.mpr ⟨am_d90, List.forall_mem_cons.mpr ⟨am_d91, List.forall_mem_cons.mpr ⟨am_d92, List.forall_mem_cons.mpr ⟨am_d93, List.forall_mem_cons.mpr ⟨am_d94, List.forall_mem_cons.mpr ⟨am_d95, fun _ h => absurd h List.not_mem_nil⟩⟩⟩⟩⟩⟩⟩⟩⟩⟩⟩⟩⟩⟩⟩⟩⟩⟩⟩⟩⟩⟩⟩⟩
set_option maxRecDepth 20000 in
theorem am_dqall_96 : ∀ k ∈ ([96, 97, 98, 99, 100, 101, 102, 103, 104, 105, 106, 107, 108, 109, 110, 111, 112, 113, 114, 115, 116, 117, 118, 119] : List Nat), am_dq k = true := List.forall_mem_cons.mpr ⟨am_d96, List.forall_mem_cons.mpr ⟨am_d97, List.forall_mem_cons.mpr ⟨am_d98, List.forall_mem_cons.mpr ⟨am_d99, List.forall_mem_cons.mpr ⟨am_d100, List.forall_mem_cons.mpr ⟨am_d101, List.forall_mem_cons.mpr ⟨am_d102, List.forall_mem_cons.mpr ⟨am_d103, List.forall_mem_cons.mpr ⟨am_d104, List.forall_mem_cons.mpr ⟨am_d105, List.forall_mem_cons.mpr ⟨am_d106, List.forall_mem_cons.mpr ⟨am_d107, List.forall_mem_cons.mpr ⟨am_d108, List.forall_mem_cons.mpr ⟨am_d109, List.forall_mem_cons.mpr ⟨am_d110, List.forall_mem_cons.mpr ⟨am_d111, List.forall_mem_cons.mpr ⟨am_d112, List.forall_mem_cons.mpr ⟨am_d113, List.forall_mem_cons.mpr ⟨am_d114, List.forall_mem_cons.mpr ⟨am_d115, List.forall_mem_cons.mpr ⟨am_d116, List.forall_mem_cons.mpr ⟨am_d117, List.forall_mem_cons.mpr ⟨am_d118, List.forall_mem_cons.mpr ⟨am_d119, fun _ h => absurd h List.not_mem_nil⟩⟩⟩⟩⟩⟩⟩⟩⟩⟩⟩⟩⟩⟩⟩⟩⟩⟩⟩⟩⟩⟩⟩⟩
set_option maxRecDepth 20000 in
theorem am_dqall_120 : ∀ k ∈ ([120, 121, 122, 123, 124, 125, 126, 127, 128, 129, 130, 131, 132, 133, 134, 135, 136, 137, 138, 139, 140, 141, 142, 143] : List Nat), am_dq k = true := List.forall_mem_cons.mpr ⟨am_d120, List.forall_mem_cons.mpr ⟨am_d121, List.forall_mem_cons.mpr ⟨am_d122, List.forall_mem_cons.mpr ⟨am_d123, List.forall_mem_cons.mpr ⟨am_d124, List.forall_mem_cons.mpr ⟨am_d125, List.forall_mem_cons.mpr ⟨am_d126, List.forall_mem_cons.mpr ⟨am_d127, List.forall_mem_cons.mpr ⟨am_d128, List.forall_mem_cons.mpr ⟨am_d129, List.forall_mem_cons.mpr ⟨am_d130, List.forall_mem_cons.mpr ⟨am_d131, List.forall_mem_cons.mpr ⟨am_d132, List.forall_mem_cons.mpr ⟨am_d133, List.forall_mem_cons.mpr ⟨am_d134, List.forall_mem_cons.mpr ⟨am_d135, List.forall_mem_cons.mpr ⟨am_d136, List.forall_mem_cons.mpr ⟨am_d137, List.forall_mem_cons.mpr ⟨am_d138, List.forall_mem_cons.mpr ⟨am_d139, List.forall_mem_cons.mpr ⟨am_d140, List.forall_mem_cons.mpr ⟨am_d141, List.forall_mem_cons.mpr ⟨am_d142, List.forall_mem_cons.mpr ⟨am_d143, fun _ h => absurd h List.not_mem_nil⟩⟩⟩⟩⟩⟩⟩⟩⟩⟩⟩⟩⟩⟩⟩⟩⟩⟩⟩⟩⟩⟩⟩⟩
set_option maxRecDepth 20000 in
theorem am_dqall_144 : ∀ k ∈ ([144, 145, 146, 147, 148, 149, 150, 151, 152, 153, 154, 155, 156, 157, 158, 159, 160, 161, 162, 163, 164, 165, 166, 167] : List Nat), am_dq k = true := List.forall_mem_cons.mpr ⟨am_d144, List.forall_mem_cons.mpr ⟨am_d145, List.forall_mem_cons.mpr ⟨am_d146, List.forall_mem_cons.mpr ⟨am_d147, List.forall_mem_cons.mpr ⟨am_d148, List.forall_mem_cons.mpr ⟨am_d149, List.forall_mem_cons.mpr ⟨am_d150, List.forall_mem_cons.mpr ⟨am_d151, List.forall_mem_cons.mpr ⟨am_d152, List.forall_mem_cons.mpr ⟨am_d153, List.forall_mem_cons.mpr ⟨am_d154, List.forall_mem_cons.mpr ⟨am_d155, List.forall_mem_cons.mpr ⟨am_d156, List.forall_mem_cons.mpr ⟨am_d157, List.forall_mem_cons.mpr ⟨am_d158, List.forall_mem_cons.mpr ⟨am_d159, List.forall_mem_cons.mpr ⟨am_d160, List.forall_mem_cons.mpr ⟨am_d161, List.forall_mem_cons.mpr ⟨am_d162, List.forall_mem_cons.mpr ⟨am_d163, List.forall_mem_cons.mpr ⟨am_d164, List.forall_mem_cons.mpr ⟨am_d165, List.forall_mem_cons.mpr ⟨am_d166, List.forall_mem_cons.mpr ⟨am_d167, fun _ h => absurd h List.not_mem_nil⟩⟩⟩⟩⟩⟩⟩⟩⟩⟩⟩⟩⟩⟩⟩⟩⟩⟩⟩⟩⟩⟩⟩⟩
set_option maxRecDepth 20000 in
theorem am_dqall_168 : ∀ k ∈ ([168, 169, 170, 171, 172, 173, 174, 175, 176, 177, 178, 179, 180, 181, 182, 183, 184, 185, 186, 187, 188, 189, 190, 191] : List Nat), am_dq k = true := List.forall_mem_cons.mpr ⟨am_d168, List.forall_mem_cons.mpr ⟨am_d169, List.forall_mem_cons.mpr ⟨am_d170, List.forall_mem_cons.mpr ⟨am_d171, List.forall_mem_cons.mpr ⟨am_d172, List.forall_mem_cons.mpr ⟨am_d173, List.forall_mem_cons.mpr ⟨am_d174, List.forall_mem_cons.mpr ⟨am_d175, List.forall_mem_cons.mpr ⟨am_d176, List.forall_mem_cons.mpr ⟨am_d177, List.forall_mem_cons.mpr ⟨am_d178, List.forall_mem_cons.mpr ⟨am_d179, List.forall_mem_cons.mpr ⟨am_d180, List.forall_mem_cons.mpr ⟨am_d181, List.forall_mem_cons.mpr ⟨am_d182, List.forall_mem_cons.mpr ⟨am_d183, List.forall_mem_cons.mpr ⟨am_d184, List.forall_mem_cons.mpr ⟨am_d185, List.forall_mem_cons.mpr ⟨am_d186, List.forall_mem_cons.mpr ⟨am_d187, List.forall_mem_cons.mpr ⟨am_d188, List.forall_mem_cons.mpr ⟨am_d189, List.forall_mem_cons.mpr ⟨am_d190, List.forall_mem_cons.mpr ⟨am_d191, fun _ h => absurd h List.not_mem_nil⟩⟩⟩⟩⟩⟩⟩⟩⟩⟩⟩⟩⟩⟩⟩⟩⟩⟩⟩⟩⟩⟩⟩⟩
set_option maxRecDepth 20000 in
theorem am_dqall_192 : ∀ k ∈ ([192, 193, 194, 195, 196, 197, 198, 199, 200, 201, 202, 203, 204, 205, 206, 207, 208, 209, 210, 211, 212, 213, 214, 215] : List Nat), am_dq k = true := List.forall_mem_cons.mpr ⟨am_d192, List.forall_mem_cons.mpr ⟨am_d193, List.forall_mem_cons.mpr ⟨am_d194, List.forall_mem_cons.mpr ⟨am_d195, List.forall_mem_cons.mpr ⟨am_d196, List.forall_mem_cons.mpr ⟨am_d197, List.forall_mem_cons.mpr ⟨am_d198, List.forall_mem_cons.mpr ⟨am_d199, List.forall_mem_cons.mpr ⟨am_d200, List.forall_mem_cons.mpr ⟨am_d201, List.forall_mem_cons.mpr ⟨am_d202, List.forall_mem_cons.mpr ⟨am_d203, List.forall_mem_cons.mpr ⟨am_d204, List.forall_mem_cons.mpr ⟨am_d205, List.forall_mem_cons.mpr ⟨am_d206, List.forall_mem_cons.mpr ⟨am_d207, List.forall_mem_cons.mpr ⟨am_d208, List.forall_mem_cons.mpr ⟨am_d209, List.forall_mem_cons.mpr ⟨am_d210, List.forall_mem_cons.mpr ⟨am_d211, List.forall_mem_cons.mpr ⟨am_d212, List.forall_mem_cons.mpr ⟨am_d213, List.forall_mem_cons.mpr ⟨am_d214, List.forall_mem_cons.mpr ⟨am_d215, fun _ h => absurd h List.not_mem_nil⟩⟩⟩⟩⟩⟩⟩⟩⟩⟩⟩⟩⟩⟩⟩⟩⟩⟩⟩⟩⟩⟩⟩⟩
set_option maxRecDepth 20000 in
theorem am_dqall_216 : ∀ k ∈ ([216, 217, 218, 219, 220, 221, 222, 223, 224, 225, 226, 227, 228, 229, 230, 231, 232, 233, 234, 235, 236, 237, 238, 239] : List Nat), am_dq k = true := List.forall_mem_cons.mpr ⟨am_d216, List.forall_mem_cons.mpr ⟨am_d217, List.forall_mem_cons.mpr ⟨am_d218, List.forall_mem_cons.mpr ⟨am_d219, List.forall_mem_cons.mpr ⟨am_d220, List.forall_mem_cons.mpr ⟨am_d221, List.forall_mem_cons.mpr ⟨am_d222, List.forall_mem_cons.mpr ⟨am_d223, List.forall_mem_cons.mpr ⟨am_d224, List.forall_mem_cons.mpr ⟨am_d225, List.forall_mem_cons.mpr ⟨am_d226, List.forall_mem_cons.mpr ⟨am_d227, List.forall_mem_cons.mpr ⟨am_d228, List.forall_mem_cons.mpr ⟨am_d229, List.forall_mem_cons.mpr ⟨am_d230, List.forall_mem_cons.mpr ⟨am_d231, List.forall_mem_cons.mpr ⟨am_d232, List.forall_mem_cons.mpr ⟨am_d233, List.forall_mem_cons.mpr ⟨am_d234, List.forall_mem_cons.mpr ⟨am_d235, List.forall_mem_cons.mpr ⟨am_d236, List.forall_mem_cons.mpr ⟨am_d237, List.forall_mem_cons.mpr ⟨am_d238, List.forall_mem_cons.mpr ⟨am_d239, fun _ h => absurd h List.not_mem_nil⟩⟩⟩⟩⟩⟩⟩⟩⟩⟩⟩⟩⟩⟩⟩⟩⟩⟩⟩⟩⟩⟩⟩⟩
theorem am_dqall {k : Nat} (h : k < 240) : am_dq k = true := by
  by_cases h0 : k < 24
  · exact am_dqall_0 k (am_rng 24 0 k (by omega) (by omega))
  by_cases h24 : k < 48
  · exact am_dqall_24 k (am_rng 24 24 k (by omega) (by omega))
  by_cases h48 : k < 72
  · exact am_dqall_48 k (am_rng 24 48 k (by omega) (by omega))
  by_cases h72 : k < 96
  · exact am_dqall_72 k (am_rng 24 72 k (by omega) (by omega))
  by_cases h96 : k < 120
  · exact am_dqall_96 k (am_rng 24 96 k (by omega) (by omega))
  by_cases h120 : k < 144
  · exact am_dqall_120 k (am_rng 24 120 k (by omega) (by omega))
  by_cases h144 : k < 168
  · exact am_dqall_144 k (am_rng 24 144 k (by omega) (by omega))
  by_cases h168 : k < 192
  · exact am_dqall_168 k (am_rng 24 168 k (by omega) (by omega))
  by_cases h192 : k < 216
  · exact am_dqall_192 k (am_rng 24 192 k (by omega) (by omega))
  by_cases h216 : k < 240
  · exact am_dqall_216 k (am_rng 24 216 k (by omega) (by omega))
  omega
theorem am_dall {k : Nat} (h : k < 240) : am_dchk (am_bytes k) (am_raw.getD k []) = true := am_fast (am_dqall h)
end
section
/-! The instructions of the list machine beside the decoded ones; the links' words -/
noncomputable def am_big : List Cond := lw_tbl.filter goodWord
theorem am_big_in {w : Cond} (h : w ∈ am_big) : w ∈ lw_tbl := (List.mem_filter.mp h).1
theorem am_big_good {w : Cond} (h : w ∈ am_big) : goodWord w = true := (List.mem_filter.mp h).2
theorem am_big_at {w : Cond} (i : Nat) (h : lw_tbl[i]? = some w) (g : goodWord w = true) : w ∈ am_big := List.mem_filter.mpr ⟨List.mem_of_getElem? h, g⟩
noncomputable def am_ownS (o : Nat) : String := am_own.getD o ""
noncomputable def am_clq (ci : Nat) : vw_C := am_cl.getD ci ("", am_F0, 0)
noncomputable def am_infq (k : Nat) : MethodName × Option FieldType := (am_inf.getD (k / 16) []).getD (k % 16) (⟨"", "", ""⟩, none)
noncomputable def am_nx (pcs : List Nat) (i pc len : Nat) : Bool := pcs[i + 1]? == some (pc + len)
noncomputable def am_tg (pcs : List Nat) (pc : Nat) (t off : Int) : Bool := match pcs[t.toNat]? with
  | some q => decide ((pc : Int) + off = (q : Int))
  | none => false
noncomputable def am_tgs (pcs : List Nat) (pc : Nat) : List Int → List Int → Bool
  | [], [] => true
  | a :: r, b :: q => am_tg pcs pc a b && am_tgs pcs pc r q
  | _, _ => false
noncomputable def am_tgp (pcs : List Nat) (pc : Nat) : List (Int × Int) → List (Int × Int) → Bool
  | [], [] => true
  | a :: r, b :: q => decide (a.1 = b.1) && am_tg pcs pc a.2 b.2 && am_tgp pcs pc r q
  | _, _ => false
noncomputable def am_has3 (l : List (Nat × Nat × Nat)) (o i : Nat) : Bool := l.any fun q => q.1 == o && q.2.1 == i
noncomputable def am_has4 (l : List (Nat × Nat × Nat × Nat)) (o i f : Nat) : Bool := l.any fun q => q.1 == o && q.2.1 == i && q.2.2.1 == f
noncomputable def am_hasI (l : List (Nat × Nat × Int × Nat)) (o i : Nat) (f : Int) : Bool := l.any fun q => q.1 == o && q.2.1 == i && q.2.2.1 == f
noncomputable def am_has5 (l : List (Nat × Nat × Nat × Nat × Nat)) (o i f k : Nat) : Bool := l.any fun q => q.1 == o && q.2.1 == i && q.2.2.1 == f && (q.2.2.2.1 == k || q.2.2.2.1 == k + 3)
noncomputable def am_isS (op : Instr) : Bool := match op with
  | .iadd | .isub | .imul | .idiv | .irem | .iand | .ior | .ixor | .ishl | .ishr | .iushr | .ineg | .i2l | .i2b | .i2s | .i2c | .ladd | .lmul | .ldiv | .lrem | .lcmp | .dup | .dup2 | .pop | .pop2 => true
  | _ => false
/-- class number, kind of answer, byte places, ordinal, the list machine's instruction, the decoded one, its place, its length -/
noncomputable def am_chk (o rt : Nat) (pcs : List Nat) (i : Nat) (op raw : Instr) (pc len : Nat) : Bool := match op with
  | .athrow => true
  | .bipush x => am_nx pcs i pc len && (match raw with
    | .iconst n => len == 1 && decide (Int32.ofInt n = Int32.ofInt x)
    | .bipush n => len == 2 && decide ((Int8.ofInt n).toInt32 = Int32.ofInt x)
    | .sipush n => len == 3 && decide ((Int16.ofInt n).toInt32 = Int32.ofInt x)
    | .ldc k => len == 2 && am_hasI am_lc o k x
    | .ldc_w k => len == 3 && am_hasI am_lc o k x
    | _ => false)
  | .sipush x => am_nx pcs i pc len && (match raw with
    | .lconst n => len == 1 && decide (Int64.ofNat n.val = Int64.ofInt x)
    | .ldc2_w k => len == 3 && am_hasI am_ll o k x
    | _ => false)
  | .ldc q => am_nx pcs i pc len && (match raw with | .ldc k => len == 2 && am_has4 am_ls o k q | _ => false)
  | .getstatic q => am_nx pcs i pc len && (match raw with | .getstatic k => len == 3 && am_has4 am_lt o k q | _ => false)
  | .iload q => am_nx pcs i pc len && (match raw with | .iload_n k => len == 1 && k.val == q | .iload k => len == 2 && k == q | _ => false)
  | .lload q => am_nx pcs i pc len && (match raw with | .lload_n k => len == 1 && k.val == q | .lload k => len == 2 && k == q | _ => false)
  | .aload q => am_nx pcs i pc len && (match raw with | .aload_n k => len == 1 && k.val == q | .aload k => len == 2 && k == q | _ => false)
  | .istore q => am_nx pcs i pc len && (match raw with | .istore_n k => len == 1 && k.val == q | .istore k => len == 2 && k == q | _ => false)
  | .lstore q => am_nx pcs i pc len && (match raw with | .lstore_n k => len == 1 && k.val == q | .lstore k => len == 2 && k == q | _ => false)
  | .astore q => am_nx pcs i pc len && (match raw with | .astore_n k => len == 1 && k.val == q | .astore k => len == 2 && k == q | _ => false)
  | .iinc q n => am_nx pcs i pc len && (match raw with | .iinc k m => len == 3 && k == q && decide (m = n) | _ => false)
  | .ifCond c t => am_nx pcs i pc len && (match raw with | .ifCond c' off => len == 3 && decide (c' = c) && am_tg pcs pc t off | _ => false)
  | .if_icmp c t => am_nx pcs i pc len && (match raw with | .if_icmp c' off => len == 3 && decide (c' = c) && am_tg pcs pc t off | _ => false)
  | .goto t => (match raw with | .goto off => len == 3 && am_tg pcs pc t off | _ => false)
  | .tableswitch d lo hi ts => (match raw with | .tableswitch d' lo' hi' os => decide (lo' = lo) && decide (hi' = hi) && am_tg pcs pc d d' && am_tgs pcs pc ts.toList os.toList | _ => false)
  | .lookupswitch d ps => (match raw with | .lookupswitch d' os => am_tg pcs pc d d' && am_tgp pcs pc ps.toList os.toList && (os.toList.zip (os.toList.drop 1)).all (fun (a, next) => a.1 < next.1) | _ => false)
  | .iaload => am_nx pcs i pc len && (match raw with | .iaload => len == 1 | _ => false)
  | .baload => am_nx pcs i pc len && (match raw with | .baload => len == 1 | _ => false)
  | .iastore => am_nx pcs i pc len && (match raw with | .iastore => len == 1 | _ => false)
  | .bastore => am_nx pcs i pc len && (match raw with | .bastore => len == 1 | _ => false)
  | .aaload => am_nx pcs i pc len && (match raw with | .aaload => len == 1 | _ => false)
  | .aastore => am_nx pcs i pc len && (match raw with | .aastore => len == 1 | _ => false)
  | .arraylength => am_nx pcs i pc len && (match raw with | .arraylength => len == 1 | _ => false)
  | .getfield f => am_nx pcs i pc len && (match raw with | .getfield k => len == 3 && (am_has4 am_lf o k f || am_has4 am_lsf o k f) | _ => false)
  | .putfield f => am_nx pcs i pc len && (match raw with | .putfield k => len == 3 && am_has4 am_lf o k f | _ => false)
  | .monitorenter => am_nx pcs i pc len && (match raw with | .invokespecial k => len == 3 && am_has3 am_lo o k | _ => false)
  | .monitorexit => am_nx pcs i pc len && (match raw with | .invokestatic k => len == 3 && am_has3 am_lck o k | _ => false)
  | .new ci => am_nx pcs i pc len && (match raw with | .new k => len == 3 && am_has4 am_ln o k ci | _ => false)
  | .newarray a => am_nx pcs i pc len && (match raw with | .newarray b => len == 2 && decide (b = a) | _ => false)
  | .anewarray _ => am_nx pcs i pc len && (match raw with | .anewarray k => len == 3 && am_has3 am_lan o k | _ => false)
  | .multianewarray _ _ => am_nx pcs i pc len && (match raw with | .multianewarray k n => len == 4 && n == 2 && am_has3 am_lma o k | _ => false)
  | .invokedynamic _ => am_nx pcs i pc len && (match raw with | .invokestatic k => len == 3 && am_has3 am_la o k | _ => false)
  | .invokestatic f => am_nx pcs i pc len && (match raw with
    | .invokevirtual k => len == 3 && am_has5 am_lm o k f 0
    | .invokestatic k => len == 3 && am_has5 am_lm o k f 1
    | .invokespecial k => len == 3 && am_has5 am_lm o k f 2
    | _ => false)
  | .ireturn => (match raw with
    | .ireturn => len == 1 && (rt == 1 || rt == 2 || rt == 5 || rt == 6)
    | .lreturn => len == 1 && rt == 3
    | .areturn => len == 1 && rt == 4
    | _ => false)
  | .return_ => (match raw with | .return_ => len == 1 && rt == 0 | _ => false)
  | op => am_nx pcs i pc len && am_isS op && decide (raw = op) && len == 1
noncomputable def am_zchk (o rt : Nat) (pcs : List Nat) : Nat → List Instr → List (Instr × Nat × Nat) → Bool
  | _, [], [] => true
  | i, a :: r, b :: q => am_chk o rt pcs i a b.1 b.2.1 b.2.2 && am_zchk o rt pcs (i + 1) r q
  | _, _, _ => false
noncomputable def am_pcs (k : Nat) : List Nat := (am_raw.getD k []).map fun q => q.2.1
noncomputable def am_mq (k : Nat) : am_M := am_tab.getD k ([], 0, 0, none, 0)
noncomputable def am_mchk (k : Nat) : Bool := am_zchk (am_on.getD k 0) (am_mq k).2.2.2.2 (am_pcs k) 0 (am_mq k).1 (am_raw.getD k [])
/-- the same, with what is looked up handed in: one walk along a method, no place counted from its start -/
noncomputable def am_tgsG (tg : Int → Int → Bool) : List Int → List Int → Bool
  | [], [] => true
  | a :: r, b :: q => tg a b && am_tgsG tg r q
  | _, _ => false
noncomputable def am_tgpG (tg : Int → Int → Bool) : List (Int × Int) → List (Int × Int) → Bool
  | [], [] => true
  | a :: r, b :: q => decide (a.1 = b.1) && tg a.2 b.2 && am_tgpG tg r q
  | _, _ => false
theorem am_tgs_eq {pcs : List Nat} {pc : Nat} : ∀ ts os : List Int, am_tgsG (am_tg pcs pc) ts os = am_tgs pcs pc ts os
  | [], [] => rfl
  | [], _ :: _ => rfl
  | _ :: _, [] => rfl
  | a :: r, b :: q => by
    show (am_tg pcs pc a b && am_tgsG (am_tg pcs pc) r q) = (am_tg pcs pc a b && am_tgs pcs pc r q)
    rw [am_tgs_eq r q]
theorem am_tgp_eq {pcs : List Nat} {pc : Nat} : ∀ ts os : List (Int × Int), am_tgpG (am_tg pcs pc) ts os = am_tgp pcs pc ts os
  | [], [] => rfl
  | [], _ :: _ => rfl
  | _ :: _, [] => rfl
  | a :: r, b :: q => by
    show (decide (a.1 = b.1) && am_tg pcs pc a.2 b.2 && am_tgpG (am_tg pcs pc) r q) = (decide (a.1 = b.1) && am_tg pcs pc a.2 b.2 && am_tgp pcs pc r q)
    rw [am_tgp_eq r q]
theorem am_tgs_fn {pcs : List Nat} {pc : Nat} : am_tgsG (am_tg pcs pc) = am_tgs pcs pc := funext fun ts => funext fun os => am_tgs_eq ts os
theorem am_tgp_fn {pcs : List Nat} {pc : Nat} : am_tgpG (am_tg pcs pc) = am_tgp pcs pc := funext fun ts => funext fun os => am_tgp_eq ts os
noncomputable def am_chkG (o rt : Nat) (nx : Bool) (tg : Int → Int → Bool) (op raw : Instr) (len : Nat) : Bool := match op with
  | .athrow => true
  | .bipush x => nx && (match raw with
    | .iconst n => len == 1 && decide (Int32.ofInt n = Int32.ofInt x)
    | .bipush n => len == 2 && decide ((Int8.ofInt n).toInt32 = Int32.ofInt x)
    | .sipush n => len == 3 && decide ((Int16.ofInt n).toInt32 = Int32.ofInt x)
    | .ldc k => len == 2 && am_hasI am_lc o k x
    | .ldc_w k => len == 3 && am_hasI am_lc o k x
    | _ => false)
  | .sipush x => nx && (match raw with
    | .lconst n => len == 1 && decide (Int64.ofNat n.val = Int64.ofInt x)
    | .ldc2_w k => len == 3 && am_hasI am_ll o k x
    | _ => false)
  | .ldc q => nx && (match raw with | .ldc k => len == 2 && am_has4 am_ls o k q | _ => false)
  | .getstatic q => nx && (match raw with | .getstatic k => len == 3 && am_has4 am_lt o k q | _ => false)
  | .iload q => nx && (match raw with | .iload_n k => len == 1 && k.val == q | .iload k => len == 2 && k == q | _ => false)
  | .lload q => nx && (match raw with | .lload_n k => len == 1 && k.val == q | .lload k => len == 2 && k == q | _ => false)
  | .aload q => nx && (match raw with | .aload_n k => len == 1 && k.val == q | .aload k => len == 2 && k == q | _ => false)
  | .istore q => nx && (match raw with | .istore_n k => len == 1 && k.val == q | .istore k => len == 2 && k == q | _ => false)
  | .lstore q => nx && (match raw with | .lstore_n k => len == 1 && k.val == q | .lstore k => len == 2 && k == q | _ => false)
  | .astore q => nx && (match raw with | .astore_n k => len == 1 && k.val == q | .astore k => len == 2 && k == q | _ => false)
  | .iinc q n => nx && (match raw with | .iinc k m => len == 3 && k == q && decide (m = n) | _ => false)
  | .ifCond c t => nx && (match raw with | .ifCond c' off => len == 3 && decide (c' = c) && tg t off | _ => false)
  | .if_icmp c t => nx && (match raw with | .if_icmp c' off => len == 3 && decide (c' = c) && tg t off | _ => false)
  | .goto t => (match raw with | .goto off => len == 3 && tg t off | _ => false)
  | .tableswitch d lo hi ts => (match raw with | .tableswitch d' lo' hi' os => decide (lo' = lo) && decide (hi' = hi) && tg d d' && am_tgsG tg ts.toList os.toList | _ => false)
  | .lookupswitch d ps => (match raw with | .lookupswitch d' os => tg d d' && am_tgpG tg ps.toList os.toList && (os.toList.zip (os.toList.drop 1)).all (fun (a, next) => a.1 < next.1) | _ => false)
  | .iaload => nx && (match raw with | .iaload => len == 1 | _ => false)
  | .baload => nx && (match raw with | .baload => len == 1 | _ => false)
  | .iastore => nx && (match raw with | .iastore => len == 1 | _ => false)
  | .bastore => nx && (match raw with | .bastore => len == 1 | _ => false)
  | .aaload => nx && (match raw with | .aaload => len == 1 | _ => false)
  | .aastore => nx && (match raw with | .aastore => len == 1 | _ => false)
  | .arraylength => nx && (match raw with | .arraylength => len == 1 | _ => false)
  | .getfield f => nx && (match raw with | .getfield k => len == 3 && (am_has4 am_lf o k f || am_has4 am_lsf o k f) | _ => false)
  | .putfield f => nx && (match raw with | .putfield k => len == 3 && am_has4 am_lf o k f | _ => false)
  | .monitorenter => nx && (match raw with | .invokespecial k => len == 3 && am_has3 am_lo o k | _ => false)
  | .monitorexit => nx && (match raw with | .invokestatic k => len == 3 && am_has3 am_lck o k | _ => false)
  | .new ci => nx && (match raw with | .new k => len == 3 && am_has4 am_ln o k ci | _ => false)
  | .newarray a => nx && (match raw with | .newarray b => len == 2 && decide (b = a) | _ => false)
  | .anewarray _ => nx && (match raw with | .anewarray k => len == 3 && am_has3 am_lan o k | _ => false)
  | .multianewarray _ _ => nx && (match raw with | .multianewarray k n => len == 4 && n == 2 && am_has3 am_lma o k | _ => false)
  | .invokedynamic _ => nx && (match raw with | .invokestatic k => len == 3 && am_has3 am_la o k | _ => false)
  | .invokestatic f => nx && (match raw with
    | .invokevirtual k => len == 3 && am_has5 am_lm o k f 0
    | .invokestatic k => len == 3 && am_has5 am_lm o k f 1
    | .invokespecial k => len == 3 && am_has5 am_lm o k f 2
    | _ => false)
  | .ireturn => (match raw with
    | .ireturn => len == 1 && (rt == 1 || rt == 2 || rt == 5 || rt == 6)
    | .lreturn => len == 1 && rt == 3
    | .areturn => len == 1 && rt == 4
    | _ => false)
  | .return_ => (match raw with | .return_ => len == 1 && rt == 0 | _ => false)
  | op => nx && am_isS op && decide (raw = op) && len == 1
theorem am_chkG_eq {o rt : Nat} {pcs : List Nat} {i pc len : Nat} {op raw : Instr} : am_chkG o rt (am_nx pcs i pc len) (am_tg pcs pc) op raw len = am_chk o rt pcs i op raw pc len := by
  cases op
  case tableswitch => simp only [am_chkG, am_chk, am_tgs_fn]
  case lookupswitch => simp only [am_chkG, am_chk, am_tgp_fn]
  all_goals rfl
noncomputable def am_nh (ps : List Nat) (n : Nat) : Bool := ps.head? == some n
noncomputable def am_tf (pcs ps : List Nat) (i pc : Nat) (t off : Int) : Bool := match (bif Nat.ble i t.toNat then ps[t.toNat - i]? else pcs[t.toNat]?) with
  | some q => decide ((pc : Int) + off = (q : Int))
  | none => false
theorem am_tf_eq {pcs : List Nat} {i pc : Nat} : am_tf pcs (pcs.drop i) i pc = am_tg pcs pc := by
  funext t off
  have e : (bif Nat.ble i t.toNat then (pcs.drop i)[t.toNat - i]? else pcs[t.toNat]?) = pcs[t.toNat]? := by
    cases h : Nat.ble i t.toNat with
    | false => rfl
    | true => rw [cond_true, List.getElem?_drop, Nat.add_sub_cancel' (Nat.le_of_ble_eq_true h)]
  unfold am_tf am_tg
  rw [e]
theorem am_nh_eq {pcs : List Nat} {i pc len : Nat} : am_nh (pcs.drop (i + 1)) (pc + len) = am_nx pcs i pc len := by
  unfold am_nh am_nx
  rw [List.head?_drop]
noncomputable def am_zf (o rt : Nat) (pcs : List Nat) : Nat → List Nat → List Instr → List (Instr × Nat × Nat) → Bool
  | _, _, [], [] => true
  | i, ps, a :: r, b :: q => am_chkG o rt (am_nh (ps.drop 1) (b.2.1 + b.2.2)) (am_tf pcs ps i b.2.1) a b.1 b.2.2 && am_zf o rt pcs (i + 1) (ps.drop 1) r q
  | _, _, _, _ => false
theorem am_zf_ok {o rt : Nat} {pcs : List Nat} : ∀ (ops : List Instr) (raws : List (Instr × Nat × Nat)) (i : Nat), am_zf o rt pcs i (pcs.drop i) ops raws = true → am_zchk o rt pcs i ops raws = true
  | [], [], _, _ => rfl
  | [], _ :: _, _, h => h
  | _ :: _, [], _, h => h
  | a :: r, b :: q, i, h => by
    have e : (pcs.drop i).drop 1 = pcs.drop (i + 1) := by
      rw [List.drop_drop]
    have h' : (am_chkG o rt (am_nh ((pcs.drop i).drop 1) (b.2.1 + b.2.2)) (am_tf pcs (pcs.drop i) i b.2.1) a b.1 b.2.2 && am_zf o rt pcs (i + 1) ((pcs.drop i).drop 1) r q) = true := h
    rw [e, am_nh_eq, am_tf_eq, am_chkG_eq, Bool.and_eq_true] at h'
    show (am_chk o rt pcs i a b.1 b.2.1 b.2.2 && am_zchk o rt pcs (i + 1) r q) = true
    rw [h'.1, am_zf_ok r q (i + 1) h'.2]
    rfl
noncomputable def am_mf (k : Nat) : Bool := am_zf (am_on.getD k 0) (am_mq k).2.2.2.2 (am_pcs k) 0 (am_pcs k) (am_mq k).1 (am_raw.getD k [])
theorem am_mf_ok {k : Nat} (h : am_mf k = true) : am_mchk k = true := am_zf_ok _ _ 0 h
end
section
theorem am_k0 : am_mf 0 = true := by decide +kernel
theorem am_k1 : am_mf 1 = true := by decide +kernel
theorem am_k2 : am_mf 2 = true := by decide +kernel
theorem am_k3 : am_mf 3 = true := by decide +kernel
theorem am_k4 : am_mf 4 = true := by decide +kernel
theorem am_k5 : am_mf 5 = true := by decide +kernel
theorem am_k6 : am_mf 6 = true := by decide +kernel
theorem am_k7 : am_mf 7 = true := by decide +kernel
theorem am_k8 : am_mf 8 = true := by decide +kernel
theorem am_k9 : am_mf 9 = true := by decide +kernel
theorem am_k10 : am_mf 10 = true := by decide +kernel
theorem am_k11 : am_mf 11 = true := by decide +kernel
theorem am_k12 : am_mf 12 = true := by decide +kernel
theorem am_k13 : am_mf 13 = true := by decide +kernel
theorem am_k14 : am_mf 14 = true := by decide +kernel
theorem am_k15 : am_mf 15 = true := by decide +kernel
theorem am_k16 : am_mf 16 = true := by decide +kernel
theorem am_k17 : am_mf 17 = true := by decide +kernel
theorem am_k18 : am_mf 18 = true := by decide +kernel
theorem am_k19 : am_mf 19 = true := by decide +kernel
theorem am_k20 : am_mf 20 = true := by decide +kernel
theorem am_k21 : am_mf 21 = true := by decide +kernel
theorem am_k22 : am_mf 22 = true := by decide +kernel
theorem am_k23 : am_mf 23 = true := by decide +kernel
theorem am_k24 : am_mf 24 = true := by decide +kernel
theorem am_k25 : am_mf 25 = true := by decide +kernel
theorem am_k26 : am_mf 26 = true := by decide +kernel
theorem am_k27 : am_mf 27 = true := by decide +kernel
theorem am_k28 : am_mf 28 = true := by decide +kernel
theorem am_k29 : am_mf 29 = true := by decide +kernel
theorem am_k30 : am_mf 30 = true := by decide +kernel
theorem am_k31 : am_mf 31 = true := by decide +kernel
theorem am_k32 : am_mf 32 = true := by decide +kernel
theorem am_k33 : am_mf 33 = true := by decide +kernel
theorem am_k34 : am_mf 34 = true := by decide +kernel
theorem am_k35 : am_mf 35 = true := by decide +kernel
theorem am_k36 : am_mf 36 = true := by decide +kernel
theorem am_k37 : am_mf 37 = true := by decide +kernel
theorem am_k38 : am_mf 38 = true := by decide +kernel
theorem am_k39 : am_mf 39 = true := by decide +kernel
theorem am_k40 : am_mf 40 = true := by decide +kernel
theorem am_k41 : am_mf 41 = true := by decide +kernel
theorem am_k42 : am_mf 42 = true := by decide +kernel
theorem am_k43 : am_mf 43 = true := by decide +kernel
theorem am_k44 : am_mf 44 = true := by decide +kernel
theorem am_k45 : am_mf 45 = true := by decide +kernel
theorem am_k46 : am_mf 46 = true := by decide +kernel
theorem am_k47 : am_mf 47 = true := by decide +kernel
theorem am_k48 : am_mf 48 = true := by decide +kernel
theorem am_k49 : am_mf 49 = true := by decide +kernel
theorem am_k50 : am_mf 50 = true := by decide +kernel
theorem am_k51 : am_mf 51 = true := by decide +kernel
theorem am_k52 : am_mf 52 = true := by decide +kernel
theorem am_k53 : am_mf 53 = true := by decide +kernel
theorem am_k54 : am_mf 54 = true := by decide +kernel
theorem am_k55 : am_mf 55 = true := by decide +kernel
theorem am_k56 : am_mf 56 = true := by decide +kernel
theorem am_k57 : am_mf 57 = true := by decide +kernel
theorem am_k58 : am_mf 58 = true := by decide +kernel
theorem am_k59 : am_mf 59 = true := by decide +kernel
theorem am_k60 : am_mf 60 = true := by decide +kernel
theorem am_k61 : am_mf 61 = true := by decide +kernel
theorem am_k62 : am_mf 62 = true := by decide +kernel
theorem am_k63 : am_mf 63 = true := by decide +kernel
theorem am_k64 : am_mf 64 = true := by decide +kernel
theorem am_k65 : am_mf 65 = true := by decide +kernel
theorem am_k66 : am_mf 66 = true := by decide +kernel
theorem am_k67 : am_mf 67 = true := by decide +kernel
theorem am_k68 : am_mf 68 = true := by decide +kernel
theorem am_k69 : am_mf 69 = true := by decide +kernel
theorem am_k70 : am_mf 70 = true := by decide +kernel
theorem am_k71 : am_mf 71 = true := by decide +kernel
theorem am_k72 : am_mf 72 = true := by decide +kernel
theorem am_k73 : am_mf 73 = true := by decide +kernel
theorem am_k74 : am_mf 74 = true := by decide +kernel
theorem am_k75 : am_mf 75 = true := by decide +kernel
theorem am_k76 : am_mf 76 = true := by decide +kernel
theorem am_k77 : am_mf 77 = true := by decide +kernel
theorem am_k78 : am_mf 78 = true := by decide +kernel
theorem am_k79 : am_mf 79 = true := by decide +kernel
theorem am_k80 : am_mf 80 = true := by decide +kernel
theorem am_k81 : am_mf 81 = true := by decide +kernel
theorem am_k82 : am_mf 82 = true := by decide +kernel
theorem am_k83 : am_mf 83 = true := by decide +kernel
theorem am_k84 : am_mf 84 = true := by decide +kernel
theorem am_k85 : am_mf 85 = true := by decide +kernel
theorem am_k86 : am_mf 86 = true := by decide +kernel
theorem am_k87 : am_mf 87 = true := by decide +kernel
theorem am_k88 : am_mf 88 = true := by decide +kernel
theorem am_k89 : am_mf 89 = true := by decide +kernel
theorem am_k90 : am_mf 90 = true := by decide +kernel
theorem am_k91 : am_mf 91 = true := by decide +kernel
theorem am_k92 : am_mf 92 = true := by decide +kernel
theorem am_k93 : am_mf 93 = true := by decide +kernel
theorem am_k94 : am_mf 94 = true := by decide +kernel
theorem am_k95 : am_mf 95 = true := by decide +kernel
theorem am_k96 : am_mf 96 = true := by decide +kernel
theorem am_k97 : am_mf 97 = true := by decide +kernel
theorem am_k98 : am_mf 98 = true := by decide +kernel
theorem am_k99 : am_mf 99 = true := by decide +kernel
theorem am_k100 : am_mf 100 = true := by decide +kernel
theorem am_k101 : am_mf 101 = true := by decide +kernel
theorem am_k102 : am_mf 102 = true := by decide +kernel
theorem am_k103 : am_mf 103 = true := by decide +kernel
theorem am_k104 : am_mf 104 = true := by decide +kernel
theorem am_k105 : am_mf 105 = true := by decide +kernel
theorem am_k106 : am_mf 106 = true := by decide +kernel
theorem am_k107 : am_mf 107 = true := by decide +kernel
theorem am_k108 : am_mf 108 = true := by decide +kernel
theorem am_k109 : am_mf 109 = true := by decide +kernel
theorem am_k110 : am_mf 110 = true := by decide +kernel
theorem am_k111 : am_mf 111 = true := by decide +kernel
theorem am_k112 : am_mf 112 = true := by decide +kernel
theorem am_k113 : am_mf 113 = true := by decide +kernel
theorem am_k114 : am_mf 114 = true := by decide +kernel
theorem am_k115 : am_mf 115 = true := by decide +kernel
theorem am_k116 : am_mf 116 = true := by decide +kernel
theorem am_k117 : am_mf 117 = true := by decide +kernel
theorem am_k118 : am_mf 118 = true := by decide +kernel
theorem am_k119 : am_mf 119 = true := by decide +kernel
theorem am_k120 : am_mf 120 = true := by decide +kernel
theorem am_k121 : am_mf 121 = true := by decide +kernel
theorem am_k122 : am_mf 122 = true := by decide +kernel
theorem am_k123 : am_mf 123 = true := by decide +kernel
theorem am_k124 : am_mf 124 = true := by decide +kernel
theorem am_k125 : am_mf 125 = true := by decide +kernel
theorem am_k126 : am_mf 126 = true := by decide +kernel
theorem am_k127 : am_mf 127 = true := by decide +kernel
theorem am_k128 : am_mf 128 = true := by decide +kernel
theorem am_k129 : am_mf 129 = true := by decide +kernel
theorem am_k130 : am_mf 130 = true := by decide +kernel
theorem am_k131 : am_mf 131 = true := by decide +kernel
theorem am_k132 : am_mf 132 = true := by decide +kernel
theorem am_k133 : am_mf 133 = true := by decide +kernel
theorem am_k134 : am_mf 134 = true := by decide +kernel
theorem am_k135 : am_mf 135 = true := by decide +kernel
theorem am_k136 : am_mf 136 = true := by decide +kernel
theorem am_k137 : am_mf 137 = true := by decide +kernel
theorem am_k138 : am_mf 138 = true := by decide +kernel
theorem am_k139 : am_mf 139 = true := by decide +kernel
theorem am_k140 : am_mf 140 = true := by decide +kernel
theorem am_k141 : am_mf 141 = true := by decide +kernel
theorem am_k142 : am_mf 142 = true := by decide +kernel
theorem am_k143 : am_mf 143 = true := by decide +kernel
theorem am_k144 : am_mf 144 = true := by decide +kernel
theorem am_k145 : am_mf 145 = true := by decide +kernel
theorem am_k146 : am_mf 146 = true := by decide +kernel
theorem am_k147 : am_mf 147 = true := by decide +kernel
theorem am_k148 : am_mf 148 = true := by decide +kernel
theorem am_k149 : am_mf 149 = true := by decide +kernel
theorem am_k150 : am_mf 150 = true := by decide +kernel
theorem am_k151 : am_mf 151 = true := by decide +kernel
theorem am_k152 : am_mf 152 = true := by decide +kernel
theorem am_k153 : am_mf 153 = true := by decide +kernel
theorem am_k154 : am_mf 154 = true := by decide +kernel
theorem am_k155 : am_mf 155 = true := by decide +kernel
theorem am_k156 : am_mf 156 = true := by decide +kernel
theorem am_k157 : am_mf 157 = true := by decide +kernel
theorem am_k158 : am_mf 158 = true := by decide +kernel
theorem am_k159 : am_mf 159 = true := by decide +kernel
theorem am_k160 : am_mf 160 = true := by decide +kernel
theorem am_k161 : am_mf 161 = true := by decide +kernel
theorem am_k162 : am_mf 162 = true := by decide +kernel
theorem am_k163 : am_mf 163 = true := by decide +kernel
theorem am_k164 : am_mf 164 = true := by decide +kernel
theorem am_k165 : am_mf 165 = true := by decide +kernel
theorem am_k166 : am_mf 166 = true := by decide +kernel
theorem am_k167 : am_mf 167 = true := by decide +kernel
theorem am_k168 : am_mf 168 = true := by decide +kernel
theorem am_k169 : am_mf 169 = true := by decide +kernel
theorem am_k170 : am_mf 170 = true := by decide +kernel
theorem am_k171 : am_mf 171 = true := by decide +kernel
theorem am_k172 : am_mf 172 = true := by decide +kernel
theorem am_k173 : am_mf 173 = true := by decide +kernel
theorem am_k174 : am_mf 174 = true := by decide +kernel
theorem am_k175 : am_mf 175 = true := by decide +kernel
theorem am_k176 : am_mf 176 = true := by decide +kernel
theorem am_k177 : am_mf 177 = true := by decide +kernel
theorem am_k178 : am_mf 178 = true := by decide +kernel
theorem am_k179 : am_mf 179 = true := by decide +kernel
theorem am_k180 : am_mf 180 = true := by decide +kernel
theorem am_k181 : am_mf 181 = true := by decide +kernel
theorem am_k182 : am_mf 182 = true := by decide +kernel
theorem am_k183 : am_mf 183 = true := by decide +kernel
theorem am_k184 : am_mf 184 = true := by decide +kernel
theorem am_k185 : am_mf 185 = true := by decide +kernel
theorem am_k186 : am_mf 186 = true := by decide +kernel
theorem am_k187 : am_mf 187 = true := by decide +kernel
theorem am_k188 : am_mf 188 = true := by decide +kernel
theorem am_k189 : am_mf 189 = true := by decide +kernel
theorem am_k190 : am_mf 190 = true := by decide +kernel
theorem am_k191 : am_mf 191 = true := by decide +kernel
theorem am_k192 : am_mf 192 = true := by decide +kernel
theorem am_k193 : am_mf 193 = true := by decide +kernel
theorem am_k194 : am_mf 194 = true := by decide +kernel
theorem am_k195 : am_mf 195 = true := by decide +kernel
theorem am_k196 : am_mf 196 = true := by decide +kernel
theorem am_k197 : am_mf 197 = true := by decide +kernel
theorem am_k198 : am_mf 198 = true := by decide +kernel
theorem am_k199 : am_mf 199 = true := by decide +kernel
theorem am_k200 : am_mf 200 = true := by decide +kernel
theorem am_k201 : am_mf 201 = true := by decide +kernel
theorem am_k202 : am_mf 202 = true := by decide +kernel
theorem am_k203 : am_mf 203 = true := by decide +kernel
theorem am_k204 : am_mf 204 = true := by decide +kernel
theorem am_k205 : am_mf 205 = true := by decide +kernel
theorem am_k206 : am_mf 206 = true := by decide +kernel
theorem am_k207 : am_mf 207 = true := by decide +kernel
theorem am_k208 : am_mf 208 = true := by decide +kernel
theorem am_k209 : am_mf 209 = true := by decide +kernel
theorem am_k210 : am_mf 210 = true := by decide +kernel
theorem am_k211 : am_mf 211 = true := by decide +kernel
theorem am_k212 : am_mf 212 = true := by decide +kernel
theorem am_k213 : am_mf 213 = true := by decide +kernel
theorem am_k214 : am_mf 214 = true := by decide +kernel
theorem am_k215 : am_mf 215 = true := by decide +kernel
theorem am_k216 : am_mf 216 = true := by decide +kernel
theorem am_k217 : am_mf 217 = true := by decide +kernel
theorem am_k218 : am_mf 218 = true := by decide +kernel
theorem am_k219 : am_mf 219 = true := by decide +kernel
theorem am_k220 : am_mf 220 = true := by decide +kernel
theorem am_k221 : am_mf 221 = true := by decide +kernel
theorem am_k222 : am_mf 222 = true := by decide +kernel
theorem am_k223 : am_mf 223 = true := by decide +kernel
theorem am_k224 : am_mf 224 = true := by decide +kernel
theorem am_k225 : am_mf 225 = true := by decide +kernel
theorem am_k226 : am_mf 226 = true := by decide +kernel
theorem am_k227 : am_mf 227 = true := by decide +kernel
theorem am_k228 : am_mf 228 = true := by decide +kernel
theorem am_k229 : am_mf 229 = true := by decide +kernel
theorem am_k230 : am_mf 230 = true := by decide +kernel
theorem am_k231 : am_mf 231 = true := by decide +kernel
theorem am_k232 : am_mf 232 = true := by decide +kernel
theorem am_k233 : am_mf 233 = true := by decide +kernel
theorem am_k234 : am_mf 234 = true := by decide +kernel
theorem am_k235 : am_mf 235 = true := by decide +kernel
theorem am_k236 : am_mf 236 = true := by decide +kernel
theorem am_k237 : am_mf 237 = true := by decide +kernel
theorem am_k238 : am_mf 238 = true := by decide +kernel
theorem am_k239 : am_mf 239 = true := by decide +kernel
set_option maxRecDepth 20000 in
theorem am_mfall_0 : ∀ k ∈ ([0, 1, 2, 3, 4, 5, 6, 7, 8, 9, 10, 11, 12, 13, 14, 15, 16, 17, 18, 19, 20, 21, 22, 23] : List Nat), am_mf k = true := List.forall_mem_cons.mpr ⟨am_k0, List.forall_mem_cons.mpr ⟨am_k1, List.forall_mem_cons.mpr ⟨am_k2, List.forall_mem_cons.mpr ⟨am_k3, List.forall_mem_cons.mpr ⟨am_k4, List.forall_mem_cons.mpr ⟨am_k5, List.forall_mem_cons.mpr ⟨am_k6, List.forall_mem_cons.mpr ⟨am_k7, List.forall_mem_cons.mpr ⟨am_k8, List.forall_mem_cons.mpr ⟨am_k9, List.forall_mem_cons.mpr ⟨am_k10, List.forall_mem_cons.mpr ⟨am_k11, List.forall_mem_cons.mpr ⟨am_k12, List.forall_mem_cons.mpr ⟨am_k13, List.forall_mem_cons.mpr ⟨am_k14, List.forall_mem_cons.mpr ⟨am_k15, List.forall_mem_cons.mpr ⟨am_k16, List.forall_mem_cons.mpr ⟨am_k17, List.forall_mem_cons.mpr ⟨am_k18, List.forall_mem_cons.mpr ⟨am_k19, List.forall_mem_cons.mpr ⟨am_k20, List.forall_mem_cons.mpr ⟨am_k21, List.forall_mem_cons.mpr ⟨am_k22, List.forall_mem_cons.mpr ⟨am_k23, fun _ h => absurd h List.not_mem_nil⟩⟩⟩⟩⟩⟩⟩⟩⟩⟩⟩⟩⟩⟩⟩⟩⟩⟩⟩⟩⟩⟩⟩⟩
set_option maxRecDepth 20000 in
theorem am_mfall_24 : ∀ k ∈ ([24, 25, 26, 27, 28, 29, 30, 31, 32, 33, 34, 35, 36, 37, 38, 39, 40, 41, 42, 43, 44, 45, 46, 47] : List Nat), am_mf k = true := List.forall_mem_cons.mpr ⟨am_k24, List.forall_mem_cons.mpr ⟨am_k25, List.forall_mem_cons.mpr ⟨am_k26, List.forall_mem_cons.mpr ⟨am_k27, List.forall_mem_cons.mpr ⟨am_k28, List.forall_mem_cons.mpr ⟨am_k29, List.forall_mem_cons.mpr ⟨am_k30, List.forall_mem_cons.mpr ⟨am_k31, List.forall_mem_cons.mpr ⟨am_k32, List.forall_mem_cons.mpr ⟨am_k33, List.forall_mem_cons.mpr ⟨am_k34, List.forall_mem_cons.mpr ⟨am_k35, List.forall_mem_cons.mpr ⟨am_k36, List.forall_mem_cons.mpr ⟨am_k37, List.forall_mem_cons.mpr ⟨am_k38, List.forall_mem_cons.mpr ⟨am_k39, List.forall_mem_cons.mpr ⟨am_k40, List.forall_mem_cons.mpr ⟨am_k41, List.forall_mem_cons.mpr ⟨am_k42, List.forall_mem_cons.mpr ⟨am_k43, List.forall_mem_cons.mpr ⟨am_k44, List.forall_mem_cons.mpr ⟨am_k45, List.forall_mem_cons.mpr ⟨am_k46, List.forall_mem_cons.mpr ⟨am_k47, fun _ h => absurd h List.not_mem_nil⟩⟩⟩⟩⟩⟩⟩⟩⟩⟩⟩⟩⟩⟩⟩⟩⟩⟩⟩⟩⟩⟩⟩⟩
set_option maxRecDepth 20000 in
theorem am_mfall_48 : ∀ k ∈ ([48, 49, 50, 51, 52, 53, 54, 55, 56, 57, 58, 59, 60, 61, 62, 63, 64, 65, 66, 67, 68, 69, 70, 71] : List Nat), am_mf k = true := List.forall_mem_cons.mpr ⟨am_k48, List.forall_mem_cons.mpr ⟨am_k49, List.forall_mem_cons.mpr ⟨am_k50, List.forall_mem_cons.mpr ⟨am_k51, List.forall_mem_cons.mpr ⟨am_k52, List.forall_mem_cons.mpr ⟨am_k53, List.forall_mem_cons.mpr ⟨am_k54, List.forall_mem_cons.mpr ⟨am_k55, List.forall_mem_cons.mpr ⟨am_k56, List.forall_mem_cons.mpr ⟨am_k57, List.forall_mem_cons.mpr ⟨am_k58, List.forall_mem_cons.mpr ⟨am_k59, List.forall_mem_cons.mpr ⟨am_k60, List.forall_mem_cons.mpr ⟨am_k61, List.forall_mem_cons.mpr ⟨am_k62, List.forall_mem_cons.mpr ⟨am_k63, List.forall_mem_cons.mpr ⟨am_k64, List.forall_mem_cons.mpr ⟨am_k65, List.forall_mem_cons.mpr ⟨am_k66, List.forall_mem_cons.mpr ⟨am_k67, List.forall_mem_cons.mpr ⟨am_k68, List.forall_mem_cons.mpr ⟨am_k69, List.forall_mem_cons.mpr ⟨am_k70, List.forall_mem_cons.mpr ⟨am_k71, fun _ h => absurd h List.not_mem_nil⟩⟩⟩⟩⟩⟩⟩⟩⟩⟩⟩⟩⟩⟩⟩⟩⟩⟩⟩⟩⟩⟩⟩⟩
set_option maxRecDepth 20000 in
theorem am_mfall_72 : ∀ k ∈ ([72, 73, 74, 75, 76, 77, 78, 79, 80, 81, 82, 83, 84, 85, 86, 87, 88, 89, 90, 91, 92, 93, 94, 95] : List Nat), am_mf k = true := List.forall_mem_cons.mpr ⟨am_k72, List.forall_mem_cons.mpr ⟨am_k73, List.forall_mem_cons.mpr ⟨am_k74, List.forall_mem_cons.mpr ⟨am_k75, List.forall_mem_cons.mpr ⟨am_k76, List.forall_mem_cons.mpr ⟨am_k77, List.forall_mem_cons.mpr ⟨am_k78, List.forall_mem_cons.mpr ⟨am_k79, List.forall_mem_cons.mpr ⟨am_k80, List.forall_mem_cons.mpr ⟨am_k81, List.forall_mem_cons.mpr ⟨am_k82, List.forall_mem_cons.mpr ⟨am_k83, List.forall_mem_cons.mpr ⟨am_k84, List.forall_mem_cons.mpr ⟨am_k85, List.forall_mem_cons.mpr ⟨am_k86, List.forall_mem_cons.mpr ⟨am_k87, List.forall_mem_cons.mpr ⟨am_k88, List.forall_mem_cons.mpr ⟨am_k89, List.forall_mem_cons.mpr ⟨am_k90, List.forall_mem_cons.mpr ⟨am_k91, List.forall_mem_cons.mpr ⟨am_k92, List.forall_mem_cons.mpr ⟨am_k93, List.forall_mem_cons.mpr ⟨am_k94, List.forall_mem_cons.mpr ⟨am_k95, fun _ h => absurd h List.not_mem_nil⟩⟩⟩⟩⟩⟩⟩⟩⟩⟩⟩⟩⟩⟩⟩⟩⟩⟩⟩⟩⟩⟩⟩⟩
set_option maxRecDepth 20000 in
theorem am_mfall_96 : ∀ k ∈ ([96, 97, 98, 99, 100, 101, 102, 103, 104, 105, 106, 107, 108, 109, 110, 111, 112, 113, 114, 115, 116, 117, 118, 119] : List Nat), am_mf k = true := List.forall_mem_cons.mpr ⟨am_k96, List.forall_mem_cons.mpr ⟨am_k97, List.forall_mem_cons.mpr ⟨am_k98, List.forall_mem_cons.mpr ⟨am_k99, List.forall_mem_cons.mpr ⟨am_k100, List.forall_mem_cons.mpr ⟨am_k101, List.forall_mem_cons.mpr ⟨am_k102, List.forall_mem_cons.mpr ⟨am_k103, List.forall_mem_cons.mpr ⟨am_k104, List.forall_mem_cons.mpr ⟨am_k105, List.forall_mem_cons.mpr ⟨am_k106, List.forall_mem_cons.mpr ⟨am_k107, List.forall_mem_cons.mpr ⟨am_k108, List.forall_mem_cons.mpr ⟨am_k109, List.forall_mem_cons.mpr ⟨am_k110, List.forall_mem_cons.mpr ⟨am_k111, List.forall_mem_cons.mpr ⟨am_k112, List.forall_mem_cons.mpr ⟨am_k113, List.forall_mem_cons.mpr ⟨am_k114, List.forall_mem_cons.mpr ⟨am_k115, List.forall_mem_cons.mpr ⟨am_k116, List.forall_mem_cons.mpr ⟨am_k117, List.forall_mem_cons.mpr ⟨am_k118, List.forall_mem_cons.mpr ⟨am_k119, fun _ h => absurd h List.not_mem_nil⟩⟩⟩⟩⟩⟩⟩⟩⟩⟩⟩⟩⟩⟩⟩⟩⟩⟩⟩⟩⟩⟩⟩⟩
set_option maxRecDepth 20000 in
theorem am_mfall_120 : ∀ k ∈ ([120, 121, 122, 123, 124, 125, 126, 127, 128, 129, 130, 131, 132, 133, 134, 135, 136, 137, 138, 139, 140, 141, 142, 143] : List Nat), am_mf k = true := List.forall_mem_cons.mpr ⟨am_k120, List.forall_mem_cons.mpr ⟨am_k121, List.forall_mem_cons.mpr ⟨am_k122, List.forall_mem_cons.mpr ⟨am_k123, List.forall_mem_cons.mpr ⟨am_k124, List.forall_mem_cons.mpr ⟨am_k125, List.forall_mem_cons.mpr ⟨am_k126, List.forall_mem_cons.mpr ⟨am_k127, List.forall_mem_cons.mpr ⟨am_k128, List.forall_mem_cons.mpr ⟨am_k129, List.forall_mem_cons.mpr ⟨am_k130, List.forall_mem_cons.mpr ⟨am_k131, List.forall_mem_cons.mpr ⟨am_k132, List.forall_mem_cons.mpr ⟨am_k133, List.forall_mem_cons.mpr ⟨am_k134, List.forall_mem_cons.mpr ⟨am_k135, List.forall_mem_cons.mpr ⟨am_k136, List.forall_mem_cons.mpr ⟨am_k137, List.forall_mem_cons.mpr ⟨am_k138, List.forall_mem_cons.mpr ⟨am_k139, List.forall_mem_cons.mpr ⟨am_k140, List.forall_mem_cons.mpr ⟨am_k141, List.forall_mem_cons.mpr ⟨am_k142, List.forall_mem_cons.mpr ⟨am_k143, fun _ h => absurd h List.not_mem_nil⟩⟩⟩⟩⟩⟩⟩⟩⟩⟩⟩⟩⟩⟩⟩⟩⟩⟩⟩⟩⟩⟩⟩⟩
set_option maxRecDepth 20000 in
theorem am_mfall_144 : ∀ k ∈ ([144, 145, 146, 147, 148, 149, 150, 151, 152, 153, 154, 155, 156, 157, 158, 159, 160, 161, 162, 163, 164, 165, 166, 167] : List Nat), am_mf k = true := List.forall_mem_cons.mpr ⟨am_k144, List.forall_mem_cons.mpr ⟨am_k145, List.forall_mem_cons.mpr ⟨am_k146, List.forall_mem_cons.mpr ⟨am_k147, List.forall_mem_cons.mpr ⟨am_k148, List.forall_mem_cons.mpr ⟨am_k149, List.forall_mem_cons.mpr ⟨am_k150, List.forall_mem_cons.mpr ⟨am_k151, List.forall_mem_cons.mpr ⟨am_k152, List.forall_mem_cons.mpr ⟨am_k153, List.forall_mem_cons.mpr ⟨am_k154, List.forall_mem_cons.mpr ⟨am_k155, List.forall_mem_cons.mpr ⟨am_k156, List.forall_mem_cons.mpr ⟨am_k157, List.forall_mem_cons.mpr ⟨am_k158, List.forall_mem_cons.mpr ⟨am_k159, List.forall_mem_cons.mpr ⟨am_k160, List.forall_mem_cons.mpr ⟨am_k161, List.forall_mem_cons.mpr ⟨am_k162, List.forall_mem_cons.mpr ⟨am_k163, List.forall_mem_cons.mpr ⟨am_k164, List.forall_mem_cons.mpr ⟨am_k165, List.forall_mem_cons.mpr ⟨am_k166, List.forall_mem_cons.mpr ⟨am_k167, fun _ h => absurd h List.not_mem_nil⟩⟩⟩⟩⟩⟩⟩⟩⟩⟩⟩⟩⟩⟩⟩⟩⟩⟩⟩⟩⟩⟩⟩⟩
set_option maxRecDepth 20000 in
theorem am_mfall_168 : ∀ k ∈ ([168, 169, 170, 171, 172, 173, 174, 175, 176, 177, 178, 179, 180, 181, 182, 183, 184, 185, 186, 187, 188, 189, 190, 191] : List Nat), am_mf k = true := List.forall_mem_cons.mpr ⟨am_k168, List.forall_mem_cons.mpr ⟨am_k169, List.forall_mem_cons.mpr ⟨am_k170, List.forall_mem_cons.mpr ⟨am_k171, List.forall_mem_cons.mpr ⟨am_k172, List.forall_mem_cons.mpr ⟨am_k173, List.forall_mem_cons.mpr ⟨am_k174, List.forall_mem_cons.mpr ⟨am_k175, List.forall_mem_cons.mpr ⟨am_k176, List.forall_mem_cons.mpr ⟨am_k177, List.forall_mem_cons.mpr ⟨am_k178, List.forall_mem_cons.mpr ⟨am_k179, List.forall_mem_cons.mpr ⟨am_k180, List.forall_mem_cons.mpr ⟨am_k181, List.forall_mem_cons.mpr ⟨am_k182, List.forall_mem_cons.mpr ⟨am_k183, List.forall_mem_cons.mpr ⟨am_k184, List.forall_mem_cons.mpr ⟨am_k185, List.forall_mem_cons.mpr ⟨am_k186, List.forall_mem_cons.mpr ⟨am_k187, List.forall_mem_cons.mpr ⟨am_k188, List.forall_mem_cons.mpr ⟨am_k189, List.forall_mem_cons.mpr ⟨am_k190, List.forall_mem_cons.mpr ⟨am_k191, fun _ h => absurd h List.not_mem_nil⟩⟩⟩⟩⟩⟩⟩⟩⟩⟩⟩⟩⟩⟩⟩⟩⟩⟩⟩⟩⟩⟩⟩⟩
set_option maxRecDepth 20000 in
theorem am_mfall_192 : ∀ k ∈ ([192, 193, 194, 195, 196, 197, 198, 199, 200, 201, 202, 203, 204, 205, 206, 207, 208, 209, 210, 211, 212, 213, 214, 215] : List Nat), am_mf k = true := List.forall_mem_cons.mpr ⟨am_k192, List.forall_mem_cons.mpr ⟨am_k193, List.forall_mem_cons.mpr ⟨am_k194, List.forall_mem_cons.mpr ⟨am_k195, List.forall_mem_cons.mpr ⟨am_k196, List.forall_mem_cons.mpr ⟨am_k197, List.forall_mem_cons.mpr ⟨am_k198, List.forall_mem_cons.mpr ⟨am_k199, List.forall_mem_cons.mpr ⟨am_k200, List.forall_mem_cons.mpr ⟨am_k201, List.forall_mem_cons.mpr ⟨am_k202, List.forall_mem_cons.mpr ⟨am_k203, List.forall_mem_cons.mpr ⟨am_k204, List.forall_mem_cons.mpr ⟨am_k205, List.forall_mem_cons.mpr ⟨am_k206, List.forall_mem_cons.mpr ⟨am_k207, List.forall_mem_cons.mpr ⟨am_k208, List.forall_mem_cons.mpr ⟨am_k209, List.forall_mem_cons.mpr ⟨am_k210, List.forall_mem_cons.mpr ⟨am_k211, List.forall_mem_cons.mpr ⟨am_k212, List.forall_mem_cons.mpr ⟨am_k213, List.forall_mem_cons.mpr ⟨am_k214, List.forall_mem_cons.mpr ⟨am_k215, fun _ h => absurd h List.not_mem_nil⟩⟩⟩⟩⟩⟩⟩⟩⟩⟩⟩⟩⟩⟩⟩⟩⟩⟩⟩⟩⟩⟩⟩⟩
set_option maxRecDepth 20000 in
theorem am_mfall_216 : ∀ k ∈ ([216, 217, 218, 219, 220, 221, 222, 223, 224, 225, 226, 227, 228, 229, 230, 231, 232, 233, 234, 235, 236, 237, 238, 239] : List Nat), am_mf k = true := List.forall_mem_cons.mpr ⟨am_k216, List.forall_mem_cons.mpr ⟨am_k217, List.forall_mem_cons.mpr ⟨am_k218, List.forall_mem_cons.mpr ⟨am_k219, List.forall_mem_cons.mpr ⟨am_k220, List.forall_mem_cons.mpr ⟨am_k221, List.forall_mem_cons.mpr ⟨am_k222, List.forall_mem_cons.mpr ⟨am_k223, List.forall_mem_cons.mpr ⟨am_k224, List.forall_mem_cons.mpr ⟨am_k225, List.forall_mem_cons.mpr ⟨am_k226, List.forall_mem_cons.mpr ⟨am_k227, List.forall_mem_cons.mpr ⟨am_k228, List.forall_mem_cons.mpr ⟨am_k229, List.forall_mem_cons.mpr ⟨am_k230, List.forall_mem_cons.mpr ⟨am_k231, List.forall_mem_cons.mpr ⟨am_k232, List.forall_mem_cons.mpr ⟨am_k233, List.forall_mem_cons.mpr ⟨am_k234, List.forall_mem_cons.mpr ⟨am_k235, List.forall_mem_cons.mpr ⟨am_k236, List.forall_mem_cons.mpr ⟨am_k237, List.forall_mem_cons.mpr ⟨am_k238, List.forall_mem_cons.mpr ⟨am_k239, fun _ h => absurd h List.not_mem_nil⟩⟩⟩⟩⟩⟩⟩⟩⟩⟩⟩⟩⟩⟩⟩⟩⟩⟩⟩⟩⟩⟩⟩⟩
theorem am_mfall {k : Nat} (h : k < 240) : am_mf k = true := by
  by_cases h0 : k < 24
  · exact am_mfall_0 k (am_rng 24 0 k (by omega) (by omega))
  by_cases h24 : k < 48
  · exact am_mfall_24 k (am_rng 24 24 k (by omega) (by omega))
  by_cases h48 : k < 72
  · exact am_mfall_48 k (am_rng 24 48 k (by omega) (by omega))
  by_cases h72 : k < 96
  · exact am_mfall_72 k (am_rng 24 72 k (by omega) (by omega))
  by_cases h96 : k < 120
  · exact am_mfall_96 k (am_rng 24 96 k (by omega) (by omega))
  by_cases h120 : k < 144
  · exact am_mfall_120 k (am_rng 24 120 k (by omega) (by omega))
  by_cases h144 : k < 168
  · exact am_mfall_144 k (am_rng 24 144 k (by omega) (by omega))
  by_cases h168 : k < 192
  · exact am_mfall_168 k (am_rng 24 168 k (by omega) (by omega))
  by_cases h192 : k < 216
  · exact am_mfall_192 k (am_rng 24 192 k (by omega) (by omega))
  by_cases h216 : k < 240
  · exact am_mfall_216 k (am_rng 24 216 k (by omega) (by omega))
  omega
theorem am_mall {k : Nat} (h : k < 240) : am_mchk k = true := am_mf_ok (am_mfall h)
end
