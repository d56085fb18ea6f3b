/-! Each instruction is what its bytes decode to: one walk along a method's bytes (by program, gen04.py) -/
noncomputable def am_dchk (cc : ByteArray) (r : List (Instr × Nat × Nat)) : Bool := r.all fun q => decide (decode cc q.2.1 = .ok (q.1, q.2.2))
/-- what follows upon an instruction's first byte -/
noncomputable def am_K (p : Nat) : { K : Nat → Jvm.ClassFile.Decoder Instr // Jvm.ClassFile.Decoder.instr p = (Jvm.ClassFile.Reader.u1 >>= K) } := ⟨_, rfl⟩
noncomputable abbrev am_ru1 : Jvm.ClassFile.Decoder Nat := Jvm.ClassFile.Reader.u1
noncomputable abbrev am_rs1 : Jvm.ClassFile.Decoder Int := Jvm.ClassFile.Reader.s1
noncomputable abbrev am_ru2 : Jvm.ClassFile.Decoder Nat := Jvm.ClassFile.Reader.u2
noncomputable abbrev am_rs2 : Jvm.ClassFile.Decoder Int := Jvm.ClassFile.Reader.s2
theorem am_u1 {cc : ByteArray} {p : Nat} {a : UInt8} {t : List UInt8} (h : cc.data.toList.drop p = a :: t) : am_ru1 cc p = .ok (a.toNat, p + 1) := by
  have hl : p < cc.data.toList.length := by
    have := congrArg List.length h
    rw [List.length_drop, List.length_cons] at this
    omega
  have hs : p < cc.size := hl
  have hg : cc[p] = a := by
    rw [List.drop_eq_getElem_cons hl] at h
    exact (List.cons.inj h).1
  show (if h : p < cc.size then (do set (p + 1); pure cc[p].toNat : Jvm.ClassFile.Decoder Nat) else throw (Jvm.ClassFile.HasTruncated.truncated p)) cc p = _
  rw [dif_pos hs, hg]
  rfl
theorem am_dn {l : List UInt8} {p : Nat} {a : UInt8} {t : List UInt8} (h : l.drop p = a :: t) : l.drop (p + 1) = t := by
  have := congrArg (List.drop 1) h
  rwa [List.drop_drop, List.drop_one, List.tail_cons] at this
theorem am_us1 {cc : ByteArray} {p : Nat} {a : UInt8} {t : List UInt8} (h : cc.data.toList.drop p = a :: t) : am_rs1 cc p = .ok (Jvm.ClassFile.Reader.signed 8 a.toNat, p + 1) := by
  have e := am_u1 h
  show Except.map (fun q : Nat × Nat => (Jvm.ClassFile.Reader.signed 8 q.1, q.2)) (am_ru1 cc p) = _
  rw [e]
  rfl
theorem am_u2 {cc : ByteArray} {p : Nat} {a b : UInt8} {t : List UInt8} (h : cc.data.toList.drop p = a :: b :: t) : am_ru2 cc p = .ok (a.toNat * 256 + b.toNat, p + 2) := by
  have e := am_u1 h
  have e' := am_u1 (am_dn h)
  show Except.bind (am_ru1 cc p) (fun q => Except.bind (am_ru1 cc q.2) (fun q' => .ok (q.1 * 256 + q'.1, q'.2))) = _
  rw [e]
  show Except.bind (am_ru1 cc (p + 1)) (fun q' => .ok (a.toNat * 256 + q'.1, q'.2)) = _
  rw [e']
  rfl
theorem am_us2 {cc : ByteArray} {p : Nat} {a b : UInt8} {t : List UInt8} (h : cc.data.toList.drop p = a :: b :: t) : am_rs2 cc p = .ok (Jvm.ClassFile.Reader.signed 16 (a.toNat * 256 + b.toNat), p + 2) := by
  have e := am_u2 h
  show Except.map (fun q : Nat × Nat => (Jvm.ClassFile.Reader.signed 16 q.1, q.2)) (am_ru2 cc p) = _
  rw [e]
  rfl
theorem am_decN {cc : ByteArray} {p b n : Nat} {I : Instr} (h : am_ru1 cc p = .ok (b, p + 1)) (hr : (am_K p).1 b cc (p + 1) = .ok (I, p + n)) : decode cc p = .ok (I, n) := by
  have e : Jvm.ClassFile.Reader.runAt (Jvm.ClassFile.Decoder.instr p) cc p = .ok (I, p + n) := by
    rw [(am_K p).2]
    show Except.bind (am_ru1 cc p) (fun q => (am_K p).1 q.1 cc q.2) = _
    rw [h]
    exact hr
  show Except.bind (Jvm.ClassFile.Reader.runAt (Jvm.ClassFile.Decoder.instr p) cc p) (fun q => .ok (q.1, q.2 - p)) = _
  rw [e]
  show Except.ok (I, p + n - p) = _
  rw [Nat.add_sub_cancel_left]
noncomputable def am_f0 (op len : Nat) : List UInt8 → Bool
  | a :: _ => Nat.beq a.toNat op && Nat.beq len 1
  | _ => false
noncomputable def am_fu (op k len : Nat) : List UInt8 → Bool
  | a :: b :: _ => Nat.beq a.toNat op && (Nat.beq b.toNat k && Nat.beq len 2)
  | _ => false
noncomputable def am_fs (op : Nat) (x : Int) (len : Nat) : List UInt8 → Bool
  | a :: b :: _ => Nat.beq a.toNat op && (decide (Jvm.ClassFile.Reader.signed 8 b.toNat = x) && Nat.beq len 2)
  | _ => false
noncomputable def am_fu2 (op k len : Nat) : List UInt8 → Bool
  | a :: b :: c :: _ => Nat.beq a.toNat op && (Nat.beq (b.toNat * 256 + c.toNat) k && Nat.beq len 3)
  | _ => false
noncomputable def am_fs2 (op : Nat) (x : Int) (len : Nat) : List UInt8 → Bool
  | a :: b :: c :: _ => Nat.beq a.toNat op && (decide (Jvm.ClassFile.Reader.signed 16 (b.toNat * 256 + c.toNat) = x) && Nat.beq len 3)
  | _ => false
noncomputable def am_fi (op k : Nat) (x : Int) (len : Nat) : List UInt8 → Bool
  | a :: b :: c :: _ => Nat.beq a.toNat op && (Nat.beq b.toNat k && (decide (Jvm.ClassFile.Reader.signed 8 c.toNat = x) && Nat.beq len 3))
  | _ => false
theorem am_f0ok {cc : ByteArray} {bs : List UInt8} {p op len : Nat} {I : Instr} (hb : cc.data.toList.drop p = bs) (h : am_f0 op len bs = true) (hK : (am_K p).1 op = Pure.pure I) : decode cc p = .ok (I, len) := by
  match bs, hb, h with
  | a :: t, hb, h =>
    obtain ⟨h1, h2⟩ := am_and h
    have e := am_u1 hb
    rw [am_beq h1] at e
    rw [am_beq h2]
    refine am_decN e ?_
    rw [hK]
    rfl
theorem am_fuok {cc : ByteArray} {bs : List UInt8} {p op k len : Nat} (F : Nat → Instr) (hb : cc.data.toList.drop p = bs) (h : am_fu op k len bs = true) (hK : (am_K p).1 op = (am_ru1 >>= fun k => Pure.pure (F k))) : decode cc p = .ok (F k, len) := by
  match bs, hb, h with
  | a :: b :: t, hb, h =>
    obtain ⟨h1, h2⟩ := am_and h
    obtain ⟨h2, h3⟩ := am_and h2
    have e := am_u1 hb
    have e' := am_u1 (am_dn hb)
    rw [am_beq h1] at e
    rw [am_beq h2] at e'
    rw [am_beq h3]
    refine am_decN e ?_
    rw [hK]
    show Except.bind (am_ru1 cc (p + 1)) (fun q => .ok (F q.1, q.2)) = _
    rw [e']
    rfl
theorem am_fvok {cc : ByteArray} {bs : List UInt8} {p op k len : Nat} {I : Instr} {G : Nat → Jvm.ClassFile.Decoder Instr} (hb : cc.data.toList.drop p = bs) (h : am_fu op k len bs = true) (hK : (am_K p).1 op = (am_ru1 >>= G)) (hG : G k = Pure.pure I) : decode cc p = .ok (I, len) := by
  match bs, hb, h with
  | a :: b :: t, hb, h =>
    obtain ⟨h1, h2⟩ := am_and h
    obtain ⟨h2, h3⟩ := am_and h2
    have e := am_u1 hb
    have e' := am_u1 (am_dn hb)
    rw [am_beq h1] at e
    rw [am_beq h2] at e'
    rw [am_beq h3]
    refine am_decN e ?_
    rw [hK]
    show Except.bind (am_ru1 cc (p + 1)) (fun q => G q.1 cc q.2) = _
    rw [e']
    show G k cc (p + 1 + 1) = _
    rw [hG]
    rfl
theorem am_fsok {cc : ByteArray} {bs : List UInt8} {p op len : Nat} {x : Int} (F : Int → Instr) (hb : cc.data.toList.drop p = bs) (h : am_fs op x len bs = true) (hK : (am_K p).1 op = (am_rs1 >>= fun k => Pure.pure (F k))) : decode cc p = .ok (F x, len) := by
  match bs, hb, h with
  | a :: b :: t, hb, h =>
    obtain ⟨h1, h2⟩ := am_and h
    obtain ⟨h2, h3⟩ := am_and h2
    have e := am_u1 hb
    have e' := am_us1 (am_dn hb)
    rw [am_beq h1] at e
    rw [of_decide_eq_true h2] at e'
    rw [am_beq h3]
    refine am_decN e ?_
    rw [hK]
    show Except.bind (am_rs1 cc (p + 1)) (fun q => .ok (F q.1, q.2)) = _
    rw [e']
    rfl
theorem am_fu2ok {cc : ByteArray} {bs : List UInt8} {p op k len : Nat} (F : Nat → Instr) (hb : cc.data.toList.drop p = bs) (h : am_fu2 op k len bs = true) (hK : (am_K p).1 op = (am_ru2 >>= fun k => Pure.pure (F k))) : decode cc p = .ok (F k, len) := by
  match bs, hb, h with
  | a :: b :: c :: t, hb, h =>
    obtain ⟨h1, h2⟩ := am_and h
    obtain ⟨h2, h3⟩ := am_and h2
    have e := am_u1 hb
    have e' := am_u2 (am_dn hb)
    rw [am_beq h1] at e
    rw [am_beq h2] at e'
    rw [am_beq h3]
    refine am_decN e ?_
    rw [hK]
    show Except.bind (am_ru2 cc (p + 1)) (fun q => .ok (F q.1, q.2)) = _
    rw [e']
    rfl
theorem am_fs2ok {cc : ByteArray} {bs : List UInt8} {p op len : Nat} {x : Int} (F : Int → Instr) (hb : cc.data.toList.drop p = bs) (h : am_fs2 op x len bs = true) (hK : (am_K p).1 op = (am_rs2 >>= fun k => Pure.pure (F k))) : decode cc p = .ok (F x, len) := by
  match bs, hb, h with
  | a :: b :: c :: t, hb, h =>
    obtain ⟨h1, h2⟩ := am_and h
    obtain ⟨h2, h3⟩ := am_and h2
    have e := am_u1 hb
    have e' := am_us2 (am_dn hb)
    rw [am_beq h1] at e
    rw [of_decide_eq_true h2] at e'
    rw [am_beq h3]
    refine am_decN e ?_
    rw [hK]
    show Except.bind (am_rs2 cc (p + 1)) (fun q => .ok (F q.1, q.2)) = _
    rw [e']
    rfl
theorem am_fiok {cc : ByteArray} {bs : List UInt8} {p op k len : Nat} {x : Int} (F : Nat → Int → Instr) (hb : cc.data.toList.drop p = bs) (h : am_fi op k x len bs = true) (hK : (am_K p).1 op = (am_ru1 >>= fun k => am_rs1 >>= fun x => Pure.pure (F k x))) : decode cc p = .ok (F k x, len) := by
  match bs, hb, h with
  | a :: b :: c :: t, hb, h =>
    obtain ⟨h1, h2⟩ := am_and h
    obtain ⟨h2, h3⟩ := am_and h2
    obtain ⟨h3, h4⟩ := am_and h3
    have e := am_u1 hb
    have e' := am_u1 (am_dn hb)
    have e'' := am_us1 (am_dn (am_dn hb))
    rw [am_beq h1] at e
    rw [am_beq h2] at e'
    rw [of_decide_eq_true h3] at e''
    rw [am_beq h4]
    refine am_decN e ?_
    rw [hK]
    show Except.bind (am_ru1 cc (p + 1)) (fun q => Except.bind (am_rs1 cc q.2) (fun r => .ok (F q.1 r.1, r.2))) = _
    rw [e']
    show Except.bind (am_rs1 cc (p + 1 + 1)) (fun r => .ok (F k r.1, r.2)) = _
    rw [e'']
    rfl
noncomputable def am_en (I : Instr) : Nat × Nat × Nat × Int := match I with
  | .aload_n 0 => (0, 42, 0, 0)
  | .aload_n 1 => (0, 43, 0, 0)
  | .aload_n 2 => (0, 44, 0, 0)
  | .aload_n 3 => (0, 45, 0, 0)
  | .iload_n 0 => (0, 26, 0, 0)
  | .iload_n 1 => (0, 27, 0, 0)
  | .iload_n 2 => (0, 28, 0, 0)
  | .iload_n 3 => (0, 29, 0, 0)
  | .istore_n 0 => (0, 59, 0, 0)
  | .istore_n 1 => (0, 60, 0, 0)
  | .istore_n 2 => (0, 61, 0, 0)
  | .istore_n 3 => (0, 62, 0, 0)
  | .lload_n 0 => (0, 30, 0, 0)
  | .lload_n 1 => (0, 31, 0, 0)
  | .lload_n 2 => (0, 32, 0, 0)
  | .lload_n 3 => (0, 33, 0, 0)
  | .lstore_n 0 => (0, 63, 0, 0)
  | .lstore_n 1 => (0, 64, 0, 0)
  | .lstore_n 2 => (0, 65, 0, 0)
  | .lstore_n 3 => (0, 66, 0, 0)
  | .astore_n 0 => (0, 75, 0, 0)
  | .astore_n 1 => (0, 76, 0, 0)
  | .astore_n 2 => (0, 77, 0, 0)
  | .astore_n 3 => (0, 78, 0, 0)
  | .iconst (.ofNat 0) => (0, 3, 0, 0)
  | .iconst (.ofNat 1) => (0, 4, 0, 0)
  | .iconst (.ofNat 2) => (0, 5, 0, 0)
  | .iconst (.ofNat 3) => (0, 6, 0, 0)
  | .iconst (.ofNat 4) => (0, 7, 0, 0)
  | .iconst (.ofNat 5) => (0, 8, 0, 0)
  | .iconst (.negSucc 0) => (0, 2, 0, 0)
  | .lconst 0 => (0, 9, 0, 0)
  | .lconst 1 => (0, 10, 0, 0)
  | .ireturn => (0, 172, 0, 0)
  | .iaload => (0, 46, 0, 0)
  | .iadd => (0, 96, 0, 0)
  | .pop => (0, 87, 0, 0)
  | .iastore => (0, 79, 0, 0)
  | .isub => (0, 100, 0, 0)
  | .return_ => (0, 177, 0, 0)
  | .i2l => (0, 133, 0, 0)
  | .imul => (0, 104, 0, 0)
  | .dup => (0, 89, 0, 0)
  | .iand => (0, 126, 0, 0)
  | .aaload => (0, 50, 0, 0)
  | .dup2 => (0, 92, 0, 0)
  | .ishr => (0, 122, 0, 0)
  | .lreturn => (0, 173, 0, 0)
  | .ishl => (0, 120, 0, 0)
  | .arraylength => (0, 190, 0, 0)
  | .areturn => (0, 176, 0, 0)
  | .lcmp => (0, 148, 0, 0)
  | .iushr => (0, 124, 0, 0)
  | .baload => (0, 51, 0, 0)
  | .ior => (0, 128, 0, 0)
  | .lmul => (0, 105, 0, 0)
  | .ladd => (0, 97, 0, 0)
  | .bastore => (0, 84, 0, 0)
  | .ldiv => (0, 109, 0, 0)
  | .i2b => (0, 145, 0, 0)
  | .idiv => (0, 108, 0, 0)
  | .irem => (0, 112, 0, 0)
  | .i2s => (0, 147, 0, 0)
  | .ixor => (0, 130, 0, 0)
  | .lrem => (0, 113, 0, 0)
  | .pop2 => (0, 88, 0, 0)
  | .ineg => (0, 116, 0, 0)
  | .i2c => (0, 146, 0, 0)
  | .aastore => (0, 83, 0, 0)
  | .iload k => (1, 21, k, 0)
  | .istore k => (1, 54, k, 0)
  | .lload k => (1, 22, k, 0)
  | .lstore k => (1, 55, k, 0)
  | .ldc k => (1, 18, k, 0)
  | .aload k => (1, 25, k, 0)
  | .astore k => (1, 58, k, 0)
  | .getfield k => (2, 180, k, 0)
  | .invokevirtual k => (2, 182, k, 0)
  | .invokestatic k => (2, 184, k, 0)
  | .putfield k => (2, 181, k, 0)
  | .ldc2_w k => (2, 20, k, 0)
  | .invokespecial k => (2, 183, k, 0)
  | .new k => (2, 187, k, 0)
  | .getstatic k => (2, 178, k, 0)
  | .ldc_w k => (2, 19, k, 0)
  | .anewarray k => (2, 189, k, 0)
  | .newarray .boolean => (1, 188, 4, 0)
  | .newarray .byte => (1, 188, 8, 0)
  | .newarray .int => (1, 188, 10, 0)
  | .newarray .long => (1, 188, 11, 0)
  | .bipush x => (3, 16, 0, x)
  | .sipush x => (4, 17, 0, x)
  | .goto x => (4, 167, 0, x)
  | .ifCond .eq x => (4, 153, 0, x)
  | .ifCond .ne x => (4, 154, 0, x)
  | .ifCond .lt x => (4, 155, 0, x)
  | .ifCond .ge x => (4, 156, 0, x)
  | .ifCond .gt x => (4, 157, 0, x)
  | .ifCond .le x => (4, 158, 0, x)
  | .if_icmp .eq x => (4, 159, 0, x)
  | .if_icmp .ne x => (4, 160, 0, x)
  | .if_icmp .lt x => (4, 161, 0, x)
  | .if_icmp .ge x => (4, 162, 0, x)
  | .if_icmp .gt x => (4, 163, 0, x)
  | .if_icmp .le x => (4, 164, 0, x)
  | .iinc k x => (5, 132, k, x)
  | _ => (6, 0, 0, 0)
noncomputable def am_fe (cc : ByteArray) (p len : Nat) (bs : List UInt8) (I : Instr) : Nat × Nat × Nat × Int → Bool
  | (0, op, _, _) => am_f0 op len bs
  | (1, op, k, _) => am_fu op k len bs
  | (2, op, k, _) => am_fu2 op k len bs
  | (3, op, _, x) => am_fs op x len bs
  | (4, op, _, x) => am_fs2 op x len bs
  | (5, op, k, x) => am_fi op k x len bs
  | _ => decide (decode cc p = .ok (I, len))
noncomputable def am_fd (cc : ByteArray) (p len : Nat) (bs : List UInt8) (I : Instr) : Bool := am_fe cc p len bs I (am_en I)
theorem am_fdok {cc : ByteArray} {bs : List UInt8} {p len : Nat} {I : Instr} (hb : cc.data.toList.drop p = bs) (h : am_fd cc p len bs I = true) : decode cc p = .ok (I, len) := by
  unfold am_fd am_en at h
  split at h
  · exact am_f0ok hb h rfl
  · exact am_f0ok hb h rfl
  · exact am_f0ok hb h rfl
  · exact am_f0ok hb h rfl
  · exact am_f0ok hb h rfl
  · exact am_f0ok hb h rfl
  · exact am_f0ok hb h rfl
  · exact am_f0ok hb h rfl
  · exact am_f0ok hb h rfl
  · exact am_f0ok hb h rfl
  · exact am_f0ok hb h rfl
  · exact am_f0ok hb h rfl
  · exact am_f0ok hb h rfl
  · exact am_f0ok hb h rfl
  · exact am_f0ok hb h rfl
  · exact am_f0ok hb h rfl
  · exact am_f0ok hb h rfl
  · exact am_f0ok hb h rfl
  · exact am_f0ok hb h rfl
  · exact am_f0ok hb h rfl
  · exact am_f0ok hb h rfl
  · exact am_f0ok hb h rfl
  · exact am_f0ok hb h rfl
  · exact am_f0ok hb h rfl
  · exact am_f0ok hb h rfl
  · exact am_f0ok hb h rfl
  · exact am_f0ok hb h rfl
  · exact am_f0ok hb h rfl
  · exact am_f0ok hb h rfl
  · exact am_f0ok hb h rfl
  · exact am_f0ok hb h rfl
  · exact am_f0ok hb h rfl
  · exact am_f0ok hb h rfl
  · exact am_f0ok hb h rfl
  · exact am_f0ok hb h rfl
  · exact am_f0ok hb h rfl
  · exact am_f0ok hb h rfl
  · exact am_f0ok hb h rfl
  · exact am_f0ok hb h rfl
  · exact am_f0ok hb h rfl
  · exact am_f0ok hb h rfl
  · exact am_f0ok hb h rfl
  · exact am_f0ok hb h rfl
  · exact am_f0ok hb h rfl
  · exact am_f0ok hb h rfl
  · exact am_f0ok hb h rfl
  · exact am_f0ok hb h rfl
  · exact am_f0ok hb h rfl
  · exact am_f0ok hb h rfl
  · exact am_f0ok hb h rfl
  · exact am_f0ok hb h rfl
  · exact am_f0ok hb h rfl
  · exact am_f0ok hb h rfl
  · exact am_f0ok hb h rfl
  · exact am_f0ok hb h rfl
  · exact am_f0ok hb h rfl
  · exact am_f0ok hb h rfl
  · exact am_f0ok hb h rfl
  · exact am_f0ok hb h rfl
  · exact am_f0ok hb h rfl
  · exact am_f0ok hb h rfl
  · exact am_f0ok hb h rfl
  · exact am_f0ok hb h rfl
  · exact am_f0ok hb h rfl
  · exact am_f0ok hb h rfl
  · exact am_f0ok hb h rfl
  · exact am_f0ok hb h rfl
  · exact am_f0ok hb h rfl
  · exact am_f0ok hb h rfl
  · exact am_fuok .iload hb h rfl
  · exact am_fuok .istore hb h rfl
  · exact am_fuok .lload hb h rfl
  · exact am_fuok .lstore hb h rfl
  · exact am_fuok .ldc hb h rfl
  · exact am_fuok .aload hb h rfl
  · exact am_fuok .astore hb h rfl
  · exact am_fu2ok .getfield hb h rfl
  · exact am_fu2ok .invokevirtual hb h rfl
  · exact am_fu2ok .invokestatic hb h rfl
  · exact am_fu2ok .putfield hb h rfl
  · exact am_fu2ok .ldc2_w hb h rfl
  · exact am_fu2ok .invokespecial hb h rfl
  · exact am_fu2ok .new hb h rfl
  · exact am_fu2ok .getstatic hb h rfl
  · exact am_fu2ok .ldc_w hb h rfl
  · exact am_fu2ok .anewarray hb h rfl
  · exact am_fvok hb h rfl rfl
  · exact am_fvok hb h rfl rfl
  · exact am_fvok hb h rfl rfl
  · exact am_fvok hb h rfl rfl
  · exact am_fsok .bipush hb h rfl
  · exact am_fs2ok .sipush hb h rfl
  · exact am_fs2ok .goto hb h rfl
  · exact am_fs2ok (.ifCond .eq) hb h rfl
  · exact am_fs2ok (.ifCond .ne) hb h rfl
  · exact am_fs2ok (.ifCond .lt) hb h rfl
  · exact am_fs2ok (.ifCond .ge) hb h rfl
  · exact am_fs2ok (.ifCond .gt) hb h rfl
  · exact am_fs2ok (.ifCond .le) hb h rfl
  · exact am_fs2ok (.if_icmp .eq) hb h rfl
  · exact am_fs2ok (.if_icmp .ne) hb h rfl
  · exact am_fs2ok (.if_icmp .lt) hb h rfl
  · exact am_fs2ok (.if_icmp .ge) hb h rfl
  · exact am_fs2ok (.if_icmp .gt) hb h rfl
  · exact am_fs2ok (.if_icmp .le) hb h rfl
  · exact am_fiok .iinc hb h rfl
  · exact of_decide_eq_true h
noncomputable def am_nxt (n : Nat) : List (Instr × Nat × Nat) → Bool
  | [] => true
  | q :: _ => Nat.beq q.2.1 n
noncomputable def am_lin (cc : ByteArray) : List (Instr × Nat × Nat) → List UInt8 → Bool
  | [], _ => true
  | (I, p, len) :: r, bs => am_fd cc p len bs I && (am_nxt (p + len) r && am_lin cc r (bs.drop len))
theorem am_linok {cc : ByteArray} : ∀ (r : List (Instr × Nat × Nat)) (p : Nat) (bs : List UInt8), cc.data.toList.drop p = bs → am_nxt p r = true → am_lin cc r bs = true → am_dchk cc r = true
  | [], _, _, _, _, _ => rfl
  | (I, q, len) :: r, p, bs, hb, hn, h => by
    have hp : q = p := am_beq hn
    subst hp
    have h : (am_fd cc q len bs I && (am_nxt (q + len) r && am_lin cc r (bs.drop len))) = true := h
    obtain ⟨h1, h2⟩ := am_and h
    obtain ⟨h2, h3⟩ := am_and h2
    have e := am_fdok hb h1
    have i := am_linok r (q + len) (bs.drop len) (by rw [← hb, List.drop_drop]) h2 h3
    unfold am_dchk at *
    rw [List.all_cons, i, decide_eq_true e]
    rfl
theorem am_fast {cc : ByteArray} {r : List (Instr × Nat × Nat)} (h : (am_nxt 0 r && am_lin cc r cc.data.toList) = true) : am_dchk cc r = true :=
  am_linok r 0 _ rfl (am_and h).1 (am_and h).2
