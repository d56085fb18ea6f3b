/-! Each instruction is what its bytes decode to: one walk along a method's bytes (by program, gen04.py) -/
noncomputable def am_dchk (cc : ByteArray) (r : List (Instr × Nat × Nat)) : Bool := r.all fun q => decide (decode cc q.2.1 = .ok (q.1, q.2.2))
/-- what follows upon an instruction's first byte -/
noncomputable def am_K (p : Nat) : { K : Nat → Jvm.ClassFile.Decoder Instr // Jvm.ClassFile.Decoder.instr p = (Jvm.ClassFile.Reader.u1 >>= K) } := ⟨_, rfl⟩
noncomputable abbrev am_ru1 : Jvm.ClassFile.Decoder Nat := Jvm.ClassFile.Reader.u1
noncomputable abbrev am_rs1 : Jvm.ClassFile.Decoder Int := Jvm.ClassFile.Reader.s1
noncomputable abbrev am_ru2 : Jvm.ClassFile.Decoder Nat := Jvm.ClassFile.Reader.u2
noncomputable abbrev am_rs2 : Jvm.ClassFile.Decoder Int := Jvm.ClassFile.Reader.s2
theorem am_u1 {cc : ByteArray} {p : Nat} {a : UInt8} {t : List UInt8} (h : cc.data.toList.drop p = a :: t) : am_ru1 cc p = .ok (a.toNat, p + 1) := by
  have hl : p < cc.data.toList.length := by
    have := congrArg List.length h
    rw [List.length_drop, List.length_cons] at this
    omega
  have hs : p < cc.size := hl
  have hg : cc[p] = a := by
    rw [List.drop_eq_getElem_cons hl] at h
    exact (List.cons.inj h).1
  show (if h : p < cc.size then (do set (p + 1); pure cc[p].toNat : Jvm.ClassFile.Decoder Nat) else throw (Jvm.ClassFile.HasTruncated.truncated p)) cc p = _
  rw [dif_pos hs, hg]
  rfl
theorem am_dn {l : List UInt8} {p : Nat} {a : UInt8} {t : List UInt8} (h : l.drop p = a :: t) : l.drop (p + 1) = t := by
  have := congrArg (List.drop 1) h
  rwa [List.drop_drop, List.drop_one, List.tail_cons] at this
theorem am_us1 {cc : ByteArray} {p : Nat} {a : UInt8} {t : List UInt8} (h : cc.data.toList.drop p = a :: t) : am_rs1 cc p = .ok (Jvm.ClassFile.Reader.signed 8 a.toNat, p + 1) := by
  have e := am_u1 h
  show Except.map (fun q : Nat × Nat => (Jvm.ClassFile.Reader.signed 8 q.1, q.2)) (am_ru1 cc p) = _
  rw [e]
  rfl
theorem am_u2 {cc : ByteArray} {p : Nat} {a b : UInt8} {t : List UInt8} (h : cc.data.toList.drop p = a :: b :: t) : am_ru2 cc p = .ok (a.toNat * 256 + b.toNat, p + 2) := by
  have e := am_u1 h
  have e' := am_u1 (am_dn h)
  show Except.bind (am_ru1 cc p) (fun q => Except.bind (am_ru1 cc q.2) (fun q' => .ok (q.1 * 256 + q'.1, q'.2))) = _
  rw [e]
  show Except.bind (am_ru1 cc (p + 1)) (fun q' => .ok (a.toNat * 256 + q'.1, q'.2)) = _
  rw [e']
  rfl
theorem am_us2 {cc : ByteArray} {p : Nat} {a b : UInt8} {t : List UInt8} (h : cc.data.toList.drop p = a :: b :: t) : am_rs2 cc p = .ok (Jvm.ClassFile.Reader.signed 16 (a.toNat * 256 + b.toNat), p + 2) := by
  have e := am_u2 h
  show Except.map (fun q : Nat × Nat => (Jvm.ClassFile.Reader.signed 16 q.1, q.2)) (am_ru2 cc p) = _
  rw [e]
  rfl
theorem am_decN {cc : ByteArray} {p b n : Nat} {I : Instr} (h : am_ru1 cc p = .ok (b, p + 1)) (hr : (am_K p).1 b cc (p + 1) = .ok (I, p + n)) : decode cc p = .ok (I, n) := by
  have e : Jvm.ClassFile.Reader.runAt (Jvm.ClassFile.Decoder.instr p) cc p = .ok (I, p + n) := by
    rw [(am_K p).2]
    show Except.bind (am_ru1 cc p) (fun q => (am_K p).1 q.1 cc q.2) = _
    rw [h]
    exact hr
  show Except.bind (Jvm.ClassFile.Reader.runAt (Jvm.ClassFile.Decoder.instr p) cc p) (fun q => .ok (q.1, q.2 - p)) = _
  rw [e]
  show Except.ok (I, p + n - p) = _
  rw [Nat.add_sub_cancel_left]
noncomputable def am_f0 (op len : Nat) : List UInt8 → Bool
  | a :: _ => Nat.beq a.toNat op && Nat.beq len 1
  | _ => false
noncomputable def am_fu (op k len : Nat) : List UInt8 → Bool
  | a :: b :: _ => Nat.beq a.toNat op && (Nat.beq b.toNat k && Nat.beq len 2)
  | _ => false
noncomputable def am_fs (op : Nat) (x : Int) (len : Nat) : List UInt8 → Bool
  | a :: b :: _ => Nat.beq a.toNat op && (decide (Jvm.ClassFile.Reader.signed 8 b.toNat = x) && Nat.beq len 2)
  | _ => false
noncomputable def am_fu2 (op k len : Nat) : List UInt8 → Bool
  | a :: b :: c :: _ => Nat.beq a.toNat op && (Nat.beq (b.toNat * 256 + c.toNat) k && Nat.beq len 3)
  | _ => false
noncomputable def am_fs2 (op : Nat) (x : Int) (len : Nat) : List UInt8 → Bool
  | a :: b :: c :: _ => Nat.beq a.toNat op && (decide (Jvm.ClassFile.Reader.signed 16 (b.toNat * 256 + c.toNat) = x) && Nat.beq len 3)
  | _ => false
noncomputable def am_fi (op k : Nat) (x : Int) (len : Nat) : List UInt8 → Bool
  | a :: b :: c :: _ => Nat.beq a.toNat op && (Nat.beq b.toNat k && (decide (Jvm.ClassFile.Reader.signed 8 c.toNat = x) && Nat.beq len 3))
  | _ => false
theorem am_beq {a b : Nat} (h : Nat.beq a b = true) : a = b := Nat.eq_of_beq_eq_true h
theorem am_and {a b : Bool} (h : (a && b) = true) : a = true ∧ b = true := by
  rwa [Bool.and_eq_true] at h
theorem am_f0ok {cc : ByteArray} {bs : List UInt8} {p op len : Nat} {I : Instr} (hb : cc.data.toList.drop p = bs) (h : am_f0 op len bs = true) (hK : (am_K p).1 op = Pure.pure I) : decode cc p = .ok (I, len) := by
  match bs, hb, h with
  | a :: t, hb, h =>
    obtain ⟨h1, h2⟩ := am_and h
    have e := am_u1 hb
    rw [am_beq h1] at e
    rw [am_beq h2]
    refine am_decN e ?_
    rw [hK]
    rfl
theorem am_fuok {cc : ByteArray} {bs : List UInt8} {p op k len : Nat} (F : Nat → Instr) (hb : cc.data.toList.drop p = bs) (h : am_fu op k len bs = true) (hK : (am_K p).1 op = (am_ru1 >>= fun k => Pure.pure (F k))) : decode cc p = .ok (F k, len) := by
  match bs, hb, h with
  | a :: b :: t, hb, h =>
    obtain ⟨h1, h2⟩ := am_and h
    obtain ⟨h2, h3⟩ := am_and h2
    have e := am_u1 hb
    have e' := am_u1 (am_dn hb)
    rw [am_beq h1] at e
    rw [am_beq h2] at e'
    rw [am_beq h3]
    refine am_decN e ?_
    rw [hK]
    show Except.bind (am_ru1 cc (p + 1)) (fun q => .ok (F q.1, q.2)) = _
    rw [e']
    rfl
theorem am_fsok {cc : ByteArray} {bs : List UInt8} {p op len : Nat} {x : Int} (F : Int → Instr) (hb : cc.data.toList.drop p = bs) (h : am_fs op x len bs = true) (hK : (am_K p).1 op = (am_rs1 >>= fun k => Pure.pure (F k))) : decode cc p = .ok (F x, len) := by
  match bs, hb, h with
  | a :: b :: t, hb, h =>
    obtain ⟨h1, h2⟩ := am_and h
    obtain ⟨h2, h3⟩ := am_and h2
    have e := am_u1 hb
    have e' := am_us1 (am_dn hb)
    rw [am_beq h1] at e
    rw [of_decide_eq_true h2] at e'
    rw [am_beq h3]
    refine am_decN e ?_
    rw [hK]
    show Except.bind (am_rs1 cc (p + 1)) (fun q => .ok (F q.1, q.2)) = _
    rw [e']
    rfl
theorem am_fu2ok {cc : ByteArray} {bs : List UInt8} {p op k len : Nat} (F : Nat → Instr) (hb : cc.data.toList.drop p = bs) (h : am_fu2 op k len bs = true) (hK : (am_K p).1 op = (am_ru2 >>= fun k => Pure.pure (F k))) : decode cc p = .ok (F k, len) := by
  match bs, hb, h with
  | a :: b :: c :: t, hb, h =>
    obtain ⟨h1, h2⟩ := am_and h
    obtain ⟨h2, h3⟩ := am_and h2
    have e := am_u1 hb
    have e' := am_u2 (am_dn hb)
    rw [am_beq h1] at e
    rw [am_beq h2] at e'
    rw [am_beq h3]
    refine am_decN e ?_
    rw [hK]
    show Except.bind (am_ru2 cc (p + 1)) (fun q => .ok (F q.1, q.2)) = _
    rw [e']
    rfl
theorem am_fs2ok {cc : ByteArray} {bs : List UInt8} {p op len : Nat} {x : Int} (F : Int → Instr) (hb : cc.data.toList.drop p = bs) (h : am_fs2 op x len bs = true) (hK : (am_K p).1 op = (am_rs2 >>= fun k => Pure.pure (F k))) : decode cc p = .ok (F x, len) := by
  match bs, hb, h with
  | a :: b :: c :: t, hb, h =>
    obtain ⟨h1, h2⟩ := am_and h
    obtain ⟨h2, h3⟩ := am_and h2
    have e := am_u1 hb
    have e' := am_us2 (am_dn hb)
    rw [am_beq h1] at e
    rw [of_decide_eq_true h2] at e'
    rw [am_beq h3]
    refine am_decN e ?_
    rw [hK]
    show Except.bind (am_rs2 cc (p + 1)) (fun q => .ok (F q.1, q.2)) = _
    rw [e']
    rfl
theorem am_fiok {cc : ByteArray} {bs : List UInt8} {p op k len : Nat} {x : Int} (F : Nat → Int → Instr) (hb : cc.data.toList.drop p = bs) (h : am_fi op k x len bs = true) (hK : (am_K p).1 op = (am_ru1 >>= fun k => am_rs1 >>= fun x => Pure.pure (F k x))) : decode cc p = .ok (F k x, len) := by
  match bs, hb, h with
  | a :: b :: c :: t, hb, h =>
    obtain ⟨h1, h2⟩ := am_and h
    obtain ⟨h2, h3⟩ := am_and h2
    obtain ⟨h3, h4⟩ := am_and h3
    have e := am_u1 hb
    have e' := am_u1 (am_dn hb)
    have e'' := am_us1 (am_dn (am_dn hb))
    rw [am_beq h1] at e
    rw [am_beq h2] at e'
    rw [of_decide_eq_true h3] at e''
    rw [am_beq h4]
    refine am_decN e ?_
    rw [hK]
    show Except.bind (am_ru1 cc (p + 1)) (fun q => Except.bind (am_rs1 cc q.2) (fun r => .ok (F q.1 r.1, r.2))) = _
    rw [e']
    show Except.bind (am_rs1 cc (p + 1 + 1)) (fun r => .ok (F k r.1, r.2)) = _
    rw [e'']
    rfl
noncomputable def am_fd (cc : ByteArray) (p len : Nat) (bs : List UInt8) (I : Instr) : Bool := match I with
  | .aload_n 0 => am_f0 42 len bs
  | .aload_n 1 => am_f0 43 len bs
  | .aload_n 2 => am_f0 44 len bs
  | .aload_n 3 => am_f0 45 len bs
  | .iload_n 0 => am_f0 26 len bs
  | .iload_n 1 => am_f0 27 len bs
  | .iload_n 2 => am_f0 28 len bs
  | .iload_n 3 => am_f0 29 len bs
  | .istore_n 0 => am_f0 59 len bs
  | .istore_n 1 => am_f0 60 len bs
  | .istore_n 2 => am_f0 61 len bs
  | .istore_n 3 => am_f0 62 len bs
  | .lload_n 0 => am_f0 30 len bs
  | .lload_n 1 => am_f0 31 len bs
  | .lload_n 2 => am_f0 32 len bs
  | .lload_n 3 => am_f0 33 len bs
  | .iconst (.ofNat 0) => am_f0 3 len bs
  | .iconst (.ofNat 1) => am_f0 4 len bs
  | .iconst (.ofNat 2) => am_f0 5 len bs
  | .iconst (.ofNat 3) => am_f0 6 len bs
  | .iconst (.ofNat 4) => am_f0 7 len bs
  | .iconst (.ofNat 5) => am_f0 8 len bs
  | .lconst 0 => am_f0 9 len bs
  | .lconst 1 => am_f0 10 len bs
  | .ireturn => am_f0 172 len bs
  | .iaload => am_f0 46 len bs
  | .iadd => am_f0 96 len bs
  | .pop => am_f0 87 len bs
  | .iastore => am_f0 79 len bs
  | .isub => am_f0 100 len bs
  | .return_ => am_f0 177 len bs
  | .i2l => am_f0 133 len bs
  | .imul => am_f0 104 len bs
  | .dup => am_f0 89 len bs
  | .iand => am_f0 126 len bs
  | .aaload => am_f0 50 len bs
  | .dup2 => am_f0 92 len bs
  | .ishr => am_f0 122 len bs
  | .lreturn => am_f0 173 len bs
  | .ishl => am_f0 120 len bs
  | .arraylength => am_f0 190 len bs
  | .areturn => am_f0 176 len bs
  | .iload k => am_fu 21 k len bs
  | .istore k => am_fu 54 k len bs
  | .lload k => am_fu 22 k len bs
  | .lstore k => am_fu 55 k len bs
  | .ldc k => am_fu 18 k len bs
  | .getfield k => am_fu2 180 k len bs
  | .invokevirtual k => am_fu2 182 k len bs
  | .invokestatic k => am_fu2 184 k len bs
  | .putfield k => am_fu2 181 k len bs
  | .ldc2_w k => am_fu2 20 k len bs
  | .invokespecial k => am_fu2 183 k len bs
  | .new k => am_fu2 187 k len bs
  | .bipush x => am_fs 16 x len bs
  | .sipush x => am_fs2 17 x len bs
  | .goto x => am_fs2 167 x len bs
  | .ifCond .eq x => am_fs2 153 x len bs
  | .ifCond .ne x => am_fs2 154 x len bs
  | .ifCond .lt x => am_fs2 155 x len bs
  | .ifCond .ge x => am_fs2 156 x len bs
  | .ifCond .gt x => am_fs2 157 x len bs
  | .ifCond .le x => am_fs2 158 x len bs
  | .if_icmp .eq x => am_fs2 159 x len bs
  | .if_icmp .ne x => am_fs2 160 x len bs
  | .if_icmp .lt x => am_fs2 161 x len bs
  | .if_icmp .ge x => am_fs2 162 x len bs
  | .if_icmp .gt x => am_fs2 163 x len bs
  | .if_icmp .le x => am_fs2 164 x len bs
  | .iinc k x => am_fi 132 k x len bs
  | I => decide (decode cc p = .ok (I, len))
theorem am_fdok {cc : ByteArray} {bs : List UInt8} {p len : Nat} {I : Instr} (hb : cc.data.toList.drop p = bs) (h : am_fd cc p len bs I = true) : decode cc p = .ok (I, len) := by
  unfold am_fd at h
  split at h
  · exact am_f0ok hb h rfl
  · exact am_f0ok hb h rfl
  · exact am_f0ok hb h rfl
  · exact am_f0ok hb h rfl
  · exact am_f0ok hb h rfl
  · exact am_f0ok hb h rfl
  · exact am_f0ok hb h rfl
  · exact am_f0ok hb h rfl
  · exact am_f0ok hb h rfl
  · exact am_f0ok hb h rfl
  · exact am_f0ok hb h rfl
  · exact am_f0ok hb h rfl
  · exact am_f0ok hb h rfl
  · exact am_f0ok hb h rfl
  · exact am_f0ok hb h rfl
  · exact am_f0ok hb h rfl
  · exact am_f0ok hb h rfl
  · exact am_f0ok hb h rfl
  · exact am_f0ok hb h rfl
  · exact am_f0ok hb h rfl
  · exact am_f0ok hb h rfl
  · exact am_f0ok hb h rfl
  · exact am_f0ok hb h rfl
  · exact am_f0ok hb h rfl
  · exact am_f0ok hb h rfl
  · exact am_f0ok hb h rfl
  · exact am_f0ok hb h rfl
  · exact am_f0ok hb h rfl
  · exact am_f0ok hb h rfl
  · exact am_f0ok hb h rfl
  · exact am_f0ok hb h rfl
  · exact am_f0ok hb h rfl
  · exact am_f0ok hb h rfl
  · exact am_f0ok hb h rfl
  · exact am_f0ok hb h rfl
  · exact am_f0ok hb h rfl
  · exact am_f0ok hb h rfl
  · exact am_f0ok hb h rfl
  · exact am_f0ok hb h rfl
  · exact am_f0ok hb h rfl
  · exact am_f0ok hb h rfl
  · exact am_f0ok hb h rfl
  · exact am_fuok .iload hb h rfl
  · exact am_fuok .istore hb h rfl
  · exact am_fuok .lload hb h rfl
  · exact am_fuok .lstore hb h rfl
  · exact am_fuok .ldc hb h rfl
  · exact am_fu2ok .getfield hb h rfl
  · exact am_fu2ok .invokevirtual hb h rfl
  · exact am_fu2ok .invokestatic hb h rfl
  · exact am_fu2ok .putfield hb h rfl
  · exact am_fu2ok .ldc2_w hb h rfl
  · exact am_fu2ok .invokespecial hb h rfl
  · exact am_fu2ok .new hb h rfl
  · exact am_fsok .bipush hb h rfl
  · exact am_fs2ok .sipush hb h rfl
  · exact am_fs2ok .goto hb h rfl
  · exact am_fs2ok (.ifCond .eq) hb h rfl
  · exact am_fs2ok (.ifCond .ne) hb h rfl
  · exact am_fs2ok (.ifCond .lt) hb h rfl
  · exact am_fs2ok (.ifCond .ge) hb h rfl
  · exact am_fs2ok (.ifCond .gt) hb h rfl
  · exact am_fs2ok (.ifCond .le) hb h rfl
  · exact am_fs2ok (.if_icmp .eq) hb h rfl
  · exact am_fs2ok (.if_icmp .ne) hb h rfl
  · exact am_fs2ok (.if_icmp .lt) hb h rfl
  · exact am_fs2ok (.if_icmp .ge) hb h rfl
  · exact am_fs2ok (.if_icmp .gt) hb h rfl
  · exact am_fs2ok (.if_icmp .le) hb h rfl
  · exact am_fiok .iinc hb h rfl
  · exact of_decide_eq_true h
noncomputable def am_nxt (n : Nat) : List (Instr × Nat × Nat) → Bool
  | [] => true
  | q :: _ => Nat.beq q.2.1 n
noncomputable def am_lin (cc : ByteArray) : List (Instr × Nat × Nat) → List UInt8 → Bool
  | [], _ => true
  | q :: r, bs => am_fd cc q.2.1 q.2.2 bs q.1 && (am_nxt (q.2.1 + q.2.2) r && am_lin cc r (bs.drop q.2.2))
theorem am_linok {cc : ByteArray} : ∀ (r : List (Instr × Nat × Nat)) (p : Nat) (bs : List UInt8), cc.data.toList.drop p = bs → am_nxt p r = true → am_lin cc r bs = true → am_dchk cc r = true
  | [], _, _, _, _, _ => rfl
  | q :: r, p, bs, hb, hn, h => by
    have hp : q.2.1 = p := am_beq hn
    subst hp
    obtain ⟨h1, h2⟩ := am_and h
    obtain ⟨h2, h3⟩ := am_and h2
    have e := am_fdok hb h1
    have i := am_linok r (q.2.1 + q.2.2) (bs.drop q.2.2) (by rw [← hb, List.drop_drop]) h2 h3
    unfold am_dchk at *
    rw [List.all_cons, i, decide_eq_true e]
    rfl
theorem am_fast {cc : ByteArray} {r : List (Instr × Nat × Nat)} (h : (am_nxt 0 r && am_lin cc r cc.data.toList) = true) : am_dchk cc r = true :=
  am_linok r 0 _ rfl (am_and h).1 (am_and h).2
theorem am_d0 : am_dchk (am_bt 604) am_r0 = true := am_fast (by decide +kernel)
theorem am_d1 : am_dchk (am_bt 663) am_r1 = true := am_fast (by decide +kernel)
theorem am_d2 : am_dchk (am_bt 859) am_r2 = true := am_fast (by decide +kernel)
theorem am_d3 : am_dchk (am_bt 1021) am_r3 = true := am_fast (by decide +kernel)
theorem am_d4 : am_dchk (am_bt 342) am_r4 = true := am_fast (by decide +kernel)
theorem am_d5 : am_dchk (am_bt 474) am_r5 = true := am_fast (by decide +kernel)
theorem am_d6 : am_dchk (am_bt 457) am_r6 = true := am_fast (by decide +kernel)
theorem am_d7 : am_dchk (am_bt 461) am_r7 = true := am_fast (by decide +kernel)
theorem am_d8 : am_dchk (am_bt 467) am_r8 = true := am_fast (by decide +kernel)
theorem am_d9 : am_dchk (am_bt 471) am_r9 = true := am_fast (by decide +kernel)
theorem am_d10 : am_dchk (am_bt 99) am_r10 = true := am_fast (by decide +kernel)
theorem am_d11 : am_dchk (am_bt 394) am_r11 = true := am_fast (by decide +kernel)
theorem am_d12 : am_dchk (am_bt 406) am_r12 = true := am_fast (by decide +kernel)
theorem am_d13 : am_dchk (am_bt 415) am_r13 = true := am_fast (by decide +kernel)
theorem am_d14 : am_dchk (am_bt 419) am_r14 = true := am_fast (by decide +kernel)
theorem am_d15 : am_dchk (am_bt 422) am_r15 = true := am_fast (by decide +kernel)
theorem am_d16 : am_dchk (am_bt 425) am_r16 = true := am_fast (by decide +kernel)
theorem am_d17 : am_dchk (am_bt 429) am_r17 = true := am_fast (by decide +kernel)
theorem am_d18 : am_dchk (am_bt 433) am_r18 = true := am_fast (by decide +kernel)
theorem am_d19 : am_dchk (am_bt 437) am_r19 = true := am_fast (by decide +kernel)
theorem am_d20 : am_dchk (am_bt 441) am_r20 = true := am_fast (by decide +kernel)
theorem am_d21 : am_dchk (am_bt 444) am_r21 = true := am_fast (by decide +kernel)
theorem am_d22 : am_dchk (am_bt 453) am_r22 = true := am_fast (by decide +kernel)
theorem am_d23 : am_dchk (am_bt 505) am_r23 = true := am_fast (by decide +kernel)
theorem am_d24 : am_dchk (am_bt 511) am_r24 = true := am_fast (by decide +kernel)
theorem am_d25 : am_dchk (am_bt 527) am_r25 = true := am_fast (by decide +kernel)
theorem am_d26 : am_dchk (am_bt 542) am_r26 = true := am_fast (by decide +kernel)
theorem am_d27 : am_dchk (am_bt 105) am_r27 = true := am_fast (by decide +kernel)
theorem am_d28 : am_dchk (am_bt 410) am_r28 = true := am_fast (by decide +kernel)
theorem am_d29 : am_dchk (am_bt 519) am_r29 = true := am_fast (by decide +kernel)
theorem am_d30 : am_dchk (am_bt 523) am_r30 = true := am_fast (by decide +kernel)
theorem am_d31 : am_dchk (am_bt 531) am_r31 = true := am_fast (by decide +kernel)
theorem am_d32 : am_dchk (am_bt 535) am_r32 = true := am_fast (by decide +kernel)
theorem am_d33 : am_dchk (am_bt 546) am_r33 = true := am_fast (by decide +kernel)
theorem am_d34 : am_dchk (am_bt 550) am_r34 = true := am_fast (by decide +kernel)
theorem am_d35 : am_dchk (am_bt 565) am_r35 = true := am_fast (by decide +kernel)
theorem am_d36 : am_dchk (am_bt 575) am_r36 = true := am_fast (by decide +kernel)
theorem am_d37 : am_dchk (am_bt 584) am_r37 = true := am_fast (by decide +kernel)
theorem am_d38 : am_dchk (am_bt 588) am_r38 = true := am_fast (by decide +kernel)
theorem am_d39 : am_dchk (am_bt 638) am_r39 = true := am_fast (by decide +kernel)
theorem am_d40 : am_dchk (am_bt 642) am_r40 = true := am_fast (by decide +kernel)
theorem am_d41 : am_dchk (am_bt 647) am_r41 = true := am_fast (by decide +kernel)
theorem am_d42 : am_dchk (am_bt 651) am_r42 = true := am_fast (by decide +kernel)
theorem am_d43 : am_dchk (am_bt 655) am_r43 = true := am_fast (by decide +kernel)
theorem am_d44 : am_dchk (am_bt 659) am_r44 = true := am_fast (by decide +kernel)
theorem am_d45 : am_dchk (am_bt 690) am_r45 = true := am_fast (by decide +kernel)
theorem am_d46 : am_dchk (am_bt 715) am_r46 = true := am_fast (by decide +kernel)
theorem am_d47 : am_dchk (am_bt 773) am_r47 = true := am_fast (by decide +kernel)
theorem am_d48 : am_dchk (am_bt 810) am_r48 = true := am_fast (by decide +kernel)
theorem am_d49 : am_dchk (am_bt 814) am_r49 = true := am_fast (by decide +kernel)
theorem am_d50 : am_dchk (am_bt 924) am_r50 = true := am_fast (by decide +kernel)
theorem am_d51 : am_dchk (am_bt 1014) am_r51 = true := am_fast (by decide +kernel)
theorem am_d52 : am_dchk (am_bt 1018) am_r52 = true := am_fast (by decide +kernel)
theorem am_d53 : am_dchk (am_bt 228) am_r53 = true := am_fast (by decide +kernel)
theorem am_d54 : am_dchk (am_bt 932) am_r54 = true := am_fast (by decide +kernel)
theorem am_d55 : am_dchk (am_bt 236) am_r55 = true := am_fast (by decide +kernel)
theorem am_d56 : am_dchk (am_bt 835) am_r56 = true := am_fast (by decide +kernel)
theorem am_d57 : am_dchk (am_bt 852) am_r57 = true := am_fast (by decide +kernel)
theorem am_d58 : am_dchk (am_bt 937) am_r58 = true := am_fast (by decide +kernel)
theorem am_d59 : am_dchk (am_bt 256) am_r59 = true := am_fast (by decide +kernel)
theorem am_d60 : am_dchk (am_bt 889) am_r60 = true := am_fast (by decide +kernel)
theorem am_d61 : am_dchk (am_bt 909) am_r61 = true := am_fast (by decide +kernel)
theorem am_d62 : am_dchk (am_bt 942) am_r62 = true := am_fast (by decide +kernel)
theorem am_d63 : am_dchk (am_bt 288) am_r63 = true := am_fast (by decide +kernel)
theorem am_d64 : am_dchk (am_bt 671) am_r64 = true := am_fast (by decide +kernel)
theorem am_d65 : am_dchk (am_bt 685) am_r65 = true := am_fast (by decide +kernel)
theorem am_d66 : am_dchk (am_bt 707) am_r66 = true := am_fast (by decide +kernel)
theorem am_d67 : am_dchk (am_bt 711) am_r67 = true := am_fast (by decide +kernel)
theorem am_d68 : am_dchk (am_bt 719) am_r68 = true := am_fast (by decide +kernel)
theorem am_d69 : am_dchk (am_bt 726) am_r69 = true := am_fast (by decide +kernel)
theorem am_d70 : am_dchk (am_bt 730) am_r70 = true := am_fast (by decide +kernel)
theorem am_d71 : am_dchk (am_bt 735) am_r71 = true := am_fast (by decide +kernel)
theorem am_d72 : am_dchk (am_bt 739) am_r72 = true := am_fast (by decide +kernel)
theorem am_d73 : am_dchk (am_bt 744) am_r73 = true := am_fast (by decide +kernel)
theorem am_d74 : am_dchk (am_bt 752) am_r74 = true := am_fast (by decide +kernel)
theorem am_d75 : am_dchk (am_bt 761) am_r75 = true := am_fast (by decide +kernel)
theorem am_d76 : am_dchk (am_bt 769) am_r76 = true := am_fast (by decide +kernel)
theorem am_d77 : am_dchk (am_bt 777) am_r77 = true := am_fast (by decide +kernel)
theorem am_d78 : am_dchk (am_bt 781) am_r78 = true := am_fast (by decide +kernel)
theorem am_d79 : am_dchk (am_bt 785) am_r79 = true := am_fast (by decide +kernel)
theorem am_d80 : am_dchk (am_bt 789) am_r80 = true := am_fast (by decide +kernel)
theorem am_d81 : am_dchk (am_bt 798) am_r81 = true := am_fast (by decide +kernel)
theorem am_d82 : am_dchk (am_bt 802) am_r82 = true := am_fast (by decide +kernel)
theorem am_d83 : am_dchk (am_bt 818) am_r83 = true := am_fast (by decide +kernel)
theorem am_d84 : am_dchk (am_bt 823) am_r84 = true := am_fast (by decide +kernel)
theorem am_d85 : am_dchk (am_bt 901) am_r85 = true := am_fast (by decide +kernel)
theorem am_d86 : am_dchk (am_bt 905) am_r86 = true := am_fast (by decide +kernel)
theorem am_d87 : am_dchk (am_bt 919) am_r87 = true := am_fast (by decide +kernel)
theorem am_d88 : am_dchk (am_bt 320) am_r88 = true := am_fast (by decide +kernel)
theorem am_d89 : am_dchk (am_bt 847) am_r89 = true := am_fast (by decide +kernel)
theorem am_d90 : am_dchk (am_bt 856) am_r90 = true := am_fast (by decide +kernel)
theorem am_d91 : am_dchk (am_bt 863) am_r91 = true := am_fast (by decide +kernel)
theorem am_d92 : am_dchk (am_bt 871) am_r92 = true := am_fast (by decide +kernel)
theorem am_d93 : am_dchk (am_bt 879) am_r93 = true := am_fast (by decide +kernel)
theorem am_d94 : am_dchk (am_bt 337) am_r94 = true := am_fast (by decide +kernel)
theorem am_d95 : am_dchk (am_bt 955) am_r95 = true := am_fast (by decide +kernel)
theorem am_d96 : am_dchk (am_bt 958) am_r96 = true := am_fast (by decide +kernel)
theorem am_d97 : am_dchk (am_bt 966) am_r97 = true := am_fast (by decide +kernel)
theorem am_d98 : am_dchk (am_bt 970) am_r98 = true := am_fast (by decide +kernel)
theorem am_d99 : am_dchk (am_bt 974) am_r99 = true := am_fast (by decide +kernel)
theorem am_d100 : am_dchk (am_bt 979) am_r100 = true := am_fast (by decide +kernel)
theorem am_d101 : am_dchk (am_bt 988) am_r101 = true := am_fast (by decide +kernel)
theorem am_d102 : am_dchk (am_bt 992) am_r102 = true := am_fast (by decide +kernel)
theorem am_d103 : am_dchk (am_bt 996) am_r103 = true := am_fast (by decide +kernel)
theorem am_d104 : am_dchk (am_bt 1001) am_r104 = true := am_fast (by decide +kernel)
theorem am_d105 : am_dchk (am_bt 91) am_r105 = true := am_fast (by decide +kernel)
theorem am_d106 : am_dchk (am_bt 387) am_r106 = true := am_fast (by decide +kernel)
theorem am_d107 : am_dchk (am_bt 390) am_r107 = true := am_fast (by decide +kernel)
theorem am_d108 : am_dchk (am_bt 398) am_r108 = true := am_fast (by decide +kernel)
theorem am_d109 : am_dchk (am_bt 402) am_r109 = true := am_fast (by decide +kernel)
theorem am_d110 : am_dchk (am_bt 538) am_r110 = true := am_fast (by decide +kernel)
theorem am_d111 : am_dchk (am_bt 557) am_r111 = true := am_fast (by decide +kernel)
theorem am_d112 : am_dchk (am_bt 561) am_r112 = true := am_fast (by decide +kernel)
theorem am_d113 : am_dchk (am_bt 569) am_r113 = true := am_fast (by decide +kernel)
theorem am_d114 : am_dchk (am_bt 580) am_r114 = true := am_fast (by decide +kernel)
theorem am_d115 : am_dchk (am_bt 592) am_r115 = true := am_fast (by decide +kernel)
theorem am_d116 : am_dchk (am_bt 596) am_r116 = true := am_fast (by decide +kernel)
theorem am_d117 : am_dchk (am_bt 601) am_r117 = true := am_fast (by decide +kernel)
theorem am_d118 : am_dchk (am_bt 608) am_r118 = true := am_fast (by decide +kernel)
theorem am_d119 : am_dchk (am_bt 612) am_r119 = true := am_fast (by decide +kernel)
theorem am_d120 : am_dchk (am_bt 616) am_r120 = true := am_fast (by decide +kernel)
theorem am_d121 : am_dchk (am_bt 622) am_r121 = true := am_fast (by decide +kernel)
theorem am_d122 : am_dchk (am_bt 626) am_r122 = true := am_fast (by decide +kernel)
theorem am_d123 : am_dchk (am_bt 630) am_r123 = true := am_fast (by decide +kernel)
theorem am_d124 : am_dchk (am_bt 634) am_r124 = true := am_fast (by decide +kernel)
theorem am_d125 : am_dchk (am_bt 667) am_r125 = true := am_fast (by decide +kernel)
theorem am_d126 : am_dchk (am_bt 677) am_r126 = true := am_fast (by decide +kernel)
theorem am_d127 : am_dchk (am_bt 681) am_r127 = true := am_fast (by decide +kernel)
theorem am_d128 : am_dchk (am_bt 695) am_r128 = true := am_fast (by decide +kernel)
theorem am_d129 : am_dchk (am_bt 699) am_r129 = true := am_fast (by decide +kernel)
theorem am_d130 : am_dchk (am_bt 703) am_r130 = true := am_fast (by decide +kernel)
theorem am_d131 : am_dchk (am_bt 748) am_r131 = true := am_fast (by decide +kernel)
theorem am_d132 : am_dchk (am_bt 757) am_r132 = true := am_fast (by decide +kernel)
theorem am_d133 : am_dchk (am_bt 765) am_r133 = true := am_fast (by decide +kernel)
theorem am_d134 : am_dchk (am_bt 793) am_r134 = true := am_fast (by decide +kernel)
theorem am_d135 : am_dchk (am_bt 805) am_r135 = true := am_fast (by decide +kernel)
theorem am_d136 : am_dchk (am_bt 827) am_r136 = true := am_fast (by decide +kernel)
theorem am_d137 : am_dchk (am_bt 831) am_r137 = true := am_fast (by decide +kernel)
theorem am_d138 : am_dchk (am_bt 839) am_r138 = true := am_fast (by decide +kernel)
theorem am_d139 : am_dchk (am_bt 843) am_r139 = true := am_fast (by decide +kernel)
theorem am_d140 : am_dchk (am_bt 867) am_r140 = true := am_fast (by decide +kernel)
theorem am_d141 : am_dchk (am_bt 875) am_r141 = true := am_fast (by decide +kernel)
theorem am_d142 : am_dchk (am_bt 885) am_r142 = true := am_fast (by decide +kernel)
theorem am_d143 : am_dchk (am_bt 893) am_r143 = true := am_fast (by decide +kernel)
theorem am_d144 : am_dchk (am_bt 897) am_r144 = true := am_fast (by decide +kernel)
theorem am_d145 : am_dchk (am_bt 915) am_r145 = true := am_fast (by decide +kernel)
theorem am_d146 : am_dchk (am_bt 928) am_r146 = true := am_fast (by decide +kernel)
theorem am_d147 : am_dchk (am_bt 947) am_r147 = true := am_fast (by decide +kernel)
theorem am_d148 : am_dchk (am_bt 951) am_r148 = true := am_fast (by decide +kernel)
theorem am_d149 : am_dchk (am_bt 962) am_r149 = true := am_fast (by decide +kernel)
theorem am_d150 : am_dchk (am_bt 984) am_r150 = true := am_fast (by decide +kernel)
theorem am_d151 : am_dchk (am_bt 1006) am_r151 = true := am_fast (by decide +kernel)
theorem am_d152 : am_dchk (am_bt 1010) am_r152 = true := am_fast (by decide +kernel)
theorem am_d153 : am_dchk (am_bt 1030) am_r153 = true := am_fast (by decide +kernel)
theorem am_d154 : am_dchk (am_bt 1035) am_r154 = true := am_fast (by decide +kernel)
theorem am_d155 : am_dchk (am_bt 1039) am_r155 = true := am_fast (by decide +kernel)
theorem am_d156 : am_dchk (am_bt 1132) am_r156 = true := am_fast (by decide +kernel)
theorem am_d157 : am_dchk (am_bt 1136) am_r157 = true := am_fast (by decide +kernel)
theorem am_d158 : am_dchk (am_bt 1140) am_r158 = true := am_fast (by decide +kernel)
theorem am_d159 : am_dchk (am_bt 1144) am_r159 = true := am_fast (by decide +kernel)
theorem am_d160 : am_dchk (am_bt 1148) am_r160 = true := am_fast (by decide +kernel)
theorem am_d161 : am_dchk (am_bt 1152) am_r161 = true := am_fast (by decide +kernel)
theorem am_d162 : am_dchk (am_bt 1160) am_r162 = true := am_fast (by decide +kernel)
theorem am_d163 : am_dchk (am_bt 1164) am_r163 = true := am_fast (by decide +kernel)
theorem am_d164 : am_dchk (am_bt 1168) am_r164 = true := am_fast (by decide +kernel)
theorem am_d165 : am_dchk (am_bt 1172) am_r165 = true := am_fast (by decide +kernel)
theorem am_d166 : am_dchk (am_bt 1176) am_r166 = true := am_fast (by decide +kernel)
theorem am_d167 : am_dchk (am_bt 1180) am_r167 = true := am_fast (by decide +kernel)
theorem am_d168 : am_dchk (am_bt 1184) am_r168 = true := am_fast (by decide +kernel)
theorem am_d169 : am_dchk (am_bt 1188) am_r169 = true := am_fast (by decide +kernel)
theorem am_d170 : am_dchk (am_bt 1192) am_r170 = true := am_fast (by decide +kernel)
theorem am_d171 : am_dchk (am_bt 1196) am_r171 = true := am_fast (by decide +kernel)
theorem am_d172 : am_dchk (am_bt 1200) am_r172 = true := am_fast (by decide +kernel)
theorem am_d173 : am_dchk (am_bt 1204) am_r173 = true := am_fast (by decide +kernel)
theorem am_d174 : am_dchk (am_bt 1208) am_r174 = true := am_fast (by decide +kernel)
theorem am_d175 : am_dchk (am_bt 1212) am_r175 = true := am_fast (by decide +kernel)
theorem am_d176 : am_dchk (am_bt 1216) am_r176 = true := am_fast (by decide +kernel)
theorem am_d177 : am_dchk (am_bt 1220) am_r177 = true := am_fast (by decide +kernel)
theorem am_d178 : am_dchk (am_bt 1225) am_r178 = true := am_fast (by decide +kernel)
theorem am_d179 : am_dchk (am_bt 1228) am_r179 = true := am_fast (by decide +kernel)
theorem am_d180 : am_dchk (am_bt 1232) am_r180 = true := am_fast (by decide +kernel)
theorem am_d181 : am_dchk (am_bt 1236) am_r181 = true := am_fast (by decide +kernel)
theorem am_d182 : am_dchk (am_bt 1241) am_r182 = true := am_fast (by decide +kernel)
theorem am_d183 : am_dchk (am_bt 1244) am_r183 = true := am_fast (by decide +kernel)
theorem am_d184 : am_dchk (am_bt 1248) am_r184 = true := am_fast (by decide +kernel)
theorem am_d185 : am_dchk (am_bt 1252) am_r185 = true := am_fast (by decide +kernel)
theorem am_d186 : am_dchk (am_bt 1256) am_r186 = true := am_fast (by decide +kernel)
theorem am_d187 : am_dchk (am_bt 1262) am_r187 = true := am_fast (by decide +kernel)
theorem am_d188 : am_dchk (am_bt 1266) am_r188 = true := am_fast (by decide +kernel)
theorem am_d189 : am_dchk (am_bt 1270) am_r189 = true := am_fast (by decide +kernel)
theorem am_d190 : am_dchk (am_bt 1274) am_r190 = true := am_fast (by decide +kernel)
theorem am_d191 : am_dchk (am_bt 1278) am_r191 = true := am_fast (by decide +kernel)
theorem am_d192 : am_dchk (am_bt 1282) am_r192 = true := am_fast (by decide +kernel)
theorem am_d193 : am_dchk (am_bt 1287) am_r193 = true := am_fast (by decide +kernel)
theorem am_d194 : am_dchk (am_bt 1292) am_r194 = true := am_fast (by decide +kernel)
theorem am_d195 : am_dchk (am_bt 1296) am_r195 = true := am_fast (by decide +kernel)
theorem am_d196 : am_dchk (am_bt 1300) am_r196 = true := am_fast (by decide +kernel)
theorem am_d197 : am_dchk (am_bt 1304) am_r197 = true := am_fast (by decide +kernel)
theorem am_d198 : am_dchk (am_bt 1308) am_r198 = true := am_fast (by decide +kernel)
theorem am_d199 : am_dchk (am_bt 1313) am_r199 = true := am_fast (by decide +kernel)
theorem am_d200 : am_dchk (am_bt 1317) am_r200 = true := am_fast (by decide +kernel)
theorem am_d201 : am_dchk (am_bt 1321) am_r201 = true := am_fast (by decide +kernel)
theorem am_d202 : am_dchk (am_bt 1325) am_r202 = true := am_fast (by decide +kernel)
theorem am_d203 : am_dchk (am_bt 1329) am_r203 = true := am_fast (by decide +kernel)
theorem am_d204 : am_dchk (am_bt 1333) am_r204 = true := am_fast (by decide +kernel)
theorem am_d205 : am_dchk (am_bt 1337) am_r205 = true := am_fast (by decide +kernel)
theorem am_d206 : am_dchk (am_bt 1341) am_r206 = true := am_fast (by decide +kernel)
theorem am_d207 : am_dchk (am_bt 1345) am_r207 = true := am_fast (by decide +kernel)
theorem am_d208 : am_dchk (am_bt 1349) am_r208 = true := am_fast (by decide +kernel)
theorem am_d209 : am_dchk (am_bt 1353) am_r209 = true := am_fast (by decide +kernel)
theorem am_d210 : am_dchk (am_bt 1357) am_r210 = true := am_fast (by decide +kernel)
theorem am_d211 : am_dchk (am_bt 1361) am_r211 = true := am_fast (by decide +kernel)
theorem am_d212 : am_dchk (am_bt 1365) am_r212 = true := am_fast (by decide +kernel)
theorem am_d213 : am_dchk (am_bt 1369) am_r213 = true := am_fast (by decide +kernel)
theorem am_d214 : am_dchk (am_bt 1373) am_r214 = true := am_fast (by decide +kernel)
theorem am_d215 : am_dchk (am_bt 1377) am_r215 = true := am_fast (by decide +kernel)
theorem am_d216 : am_dchk (am_bt 1382) am_r216 = true := am_fast (by decide +kernel)
theorem am_d217 : am_dchk (am_bt 1386) am_r217 = true := am_fast (by decide +kernel)
theorem am_d218 : am_dchk (am_bt 1390) am_r218 = true := am_fast (by decide +kernel)
theorem am_d219 : am_dchk (am_bt 1394) am_r219 = true := am_fast (by decide +kernel)
theorem am_d220 : am_dchk (am_bt 1397) am_r220 = true := am_fast (by decide +kernel)
theorem am_d221 : am_dchk (am_bt 1401) am_r221 = true := am_fast (by decide +kernel)
theorem am_d222 : am_dchk (am_bt 1405) am_r222 = true := am_fast (by decide +kernel)
theorem am_d223 : am_dchk (am_bt 1409) am_r223 = true := am_fast (by decide +kernel)
theorem am_d224 : am_dchk (am_bt 1413) am_r224 = true := am_fast (by decide +kernel)
theorem am_d225 : am_dchk (am_bt 1417) am_r225 = true := am_fast (by decide +kernel)
theorem am_d226 : am_dchk (am_bt 1421) am_r226 = true := am_fast (by decide +kernel)
theorem am_d227 : am_dchk (am_bt 1426) am_r227 = true := am_fast (by decide +kernel)
theorem am_d228 : am_dchk (am_bt 1430) am_r228 = true := am_fast (by decide +kernel)
theorem am_d229 : am_dchk (am_bt 1434) am_r229 = true := am_fast (by decide +kernel)
theorem am_d230 : am_dchk (am_bt 1439) am_r230 = true := am_fast (by decide +kernel)
theorem am_d231 : am_dchk (am_bt 1443) am_r231 = true := am_fast (by decide +kernel)
theorem am_d232 : am_dchk (am_bt 1447) am_r232 = true := am_fast (by decide +kernel)
theorem am_d233 : am_dchk (am_bt 1451) am_r233 = true := am_fast (by decide +kernel)
theorem am_d234 : am_dchk (am_bt 1454) am_r234 = true := am_fast (by decide +kernel)
theorem am_d235 : am_dchk (am_bt 1459) am_r235 = true := am_fast (by decide +kernel)
theorem am_d236 : am_dchk (am_bt 1463) am_r236 = true := am_fast (by decide +kernel)
theorem am_d237 : am_dchk (am_bt 1469) am_r237 = true := am_fast (by decide +kernel)
theorem am_d238 : am_dchk (am_bt 1473) am_r238 = true := am_fast (by decide +kernel)
theorem am_d239 : am_dchk code am_r239 = true := am_fast (by decide +kernel)
