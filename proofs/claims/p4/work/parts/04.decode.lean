/-! Each instruction is what its bytes decode to: one walk along a method's bytes (by program, gen04.py) -/
noncomputable def am_dchk (cc : ByteArray) (r : List (Instr × Nat × Nat)) : Bool := r.all fun q => decide (decode cc q.2.1 = .ok (q.1, q.2.2))
/-- what follows upon an instruction's first byte -/
noncomputable def am_K (p : Nat) : { K : Nat → Jvm.ClassFile.Decoder Instr // Jvm.ClassFile.Decoder.instr p = (Jvm.ClassFile.Reader.u1 >>= K) } := ⟨_, rfl⟩
noncomputable abbrev am_ru1 : Jvm.ClassFile.Decoder Nat := Jvm.ClassFile.Reader.u1
noncomputable abbrev am_rs1 : Jvm.ClassFile.Decoder Int := Jvm.ClassFile.Reader.s1
noncomputable abbrev am_ru2 : Jvm.ClassFile.Decoder Nat := Jvm.ClassFile.Reader.u2
noncomputable abbrev am_rs2 : Jvm.ClassFile.Decoder Int := Jvm.ClassFile.Reader.s2
theorem am_u1 {cc : ByteArray} {p : Nat} {a : UInt8} {t : List UInt8} (h : cc.data.toList.drop p = a :: t) : am_ru1 cc p = .ok (a.toNat, p + 1) := by
  have hl : p < cc.data.toList.length := by
    have := congrArg List.length h
    rw [List.length_drop, List.length_cons] at this
    omega
  have hs : p < cc.size := hl
  have hg : cc[p] = a := by
    rw [List.drop_eq_getElem_cons hl] at h
    exact (List.cons.inj h).1
  show (if h : p < cc.size then (do set (p + 1); pure cc[p].toNat : Jvm.ClassFile.Decoder Nat) else throw (Jvm.ClassFile.HasTruncated.truncated p)) cc p = _
  rw [dif_pos hs, hg]
  rfl
theorem am_dn {l : List UInt8} {p : Nat} {a : UInt8} {t : List UInt8} (h : l.drop p = a :: t) : l.drop (p + 1) = t := by
  have := congrArg (List.drop 1) h
  rwa [List.drop_drop, List.drop_one, List.tail_cons] at this
theorem am_us1 {cc : ByteArray} {p : Nat} {a : UInt8} {t : List UInt8} (h : cc.data.toList.drop p = a :: t) : am_rs1 cc p = .ok (Jvm.ClassFile.Reader.signed 8 a.toNat, p + 1) := by
  have e := am_u1 h
  show Except.map (fun q : Nat × Nat => (Jvm.ClassFile.Reader.signed 8 q.1, q.2)) (am_ru1 cc p) = _
  rw [e]
  rfl
theorem am_u2 {cc : ByteArray} {p : Nat} {a b : UInt8} {t : List UInt8} (h : cc.data.toList.drop p = a :: b :: t) : am_ru2 cc p = .ok (a.toNat * 256 + b.toNat, p + 2) := by
  have e := am_u1 h
  have e' := am_u1 (am_dn h)
  show Except.bind (am_ru1 cc p) (fun q => Except.bind (am_ru1 cc q.2) (fun q' => .ok (q.1 * 256 + q'.1, q'.2))) = _
  rw [e]
  show Except.bind (am_ru1 cc (p + 1)) (fun q' => .ok (a.toNat * 256 + q'.1, q'.2)) = _
  rw [e']
  rfl
theorem am_us2 {cc : ByteArray} {p : Nat} {a b : UInt8} {t : List UInt8} (h : cc.data.toList.drop p = a :: b :: t) : am_rs2 cc p = .ok (Jvm.ClassFile.Reader.signed 16 (a.toNat * 256 + b.toNat), p + 2) := by
  have e := am_u2 h
  show Except.map (fun q : Nat × Nat => (Jvm.ClassFile.Reader.signed 16 q.1, q.2)) (am_ru2 cc p) = _
  rw [e]
  rfl
theorem am_decN {cc : ByteArray} {p b n : Nat} {I : Instr} (h : am_ru1 cc p = .ok (b, p + 1)) (hr : (am_K p).1 b cc (p + 1) = .ok (I, p + n)) : decode cc p = .ok (I, n) := by
  have e : Jvm.ClassFile.Reader.runAt (Jvm.ClassFile.Decoder.instr p) cc p = .ok (I, p + n) := by
    rw [(am_K p).2]
    show Except.bind (am_ru1 cc p) (fun q => (am_K p).1 q.1 cc q.2) = _
    rw [h]
    exact hr
  show Except.bind (Jvm.ClassFile.Reader.runAt (Jvm.ClassFile.Decoder.instr p) cc p) (fun q => .ok (q.1, q.2 - p)) = _
  rw [e]
  show Except.ok (I, p + n - p) = _
  rw [Nat.add_sub_cancel_left]
noncomputable def am_f0 (op len : Nat) : List UInt8 → Bool
  | a :: _ => Nat.beq a.toNat op && Nat.beq len 1
  | _ => false
noncomputable def am_fu (op k len : Nat) : List UInt8 → Bool
  | a :: b :: _ => Nat.beq a.toNat op && (Nat.beq b.toNat k && Nat.beq len 2)
  | _ => false
noncomputable def am_fs (op : Nat) (x : Int) (len : Nat) : List UInt8 → Bool
  | a :: b :: _ => Nat.beq a.toNat op && (decide (Jvm.ClassFile.Reader.signed 8 b.toNat = x) && Nat.beq len 2)
  | _ => false
noncomputable def am_fu2 (op k len : Nat) : List UInt8 → Bool
  | a :: b :: c :: _ => Nat.beq a.toNat op && (Nat.beq (b.toNat * 256 + c.toNat) k && Nat.beq len 3)
  | _ => false
noncomputable def am_fs2 (op : Nat) (x : Int) (len : Nat) : List UInt8 → Bool
  | a :: b :: c :: _ => Nat.beq a.toNat op && (decide (Jvm.ClassFile.Reader.signed 16 (b.toNat * 256 + c.toNat) = x) && Nat.beq len 3)
  | _ => false
noncomputable def am_fi (op k : Nat) (x : Int) (len : Nat) : List UInt8 → Bool
  | a :: b :: c :: _ => Nat.beq a.toNat op && (Nat.beq b.toNat k && (decide (Jvm.ClassFile.Reader.signed 8 c.toNat = x) && Nat.beq len 3))
  | _ => false
theorem am_beq {a b : Nat} (h : Nat.beq a b = true) : a = b := Nat.eq_of_beq_eq_true h
theorem am_and {a b : Bool} (h : (a && b) = true) : a = true ∧ b = true := by
  rwa [Bool.and_eq_true] at h
theorem am_f0ok {cc : ByteArray} {bs : List UInt8} {p op len : Nat} {I : Instr} (hb : cc.data.toList.drop p = bs) (h : am_f0 op len bs = true) (hK : (am_K p).1 op = Pure.pure I) : decode cc p = .ok (I, len) := by
  match bs, hb, h with
  | a :: t, hb, h =>
    obtain ⟨h1, h2⟩ := am_and h
    have e := am_u1 hb
    rw [am_beq h1] at e
    rw [am_beq h2]
    refine am_decN e ?_
    rw [hK]
    rfl
theorem am_fuok {cc : ByteArray} {bs : List UInt8} {p op k len : Nat} (F : Nat → Instr) (hb : cc.data.toList.drop p = bs) (h : am_fu op k len bs = true) (hK : (am_K p).1 op = (am_ru1 >>= fun k => Pure.pure (F k))) : decode cc p = .ok (F k, len) := by
  match bs, hb, h with
  | a :: b :: t, hb, h =>
    obtain ⟨h1, h2⟩ := am_and h
    obtain ⟨h2, h3⟩ := am_and h2
    have e := am_u1 hb
    have e' := am_u1 (am_dn hb)
    rw [am_beq h1] at e
    rw [am_beq h2] at e'
    rw [am_beq h3]
    refine am_decN e ?_
    rw [hK]
    show Except.bind (am_ru1 cc (p + 1)) (fun q => .ok (F q.1, q.2)) = _
    rw [e']
    rfl
theorem am_fsok {cc : ByteArray} {bs : List UInt8} {p op len : Nat} {x : Int} (F : Int → Instr) (hb : cc.data.toList.drop p = bs) (h : am_fs op x len bs = true) (hK : (am_K p).1 op = (am_rs1 >>= fun k => Pure.pure (F k))) : decode cc p = .ok (F x, len) := by
  match bs, hb, h with
  | a :: b :: t, hb, h =>
    obtain ⟨h1, h2⟩ := am_and h
    obtain ⟨h2, h3⟩ := am_and h2
    have e := am_u1 hb
    have e' := am_us1 (am_dn hb)
    rw [am_beq h1] at e
    rw [of_decide_eq_true h2] at e'
    rw [am_beq h3]
    refine am_decN e ?_
    rw [hK]
    show Except.bind (am_rs1 cc (p + 1)) (fun q => .ok (F q.1, q.2)) = _
    rw [e']
    rfl
theorem am_fu2ok {cc : ByteArray} {bs : List UInt8} {p op k len : Nat} (F : Nat → Instr) (hb : cc.data.toList.drop p = bs) (h : am_fu2 op k len bs = true) (hK : (am_K p).1 op = (am_ru2 >>= fun k => Pure.pure (F k))) : decode cc p = .ok (F k, len) := by
  match bs, hb, h with
  | a :: b :: c :: t, hb, h =>
    obtain ⟨h1, h2⟩ := am_and h
    obtain ⟨h2, h3⟩ := am_and h2
    have e := am_u1 hb
    have e' := am_u2 (am_dn hb)
    rw [am_beq h1] at e
    rw [am_beq h2] at e'
    rw [am_beq h3]
    refine am_decN e ?_
    rw [hK]
    show Except.bind (am_ru2 cc (p + 1)) (fun q => .ok (F q.1, q.2)) = _
    rw [e']
    rfl
theorem am_fs2ok {cc : ByteArray} {bs : List UInt8} {p op len : Nat} {x : Int} (F : Int → Instr) (hb : cc.data.toList.drop p = bs) (h : am_fs2 op x len bs = true) (hK : (am_K p).1 op = (am_rs2 >>= fun k => Pure.pure (F k))) : decode cc p = .ok (F x, len) := by
  match bs, hb, h with
  | a :: b :: c :: t, hb, h =>
    obtain ⟨h1, h2⟩ := am_and h
    obtain ⟨h2, h3⟩ := am_and h2
    have e := am_u1 hb
    have e' := am_us2 (am_dn hb)
    rw [am_beq h1] at e
    rw [of_decide_eq_true h2] at e'
    rw [am_beq h3]
    refine am_decN e ?_
    rw [hK]
    show Except.bind (am_rs2 cc (p + 1)) (fun q => .ok (F q.1, q.2)) = _
    rw [e']
    rfl
theorem am_fiok {cc : ByteArray} {bs : List UInt8} {p op k len : Nat} {x : Int} (F : Nat → Int → Instr) (hb : cc.data.toList.drop p = bs) (h : am_fi op k x len bs = true) (hK : (am_K p).1 op = (am_ru1 >>= fun k => am_rs1 >>= fun x => Pure.pure (F k x))) : decode cc p = .ok (F k x, len) := by
  match bs, hb, h with
  | a :: b :: c :: t, hb, h =>
    obtain ⟨h1, h2⟩ := am_and h
    obtain ⟨h2, h3⟩ := am_and h2
    obtain ⟨h3, h4⟩ := am_and h3
    have e := am_u1 hb
    have e' := am_u1 (am_dn hb)
    have e'' := am_us1 (am_dn (am_dn hb))
    rw [am_beq h1] at e
    rw [am_beq h2] at e'
    rw [of_decide_eq_true h3] at e''
    rw [am_beq h4]
    refine am_decN e ?_
    rw [hK]
    show Except.bind (am_ru1 cc (p + 1)) (fun q => Except.bind (am_rs1 cc q.2) (fun r => .ok (F q.1 r.1, r.2))) = _
    rw [e']
    show Except.bind (am_rs1 cc (p + 1 + 1)) (fun r => .ok (F k r.1, r.2)) = _
    rw [e'']
    rfl
noncomputable def am_fd (cc : ByteArray) (p len : Nat) (bs : List UInt8) (I : Instr) : Bool := match I with
  | .aload_n 0 => am_f0 42 len bs
  | .aload_n 1 => am_f0 43 len bs
  | .aload_n 2 => am_f0 44 len bs
  | .aload_n 3 => am_f0 45 len bs
  | .iload_n 0 => am_f0 26 len bs
  | .iload_n 1 => am_f0 27 len bs
  | .iload_n 2 => am_f0 28 len bs
  | .iload_n 3 => am_f0 29 len bs
  | .istore_n 0 => am_f0 59 len bs
  | .istore_n 1 => am_f0 60 len bs
  | .istore_n 2 => am_f0 61 len bs
  | .istore_n 3 => am_f0 62 len bs
  | .lload_n 0 => am_f0 30 len bs
  | .lload_n 1 => am_f0 31 len bs
  | .lload_n 2 => am_f0 32 len bs
  | .lload_n 3 => am_f0 33 len bs
  | .iconst (.ofNat 0) => am_f0 3 len bs
  | .iconst (.ofNat 1) => am_f0 4 len bs
  | .iconst (.ofNat 2) => am_f0 5 len bs
  | .iconst (.ofNat 3) => am_f0 6 len bs
  | .iconst (.ofNat 4) => am_f0 7 len bs
  | .iconst (.ofNat 5) => am_f0 8 len bs
  | .lconst 0 => am_f0 9 len bs
  | .lconst 1 => am_f0 10 len bs
  | .ireturn => am_f0 172 len bs
  | .iaload => am_f0 46 len bs
  | .iadd => am_f0 96 len bs
  | .pop => am_f0 87 len bs
  | .iastore => am_f0 79 len bs
  | .isub => am_f0 100 len bs
  | .return_ => am_f0 177 len bs
  | .i2l => am_f0 133 len bs
  | .imul => am_f0 104 len bs
  | .dup => am_f0 89 len bs
  | .iand => am_f0 126 len bs
  | .aaload => am_f0 50 len bs
  | .dup2 => am_f0 92 len bs
  | .ishr => am_f0 122 len bs
  | .lreturn => am_f0 173 len bs
  | .ishl => am_f0 120 len bs
  | .arraylength => am_f0 190 len bs
  | .areturn => am_f0 176 len bs
  | .iload k => am_fu 21 k len bs
  | .istore k => am_fu 54 k len bs
  | .lload k => am_fu 22 k len bs
  | .lstore k => am_fu 55 k len bs
  | .ldc k => am_fu 18 k len bs
  | .getfield k => am_fu2 180 k len bs
  | .invokevirtual k => am_fu2 182 k len bs
  | .invokestatic k => am_fu2 184 k len bs
  | .putfield k => am_fu2 181 k len bs
  | .ldc2_w k => am_fu2 20 k len bs
  | .invokespecial k => am_fu2 183 k len bs
  | .new k => am_fu2 187 k len bs
  | .bipush x => am_fs 16 x len bs
  | .sipush x => am_fs2 17 x len bs
  | .goto x => am_fs2 167 x len bs
  | .ifCond .eq x => am_fs2 153 x len bs
  | .ifCond .ne x => am_fs2 154 x len bs
  | .ifCond .lt x => am_fs2 155 x len bs
  | .ifCond .ge x => am_fs2 156 x len bs
  | .ifCond .gt x => am_fs2 157 x len bs
  | .ifCond .le x => am_fs2 158 x len bs
  | .if_icmp .eq x => am_fs2 159 x len bs
  | .if_icmp .ne x => am_fs2 160 x len bs
  | .if_icmp .lt x => am_fs2 161 x len bs
  | .if_icmp .ge x => am_fs2 162 x len bs
  | .if_icmp .gt x => am_fs2 163 x len bs
  | .if_icmp .le x => am_fs2 164 x len bs
  | .iinc k x => am_fi 132 k x len bs
  | I => decide (decode cc p = .ok (I, len))
theorem am_fdok {cc : ByteArray} {bs : List UInt8} {p len : Nat} {I : Instr} (hb : cc.data.toList.drop p = bs) (h : am_fd cc p len bs I = true) : decode cc p = .ok (I, len) := by
  unfold am_fd at h
  split at h
  · exact am_f0ok hb h rfl
  · exact am_f0ok hb h rfl
  · exact am_f0ok hb h rfl
  · exact am_f0ok hb h rfl
  · exact am_f0ok hb h rfl
  · exact am_f0ok hb h rfl
  · exact am_f0ok hb h rfl
  · exact am_f0ok hb h rfl
  · exact am_f0ok hb h rfl
  · exact am_f0ok hb h rfl
  · exact am_f0ok hb h rfl
  · exact am_f0ok hb h rfl
  · exact am_f0ok hb h rfl
  · exact am_f0ok hb h rfl
  · exact am_f0ok hb h rfl
  · exact am_f0ok hb h rfl
  · exact am_f0ok hb h rfl
  · exact am_f0ok hb h rfl
  · exact am_f0ok hb h rfl
  · exact am_f0ok hb h rfl
  · exact am_f0ok hb h rfl
  · exact am_f0ok hb h rfl
  · exact am_f0ok hb h rfl
  · exact am_f0ok hb h rfl
  · exact am_f0ok hb h rfl
  · exact am_f0ok hb h rfl
  · exact am_f0ok hb h rfl
  · exact am_f0ok hb h rfl
  · exact am_f0ok hb h rfl
  · exact am_f0ok hb h rfl
  · exact am_f0ok hb h rfl
  · exact am_f0ok hb h rfl
  · exact am_f0ok hb h rfl
  · exact am_f0ok hb h rfl
  · exact am_f0ok hb h rfl
  · exact am_f0ok hb h rfl
  · exact am_f0ok hb h rfl
  · exact am_f0ok hb h rfl
  · exact am_f0ok hb h rfl
  · exact am_f0ok hb h rfl
  · exact am_f0ok hb h rfl
  · exact am_f0ok hb h rfl
  · exact am_fuok .iload hb h rfl
  · exact am_fuok .istore hb h rfl
  · exact am_fuok .lload hb h rfl
  · exact am_fuok .lstore hb h rfl
  · exact am_fuok .ldc hb h rfl
  · exact am_fu2ok .getfield hb h rfl
  · exact am_fu2ok .invokevirtual hb h rfl
  · exact am_fu2ok .invokestatic hb h rfl
  · exact am_fu2ok .putfield hb h rfl
  · exact am_fu2ok .ldc2_w hb h rfl
  · exact am_fu2ok .invokespecial hb h rfl
  · exact am_fu2ok .new hb h rfl
  · exact am_fsok .bipush hb h rfl
  · exact am_fs2ok .sipush hb h rfl
  · exact am_fs2ok .goto hb h rfl
  · exact am_fs2ok (.ifCond .eq) hb h rfl
  · exact am_fs2ok (.ifCond .ne) hb h rfl
  · exact am_fs2ok (.ifCond .lt) hb h rfl
  · exact am_fs2ok (.ifCond .ge) hb h rfl
  · exact am_fs2ok (.ifCond .gt) hb h rfl
  · exact am_fs2ok (.ifCond .le) hb h rfl
  · exact am_fs2ok (.if_icmp .eq) hb h rfl
  · exact am_fs2ok (.if_icmp .ne) hb h rfl
  · exact am_fs2ok (.if_icmp .lt) hb h rfl
  · exact am_fs2ok (.if_icmp .ge) hb h rfl
  · exact am_fs2ok (.if_icmp .gt) hb h rfl
  · exact am_fs2ok (.if_icmp .le) hb h rfl
  · exact am_fiok .iinc hb h rfl
  · exact of_decide_eq_true h
noncomputable def am_nxt (n : Nat) : List (Instr × Nat × Nat) → Bool
  | [] => true
  | q :: _ => Nat.beq q.2.1 n
noncomputable def am_lin (cc : ByteArray) : List (Instr × Nat × Nat) → List UInt8 → Bool
  | [], _ => true
  | q :: r, bs => am_fd cc q.2.1 q.2.2 bs q.1 && (am_nxt (q.2.1 + q.2.2) r && am_lin cc r (bs.drop q.2.2))
theorem am_linok {cc : ByteArray} : ∀ (r : List (Instr × Nat × Nat)) (p : Nat) (bs : List UInt8), cc.data.toList.drop p = bs → am_nxt p r = true → am_lin cc r bs = true → am_dchk cc r = true
  | [], _, _, _, _, _ => rfl
  | q :: r, p, bs, hb, hn, h => by
    have hp : q.2.1 = p := am_beq hn
    subst hp
    obtain ⟨h1, h2⟩ := am_and h
    obtain ⟨h2, h3⟩ := am_and h2
    have e := am_fdok hb h1
    have i := am_linok r (q.2.1 + q.2.2) (bs.drop q.2.2) (by rw [← hb, List.drop_drop]) h2 h3
    unfold am_dchk at *
    rw [List.all_cons, i, decide_eq_true e]
    rfl
theorem am_fast {cc : ByteArray} {r : List (Instr × Nat × Nat)} (h : (am_nxt 0 r && am_lin cc r cc.data.toList) = true) : am_dchk cc r = true :=
  am_linok r 0 _ rfl (am_and h).1 (am_and h).2
