/-! The instructions of the list machine beside the decoded ones; the links' words -/
noncomputable def am_big : List Cond := lw_tbl.filter goodWord
theorem am_big_in {w : Cond} (h : w ∈ am_big) : w ∈ lw_tbl := (List.mem_filter.mp h).1
theorem am_big_good {w : Cond} (h : w ∈ am_big) : goodWord w = true := (List.mem_filter.mp h).2
theorem am_big_at {w : Cond} (i : Nat) (h : lw_tbl[i]? = some w) (g : goodWord w = true) : w ∈ am_big := List.mem_filter.mpr ⟨List.mem_of_getElem? h, g⟩
noncomputable def am_ownS (o : Nat) : String := am_own.getD o ""
noncomputable def am_clq (ci : Nat) : vw_C := am_cl.getD ci ("", am_F0, 0)
noncomputable def am_infq (k : Nat) : MethodName × Option FieldType := am_inf.getD k (⟨"", "", ""⟩, none)
noncomputable def am_nx (pcs : List Nat) (i pc len : Nat) : Bool := pcs[i + 1]? == some (pc + len)
noncomputable def am_tg (pcs : List Nat) (pc : Nat) (t off : Int) : Bool := match pcs[t.toNat]? with
  | some q => decide ((pc : Int) + off = (q : Int))
  | none => false
noncomputable def am_tgs (pcs : List Nat) (pc : Nat) : List Int → List Int → Bool
  | [], [] => true
  | a :: r, b :: q => am_tg pcs pc a b && am_tgs pcs pc r q
  | _, _ => false
noncomputable def am_tgp (pcs : List Nat) (pc : Nat) : List (Int × Int) → List (Int × Int) → Bool
  | [], [] => true
  | a :: r, b :: q => decide (a.1 = b.1) && am_tg pcs pc a.2 b.2 && am_tgp pcs pc r q
  | _, _ => false
noncomputable def am_has3 (l : List (Nat × Nat × Nat)) (o i : Nat) : Bool := l.any fun q => q.1 == o && q.2.1 == i
noncomputable def am_has4 (l : List (Nat × Nat × Nat × Nat)) (o i f : Nat) : Bool := l.any fun q => q.1 == o && q.2.1 == i && q.2.2.1 == f
noncomputable def am_hasI (l : List (Nat × Nat × Int × Nat)) (o i : Nat) (f : Int) : Bool := l.any fun q => q.1 == o && q.2.1 == i && q.2.2.1 == f
noncomputable def am_has5 (l : List (Nat × Nat × Nat × Nat × Nat)) (o i f k : Nat) : Bool := l.any fun q => q.1 == o && q.2.1 == i && q.2.2.1 == f && (q.2.2.2.1 == k || q.2.2.2.1 == k + 3)
noncomputable def am_isS (op : Instr) : Bool := match op with
  | .iadd | .isub | .imul | .idiv | .irem | .iand | .ior | .ixor | .ishl | .ishr | .iushr | .ineg | .i2l | .i2b | .i2s | .i2c | .ladd | .lmul | .ldiv | .lrem | .lcmp | .dup | .dup2 | .pop | .pop2 => true
  | _ => false
/-- class number, kind of answer, byte places, ordinal, the list machine's instruction, the decoded one, its place, its length -/
noncomputable def am_chk (o rt : Nat) (pcs : List Nat) (i : Nat) (op raw : Instr) (pc len : Nat) : Bool := match op with
  | .athrow => true
  | .bipush x => am_nx pcs i pc len && (match raw with
    | .iconst n => len == 1 && decide (Int32.ofInt n = Int32.ofInt x)
    | .bipush n => len == 2 && decide ((Int8.ofInt n).toInt32 = Int32.ofInt x)
    | .sipush n => len == 3 && decide ((Int16.ofInt n).toInt32 = Int32.ofInt x)
    | .ldc k => len == 2 && am_hasI am_lc o k x
    | .ldc_w k => len == 3 && am_hasI am_lc o k x
    | _ => false)
  | .sipush x => am_nx pcs i pc len && (match raw with
    | .lconst n => len == 1 && decide (Int64.ofNat n.val = Int64.ofInt x)
    | .ldc2_w k => len == 3 && am_hasI am_ll o k x
    | _ => false)
  | .ldc q => am_nx pcs i pc len && (match raw with | .ldc k => len == 2 && am_has4 am_ls o k q | _ => false)
  | .getstatic q => am_nx pcs i pc len && (match raw with | .getstatic k => len == 3 && am_has4 am_lt o k q | _ => false)
  | .iload q => am_nx pcs i pc len && (match raw with | .iload_n k => len == 1 && k.val == q | .iload k => len == 2 && k == q | _ => false)
  | .lload q => am_nx pcs i pc len && (match raw with | .lload_n k => len == 1 && k.val == q | .lload k => len == 2 && k == q | _ => false)
  | .aload q => am_nx pcs i pc len && (match raw with | .aload_n k => len == 1 && k.val == q | .aload k => len == 2 && k == q | _ => false)
  | .istore q => am_nx pcs i pc len && (match raw with | .istore_n k => len == 1 && k.val == q | .istore k => len == 2 && k == q | _ => false)
  | .lstore q => am_nx pcs i pc len && (match raw with | .lstore_n k => len == 1 && k.val == q | .lstore k => len == 2 && k == q | _ => false)
  | .astore q => am_nx pcs i pc len && (match raw with | .astore_n k => len == 1 && k.val == q | .astore k => len == 2 && k == q | _ => false)
  | .iinc q n => am_nx pcs i pc len && (match raw with | .iinc k m => len == 3 && k == q && decide (m = n) | _ => false)
  | .ifCond c t => am_nx pcs i pc len && (match raw with | .ifCond c' off => len == 3 && decide (c' = c) && am_tg pcs pc t off | _ => false)
  | .if_icmp c t => am_nx pcs i pc len && (match raw with | .if_icmp c' off => len == 3 && decide (c' = c) && am_tg pcs pc t off | _ => false)
  | .goto t => (match raw with | .goto off => len == 3 && am_tg pcs pc t off | _ => false)
  | .tableswitch d lo hi ts => (match raw with | .tableswitch d' lo' hi' os => decide (lo' = lo) && decide (hi' = hi) && am_tg pcs pc d d' && am_tgs pcs pc ts.toList os.toList | _ => false)
  | .lookupswitch d ps => (match raw with | .lookupswitch d' os => am_tg pcs pc d d' && am_tgp pcs pc ps.toList os.toList && (os.toList.zip (os.toList.drop 1)).all (fun (a, next) => a.1 < next.1) | _ => false)
  | .iaload => am_nx pcs i pc len && (match raw with | .iaload => len == 1 | _ => false)
  | .baload => am_nx pcs i pc len && (match raw with | .baload => len == 1 | _ => false)
  | .iastore => am_nx pcs i pc len && (match raw with | .iastore => len == 1 | _ => false)
  | .bastore => am_nx pcs i pc len && (match raw with | .bastore => len == 1 | _ => false)
  | .aaload => am_nx pcs i pc len && (match raw with | .aaload => len == 1 | _ => false)
  | .aastore => am_nx pcs i pc len && (match raw with | .aastore => len == 1 | _ => false)
  | .arraylength => am_nx pcs i pc len && (match raw with | .arraylength => len == 1 | _ => false)
  | .getfield f => am_nx pcs i pc len && (match raw with | .getfield k => len == 3 && (am_has4 am_lf o k f || am_has4 am_lsf o k f) | _ => false)
  | .putfield f => am_nx pcs i pc len && (match raw with | .putfield k => len == 3 && am_has4 am_lf o k f | _ => false)
  | .monitorenter => am_nx pcs i pc len && (match raw with | .invokespecial k => len == 3 && am_has3 am_lo o k | _ => false)
  | .monitorexit => am_nx pcs i pc len && (match raw with | .invokestatic k => len == 3 && am_has3 am_lck o k | _ => false)
  | .new ci => am_nx pcs i pc len && (match raw with | .new k => len == 3 && am_has4 am_ln o k ci | _ => false)
  | .newarray a => am_nx pcs i pc len && (match raw with | .newarray b => len == 2 && decide (b = a) | _ => false)
  | .anewarray _ => am_nx pcs i pc len && (match raw with | .anewarray k => len == 3 && am_has3 am_lan o k | _ => false)
  | .multianewarray _ _ => am_nx pcs i pc len && (match raw with | .multianewarray k n => len == 4 && n == 2 && am_has3 am_lma o k | _ => false)
  | .invokedynamic _ => am_nx pcs i pc len && (match raw with | .invokestatic k => len == 3 && am_has3 am_la o k | _ => false)
  | .invokestatic f => am_nx pcs i pc len && (match raw with
    | .invokevirtual k => len == 3 && am_has5 am_lm o k f 0
    | .invokestatic k => len == 3 && am_has5 am_lm o k f 1
    | .invokespecial k => len == 3 && am_has5 am_lm o k f 2
    | _ => false)
  | .ireturn => (match raw with
    | .ireturn => len == 1 && (rt == 1 || rt == 2 || rt == 5 || rt == 6)
    | .lreturn => len == 1 && rt == 3
    | .areturn => len == 1 && rt == 4
    | _ => false)
  | .return_ => (match raw with | .return_ => len == 1 && rt == 0 | _ => false)
  | op => am_nx pcs i pc len && am_isS op && decide (raw = op) && len == 1
noncomputable def am_zchk (o rt : Nat) (pcs : List Nat) : Nat → List Instr → List (Instr × Nat × Nat) → Bool
  | _, [], [] => true
  | i, a :: r, b :: q => am_chk o rt pcs i a b.1 b.2.1 b.2.2 && am_zchk o rt pcs (i + 1) r q
  | _, _, _ => false
noncomputable def am_pcs (k : Nat) : List Nat := (am_raw.getD k []).map fun q => q.2.1
noncomputable def am_mq (k : Nat) : am_M := am_tab.getD k ([], 0, 0, none, 0)
noncomputable def am_mchk (k : Nat) : Bool := am_zchk (am_on.getD k 0) (am_mq k).2.2.2.2 (am_pcs k) 0 (am_mq k).1 (am_raw.getD k [])
theorem am_k0 : am_mchk 0 = true := by decide +kernel
theorem am_k1 : am_mchk 1 = true := by decide +kernel
theorem am_k2 : am_mchk 2 = true := by decide +kernel
theorem am_k3 : am_mchk 3 = true := by decide +kernel
theorem am_k4 : am_mchk 4 = true := by decide +kernel
theorem am_k5 : am_mchk 5 = true := by decide +kernel
theorem am_k6 : am_mchk 6 = true := by decide +kernel
theorem am_k7 : am_mchk 7 = true := by decide +kernel
theorem am_k8 : am_mchk 8 = true := by decide +kernel
theorem am_k9 : am_mchk 9 = true := by decide +kernel
theorem am_k10 : am_mchk 10 = true := by decide +kernel
theorem am_k11 : am_mchk 11 = true := by decide +kernel
theorem am_k12 : am_mchk 12 = true := by decide +kernel
theorem am_k13 : am_mchk 13 = true := by decide +kernel
theorem am_k14 : am_mchk 14 = true := by decide +kernel
theorem am_k15 : am_mchk 15 = true := by decide +kernel
theorem am_k16 : am_mchk 16 = true := by decide +kernel
theorem am_k17 : am_mchk 17 = true := by decide +kernel
theorem am_k18 : am_mchk 18 = true := by decide +kernel
theorem am_k19 : am_mchk 19 = true := by decide +kernel
theorem am_k20 : am_mchk 20 = true := by decide +kernel
theorem am_k21 : am_mchk 21 = true := by decide +kernel
theorem am_k22 : am_mchk 22 = true := by decide +kernel
theorem am_k23 : am_mchk 23 = true := by decide +kernel
theorem am_k24 : am_mchk 24 = true := by decide +kernel
theorem am_k25 : am_mchk 25 = true := by decide +kernel
theorem am_k26 : am_mchk 26 = true := by decide +kernel
theorem am_k27 : am_mchk 27 = true := by decide +kernel
theorem am_k28 : am_mchk 28 = true := by decide +kernel
theorem am_k29 : am_mchk 29 = true := by decide +kernel
theorem am_k30 : am_mchk 30 = true := by decide +kernel
theorem am_k31 : am_mchk 31 = true := by decide +kernel
theorem am_k32 : am_mchk 32 = true := by decide +kernel
theorem am_k33 : am_mchk 33 = true := by decide +kernel
theorem am_k34 : am_mchk 34 = true := by decide +kernel
theorem am_k35 : am_mchk 35 = true := by decide +kernel
theorem am_k36 : am_mchk 36 = true := by decide +kernel
theorem am_k37 : am_mchk 37 = true := by decide +kernel
theorem am_k38 : am_mchk 38 = true := by decide +kernel
theorem am_k39 : am_mchk 39 = true := by decide +kernel
theorem am_k40 : am_mchk 40 = true := by decide +kernel
theorem am_k41 : am_mchk 41 = true := by decide +kernel
theorem am_k42 : am_mchk 42 = true := by decide +kernel
theorem am_k43 : am_mchk 43 = true := by decide +kernel
theorem am_k44 : am_mchk 44 = true := by decide +kernel
theorem am_k45 : am_mchk 45 = true := by decide +kernel
theorem am_k46 : am_mchk 46 = true := by decide +kernel
theorem am_k47 : am_mchk 47 = true := by decide +kernel
theorem am_k48 : am_mchk 48 = true := by decide +kernel
theorem am_k49 : am_mchk 49 = true := by decide +kernel
theorem am_k50 : am_mchk 50 = true := by decide +kernel
theorem am_k51 : am_mchk 51 = true := by decide +kernel
theorem am_k52 : am_mchk 52 = true := by decide +kernel
theorem am_k53 : am_mchk 53 = true := by decide +kernel
theorem am_k54 : am_mchk 54 = true := by decide +kernel
theorem am_k55 : am_mchk 55 = true := by decide +kernel
theorem am_k56 : am_mchk 56 = true := by decide +kernel
theorem am_k57 : am_mchk 57 = true := by decide +kernel
theorem am_k58 : am_mchk 58 = true := by decide +kernel
theorem am_k59 : am_mchk 59 = true := by decide +kernel
theorem am_k60 : am_mchk 60 = true := by decide +kernel
theorem am_k61 : am_mchk 61 = true := by decide +kernel
theorem am_k62 : am_mchk 62 = true := by decide +kernel
theorem am_k63 : am_mchk 63 = true := by decide +kernel
theorem am_k64 : am_mchk 64 = true := by decide +kernel
theorem am_k65 : am_mchk 65 = true := by decide +kernel
theorem am_k66 : am_mchk 66 = true := by decide +kernel
theorem am_k67 : am_mchk 67 = true := by decide +kernel
theorem am_k68 : am_mchk 68 = true := by decide +kernel
theorem am_k69 : am_mchk 69 = true := by decide +kernel
theorem am_k70 : am_mchk 70 = true := by decide +kernel
theorem am_k71 : am_mchk 71 = true := by decide +kernel
theorem am_k72 : am_mchk 72 = true := by decide +kernel
theorem am_k73 : am_mchk 73 = true := by decide +kernel
theorem am_k74 : am_mchk 74 = true := by decide +kernel
theorem am_k75 : am_mchk 75 = true := by decide +kernel
theorem am_k76 : am_mchk 76 = true := by decide +kernel
theorem am_k77 : am_mchk 77 = true := by decide +kernel
theorem am_k78 : am_mchk 78 = true := by decide +kernel
theorem am_k79 : am_mchk 79 = true := by decide +kernel
theorem am_k80 : am_mchk 80 = true := by decide +kernel
theorem am_k81 : am_mchk 81 = true := by decide +kernel
theorem am_k82 : am_mchk 82 = true := by decide +kernel
theorem am_k83 : am_mchk 83 = true := by decide +kernel
theorem am_k84 : am_mchk 84 = true := by decide +kernel
theorem am_k85 : am_mchk 85 = true := by decide +kernel
theorem am_k86 : am_mchk 86 = true := by decide +kernel
theorem am_k87 : am_mchk 87 = true := by decide +kernel
theorem am_k88 : am_mchk 88 = true := by decide +kernel
theorem am_k89 : am_mchk 89 = true := by decide +kernel
theorem am_k90 : am_mchk 90 = true := by decide +kernel
theorem am_k91 : am_mchk 91 = true := by decide +kernel
theorem am_k92 : am_mchk 92 = true := by decide +kernel
theorem am_k93 : am_mchk 93 = true := by decide +kernel
theorem am_k94 : am_mchk 94 = true := by decide +kernel
theorem am_k95 : am_mchk 95 = true := by decide +kernel
theorem am_k96 : am_mchk 96 = true := by decide +kernel
theorem am_k97 : am_mchk 97 = true := by decide +kernel
theorem am_k98 : am_mchk 98 = true := by decide +kernel
theorem am_k99 : am_mchk 99 = true := by decide +kernel
theorem am_k100 : am_mchk 100 = true := by decide +kernel
theorem am_k101 : am_mchk 101 = true := by decide +kernel
theorem am_k102 : am_mchk 102 = true := by decide +kernel
theorem am_k103 : am_mchk 103 = true := by decide +kernel
theorem am_k104 : am_mchk 104 = true := by decide +kernel
theorem am_k105 : am_mchk 105 = true := by decide +kernel
theorem am_k106 : am_mchk 106 = true := by decide +kernel
theorem am_k107 : am_mchk 107 = true := by decide +kernel
theorem am_k108 : am_mchk 108 = true := by decide +kernel
theorem am_k109 : am_mchk 109 = true := by decide +kernel
theorem am_k110 : am_mchk 110 = true := by decide +kernel
theorem am_k111 : am_mchk 111 = true := by decide +kernel
theorem am_k112 : am_mchk 112 = true := by decide +kernel
theorem am_k113 : am_mchk 113 = true := by decide +kernel
theorem am_k114 : am_mchk 114 = true := by decide +kernel
theorem am_k115 : am_mchk 115 = true := by decide +kernel
theorem am_k116 : am_mchk 116 = true := by decide +kernel
theorem am_k117 : am_mchk 117 = true := by decide +kernel
theorem am_k118 : am_mchk 118 = true := by decide +kernel
theorem am_k119 : am_mchk 119 = true := by decide +kernel
theorem am_k120 : am_mchk 120 = true := by decide +kernel
theorem am_k121 : am_mchk 121 = true := by decide +kernel
theorem am_k122 : am_mchk 122 = true := by decide +kernel
theorem am_k123 : am_mchk 123 = true := by decide +kernel
theorem am_k124 : am_mchk 124 = true := by decide +kernel
theorem am_k125 : am_mchk 125 = true := by decide +kernel
theorem am_k126 : am_mchk 126 = true := by decide +kernel
theorem am_k127 : am_mchk 127 = true := by decide +kernel
theorem am_k128 : am_mchk 128 = true := by decide +kernel
theorem am_k129 : am_mchk 129 = true := by decide +kernel
theorem am_k130 : am_mchk 130 = true := by decide +kernel
theorem am_k131 : am_mchk 131 = true := by decide +kernel
theorem am_k132 : am_mchk 132 = true := by decide +kernel
theorem am_k133 : am_mchk 133 = true := by decide +kernel
theorem am_k134 : am_mchk 134 = true := by decide +kernel
theorem am_k135 : am_mchk 135 = true := by decide +kernel
theorem am_k136 : am_mchk 136 = true := by decide +kernel
theorem am_k137 : am_mchk 137 = true := by decide +kernel
theorem am_k138 : am_mchk 138 = true := by decide +kernel
theorem am_k139 : am_mchk 139 = true := by decide +kernel
theorem am_k140 : am_mchk 140 = true := by decide +kernel
theorem am_k141 : am_mchk 141 = true := by decide +kernel
theorem am_k142 : am_mchk 142 = true := by decide +kernel
theorem am_k143 : am_mchk 143 = true := by decide +kernel
theorem am_k144 : am_mchk 144 = true := by decide +kernel
theorem am_k145 : am_mchk 145 = true := by decide +kernel
theorem am_k146 : am_mchk 146 = true := by decide +kernel
theorem am_k147 : am_mchk 147 = true := by decide +kernel
theorem am_k148 : am_mchk 148 = true := by decide +kernel
theorem am_k149 : am_mchk 149 = true := by decide +kernel
theorem am_k150 : am_mchk 150 = true := by decide +kernel
theorem am_k151 : am_mchk 151 = true := by decide +kernel
theorem am_k152 : am_mchk 152 = true := by decide +kernel
theorem am_k153 : am_mchk 153 = true := by decide +kernel
theorem am_k154 : am_mchk 154 = true := by decide +kernel
theorem am_k155 : am_mchk 155 = true := by decide +kernel
theorem am_k156 : am_mchk 156 = true := by decide +kernel
theorem am_k157 : am_mchk 157 = true := by decide +kernel
theorem am_k158 : am_mchk 158 = true := by decide +kernel
theorem am_k159 : am_mchk 159 = true := by decide +kernel
theorem am_k160 : am_mchk 160 = true := by decide +kernel
theorem am_k161 : am_mchk 161 = true := by decide +kernel
theorem am_k162 : am_mchk 162 = true := by decide +kernel
theorem am_k163 : am_mchk 163 = true := by decide +kernel
theorem am_k164 : am_mchk 164 = true := by decide +kernel
theorem am_k165 : am_mchk 165 = true := by decide +kernel
theorem am_k166 : am_mchk 166 = true := by decide +kernel
theorem am_k167 : am_mchk 167 = true := by decide +kernel
theorem am_k168 : am_mchk 168 = true := by decide +kernel
theorem am_k169 : am_mchk 169 = true := by decide +kernel
theorem am_k170 : am_mchk 170 = true := by decide +kernel
theorem am_k171 : am_mchk 171 = true := by decide +kernel
theorem am_k172 : am_mchk 172 = true := by decide +kernel
theorem am_k173 : am_mchk 173 = true := by decide +kernel
theorem am_k174 : am_mchk 174 = true := by decide +kernel
theorem am_k175 : am_mchk 175 = true := by decide +kernel
theorem am_k176 : am_mchk 176 = true := by decide +kernel
theorem am_k177 : am_mchk 177 = true := by decide +kernel
theorem am_k178 : am_mchk 178 = true := by decide +kernel
theorem am_k179 : am_mchk 179 = true := by decide +kernel
theorem am_k180 : am_mchk 180 = true := by decide +kernel
theorem am_k181 : am_mchk 181 = true := by decide +kernel
theorem am_k182 : am_mchk 182 = true := by decide +kernel
theorem am_k183 : am_mchk 183 = true := by decide +kernel
theorem am_k184 : am_mchk 184 = true := by decide +kernel
theorem am_k185 : am_mchk 185 = true := by decide +kernel
theorem am_k186 : am_mchk 186 = true := by decide +kernel
theorem am_k187 : am_mchk 187 = true := by decide +kernel
theorem am_k188 : am_mchk 188 = true := by decide +kernel
theorem am_k189 : am_mchk 189 = true := by decide +kernel
theorem am_k190 : am_mchk 190 = true := by decide +kernel
theorem am_k191 : am_mchk 191 = true := by decide +kernel
theorem am_k192 : am_mchk 192 = true := by decide +kernel
theorem am_k193 : am_mchk 193 = true := by decide +kernel
theorem am_k194 : am_mchk 194 = true := by decide +kernel
theorem am_k195 : am_mchk 195 = true := by decide +kernel
theorem am_k196 : am_mchk 196 = true := by decide +kernel
theorem am_k197 : am_mchk 197 = true := by decide +kernel
theorem am_k198 : am_mchk 198 = true := by decide +kernel
theorem am_k199 : am_mchk 199 = true := by decide +kernel
theorem am_k200 : am_mchk 200 = true := by decide +kernel
theorem am_k201 : am_mchk 201 = true := by decide +kernel
theorem am_k202 : am_mchk 202 = true := by decide +kernel
theorem am_k203 : am_mchk 203 = true := by decide +kernel
theorem am_k204 : am_mchk 204 = true := by decide +kernel
theorem am_k205 : am_mchk 205 = true := by decide +kernel
theorem am_k206 : am_mchk 206 = true := by decide +kernel
theorem am_k207 : am_mchk 207 = true := by decide +kernel
theorem am_k208 : am_mchk 208 = true := by decide +kernel
theorem am_k209 : am_mchk 209 = true := by decide +kernel
theorem am_k210 : am_mchk 210 = true := by decide +kernel
theorem am_k211 : am_mchk 211 = true := by decide +kernel
theorem am_k212 : am_mchk 212 = true := by decide +kernel
theorem am_k213 : am_mchk 213 = true := by decide +kernel
theorem am_k214 : am_mchk 214 = true := by decide +kernel
theorem am_k215 : am_mchk 215 = true := by decide +kernel
theorem am_k216 : am_mchk 216 = true := by decide +kernel
theorem am_k217 : am_mchk 217 = true := by decide +kernel
theorem am_k218 : am_mchk 218 = true := by decide +kernel
theorem am_k219 : am_mchk 219 = true := by decide +kernel
theorem am_k220 : am_mchk 220 = true := by decide +kernel
theorem am_k221 : am_mchk 221 = true := by decide +kernel
theorem am_k222 : am_mchk 222 = true := by decide +kernel
theorem am_k223 : am_mchk 223 = true := by decide +kernel
theorem am_k224 : am_mchk 224 = true := by decide +kernel
theorem am_k225 : am_mchk 225 = true := by decide +kernel
theorem am_k226 : am_mchk 226 = true := by decide +kernel
theorem am_k227 : am_mchk 227 = true := by decide +kernel
theorem am_k228 : am_mchk 228 = true := by decide +kernel
theorem am_k229 : am_mchk 229 = true := by decide +kernel
theorem am_k230 : am_mchk 230 = true := by decide +kernel
theorem am_k231 : am_mchk 231 = true := by decide +kernel
theorem am_k232 : am_mchk 232 = true := by decide +kernel
theorem am_k233 : am_mchk 233 = true := by decide +kernel
theorem am_k234 : am_mchk 234 = true := by decide +kernel
theorem am_k235 : am_mchk 235 = true := by decide +kernel
theorem am_k236 : am_mchk 236 = true := by decide +kernel
theorem am_k237 : am_mchk 237 = true := by decide +kernel
theorem am_k238 : am_mchk 238 = true := by decide +kernel
theorem am_k239 : am_mchk 239 = true := by decide +kernel
