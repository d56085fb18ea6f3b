noncomputable def am_nls : Nat → Nat → List Nat
  | 0, _ => []
  | n + 1, c => c :: am_nls n (c + 1)
theorem am_rng : ∀ (n c k : Nat), c ≤ k → k < c + n → k ∈ am_nls n c
  | 0, _, _, h1, h2 => absurd h2 (by omega)
  | n + 1, c, k, h1, h2 => by
    rcases Nat.eq_or_lt_of_le h1 with e | e
    · subst e
      exact List.mem_cons_self
    · exact List.mem_cons_of_mem _ (am_rng n (c + 1) k e (by omega))
noncomputable def am_dq (k : Nat) : Bool := am_nxt 0 (am_raw.getD k []) && am_lin (am_bytes k) (am_raw.getD k []) (am_bytes k).data.toList
theorem am_d0 : am_dq 0 = true := by decide +kernel
theorem am_d1 : am_dq 1 = true := by decide +kernel
theorem am_d2 : am_dq 2 = true := by decide +kernel
theorem am_d3 : am_dq 3 = true := by decide +kernel
theorem am_d4 : am_dq 4 = true := by decide +kernel
theorem am_d5 : am_dq 5 = true := by decide +kernel
theorem am_d6 : am_dq 6 = true := by decide +kernel
theorem am_d7 : am_dq 7 = true := by decide +kernel
theorem am_d8 : am_dq 8 = true := by decide +kernel
theorem am_d9 : am_dq 9 = true := by decide +kernel
theorem am_d10 : am_dq 10 = true := by decide +kernel
theorem am_d11 : am_dq 11 = true := by decide +kernel
theorem am_d12 : am_dq 12 = true := by decide +kernel
theorem am_d13 : am_dq 13 = true := by decide +kernel
theorem am_d14 : am_dq 14 = true := by decide +kernel
theorem am_d15 : am_dq 15 = true := by decide +kernel
theorem am_d16 : am_dq 16 = true := by decide +kernel
theorem am_d17 : am_dq 17 = true := by decide +kernel
theorem am_d18 : am_dq 18 = true := by decide +kernel
theorem am_d19 : am_dq 19 = true := by decide +kernel
theorem am_d20 : am_dq 20 = true := by decide +kernel
theorem am_d21 : am_dq 21 = true := by decide +kernel
theorem am_d22 : am_dq 22 = true := by decide +kernel
theorem am_d23 : am_dq 23 = true := by decide +kernel
theorem am_d24 : am_dq 24 = true := by decide +kernel
theorem am_d25 : am_dq 25 = true := by decide +kernel
theorem am_d26 : am_dq 26 = true := by decide +kernel
theorem am_d27 : am_dq 27 = true := by decide +kernel
theorem am_d28 : am_dq 28 = true := by decide +kernel
theorem am_d29 : am_dq 29 = true := by decide +kernel
theorem am_d30 : am_dq 30 = true := by decide +kernel
theorem am_d31 : am_dq 31 = true := by decide +kernel
theorem am_d32 : am_dq 32 = true := by decide +kernel
theorem am_d33 : am_dq 33 = true := by decide +kernel
theorem am_d34 : am_dq 34 = true := by decide +kernel
theorem am_d35 : am_dq 35 = true := by decide +kernel
theorem am_d36 : am_dq 36 = true := by decide +kernel
theorem am_d37 : am_dq 37 = true := by decide +kernel
theorem am_d38 : am_dq 38 = true := by decide +kernel
theorem am_d39 : am_dq 39 = true := by decide +kernel
theorem am_d40 : am_dq 40 = true := by decide +kernel
theorem am_d41 : am_dq 41 = true := by decide +kernel
theorem am_d42 : am_dq 42 = true := by decide +kernel
theorem am_d43 : am_dq 43 = true := by decide +kernel
theorem am_d44 : am_dq 44 = true := by decide +kernel
theorem am_d45 : am_dq 45 = true := by decide +kernel
theorem am_d46 : am_dq 46 = true := by decide +kernel
theorem am_d47 : am_dq 47 = true := by decide +kernel
theorem am_d48 : am_dq 48 = true := by decide +kernel
theorem am_d49 : am_dq 49 = true := by decide +kernel
theorem am_d50 : am_dq 50 = true := by decide +kernel
theorem am_d51 : am_dq 51 = true := by decide +kernel
theorem am_d52 : am_dq 52 = true := by decide +kernel
theorem am_d53 : am_dq 53 = true := by decide +kernel
theorem am_d54 : am_dq 54 = true := by decide +kernel
theorem am_d55 : am_dq 55 = true := by decide +kernel
theorem am_d56 : am_dq 56 = true := by decide +kernel
theorem am_d57 : am_dq 57 = true := by decide +kernel
theorem am_d58 : am_dq 58 = true := by decide +kernel
theorem am_d59 : am_dq 59 = true := by decide +kernel
theorem am_d60 : am_dq 60 = true := by decide +kernel
theorem am_d61 : am_dq 61 = true := by decide +kernel
theorem am_d62 : am_dq 62 = true := by decide +kernel
theorem am_d63 : am_dq 63 = true := by decide +kernel
theorem am_d64 : am_dq 64 = true := by decide +kernel
theorem am_d65 : am_dq 65 = true := by decide +kernel
theorem am_d66 : am_dq 66 = true := by decide +kernel
theorem am_d67 : am_dq 67 = true := by decide +kernel
theorem am_d68 : am_dq 68 = true := by decide +kernel
theorem am_d69 : am_dq 69 = true := by decide +kernel
theorem am_d70 : am_dq 70 = true := by decide +kernel
theorem am_d71 : am_dq 71 = true := by decide +kernel
theorem am_d72 : am_dq 72 = true := by decide +kernel
theorem am_d73 : am_dq 73 = true := by decide +kernel
theorem am_d74 : am_dq 74 = true := by decide +kernel
theorem am_d75 : am_dq 75 = true := by decide +kernel
theorem am_d76 : am_dq 76 = true := by decide +kernel
theorem am_d77 : am_dq 77 = true := by decide +kernel
theorem am_d78 : am_dq 78 = true := by decide +kernel
theorem am_d79 : am_dq 79 = true := by decide +kernel
theorem am_d80 : am_dq 80 = true := by decide +kernel
theorem am_d81 : am_dq 81 = true := by decide +kernel
theorem am_d82 : am_dq 82 = true := by decide +kernel
theorem am_d83 : am_dq 83 = true := by decide +kernel
theorem am_d84 : am_dq 84 = true := by decide +kernel
theorem am_d85 : am_dq 85 = true := by decide +kernel
theorem am_d86 : am_dq 86 = true := by decide +kernel
theorem am_d87 : am_dq 87 = true := by decide +kernel
theorem am_d88 : am_dq 88 = true := by decide +kernel
theorem am_d89 : am_dq 89 = true := by decide +kernel
theorem am_d90 : am_dq 90 = true := by decide +kernel
theorem am_d91 : am_dq 91 = true := by decide +kernel
theorem am_d92 : am_dq 92 = true := by decide +kernel
theorem am_d93 : am_dq 93 = true := by decide +kernel
theorem am_d94 : am_dq 94 = true := by decide +kernel
theorem am_d95 : am_dq 95 = true := by decide +kernel
theorem am_d96 : am_dq 96 = true := by decide +kernel
theorem am_d97 : am_dq 97 = true := by decide +kernel
theorem am_d98 : am_dq 98 = true := by decide +kernel
theorem am_d99 : am_dq 99 = true := by decide +kernel
theorem am_d100 : am_dq 100 = true := by decide +kernel
theorem am_d101 : am_dq 101 = true := by decide +kernel
theorem am_d102 : am_dq 102 = true := by decide +kernel
theorem am_d103 : am_dq 103 = true := by decide +kernel
theorem am_d104 : am_dq 104 = true := by decide +kernel
theorem am_d105 : am_dq 105 = true := by decide +kernel
theorem am_d106 : am_dq 106 = true := by decide +kernel
theorem am_d107 : am_dq 107 = true := by decide +kernel
theorem am_d108 : am_dq 108 = true := by decide +kernel
theorem am_d109 : am_dq 109 = true := by decide +kernel
theorem am_d110 : am_dq 110 = true := by decide +kernel
theorem am_d111 : am_dq 111 = true := by decide +kernel
theorem am_d112 : am_dq 112 = true := by decide +kernel
theorem am_d113 : am_dq 113 = true := by decide +kernel
theorem am_d114 : am_dq 114 = true := by decide +kernel
theorem am_d115 : am_dq 115 = true := by decide +kernel
theorem am_d116 : am_dq 116 = true := by decide +kernel
theorem am_d117 : am_dq 117 = true := by decide +kernel
theorem am_d118 : am_dq 118 = true := by decide +kernel
theorem am_d119 : am_dq 119 = true := by decide +kernel
theorem am_d120 : am_dq 120 = true := by decide +kernel
theorem am_d121 : am_dq 121 = true := by decide +kernel
theorem am_d122 : am_dq 122 = true := by decide +kernel
theorem am_d123 : am_dq 123 = true := by decide +kernel
theorem am_d124 : am_dq 124 = true := by decide +kernel
theorem am_d125 : am_dq 125 = true := by decide +kernel
theorem am_d126 : am_dq 126 = true := by decide +kernel
theorem am_d127 : am_dq 127 = true := by decide +kernel
theorem am_d128 : am_dq 128 = true := by decide +kernel
theorem am_d129 : am_dq 129 = true := by decide +kernel
theorem am_d130 : am_dq 130 = true := by decide +kernel
theorem am_d131 : am_dq 131 = true := by decide +kernel
theorem am_d132 : am_dq 132 = true := by decide +kernel
theorem am_d133 : am_dq 133 = true := by decide +kernel
theorem am_d134 : am_dq 134 = true := by decide +kernel
theorem am_d135 : am_dq 135 = true := by decide +kernel
theorem am_d136 : am_dq 136 = true := by decide +kernel
theorem am_d137 : am_dq 137 = true := by decide +kernel
theorem am_d138 : am_dq 138 = true := by decide +kernel
theorem am_d139 : am_dq 139 = true := by decide +kernel
theorem am_d140 : am_dq 140 = true := by decide +kernel
theorem am_d141 : am_dq 141 = true := by decide +kernel
theorem am_d142 : am_dq 142 = true := by decide +kernel
theorem am_d143 : am_dq 143 = true := by decide +kernel
theorem am_d144 : am_dq 144 = true := by decide +kernel
theorem am_d145 : am_dq 145 = true := by decide +kernel
theorem am_d146 : am_dq 146 = true := by decide +kernel
theorem am_d147 : am_dq 147 = true := by decide +kernel
theorem am_d148 : am_dq 148 = true := by decide +kernel
theorem am_d149 : am_dq 149 = true := by decide +kernel
theorem am_d150 : am_dq 150 = true := by decide +kernel
theorem am_d151 : am_dq 151 = true := by decide +kernel
theorem am_d152 : am_dq 152 = true := by decide +kernel
theorem am_d153 : am_dq 153 = true := by decide +kernel
theorem am_d154 : am_dq 154 = true := by decide +kernel
theorem am_d155 : am_dq 155 = true := by decide +kernel
theorem am_d156 : am_dq 156 = true := by decide +kernel
theorem am_d157 : am_dq 157 = true := by decide +kernel
theorem am_d158 : am_dq 158 = true := by decide +kernel
theorem am_d159 : am_dq 159 = true := by decide +kernel
theorem am_d160 : am_dq 160 = true := by decide +kernel
theorem am_d161 : am_dq 161 = true := by decide +kernel
theorem am_d162 : am_dq 162 = true := by decide +kernel
theorem am_d163 : am_dq 163 = true := by decide +kernel
theorem am_d164 : am_dq 164 = true := by decide +kernel
theorem am_d165 : am_dq 165 = true := by decide +kernel
theorem am_d166 : am_dq 166 = true := by decide +kernel
theorem am_d167 : am_dq 167 = true := by decide +kernel
theorem am_d168 : am_dq 168 = true := by decide +kernel
theorem am_d169 : am_dq 169 = true := by decide +kernel
theorem am_d170 : am_dq 170 = true := by decide +kernel
theorem am_d171 : am_dq 171 = true := by decide +kernel
theorem am_d172 : am_dq 172 = true := by decide +kernel
theorem am_d173 : am_dq 173 = true := by decide +kernel
theorem am_d174 : am_dq 174 = true := by decide +kernel
theorem am_d175 : am_dq 175 = true := by decide +kernel
theorem am_d176 : am_dq 176 = true := by decide +kernel
theorem am_d177 : am_dq 177 = true := by decide +kernel
theorem am_d178 : am_dq 178 = true := by decide +kernel
theorem am_d179 : am_dq 179 = true := by decide +kernel
theorem am_d180 : am_dq 180 = true := by decide +kernel
theorem am_d181 : am_dq 181 = true := by decide +kernel
theorem am_d182 : am_dq 182 = true := by decide +kernel
theorem am_d183 : am_dq 183 = true := by decide +kernel
theorem am_d184 : am_dq 184 = true := by decide +kernel
theorem am_d185 : am_dq 185 = true := by decide +kernel
theorem am_d186 : am_dq 186 = true := by decide +kernel
theorem am_d187 : am_dq 187 = true := by decide +kernel
theorem am_d188 : am_dq 188 = true := by decide +kernel
theorem am_d189 : am_dq 189 = true := by decide +kernel
theorem am_d190 : am_dq 190 = true := by decide +kernel
theorem am_d191 : am_dq 191 = true := by decide +kernel
theorem am_d192 : am_dq 192 = true := by decide +kernel
theorem am_d193 : am_dq 193 = true := by decide +kernel
theorem am_d194 : am_dq 194 = true := by decide +kernel
theorem am_d195 : am_dq 195 = true := by decide +kernel
theorem am_d196 : am_dq 196 = true := by decide +kernel
theorem am_d197 : am_dq 197 = true := by decide +kernel
theorem am_d198 : am_dq 198 = true := by decide +kernel
theorem am_d199 : am_dq 199 = true := by decide +kernel
theorem am_d200 : am_dq 200 = true := by decide +kernel
theorem am_d201 : am_dq 201 = true := by decide +kernel
theorem am_d202 : am_dq 202 = true := by decide +kernel
theorem am_d203 : am_dq 203 = true := by decide +kernel
theorem am_d204 : am_dq 204 = true := by decide +kernel
theorem am_d205 : am_dq 205 = true := by decide +kernel
theorem am_d206 : am_dq 206 = true := by decide +kernel
theorem am_d207 : am_dq 207 = true := by decide +kernel
theorem am_d208 : am_dq 208 = true := by decide +kernel
theorem am_d209 : am_dq 209 = true := by decide +kernel
theorem am_d210 : am_dq 210 = true := by decide +kernel
theorem am_d211 : am_dq 211 = true := by decide +kernel
theorem am_d212 : am_dq 212 = true := by decide +kernel
theorem am_d213 : am_dq 213 = true := by decide +kernel
theorem am_d214 : am_dq 214 = true := by decide +kernel
theorem am_d215 : am_dq 215 = true := by decide +kernel
theorem am_d216 : am_dq 216 = true := by decide +kernel
theorem am_d217 : am_dq 217 = true := by decide +kernel
theorem am_d218 : am_dq 218 = true := by decide +kernel
theorem am_d219 : am_dq 219 = true := by decide +kernel
theorem am_d220 : am_dq 220 = true := by decide +kernel
theorem am_d221 : am_dq 221 = true := by decide +kernel
theorem am_d222 : am_dq 222 = true := by decide +kernel
theorem am_d223 : am_dq 223 = true := by decide +kernel
theorem am_d224 : am_dq 224 = true := by decide +kernel
theorem am_d225 : am_dq 225 = true := by decide +kernel
theorem am_d226 : am_dq 226 = true := by decide +kernel
theorem am_d227 : am_dq 227 = true := by decide +kernel
theorem am_d228 : am_dq 228 = true := by decide +kernel
theorem am_d229 : am_dq 229 = true := by decide +kernel
theorem am_d230 : am_dq 230 = true := by decide +kernel
theorem am_d231 : am_dq 231 = true := by decide +kernel
theorem am_d232 : am_dq 232 = true := by decide +kernel
theorem am_d233 : am_dq 233 = true := by decide +kernel
theorem am_d234 : am_dq 234 = true := by decide +kernel
theorem am_d235 : am_dq 235 = true := by decide +kernel
theorem am_d236 : am_dq 236 = true := by decide +kernel
theorem am_d237 : am_dq 237 = true := by decide +kernel
theorem am_d238 : am_dq 238 = true := by decide +kernel
theorem am_d239 : am_dq 239 = true := by decide +kernel
set_option maxRecDepth 20000 in
theorem am_dqall_0 : ∀ k ∈ ([0, 1, 2, 3, 4, 5, 6, 7, 8, 9, 10, 11, 12, 13, 14, 15, 16, 17, 18, 19, 20, 21, 22, 23] : List Nat), am_dq k = true := List.forall_mem_cons.mpr ⟨am_d0, List.forall_mem_cons.mpr ⟨am_d1, List.forall_mem_cons.mpr ⟨am_d2, List.forall_mem_cons.mpr ⟨am_d3, List.forall_mem_cons.mpr ⟨am_d4, List.forall_mem_cons.mpr ⟨am_d5, List.forall_mem_cons.mpr ⟨am_d6, List.forall_mem_cons.mpr ⟨am_d7, List.forall_mem_cons.mpr ⟨am_d8, List.forall_mem_cons.mpr ⟨am_d9, List.forall_mem_cons.mpr ⟨am_d10, List.forall_mem_cons.mpr ⟨am_d11, List.forall_mem_cons.mpr ⟨am_d12, List.forall_mem_cons.mpr ⟨am_d13, List.forall_mem_cons.mpr ⟨am_d14, List.forall_mem_cons.mpr ⟨am_d15, List.forall_mem_cons.mpr ⟨am_d16, List.forall_mem_cons.mpr ⟨am_d17, List.forall_mem_cons.mpr ⟨am_d18, List.forall_mem_cons.mpr ⟨am_d19, List.forall_mem_cons.mpr ⟨am_d20, List.forall_mem_cons.mpr ⟨am_d21, List.forall_mem_cons.mpr ⟨am_d22, List.forall_mem_cons.mpr ⟨am_d23, fun _ h => absurd h List.not_mem_nil⟩⟩⟩⟩⟩⟩⟩⟩⟩⟩⟩⟩⟩⟩⟩⟩⟩⟩⟩⟩⟩⟩⟩⟩
set_option maxRecDepth 20000 in
theorem am_dqall_24 : ∀ k ∈ ([24, 25, 26, 27, 28, 29, 30, 31, 32, 33, 34, 35, 36, 37, 38, 39, 40, 41, 42, 43, 44, 45, 46, 47] : List Nat), am_dq k = true := List.forall_mem_cons.mpr ⟨am_d24, List.forall_mem_cons.mpr ⟨am_d25, List.forall_mem_cons.mpr ⟨am_d26, List.forall_mem_cons.mpr ⟨am_d27, List.forall_mem_cons.mpr ⟨am_d28, List.forall_mem_cons.mpr ⟨am_d29, List.forall_mem_cons.mpr ⟨am_d30, List.forall_mem_cons.mpr ⟨am_d31, List.forall_mem_cons.mpr ⟨am_d32, List.forall_mem_cons.mpr ⟨am_d33, List.forall_mem_cons.mpr ⟨am_d34, List.forall_mem_cons.mpr ⟨am_d35, List.forall_mem_cons.mpr ⟨am_d36, List.forall_mem_cons.mpr ⟨am_d37, List.forall_mem_cons.mpr ⟨am_d38, List.forall_mem_cons.mpr ⟨am_d39, List.forall_mem_cons.mpr ⟨am_d40, List.forall_mem_cons.mpr ⟨am_d41, List.forall_mem_cons.mpr ⟨am_d42, List.forall_mem_cons.mpr ⟨am_d43, List.forall_mem_cons.mpr ⟨am_d44, List.forall_mem_cons.mpr ⟨am_d45, List.forall_mem_cons.mpr ⟨am_d46, List.forall_mem_cons.mpr ⟨am_d47, fun _ h => absurd h List.not_mem_nil⟩⟩⟩⟩⟩⟩⟩⟩⟩⟩⟩⟩⟩⟩⟩⟩⟩⟩⟩⟩⟩⟩⟩⟩
set_option maxRecDepth 20000 in
theorem am_dqall_48 : ∀ k ∈ ([48, 49, 50, 51, 52, 53, 54, 55, 56, 57, 58, 59, 60, 61, 62, 63, 64, 65, 66, 67, 68, 69, 70, 71] : List Nat), am_dq k = true := List.forall_mem_cons.mpr ⟨am_d48, List.forall_mem_cons.mpr ⟨am_d49, List.forall_mem_cons.mpr ⟨am_d50, List.forall_mem_cons.mpr ⟨am_d51, List.forall_mem_cons.mpr ⟨am_d52, List.forall_mem_cons.mpr ⟨am_d53, List.forall_mem_cons.mpr ⟨am_d54, List.forall_mem_cons.mpr ⟨am_d55, List.forall_mem_cons.mpr ⟨am_d56, List.forall_mem_cons.mpr ⟨am_d57, List.forall_mem_cons.mpr ⟨am_d58, List.forall_mem_cons.mpr ⟨am_d59, List.forall_mem_cons.mpr ⟨am_d60, List.forall_mem_cons.mpr ⟨am_d61, List.forall_mem_cons.mpr ⟨am_d62, List.forall_mem_cons.mpr ⟨am_d63, List.forall_mem_cons.mpr ⟨am_d64, List.forall_mem_cons.mpr ⟨am_d65, List.forall_mem_cons.mpr ⟨am_d66, List.forall_mem_cons.mpr ⟨am_d67, List.forall_mem_cons.mpr ⟨am_d68, List.forall_mem_cons.mpr ⟨am_d69, List.forall_mem_cons.mpr ⟨am_d70, List.forall_mem_cons.mpr ⟨am_d71, fun _ h => absurd h List.not_mem_nil⟩⟩⟩⟩⟩⟩⟩⟩⟩⟩⟩⟩⟩⟩⟩⟩⟩⟩⟩⟩⟩⟩⟩⟩
set_option maxRecDepth 20000 in
theorem am_dqall_72 : ∀ k ∈ ([72, 73, 74, 75, 76, 77, 78, 79, 80, 81, 82, 83, 84, 85, 86, 87, 88, 89, 90, 91, 92, 93, 94, 95] : List Nat), am_dq k = true := List.forall_mem_cons.mpr ⟨am_d72, List.forall_mem_cons.mpr ⟨am_d73, List.forall_mem_cons.mpr ⟨am_d74, List.forall_mem_cons.mpr ⟨am_d75, List.forall_mem_cons.mpr ⟨am_d76, List.forall_mem_cons.mpr ⟨am_d77, List.forall_mem_cons.mpr ⟨am_d78, List.forall_mem_cons.mpr ⟨am_d79, List.forall_mem_cons.mpr ⟨am_d80, List.forall_mem_cons.mpr ⟨am_d81, List.forall_mem_cons.mpr ⟨am_d82, List.forall_mem_cons.mpr ⟨am_d83, List.forall_mem_cons.mpr ⟨am_d84, List.forall_mem_cons.mpr ⟨am_d85, List.forall_mem_cons.mpr ⟨am_d86, List.forall_mem_cons.mpr ⟨am_d87, List.forall_mem_cons.mpr ⟨am_d88, List.forall_mem_cons.mpr ⟨am_d89, List.forall_mem_cons.mpr ⟨am_d90, List.forall_mem_cons.mpr ⟨am_d91, List.forall_mem_cons.mpr ⟨am_d92, List.forall_mem_cons.mpr ⟨am_d93, List.forall_mem_cons.mpr ⟨am_d94, List.forall_mem_cons.mpr ⟨am_d95, fun _ h => absurd h List.not_mem_nil⟩⟩⟩⟩⟩⟩⟩⟩⟩⟩⟩⟩⟩⟩⟩⟩⟩⟩⟩⟩⟩⟩⟩⟩
set_option maxRecDepth 20000 in
theorem am_dqall_96 : ∀ k ∈ ([96, 97, 98, 99, 100, 101, 102, 103, 104, 105, 106, 107, 108, 109, 110, 111, 112, 113, 114, 115, 116, 117, 118, 119] : List Nat), am_dq k = true := List.forall_mem_cons.mpr ⟨am_d96, List.forall_mem_cons.mpr ⟨am_d97, List.forall_mem_cons.mpr ⟨am_d98, List.forall_mem_cons.mpr ⟨am_d99, List.forall_mem_cons.mpr ⟨am_d100, List.forall_mem_cons.mpr ⟨am_d101, List.forall_mem_cons.mpr ⟨am_d102, List.forall_mem_cons.mpr ⟨am_d103, List.forall_mem_cons.mpr ⟨am_d104, List.forall_mem_cons.mpr ⟨am_d105, List.forall_mem_cons.mpr ⟨am_d106, List.forall_mem_cons.mpr ⟨am_d107, List.forall_mem_cons.mpr ⟨am_d108, List.forall_mem_cons.mpr ⟨am_d109, List.forall_mem_cons.mpr ⟨am_d110, List.forall_mem_cons.mpr ⟨am_d111, List.forall_mem_cons.mpr ⟨am_d112, List.forall_mem_cons.mpr ⟨am_d113, List.forall_mem_cons.mpr ⟨am_d114, List.forall_mem_cons.mpr ⟨am_d115, List.forall_mem_cons.mpr ⟨am_d116, List.forall_mem_cons.mpr ⟨am_d117, List.forall_mem_cons.mpr ⟨am_d118, List.forall_mem_cons.mpr ⟨am_d119, fun _ h => absurd h List.not_mem_nil⟩⟩⟩⟩⟩⟩⟩⟩⟩⟩⟩⟩⟩⟩⟩⟩⟩⟩⟩⟩⟩⟩⟩⟩
set_option maxRecDepth 20000 in
theorem am_dqall_120 : ∀ k ∈ ([120, 121, 122, 123, 124, 125, 126, 127, 128, 129, 130, 131, 132, 133, 134, 135, 136, 137, 138, 139, 140, 141, 142, 143] : List Nat), am_dq k = true := List.forall_mem_cons.mpr ⟨am_d120, List.forall_mem_cons.mpr ⟨am_d121, List.forall_mem_cons.mpr ⟨am_d122, List.forall_mem_cons.mpr ⟨am_d123, List.forall_mem_cons.mpr ⟨am_d124, List.forall_mem_cons.mpr ⟨am_d125, List.forall_mem_cons.mpr ⟨am_d126, List.forall_mem_cons.mpr ⟨am_d127, List.forall_mem_cons.mpr ⟨am_d128, List.forall_mem_cons.mpr ⟨am_d129, List.forall_mem_cons.mpr ⟨am_d130, List.forall_mem_cons.mpr ⟨am_d131, List.forall_mem_cons.mpr ⟨am_d132, List.forall_mem_cons.mpr ⟨am_d133, List.forall_mem_cons.mpr ⟨am_d134, List.forall_mem_cons.mpr ⟨am_d135, List.forall_mem_cons.mpr ⟨am_d136, List.forall_mem_cons.mpr ⟨am_d137, List.forall_mem_cons.mpr ⟨am_d138, List.forall_mem_cons.mpr ⟨am_d139, List.forall_mem_cons.mpr ⟨am_d140, List.forall_mem_cons.mpr ⟨am_d141, List.forall_mem_cons.mpr ⟨am_d142, List.forall_mem_cons.mpr ⟨am_d143, fun _ h => absurd h List.not_mem_nil⟩⟩⟩⟩⟩⟩⟩⟩⟩⟩⟩⟩⟩⟩⟩⟩⟩⟩⟩⟩⟩⟩⟩⟩
set_option maxRecDepth 20000 in
theorem am_dqall_144 : ∀ k ∈ ([144, 145, 146, 147, 148, 149, 150, 151, 152, 153, 154, 155, 156, 157, 158, 159, 160, 161, 162, 163, 164, 165, 166, 167] : List Nat), am_dq k = true := List.forall_mem_cons.mpr ⟨am_d144, List.forall_mem_cons.mpr ⟨am_d145, List.forall_mem_cons.mpr ⟨am_d146, List.forall_mem_cons.mpr ⟨am_d147, List.forall_mem_cons.mpr ⟨am_d148, List.forall_mem_cons.mpr ⟨am_d149, List.forall_mem_cons.mpr ⟨am_d150, List.forall_mem_cons.mpr ⟨am_d151, List.forall_mem_cons.mpr ⟨am_d152, List.forall_mem_cons.mpr ⟨am_d153, List.forall_mem_cons.mpr ⟨am_d154, List.forall_mem_cons.mpr ⟨am_d155, List.forall_mem_cons.mpr ⟨am_d156, List.forall_mem_cons.mpr ⟨am_d157, List.forall_mem_cons.mpr ⟨am_d158, List.forall_mem_cons.mpr ⟨am_d159, List.forall_mem_cons.mpr ⟨am_d160, List.forall_mem_cons.mpr ⟨am_d161, List.forall_mem_cons.mpr ⟨am_d162, List.forall_mem_cons.mpr ⟨am_d163, List.forall_mem_cons.mpr ⟨am_d164, List.forall_mem_cons.mpr ⟨am_d165, List.forall_mem_cons.mpr ⟨am_d166, List.forall_mem_cons.mpr ⟨am_d167, fun _ h => absurd h List.not_mem_nil⟩⟩⟩⟩⟩⟩⟩⟩⟩⟩⟩⟩⟩⟩⟩⟩⟩⟩⟩⟩⟩⟩⟩⟩
set_option maxRecDepth 20000 in
theorem am_dqall_168 : ∀ k ∈ ([168, 169, 170, 171, 172, 173, 174, 175, 176, 177, 178, 179, 180, 181, 182, 183, 184, 185, 186, 187, 188, 189, 190, 191] : List Nat), am_dq k = true := List.forall_mem_cons.mpr ⟨am_d168, List.forall_mem_cons.mpr ⟨am_d169, List.forall_mem_cons.mpr ⟨am_d170, List.forall_mem_cons.mpr ⟨am_d171, List.forall_mem_cons.mpr ⟨am_d172, List.forall_mem_cons.mpr ⟨am_d173, List.forall_mem_cons.mpr ⟨am_d174, List.forall_mem_cons.mpr ⟨am_d175, List.forall_mem_cons.mpr ⟨am_d176, List.forall_mem_cons.mpr ⟨am_d177, List.forall_mem_cons.mpr ⟨am_d178, List.forall_mem_cons.mpr ⟨am_d179, List.forall_mem_cons.mpr ⟨am_d180, List.forall_mem_cons.mpr ⟨am_d181, List.forall_mem_cons.mpr ⟨am_d182, List.forall_mem_cons.mpr ⟨am_d183, List.forall_mem_cons.mpr ⟨am_d184, List.forall_mem_cons.mpr ⟨am_d185, List.forall_mem_cons.mpr ⟨am_d186, List.forall_mem_cons.mpr ⟨am_d187, List.forall_mem_cons.mpr ⟨am_d188, List.forall_mem_cons.mpr ⟨am_d189, List.forall_mem_cons.mpr ⟨am_d190, List.forall_mem_cons.mpr ⟨am_d191, fun _ h => absurd h List.not_mem_nil⟩⟩⟩⟩⟩⟩⟩⟩⟩⟩⟩⟩⟩⟩⟩⟩⟩⟩⟩⟩⟩⟩⟩⟩
set_option maxRecDepth 20000 in
theorem am_dqall_192 : ∀ k ∈ ([192, 193, 194, 195, 196, 197, 198, 199, 200, 201, 202, 203, 204, 205, 206, 207, 208, 209, 210, 211, 212, 213, 214, 215] : List Nat), am_dq k = true := List.forall_mem_cons.mpr ⟨am_d192, List.forall_mem_cons.mpr ⟨am_d193, List.forall_mem_cons.mpr ⟨am_d194, List.forall_mem_cons.mpr ⟨am_d195, List.forall_mem_cons.mpr ⟨am_d196, List.forall_mem_cons.mpr ⟨am_d197, List.forall_mem_cons.mpr ⟨am_d198, List.forall_mem_cons.mpr ⟨am_d199, List.forall_mem_cons.mpr ⟨am_d200, List.forall_mem_cons.mpr ⟨am_d201, List.forall_mem_cons.mpr ⟨am_d202, List.forall_mem_cons.mpr ⟨am_d203, List.forall_mem_cons.mpr ⟨am_d204, List.forall_mem_cons.mpr ⟨am_d205, List.forall_mem_cons.mpr ⟨am_d206, List.forall_mem_cons.mpr ⟨am_d207, List.forall_mem_cons.mpr ⟨am_d208, List.forall_mem_cons.mpr ⟨am_d209, List.forall_mem_cons.mpr ⟨am_d210, List.forall_mem_cons.mpr ⟨am_d211, List.forall_mem_cons.mpr ⟨am_d212, List.forall_mem_cons.mpr ⟨am_d213, List.forall_mem_cons.mpr ⟨am_d214, List.forall_mem_cons.mpr ⟨am_d215, fun _ h => absurd h List.not_mem_nil⟩⟩⟩⟩⟩⟩⟩⟩⟩⟩⟩⟩⟩⟩⟩⟩⟩⟩⟩⟩⟩⟩⟩⟩
set_option maxRecDepth 20000 in
theorem am_dqall_216 : ∀ k ∈ ([216, 217, 218, 219, 220, 221, 222, 223, 224, 225, 226, 227, 228, 229, 230, 231, 232, 233, 234, 235, 236, 237, 238, 239] : List Nat), am_dq k = true := List.forall_mem_cons.mpr ⟨am_d216, List.forall_mem_cons.mpr ⟨am_d217, List.forall_mem_cons.mpr ⟨am_d218, List.forall_mem_cons.mpr ⟨am_d219, List.forall_mem_cons.mpr ⟨am_d220, List.forall_mem_cons.mpr ⟨am_d221, List.forall_mem_cons.mpr ⟨am_d222, List.forall_mem_cons.mpr ⟨am_d223, List.forall_mem_cons.mpr ⟨am_d224, List.forall_mem_cons.mpr ⟨am_d225, List.forall_mem_cons.mpr ⟨am_d226, List.forall_mem_cons.mpr ⟨am_d227, List.forall_mem_cons.mpr ⟨am_d228, List.forall_mem_cons.mpr ⟨am_d229, List.forall_mem_cons.mpr ⟨am_d230, List.forall_mem_cons.mpr ⟨am_d231, List.forall_mem_cons.mpr ⟨am_d232, List.forall_mem_cons.mpr ⟨am_d233, List.forall_mem_cons.mpr ⟨am_d234, List.forall_mem_cons.mpr ⟨am_d235, List.forall_mem_cons.mpr ⟨am_d236, List.forall_mem_cons.mpr ⟨am_d237, List.forall_mem_cons.mpr ⟨am_d238, List.forall_mem_cons.mpr ⟨am_d239, fun _ h => absurd h List.not_mem_nil⟩⟩⟩⟩⟩⟩⟩⟩⟩⟩⟩⟩⟩⟩⟩⟩⟩⟩⟩⟩⟩⟩⟩⟩
theorem am_dqall {k : Nat} (h : k < 240) : am_dq k = true := by
  by_cases h0 : k < 24
  · exact am_dqall_0 k (am_rng 24 0 k (by omega) (by omega))
  by_cases h24 : k < 48
  · exact am_dqall_24 k (am_rng 24 24 k (by omega) (by omega))
  by_cases h48 : k < 72
  · exact am_dqall_48 k (am_rng 24 48 k (by omega) (by omega))
  by_cases h72 : k < 96
  · exact am_dqall_72 k (am_rng 24 72 k (by omega) (by omega))
  by_cases h96 : k < 120
  · exact am_dqall_96 k (am_rng 24 96 k (by omega) (by omega))
  by_cases h120 : k < 144
  · exact am_dqall_120 k (am_rng 24 120 k (by omega) (by omega))
  by_cases h144 : k < 168
  · exact am_dqall_144 k (am_rng 24 144 k (by omega) (by omega))
  by_cases h168 : k < 192
  · exact am_dqall_168 k (am_rng 24 168 k (by omega) (by omega))
  by_cases h192 : k < 216
  · exact am_dqall_192 k (am_rng 24 192 k (by omega) (by omega))
  by_cases h216 : k < 240
  · exact am_dqall_216 k (am_rng 24 216 k (by omega) (by omega))
  omega
theorem am_dall {k : Nat} (h : k < 240) : am_dchk (am_bytes k) (am_raw.getD k []) = true := am_fast (am_dqall h)
