theorem am_k0 : am_mf 0 = true := by decide +kernel
theorem am_k1 : am_mf 1 = true := by decide +kernel
theorem am_k2 : am_mf 2 = true := by decide +kernel
theorem am_k3 : am_mf 3 = true := by decide +kernel
theorem am_k4 : am_mf 4 = true := by decide +kernel
theorem am_k5 : am_mf 5 = true := by decide +kernel
theorem am_k6 : am_mf 6 = true := by decide +kernel
theorem am_k7 : am_mf 7 = true := by decide +kernel
theorem am_k8 : am_mf 8 = true := by decide +kernel
theorem am_k9 : am_mf 9 = true := by decide +kernel
theorem am_k10 : am_mf 10 = true := by decide +kernel
theorem am_k11 : am_mf 11 = true := by decide +kernel
theorem am_k12 : am_mf 12 = true := by decide +kernel
theorem am_k13 : am_mf 13 = true := by decide +kernel
theorem am_k14 : am_mf 14 = true := by decide +kernel
theorem am_k15 : am_mf 15 = true := by decide +kernel
theorem am_k16 : am_mf 16 = true := by decide +kernel
theorem am_k17 : am_mf 17 = true := by decide +kernel
theorem am_k18 : am_mf 18 = true := by decide +kernel
theorem am_k19 : am_mf 19 = true := by decide +kernel
theorem am_k20 : am_mf 20 = true := by decide +kernel
theorem am_k21 : am_mf 21 = true := by decide +kernel
theorem am_k22 : am_mf 22 = true := by decide +kernel
theorem am_k23 : am_mf 23 = true := by decide +kernel
theorem am_k24 : am_mf 24 = true := by decide +kernel
theorem am_k25 : am_mf 25 = true := by decide +kernel
theorem am_k26 : am_mf 26 = true := by decide +kernel
theorem am_k27 : am_mf 27 = true := by decide +kernel
theorem am_k28 : am_mf 28 = true := by decide +kernel
theorem am_k29 : am_mf 29 = true := by decide +kernel
theorem am_k30 : am_mf 30 = true := by decide +kernel
theorem am_k31 : am_mf 31 = true := by decide +kernel
theorem am_k32 : am_mf 32 = true := by decide +kernel
theorem am_k33 : am_mf 33 = true := by decide +kernel
theorem am_k34 : am_mf 34 = true := by decide +kernel
theorem am_k35 : am_mf 35 = true := by decide +kernel
theorem am_k36 : am_mf 36 = true := by decide +kernel
theorem am_k37 : am_mf 37 = true := by decide +kernel
theorem am_k38 : am_mf 38 = true := by decide +kernel
theorem am_k39 : am_mf 39 = true := by decide +kernel
theorem am_k40 : am_mf 40 = true := by decide +kernel
theorem am_k41 : am_mf 41 = true := by decide +kernel
theorem am_k42 : am_mf 42 = true := by decide +kernel
theorem am_k43 : am_mf 43 = true := by decide +kernel
theorem am_k44 : am_mf 44 = true := by decide +kernel
theorem am_k45 : am_mf 45 = true := by decide +kernel
theorem am_k46 : am_mf 46 = true := by decide +kernel
theorem am_k47 : am_mf 47 = true := by decide +kernel
theorem am_k48 : am_mf 48 = true := by decide +kernel
theorem am_k49 : am_mf 49 = true := by decide +kernel
theorem am_k50 : am_mf 50 = true := by decide +kernel
theorem am_k51 : am_mf 51 = true := by decide +kernel
theorem am_k52 : am_mf 52 = true := by decide +kernel
theorem am_k53 : am_mf 53 = true := by decide +kernel
theorem am_k54 : am_mf 54 = true := by decide +kernel
theorem am_k55 : am_mf 55 = true := by decide +kernel
theorem am_k56 : am_mf 56 = true := by decide +kernel
theorem am_k57 : am_mf 57 = true := by decide +kernel
theorem am_k58 : am_mf 58 = true := by decide +kernel
theorem am_k59 : am_mf 59 = true := by decide +kernel
theorem am_k60 : am_mf 60 = true := by decide +kernel
theorem am_k61 : am_mf 61 = true := by decide +kernel
theorem am_k62 : am_mf 62 = true := by decide +kernel
theorem am_k63 : am_mf 63 = true := by decide +kernel
theorem am_k64 : am_mf 64 = true := by decide +kernel
theorem am_k65 : am_mf 65 = true := by decide +kernel
theorem am_k66 : am_mf 66 = true := by decide +kernel
theorem am_k67 : am_mf 67 = true := by decide +kernel
theorem am_k68 : am_mf 68 = true := by decide +kernel
theorem am_k69 : am_mf 69 = true := by decide +kernel
theorem am_k70 : am_mf 70 = true := by decide +kernel
theorem am_k71 : am_mf 71 = true := by decide +kernel
theorem am_k72 : am_mf 72 = true := by decide +kernel
theorem am_k73 : am_mf 73 = true := by decide +kernel
theorem am_k74 : am_mf 74 = true := by decide +kernel
theorem am_k75 : am_mf 75 = true := by decide +kernel
theorem am_k76 : am_mf 76 = true := by decide +kernel
theorem am_k77 : am_mf 77 = true := by decide +kernel
theorem am_k78 : am_mf 78 = true := by decide +kernel
theorem am_k79 : am_mf 79 = true := by decide +kernel
theorem am_k80 : am_mf 80 = true := by decide +kernel
theorem am_k81 : am_mf 81 = true := by decide +kernel
theorem am_k82 : am_mf 82 = true := by decide +kernel
theorem am_k83 : am_mf 83 = true := by decide +kernel
theorem am_k84 : am_mf 84 = true := by decide +kernel
theorem am_k85 : am_mf 85 = true := by decide +kernel
theorem am_k86 : am_mf 86 = true := by decide +kernel
theorem am_k87 : am_mf 87 = true := by decide +kernel
theorem am_k88 : am_mf 88 = true := by decide +kernel
theorem am_k89 : am_mf 89 = true := by decide +kernel
theorem am_k90 : am_mf 90 = true := by decide +kernel
theorem am_k91 : am_mf 91 = true := by decide +kernel
theorem am_k92 : am_mf 92 = true := by decide +kernel
theorem am_k93 : am_mf 93 = true := by decide +kernel
theorem am_k94 : am_mf 94 = true := by decide +kernel
theorem am_k95 : am_mf 95 = true := by decide +kernel
theorem am_k96 : am_mf 96 = true := by decide +kernel
theorem am_k97 : am_mf 97 = true := by decide +kernel
theorem am_k98 : am_mf 98 = true := by decide +kernel
theorem am_k99 : am_mf 99 = true := by decide +kernel
theorem am_k100 : am_mf 100 = true := by decide +kernel
theorem am_k101 : am_mf 101 = true := by decide +kernel
theorem am_k102 : am_mf 102 = true := by decide +kernel
theorem am_k103 : am_mf 103 = true := by decide +kernel
theorem am_k104 : am_mf 104 = true := by decide +kernel
theorem am_k105 : am_mf 105 = true := by decide +kernel
theorem am_k106 : am_mf 106 = true := by decide +kernel
theorem am_k107 : am_mf 107 = true := by decide +kernel
theorem am_k108 : am_mf 108 = true := by decide +kernel
theorem am_k109 : am_mf 109 = true := by decide +kernel
theorem am_k110 : am_mf 110 = true := by decide +kernel
theorem am_k111 : am_mf 111 = true := by decide +kernel
theorem am_k112 : am_mf 112 = true := by decide +kernel
theorem am_k113 : am_mf 113 = true := by decide +kernel
theorem am_k114 : am_mf 114 = true := by decide +kernel
theorem am_k115 : am_mf 115 = true := by decide +kernel
theorem am_k116 : am_mf 116 = true := by decide +kernel
theorem am_k117 : am_mf 117 = true := by decide +kernel
theorem am_k118 : am_mf 118 = true := by decide +kernel
theorem am_k119 : am_mf 119 = true := by decide +kernel
theorem am_k120 : am_mf 120 = true := by decide +kernel
theorem am_k121 : am_mf 121 = true := by decide +kernel
theorem am_k122 : am_mf 122 = true := by decide +kernel
theorem am_k123 : am_mf 123 = true := by decide +kernel
theorem am_k124 : am_mf 124 = true := by decide +kernel
theorem am_k125 : am_mf 125 = true := by decide +kernel
theorem am_k126 : am_mf 126 = true := by decide +kernel
theorem am_k127 : am_mf 127 = true := by decide +kernel
theorem am_k128 : am_mf 128 = true := by decide +kernel
theorem am_k129 : am_mf 129 = true := by decide +kernel
theorem am_k130 : am_mf 130 = true := by decide +kernel
theorem am_k131 : am_mf 131 = true := by decide +kernel
theorem am_k132 : am_mf 132 = true := by decide +kernel
theorem am_k133 : am_mf 133 = true := by decide +kernel
theorem am_k134 : am_mf 134 = true := by decide +kernel
theorem am_k135 : am_mf 135 = true := by decide +kernel
theorem am_k136 : am_mf 136 = true := by decide +kernel
theorem am_k137 : am_mf 137 = true := by decide +kernel
theorem am_k138 : am_mf 138 = true := by decide +kernel
theorem am_k139 : am_mf 139 = true := by decide +kernel
theorem am_k140 : am_mf 140 = true := by decide +kernel
theorem am_k141 : am_mf 141 = true := by decide +kernel
theorem am_k142 : am_mf 142 = true := by decide +kernel
theorem am_k143 : am_mf 143 = true := by decide +kernel
theorem am_k144 : am_mf 144 = true := by decide +kernel
theorem am_k145 : am_mf 145 = true := by decide +kernel
theorem am_k146 : am_mf 146 = true := by decide +kernel
theorem am_k147 : am_mf 147 = true := by decide +kernel
theorem am_k148 : am_mf 148 = true := by decide +kernel
theorem am_k149 : am_mf 149 = true := by decide +kernel
theorem am_k150 : am_mf 150 = true := by decide +kernel
theorem am_k151 : am_mf 151 = true := by decide +kernel
theorem am_k152 : am_mf 152 = true := by decide +kernel
theorem am_k153 : am_mf 153 = true := by decide +kernel
theorem am_k154 : am_mf 154 = true := by decide +kernel
theorem am_k155 : am_mf 155 = true := by decide +kernel
theorem am_k156 : am_mf 156 = true := by decide +kernel
theorem am_k157 : am_mf 157 = true := by decide +kernel
theorem am_k158 : am_mf 158 = true := by decide +kernel
theorem am_k159 : am_mf 159 = true := by decide +kernel
theorem am_k160 : am_mf 160 = true := by decide +kernel
theorem am_k161 : am_mf 161 = true := by decide +kernel
theorem am_k162 : am_mf 162 = true := by decide +kernel
theorem am_k163 : am_mf 163 = true := by decide +kernel
theorem am_k164 : am_mf 164 = true := by decide +kernel
theorem am_k165 : am_mf 165 = true := by decide +kernel
theorem am_k166 : am_mf 166 = true := by decide +kernel
theorem am_k167 : am_mf 167 = true := by decide +kernel
theorem am_k168 : am_mf 168 = true := by decide +kernel
theorem am_k169 : am_mf 169 = true := by decide +kernel
theorem am_k170 : am_mf 170 = true := by decide +kernel
theorem am_k171 : am_mf 171 = true := by decide +kernel
theorem am_k172 : am_mf 172 = true := by decide +kernel
theorem am_k173 : am_mf 173 = true := by decide +kernel
theorem am_k174 : am_mf 174 = true := by decide +kernel
theorem am_k175 : am_mf 175 = true := by decide +kernel
theorem am_k176 : am_mf 176 = true := by decide +kernel
theorem am_k177 : am_mf 177 = true := by decide +kernel
theorem am_k178 : am_mf 178 = true := by decide +kernel
theorem am_k179 : am_mf 179 = true := by decide +kernel
theorem am_k180 : am_mf 180 = true := by decide +kernel
theorem am_k181 : am_mf 181 = true := by decide +kernel
theorem am_k182 : am_mf 182 = true := by decide +kernel
theorem am_k183 : am_mf 183 = true := by decide +kernel
theorem am_k184 : am_mf 184 = true := by decide +kernel
theorem am_k185 : am_mf 185 = true := by decide +kernel
theorem am_k186 : am_mf 186 = true := by decide +kernel
theorem am_k187 : am_mf 187 = true := by decide +kernel
theorem am_k188 : am_mf 188 = true := by decide +kernel
theorem am_k189 : am_mf 189 = true := by decide +kernel
theorem am_k190 : am_mf 190 = true := by decide +kernel
theorem am_k191 : am_mf 191 = true := by decide +kernel
theorem am_k192 : am_mf 192 = true := by decide +kernel
theorem am_k193 : am_mf 193 = true := by decide +kernel
theorem am_k194 : am_mf 194 = true := by decide +kernel
theorem am_k195 : am_mf 195 = true := by decide +kernel
theorem am_k196 : am_mf 196 = true := by decide +kernel
theorem am_k197 : am_mf 197 = true := by decide +kernel
theorem am_k198 : am_mf 198 = true := by decide +kernel
theorem am_k199 : am_mf 199 = true := by decide +kernel
theorem am_k200 : am_mf 200 = true := by decide +kernel
theorem am_k201 : am_mf 201 = true := by decide +kernel
theorem am_k202 : am_mf 202 = true := by decide +kernel
theorem am_k203 : am_mf 203 = true := by decide +kernel
theorem am_k204 : am_mf 204 = true := by decide +kernel
theorem am_k205 : am_mf 205 = true := by decide +kernel
theorem am_k206 : am_mf 206 = true := by decide +kernel
theorem am_k207 : am_mf 207 = true := by decide +kernel
theorem am_k208 : am_mf 208 = true := by decide +kernel
theorem am_k209 : am_mf 209 = true := by decide +kernel
theorem am_k210 : am_mf 210 = true := by decide +kernel
theorem am_k211 : am_mf 211 = true := by decide +kernel
theorem am_k212 : am_mf 212 = true := by decide +kernel
theorem am_k213 : am_mf 213 = true := by decide +kernel
theorem am_k214 : am_mf 214 = true := by decide +kernel
theorem am_k215 : am_mf 215 = true := by decide +kernel
theorem am_k216 : am_mf 216 = true := by decide +kernel
theorem am_k217 : am_mf 217 = true := by decide +kernel
theorem am_k218 : am_mf 218 = true := by decide +kernel
theorem am_k219 : am_mf 219 = true := by decide +kernel
theorem am_k220 : am_mf 220 = true := by decide +kernel
theorem am_k221 : am_mf 221 = true := by decide +kernel
theorem am_k222 : am_mf 222 = true := by decide +kernel
theorem am_k223 : am_mf 223 = true := by decide +kernel
theorem am_k224 : am_mf 224 = true := by decide +kernel
theorem am_k225 : am_mf 225 = true := by decide +kernel
theorem am_k226 : am_mf 226 = true := by decide +kernel
theorem am_k227 : am_mf 227 = true := by decide +kernel
theorem am_k228 : am_mf 228 = true := by decide +kernel
theorem am_k229 : am_mf 229 = true := by decide +kernel
theorem am_k230 : am_mf 230 = true := by decide +kernel
theorem am_k231 : am_mf 231 = true := by decide +kernel
theorem am_k232 : am_mf 232 = true := by decide +kernel
theorem am_k233 : am_mf 233 = true := by decide +kernel
theorem am_k234 : am_mf 234 = true := by decide +kernel
theorem am_k235 : am_mf 235 = true := by decide +kernel
theorem am_k236 : am_mf 236 = true := by decide +kernel
theorem am_k237 : am_mf 237 = true := by decide +kernel
theorem am_k238 : am_mf 238 = true := by decide +kernel
theorem am_k239 : am_mf 239 = true := by decide +kernel
set_option maxRecDepth 20000 in
theorem am_mfall_0 : ∀ k ∈ ([0, 1, 2, 3, 4, 5, 6, 7, 8, 9, 10, 11, 12, 13, 14, 15, 16, 17, 18, 19, 20, 21, 22, 23] : List Nat), am_mf k = true := List.forall_mem_cons.mpr ⟨am_k0, List.forall_mem_cons.mpr ⟨am_k1, List.forall_mem_cons.mpr ⟨am_k2, List.forall_mem_cons.mpr ⟨am_k3, List.forall_mem_cons.mpr ⟨am_k4, List.forall_mem_cons.mpr ⟨am_k5, List.forall_mem_cons.mpr ⟨am_k6, List.forall_mem_cons.mpr ⟨am_k7, List.forall_mem_cons.mpr ⟨am_k8, List.forall_mem_cons.mpr ⟨am_k9, List.forall_mem_cons.mpr ⟨am_k10, List.forall_mem_cons.mpr ⟨am_k11, List.forall_mem_cons.mpr ⟨am_k12, List.forall_mem_cons.mpr ⟨am_k13, List.forall_mem_cons.mpr ⟨am_k14, List.forall_mem_cons.mpr ⟨am_k15, List.forall_mem_cons.mpr ⟨am_k16, List.forall_mem_cons.mpr ⟨am_k17, List.forall_mem_cons.mpr ⟨am_k18, List.forall_mem_cons.mpr ⟨am_k19, List.forall_mem_cons.mpr ⟨am_k20, List.forall_mem_cons.mpr ⟨am_k21, List.forall_mem_cons.mpr ⟨am_k22, List.forall_mem_cons.mpr ⟨am_k23, fun _ h => absurd h List.not_mem_nil⟩⟩⟩⟩⟩⟩⟩⟩⟩⟩⟩⟩⟩⟩⟩⟩⟩⟩⟩⟩⟩⟩⟩⟩
set_option maxRecDepth 20000 in
theorem am_mfall_24 : ∀ k ∈ ([24, 25, 26, 27, 28, 29, 30, 31, 32, 33, 34, 35, 36, 37, 38, 39, 40, 41, 42, 43, 44, 45, 46, 47] : List Nat), am_mf k = true := List.forall_mem_cons.mpr ⟨am_k24, List.forall_mem_cons.mpr ⟨am_k25, List.forall_mem_cons.mpr ⟨am_k26, List.forall_mem_cons.mpr ⟨am_k27, List.forall_mem_cons.mpr ⟨am_k28, List.forall_mem_cons.mpr ⟨am_k29, List.forall_mem_cons.mpr ⟨am_k30, List.forall_mem_cons.mpr ⟨am_k31, List.forall_mem_cons.mpr ⟨am_k32, List.forall_mem_cons.mpr ⟨am_k33, List.forall_mem_cons.mpr ⟨am_k34, List.forall_mem_cons.mpr ⟨am_k35, List.forall_mem_cons.mpr ⟨am_k36, List.forall_mem_cons.mpr ⟨am_k37, List.forall_mem_cons.mpr ⟨am_k38, List.forall_mem_cons.mpr ⟨am_k39, List.forall_mem_cons.mpr ⟨am_k40, List.forall_mem_cons.mpr ⟨am_k41, List.forall_mem_cons.mpr ⟨am_k42, List.forall_mem_cons.mpr ⟨am_k43, List.forall_mem_cons.mpr ⟨am_k44, List.forall_mem_cons.mpr ⟨am_k45, List.forall_mem_cons.mpr ⟨am_k46, List.forall_mem_cons.mpr ⟨am_k47, fun _ h => absurd h List.not_mem_nil⟩⟩⟩⟩⟩⟩⟩⟩⟩⟩⟩⟩⟩⟩⟩⟩⟩⟩⟩⟩⟩⟩⟩⟩
set_option maxRecDepth 20000 in
theorem am_mfall_48 : ∀ k ∈ ([48, 49, 50, 51, 52, 53, 54, 55, 56, 57, 58, 59, 60, 61, 62, 63, 64, 65, 66, 67, 68, 69, 70, 71] : List Nat), am_mf k = true := List.forall_mem_cons.mpr ⟨am_k48, List.forall_mem_cons.mpr ⟨am_k49, List.forall_mem_cons.mpr ⟨am_k50, List.forall_mem_cons.mpr ⟨am_k51, List.forall_mem_cons.mpr ⟨am_k52, List.forall_mem_cons.mpr ⟨am_k53, List.forall_mem_cons.mpr ⟨am_k54, List.forall_mem_cons.mpr ⟨am_k55, List.forall_mem_cons.mpr ⟨am_k56, List.forall_mem_cons.mpr ⟨am_k57, List.forall_mem_cons.mpr ⟨am_k58, List.forall_mem_cons.mpr ⟨am_k59, List.forall_mem_cons.mpr ⟨am_k60, List.forall_mem_cons.mpr ⟨am_k61, List.forall_mem_cons.mpr ⟨am_k62, List.forall_mem_cons.mpr ⟨am_k63, List.forall_mem_cons.mpr ⟨am_k64, List.forall_mem_cons.mpr ⟨am_k65, List.forall_mem_cons.mpr ⟨am_k66, List.forall_mem_cons.mpr ⟨am_k67, List.forall_mem_cons.mpr ⟨am_k68, List.forall_mem_cons.mpr ⟨am_k69, List.forall_mem_cons.mpr ⟨am_k70, List.forall_mem_cons.mpr ⟨am_k71, fun _ h => absurd h List.not_mem_nil⟩⟩⟩⟩⟩⟩⟩⟩⟩⟩⟩⟩⟩⟩⟩⟩⟩⟩⟩⟩⟩⟩⟩⟩
set_option maxRecDepth 20000 in
theorem am_mfall_72 : ∀ k ∈ ([72, 73, 74, 75, 76, 77, 78, 79, 80, 81, 82, 83, 84, 85, 86, 87, 88, 89, 90, 91, 92, 93, 94, 95] : List Nat), am_mf k = true := List.forall_mem_cons.mpr ⟨am_k72, List.forall_mem_cons.mpr ⟨am_k73, List.forall_mem_cons.mpr ⟨am_k74, List.forall_mem_cons.mpr ⟨am_k75, List.forall_mem_cons.mpr ⟨am_k76, List.forall_mem_cons.mpr ⟨am_k77, List.forall_mem_cons.mpr ⟨am_k78, List.forall_mem_cons.mpr ⟨am_k79, List.forall_mem_cons.mpr ⟨am_k80, List.forall_mem_cons.mpr ⟨am_k81, List.forall_mem_cons.mpr ⟨am_k82, List.forall_mem_cons.mpr ⟨am_k83, List.forall_mem_cons.mpr ⟨am_k84, List.forall_mem_cons.mpr ⟨am_k85, List.forall_mem_cons.mpr ⟨am_k86, List.forall_mem_cons.mpr ⟨am_k87, List.forall_mem_cons.mpr ⟨am_k88, List.forall_mem_cons.mpr ⟨am_k89, List.forall_mem_cons.mpr ⟨am_k90, List.forall_mem_cons.mpr ⟨am_k91, List.forall_mem_cons.mpr ⟨am_k92, List.forall_mem_cons.mpr ⟨am_k93, List.forall_mem_cons.mpr ⟨am_k94, List.forall_mem_cons.mpr ⟨am_k95, fun _ h => absurd h List.not_mem_nil⟩⟩⟩⟩⟩⟩⟩⟩⟩⟩⟩⟩⟩⟩⟩⟩⟩⟩⟩⟩⟩⟩⟩⟩
set_option maxRecDepth 20000 in
theorem am_mfall_96 : ∀ k ∈ ([96, 97, 98, 99, 100, 101, 102, 103, 104, 105, 106, 107, 108, 109, 110, 111, 112, 113, 114, 115, 116, 117, 118, 119] : List Nat), am_mf k = true := List.forall_mem_cons.mpr ⟨am_k96, List.forall_mem_cons.mpr ⟨am_k97, List.forall_mem_cons.mpr ⟨am_k98, List.forall_mem_cons.mpr ⟨am_k99, List.forall_mem_cons.mpr ⟨am_k100, List.forall_mem_cons.mpr ⟨am_k101, List.forall_mem_cons.mpr ⟨am_k102, List.forall_mem_cons.mpr ⟨am_k103, List.forall_mem_cons.mpr ⟨am_k104, List.forall_mem_cons.mpr ⟨am_k105, List.forall_mem_cons.mpr ⟨am_k106, List.forall_mem_cons.mpr ⟨am_k107, List.forall_mem_cons.mpr ⟨am_k108, List.forall_mem_cons.mpr ⟨am_k109, List.forall_mem_cons.mpr ⟨am_k110, List.forall_mem_cons.mpr ⟨am_k111, List.forall_mem_cons.mpr ⟨am_k112, List.forall_mem_cons.mpr ⟨am_k113, List.forall_mem_cons.mpr ⟨am_k114, List.forall_mem_cons.mpr ⟨am_k115, List.forall_mem_cons.mpr ⟨am_k116, List.forall_mem_cons.mpr ⟨am_k117, List.forall_mem_cons.mpr ⟨am_k118, List.forall_mem_cons.mpr ⟨am_k119, fun _ h => absurd h List.not_mem_nil⟩⟩⟩⟩⟩⟩⟩⟩⟩⟩⟩⟩⟩⟩⟩⟩⟩⟩⟩⟩⟩⟩⟩⟩
set_option maxRecDepth 20000 in
theorem am_mfall_120 : ∀ k ∈ ([120, 121, 122, 123, 124, 125, 126, 127, 128, 129, 130, 131, 132, 133, 134, 135, 136, 137, 138, 139, 140, 141, 142, 143] : List Nat), am_mf k = true := List.forall_mem_cons.mpr ⟨am_k120, List.forall_mem_cons.mpr ⟨am_k121, List.forall_mem_cons.mpr ⟨am_k122, List.forall_mem_cons.mpr ⟨am_k123, List.forall_mem_cons.mpr ⟨am_k124, List.forall_mem_cons.mpr ⟨am_k125, List.forall_mem_cons.mpr ⟨am_k126, List.forall_mem_cons.mpr ⟨am_k127, List.forall_mem_cons.mpr ⟨am_k128, List.forall_mem_cons.mpr ⟨am_k129, List.forall_mem_cons.mpr ⟨am_k130, List.forall_mem_cons.mpr ⟨am_k131, List.forall_mem_cons.mpr ⟨am_k132, List.forall_mem_cons.mpr ⟨am_k133, List.forall_mem_cons.mpr ⟨am_k134, List.forall_mem_cons.mpr ⟨am_k135, List.forall_mem_cons.mpr ⟨am_k136, List.forall_mem_cons.mpr ⟨am_k137, List.forall_mem_cons.mpr ⟨am_k138, List.forall_mem_cons.mpr ⟨am_k139, List.forall_mem_cons.mpr ⟨am_k140, List.forall_mem_cons.mpr ⟨am_k141, List.forall_mem_cons.mpr ⟨am_k142, List.forall_mem_cons.mpr ⟨am_k143, fun _ h => absurd h List.not_mem_nil⟩⟩⟩⟩⟩⟩⟩⟩⟩⟩⟩⟩⟩⟩⟩⟩⟩⟩⟩⟩⟩⟩⟩⟩
set_option maxRecDepth 20000 in
theorem am_mfall_144 : ∀ k ∈ ([144, 145, 146, 147, 148, 149, 150, 151, 152, 153, 154, 155, 156, 157, 158, 159, 160, 161, 162, 163, 164, 165, 166, 167] : List Nat), am_mf k = true := List.forall_mem_cons.mpr ⟨am_k144, List.forall_mem_cons.mpr ⟨am_k145, List.forall_mem_cons.mpr ⟨am_k146, List.forall_mem_cons.mpr ⟨am_k147, List.forall_mem_cons.mpr ⟨am_k148, List.forall_mem_cons.mpr ⟨am_k149, List.forall_mem_cons.mpr ⟨am_k150, List.forall_mem_cons.mpr ⟨am_k151, List.forall_mem_cons.mpr ⟨am_k152, List.forall_mem_cons.mpr ⟨am_k153, List.forall_mem_cons.mpr ⟨am_k154, List.forall_mem_cons.mpr ⟨am_k155, List.forall_mem_cons.mpr ⟨am_k156, List.forall_mem_cons.mpr ⟨am_k157, List.forall_mem_cons.mpr ⟨am_k158, List.forall_mem_cons.mpr ⟨am_k159, List.forall_mem_cons.mpr ⟨am_k160, List.forall_mem_cons.mpr ⟨am_k161, List.forall_mem_cons.mpr ⟨am_k162, List.forall_mem_cons.mpr ⟨am_k163, List.forall_mem_cons.mpr ⟨am_k164, List.forall_mem_cons.mpr ⟨am_k165, List.forall_mem_cons.mpr ⟨am_k166, List.forall_mem_cons.mpr ⟨am_k167, fun _ h => absurd h List.not_mem_nil⟩⟩⟩⟩⟩⟩⟩⟩⟩⟩⟩⟩⟩⟩⟩⟩⟩⟩⟩⟩⟩⟩⟩⟩
set_option maxRecDepth 20000 in
theorem am_mfall_168 : ∀ k ∈ ([168, 169, 170, 171, 172, 173, 174, 175, 176, 177, 178, 179, 180, 181, 182, 183, 184, 185, 186, 187, 188, 189, 190, 191] : List Nat), am_mf k = true := List.forall_mem_cons.mpr ⟨am_k168, List.forall_mem_cons.mpr ⟨am_k169, List.forall_mem_cons.mpr ⟨am_k170, List.forall_mem_cons.mpr ⟨am_k171, List.forall_mem_cons.mpr ⟨am_k172, List.forall_mem_cons.mpr ⟨am_k173, List.forall_mem_cons.mpr ⟨am_k174, List.forall_mem_cons.mpr ⟨am_k175, List.forall_mem_cons.mpr ⟨am_k176, List.forall_mem_cons.mpr ⟨am_k177, List.forall_mem_cons.mpr ⟨am_k178, List.forall_mem_cons.mpr ⟨am_k179, List.forall_mem_cons.mpr ⟨am_k180, List.forall_mem_cons.mpr ⟨am_k181, List.forall_mem_cons.mpr ⟨am_k182, List.forall_mem_cons.mpr ⟨am_k183, List.forall_mem_cons.mpr ⟨am_k184, List.forall_mem_cons.mpr ⟨am_k185, List.forall_mem_cons.mpr ⟨am_k186, List.forall_mem_cons.mpr ⟨am_k187, List.forall_mem_cons.mpr ⟨am_k188, List.forall_mem_cons.mpr ⟨am_k189, List.forall_mem_cons.mpr ⟨am_k190, List.forall_mem_cons.mpr ⟨am_k191, fun _ h => absurd h List.not_mem_nil⟩⟩⟩⟩⟩⟩⟩⟩⟩⟩⟩⟩⟩⟩⟩⟩⟩⟩⟩⟩⟩⟩⟩⟩
set_option maxRecDepth 20000 in
theorem am_mfall_192 : ∀ k ∈ ([192, 193, 194, 195, 196, 197, 198, 199, 200, 201, 202, 203, 204, 205, 206, 207, 208, 209, 210, 211, 212, 213, 214, 215] : List Nat), am_mf k = true := List.forall_mem_cons.mpr ⟨am_k192, List.forall_mem_cons.mpr ⟨am_k193, List.forall_mem_cons.mpr ⟨am_k194, List.forall_mem_cons.mpr ⟨am_k195, List.forall_mem_cons.mpr ⟨am_k196, List.forall_mem_cons.mpr ⟨am_k197, List.forall_mem_cons.mpr ⟨am_k198, List.forall_mem_cons.mpr ⟨am_k199, List.forall_mem_cons.mpr ⟨am_k200, List.forall_mem_cons.mpr ⟨am_k201, List.forall_mem_cons.mpr ⟨am_k202, List.forall_mem_cons.mpr ⟨am_k203, List.forall_mem_cons.mpr ⟨am_k204, List.forall_mem_cons.mpr ⟨am_k205, List.forall_mem_cons.mpr ⟨am_k206, List.forall_mem_cons.mpr ⟨am_k207, List.forall_mem_cons.mpr ⟨am_k208, List.forall_mem_cons.mpr ⟨am_k209, List.forall_mem_cons.mpr ⟨am_k210, List.forall_mem_cons.mpr ⟨am_k211, List.forall_mem_cons.mpr ⟨am_k212, List.forall_mem_cons.mpr ⟨am_k213, List.forall_mem_cons.mpr ⟨am_k214, List.forall_mem_cons.mpr ⟨am_k215, fun _ h => absurd h List.not_mem_nil⟩⟩⟩⟩⟩⟩⟩⟩⟩⟩⟩⟩⟩⟩⟩⟩⟩⟩⟩⟩⟩⟩⟩⟩
set_option maxRecDepth 20000 in
theorem am_mfall_216 : ∀ k ∈ ([216, 217, 218, 219, 220, 221, 222, 223, 224, 225, 226, 227, 228, 229, 230, 231, 232, 233, 234, 235, 236, 237, 238, 239] : List Nat), am_mf k = true := List.forall_mem_cons.mpr ⟨am_k216, List.forall_mem_cons.mpr ⟨am_k217, List.forall_mem_cons.mpr ⟨am_k218, List.forall_mem_cons.mpr ⟨am_k219, List.forall_mem_cons.mpr ⟨am_k220, List.forall_mem_cons.mpr ⟨am_k221, List.forall_mem_cons.mpr ⟨am_k222, List.forall_mem_cons.mpr ⟨am_k223, List.forall_mem_cons.mpr ⟨am_k224, List.forall_mem_cons.mpr ⟨am_k225, List.forall_mem_cons.mpr ⟨am_k226, List.forall_mem_cons.mpr ⟨am_k227, List.forall_mem_cons.mpr ⟨am_k228, List.forall_mem_cons.mpr ⟨am_k229, List.forall_mem_cons.mpr ⟨am_k230, List.forall_mem_cons.mpr ⟨am_k231, List.forall_mem_cons.mpr ⟨am_k232, List.forall_mem_cons.mpr ⟨am_k233, List.forall_mem_cons.mpr ⟨am_k234, List.forall_mem_cons.mpr ⟨am_k235, List.forall_mem_cons.mpr ⟨am_k236, List.forall_mem_cons.mpr ⟨am_k237, List.forall_mem_cons.mpr ⟨am_k238, List.forall_mem_cons.mpr ⟨am_k239, fun _ h => absurd h List.not_mem_nil⟩⟩⟩⟩⟩⟩⟩⟩⟩⟩⟩⟩⟩⟩⟩⟩⟩⟩⟩⟩⟩⟩⟩⟩
theorem am_mfall {k : Nat} (h : k < 240) : am_mf k = true := by
  by_cases h0 : k < 24
  · exact am_mfall_0 k (am_rng 24 0 k (by omega) (by omega))
  by_cases h24 : k < 48
  · exact am_mfall_24 k (am_rng 24 24 k (by omega) (by omega))
  by_cases h48 : k < 72
  · exact am_mfall_48 k (am_rng 24 48 k (by omega) (by omega))
  by_cases h72 : k < 96
  · exact am_mfall_72 k (am_rng 24 72 k (by omega) (by omega))
  by_cases h96 : k < 120
  · exact am_mfall_96 k (am_rng 24 96 k (by omega) (by omega))
  by_cases h120 : k < 144
  · exact am_mfall_120 k (am_rng 24 120 k (by omega) (by omega))
  by_cases h144 : k < 168
  · exact am_mfall_144 k (am_rng 24 144 k (by omega) (by omega))
  by_cases h168 : k < 192
  · exact am_mfall_168 k (am_rng 24 168 k (by omega) (by omega))
  by_cases h192 : k < 216
  · exact am_mfall_192 k (am_rng 24 192 k (by omega) (by omega))
  by_cases h216 : k < 240
  · exact am_mfall_216 k (am_rng 24 216 k (by omega) (by omega))
  omega
theorem am_mall {k : Nat} (h : k < 240) : am_mchk k = true := am_mf_ok (am_mfall h)
