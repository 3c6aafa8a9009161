theorem dX12_declaration_0 : decode cX12_declaration 0 = .ok (.aload_n 0, 1) := by decide +kernel
theorem dX12_declaration_1 : decode cX12_declaration 1 = .ok (.invokevirtual 381, 3) := by decide +kernel
theorem dX12_declaration_4 : decode cX12_declaration 4 = .ok (.sipush 324, 3) := by decide +kernel
theorem dX12_declaration_7 : decode cX12_declaration 7 = .ok (.if_icmp .ne 7, 3) := by decide +kernel
theorem dX12_declaration_14 : decode cX12_declaration 14 = .ok (.iconst 0, 1) := by decide +kernel
theorem dX12_declaration_15 : decode cX12_declaration 15 = .ok (.istore_n 1, 1) := by decide +kernel
theorem dX12_declaration_16 : decode cX12_declaration 16 = .ok (.iload_n 1, 1) := by decide +kernel
theorem dX12_declaration_17 : decode cX12_declaration 17 = .ok (.ifCond .ne 19, 3) := by decide +kernel
theorem dX12_declaration_20 : decode cX12_declaration 20 = .ok (.aload_n 0, 1) := by decide +kernel
theorem dX12_declaration_21 : decode cX12_declaration 21 = .ok (.invokevirtual 381, 3) := by decide +kernel
theorem dX12_declaration_24 : decode cX12_declaration 24 = .ok (.sipush 314, 3) := by decide +kernel
theorem dX12_declaration_27 : decode cX12_declaration 27 = .ok (.if_icmp .eq 9, 3) := by decide +kernel
theorem dX12_declaration_36 : decode cX12_declaration 36 = .ok (.aload_n 0, 1) := by decide +kernel
theorem dX12_declaration_37 : decode cX12_declaration 37 = .ok (.getfield 384, 3) := by decide +kernel
theorem dX12_declaration_40 : decode cX12_declaration 40 = .ok (.bipush 37, 2) := by decide +kernel
theorem dX12_declaration_42 : decode cX12_declaration 42 = .ok (.if_icmp .ne 9, 3) := by decide +kernel
theorem dX12_declaration_51 : decode cX12_declaration 51 = .ok (.aload_n 0, 1) := by decide +kernel
theorem dX12_declaration_52 : decode cX12_declaration 52 = .ok (.dup, 1) := by decide +kernel
theorem dX12_declaration_53 : decode cX12_declaration 53 = .ok (.getfield 343, 3) := by decide +kernel
theorem dX12_declaration_56 : decode cX12_declaration 56 = .ok (.iconst 1, 1) := by decide +kernel
theorem dX12_declaration_57 : decode cX12_declaration 57 = .ok (.iadd, 1) := by decide +kernel
theorem dX12_declaration_58 : decode cX12_declaration 58 = .ok (.putfield 343, 3) := by decide +kernel
theorem dX12_declaration_61 : decode cX12_declaration 61 = .ok (.aload_n 0, 1) := by decide +kernel
theorem dX12_declaration_62 : decode cX12_declaration 62 = .ok (.getfield 384, 3) := by decide +kernel
theorem dX12_declaration_65 : decode cX12_declaration 65 = .ok (.istore_n 2, 1) := by decide +kernel
theorem dX12_declaration_66 : decode cX12_declaration 66 = .ok (.aload_n 0, 1) := by decide +kernel
theorem dX12_declaration_67 : decode cX12_declaration 67 = .ok (.getfield 90, 3) := by decide +kernel
theorem dX12_declaration_70 : decode cX12_declaration 70 = .ok (.iload_n 2, 1) := by decide +kernel
theorem dX12_declaration_71 : decode cX12_declaration 71 = .ok (.iload_n 1, 1) := by decide +kernel
theorem dX12_declaration_72 : decode cX12_declaration 72 = .ok (.bastore, 1) := by decide +kernel
theorem dX12_declaration_73 : decode cX12_declaration 73 = .ok (.aload_n 0, 1) := by decide +kernel
theorem dX12_declaration_74 : decode cX12_declaration 74 = .ok (.getfield 87, 3) := by decide +kernel
theorem dX12_declaration_77 : decode cX12_declaration 77 = .ok (.iload_n 2, 1) := by decide +kernel
theorem dX12_declaration_78 : decode cX12_declaration 78 = .ok (.aload_n 0, 1) := by decide +kernel
theorem dX12_declaration_79 : decode cX12_declaration 79 = .ok (.invokevirtual 375, 3) := by decide +kernel
theorem dX12_declaration_82 : decode cX12_declaration 82 = .ok (.iastore, 1) := by decide +kernel
theorem dX12_declaration_83 : decode cX12_declaration 83 = .ok (.aload_n 0, 1) := by decide +kernel
theorem dX12_declaration_84 : decode cX12_declaration 84 = .ok (.getfield 350, 3) := by decide +kernel
theorem dX12_declaration_87 : decode cX12_declaration 87 = .ok (.ifCond .le 4, 3) := by decide +kernel
theorem dX12_declaration_91 : decode cX12_declaration 91 = .ok (.aload_n 0, 1) := by decide +kernel
theorem dX12_declaration_92 : decode cX12_declaration 92 = .ok (.getfield 84, 3) := by decide +kernel
theorem dX12_declaration_95 : decode cX12_declaration 95 = .ok (.iload_n 2, 1) := by decide +kernel
theorem dX12_declaration_96 : decode cX12_declaration 96 = .ok (.aload_n 0, 1) := by decide +kernel
theorem dX12_declaration_97 : decode cX12_declaration 97 = .ok (.getfield 25, 3) := by decide +kernel
theorem dX12_declaration_100 : decode cX12_declaration 100 = .ok (.aload_n 0, 1) := by decide +kernel
theorem dX12_declaration_101 : decode cX12_declaration 101 = .ok (.getfield 87, 3) := by decide +kernel
theorem dX12_declaration_104 : decode cX12_declaration 104 = .ok (.iload_n 2, 1) := by decide +kernel
theorem dX12_declaration_105 : decode cX12_declaration 105 = .ok (.iaload, 1) := by decide +kernel
theorem dX12_declaration_106 : decode cX12_declaration 106 = .ok (.iaload, 1) := by decide +kernel
theorem dX12_declaration_107 : decode cX12_declaration 107 = .ok (.iastore, 1) := by decide +kernel
theorem dX12_declaration_108 : decode cX12_declaration 108 = .ok (.aload_n 0, 1) := by decide +kernel
theorem dX12_declaration_109 : decode cX12_declaration 109 = .ok (.getfield 93, 3) := by decide +kernel
theorem dX12_declaration_112 : decode cX12_declaration 112 = .ok (.iload_n 2, 1) := by decide +kernel
theorem dX12_declaration_113 : decode cX12_declaration 113 = .ok (.iconst (-1), 1) := by decide +kernel
theorem dX12_declaration_114 : decode cX12_declaration 114 = .ok (.iastore, 1) := by decide +kernel
theorem dX12_declaration_115 : decode cX12_declaration 115 = .ok (.aload_n 0, 1) := by decide +kernel
theorem dX12_declaration_116 : decode cX12_declaration 116 = .ok (.getfield 96, 3) := by decide +kernel
theorem dX12_declaration_119 : decode cX12_declaration 119 = .ok (.iload_n 2, 1) := by decide +kernel
theorem dX12_declaration_120 : decode cX12_declaration 120 = .ok (.iconst (-1), 1) := by decide +kernel
theorem dX12_declaration_121 : decode cX12_declaration 121 = .ok (.iastore, 1) := by decide +kernel
theorem dX12_declaration_122 : decode cX12_declaration 122 = .ok (.aload_n 0, 1) := by decide +kernel
theorem dX12_declaration_123 : decode cX12_declaration 123 = .ok (.getfield 99, 3) := by decide +kernel
theorem dX12_declaration_126 : decode cX12_declaration 126 = .ok (.iload_n 2, 1) := by decide +kernel
theorem dX12_declaration_127 : decode cX12_declaration 127 = .ok (.iconst 0, 1) := by decide +kernel
theorem dX12_declaration_128 : decode cX12_declaration 128 = .ok (.iastore, 1) := by decide +kernel
theorem dX12_declaration_129 : decode cX12_declaration 129 = .ok (.aload_n 0, 1) := by decide +kernel
theorem dX12_declaration_130 : decode cX12_declaration 130 = .ok (.dup, 1) := by decide +kernel
theorem dX12_declaration_131 : decode cX12_declaration 131 = .ok (.getfield 384, 3) := by decide +kernel
theorem dX12_declaration_134 : decode cX12_declaration 134 = .ok (.iconst 1, 1) := by decide +kernel
theorem dX12_declaration_135 : decode cX12_declaration 135 = .ok (.iadd, 1) := by decide +kernel
theorem dX12_declaration_136 : decode cX12_declaration 136 = .ok (.putfield 384, 3) := by decide +kernel
theorem dX12_declaration_237 : decode cX12_declaration 237 = .ok (.aload_n 0, 1) := by decide +kernel
theorem dX12_declaration_238 : decode cX12_declaration 238 = .ok (.bipush 123, 2) := by decide +kernel
theorem dX12_declaration_240 : decode cX12_declaration 240 = .ok (.invokevirtual 369, 3) := by decide +kernel
theorem dX12_declaration_243 : decode cX12_declaration 243 = .ok (.aload_n 0, 1) := by decide +kernel
theorem dX12_declaration_244 : decode cX12_declaration 244 = .ok (.iconst 0, 1) := by decide +kernel
theorem dX12_declaration_245 : decode cX12_declaration 245 = .ok (.putfield 390, 3) := by decide +kernel
theorem dX12_declaration_248 : decode cX12_declaration 248 = .ok (.aload_n 0, 1) := by decide +kernel
theorem dX12_declaration_249 : decode cX12_declaration 249 = .ok (.iconst 0, 1) := by decide +kernel
theorem dX12_declaration_250 : decode cX12_declaration 250 = .ok (.putfield 393, 3) := by decide +kernel
theorem dX12_declaration_253 : decode cX12_declaration 253 = .ok (.aload_n 0, 1) := by decide +kernel
theorem dX12_declaration_254 : decode cX12_declaration 254 = .ok (.getfield 350, 3) := by decide +kernel
theorem dX12_declaration_257 : decode cX12_declaration 257 = .ok (.ifCond .ne 20, 3) := by decide +kernel
theorem dX12_declaration_260 : decode cX12_declaration 260 = .ok (.aload_n 0, 1) := by decide +kernel
theorem dX12_declaration_261 : decode cX12_declaration 261 = .ok (.invokevirtual 381, 3) := by decide +kernel
theorem dX12_declaration_264 : decode cX12_declaration 264 = .ok (.bipush 125, 2) := by decide +kernel
theorem dX12_declaration_266 : decode cX12_declaration 266 = .ok (.if_icmp .eq 11, 3) := by decide +kernel
theorem dX12_declaration_277 : decode cX12_declaration 277 = .ok (.aload_n 0, 1) := by decide +kernel
theorem dX12_declaration_278 : decode cX12_declaration 278 = .ok (.bipush 125, 2) := by decide +kernel
theorem dX12_declaration_280 : decode cX12_declaration 280 = .ok (.invokevirtual 369, 3) := by decide +kernel
theorem dX12_declaration_283 : decode cX12_declaration 283 = .ok (.return_, 1) := by decide +kernel
theorem dX12_declaration_269 : decode cX12_declaration 269 = .ok (.aload_n 0, 1) := by decide +kernel
theorem dX12_declaration_270 : decode cX12_declaration 270 = .ok (.iload_n 2, 1) := by decide +kernel
theorem dX12_declaration_271 : decode cX12_declaration 271 = .ok (.invokevirtual 396, 3) := by decide +kernel
theorem dX12_declaration_274 : decode cX12_declaration 274 = .ok (.goto (-21), 3) := by decide +kernel
theorem dX12_declaration_139 : decode cX12_declaration 139 = .ok (.aload_n 0, 1) := by decide +kernel
theorem dX12_declaration_140 : decode cX12_declaration 140 = .ok (.sipush 317, 3) := by decide +kernel
theorem dX12_declaration_143 : decode cX12_declaration 143 = .ok (.invokevirtual 378, 3) := by decide +kernel
theorem dX12_declaration_146 : decode cX12_declaration 146 = .ok (.ifCond .eq 67, 3) := by decide +kernel
theorem dX12_declaration_213 : decode cX12_declaration 213 = .ok (.iload_n 1, 1) := by decide +kernel
theorem dX12_declaration_214 : decode cX12_declaration 214 = .ok (.ifCond .ne 23, 3) := by decide +kernel
theorem dX12_declaration_217 : decode cX12_declaration 217 = .ok (.aload_n 0, 1) := by decide +kernel
theorem dX12_declaration_218 : decode cX12_declaration 218 = .ok (.sipush 322, 3) := by decide +kernel
theorem dX12_declaration_221 : decode cX12_declaration 221 = .ok (.invokevirtual 378, 3) := by decide +kernel
theorem dX12_declaration_224 : decode cX12_declaration 224 = .ok (.ifCond .eq 13, 3) := by decide +kernel
theorem dX12_declaration_227 : decode cX12_declaration 227 = .ok (.aload_n 0, 1) := by decide +kernel
theorem dX12_declaration_228 : decode cX12_declaration 228 = .ok (.getfield 96, 3) := by decide +kernel
theorem dX12_declaration_231 : decode cX12_declaration 231 = .ok (.iload_n 2, 1) := by decide +kernel
theorem dX12_declaration_232 : decode cX12_declaration 232 = .ok (.aload_n 0, 1) := by decide +kernel
theorem dX12_declaration_233 : decode cX12_declaration 233 = .ok (.invokevirtual 387, 3) := by decide +kernel
theorem dX12_declaration_236 : decode cX12_declaration 236 = .ok (.iastore, 1) := by decide +kernel
theorem dX12_declaration_149 : decode cX12_declaration 149 = .ok (.iload_n 1, 1) := by decide +kernel
theorem dX12_declaration_150 : decode cX12_declaration 150 = .ok (.ifCond .eq 16, 3) := by decide +kernel
theorem dX12_declaration_166 : decode cX12_declaration 166 = .ok (.aload_n 0, 1) := by decide +kernel
theorem dX12_declaration_167 : decode cX12_declaration 167 = .ok (.getfield 93, 3) := by decide +kernel
theorem dX12_declaration_170 : decode cX12_declaration 170 = .ok (.iload_n 2, 1) := by decide +kernel
theorem dX12_declaration_171 : decode cX12_declaration 171 = .ok (.aload_n 0, 1) := by decide +kernel
theorem dX12_declaration_172 : decode cX12_declaration 172 = .ok (.getfield 372, 3) := by decide +kernel
theorem dX12_declaration_175 : decode cX12_declaration 175 = .ok (.iastore, 1) := by decide +kernel
theorem dX12_declaration_176 : decode cX12_declaration 176 = .ok (.aload_n 0, 1) := by decide +kernel
theorem dX12_declaration_177 : decode cX12_declaration 177 = .ok (.dup, 1) := by decide +kernel
theorem dX12_declaration_178 : decode cX12_declaration 178 = .ok (.getfield 372, 3) := by decide +kernel
theorem dX12_declaration_181 : decode cX12_declaration 181 = .ok (.iconst 1, 1) := by decide +kernel
theorem dX12_declaration_182 : decode cX12_declaration 182 = .ok (.iadd, 1) := by decide +kernel
theorem dX12_declaration_183 : decode cX12_declaration 183 = .ok (.putfield 372, 3) := by decide +kernel
theorem dX12_declaration_186 : decode cX12_declaration 186 = .ok (.aload_n 0, 1) := by decide +kernel
theorem dX12_declaration_187 : decode cX12_declaration 187 = .ok (.getfield 78, 3) := by decide +kernel
theorem dX12_declaration_190 : decode cX12_declaration 190 = .ok (.aload_n 0, 1) := by decide +kernel
theorem dX12_declaration_191 : decode cX12_declaration 191 = .ok (.getfield 93, 3) := by decide +kernel
theorem dX12_declaration_194 : decode cX12_declaration 194 = .ok (.iload_n 2, 1) := by decide +kernel
theorem dX12_declaration_195 : decode cX12_declaration 195 = .ok (.iaload, 1) := by decide +kernel
theorem dX12_declaration_196 : decode cX12_declaration 196 = .ok (.aload_n 0, 1) := by decide +kernel
theorem dX12_declaration_197 : decode cX12_declaration 197 = .ok (.invokevirtual 375, 3) := by decide +kernel
theorem dX12_declaration_200 : decode cX12_declaration 200 = .ok (.iastore, 1) := by decide +kernel
theorem dX12_declaration_201 : decode cX12_declaration 201 = .ok (.aload_n 0, 1) := by decide +kernel
theorem dX12_declaration_202 : decode cX12_declaration 202 = .ok (.getfield 81, 3) := by decide +kernel
theorem dX12_declaration_205 : decode cX12_declaration 205 = .ok (.aload_n 0, 1) := by decide +kernel
theorem dX12_declaration_206 : decode cX12_declaration 206 = .ok (.getfield 93, 3) := by decide +kernel
theorem dX12_declaration_209 : decode cX12_declaration 209 = .ok (.iload_n 2, 1) := by decide +kernel
theorem dX12_declaration_210 : decode cX12_declaration 210 = .ok (.iaload, 1) := by decide +kernel
theorem dX12_declaration_211 : decode cX12_declaration 211 = .ok (.iconst (-1), 1) := by decide +kernel
theorem dX12_declaration_212 : decode cX12_declaration 212 = .ok (.iastore, 1) := by decide +kernel
theorem dX12_declaration_90 : decode cX12_declaration 90 = .ok (.return_, 1) := by decide +kernel
theorem dX12_declaration_45 : decode cX12_declaration 45 = .ok (.aload_n 0, 1) := by decide +kernel
theorem dX12_declaration_46 : decode cX12_declaration 46 = .ok (.iconst 2, 1) := by decide +kernel
theorem dX12_declaration_47 : decode cX12_declaration 47 = .ok (.invokevirtual 356, 3) := by decide +kernel
theorem dX12_declaration_50 : decode cX12_declaration 50 = .ok (.return_, 1) := by decide +kernel
theorem dX12_declaration_30 : decode cX12_declaration 30 = .ok (.aload_n 0, 1) := by decide +kernel
theorem dX12_declaration_31 : decode cX12_declaration 31 = .ok (.iconst 1, 1) := by decide +kernel
theorem dX12_declaration_32 : decode cX12_declaration 32 = .ok (.invokevirtual 356, 3) := by decide +kernel
theorem dX12_declaration_35 : decode cX12_declaration 35 = .ok (.return_, 1) := by decide +kernel
theorem dX12_declaration_10 : decode cX12_declaration 10 = .ok (.iconst 1, 1) := by decide +kernel
theorem dX12_declaration_11 : decode cX12_declaration 11 = .ok (.goto 4, 3) := by decide +kernel
theorem dX12_declaration_153 : decode cX12_declaration 153 = .ok (.aload_n 0, 1) := by decide +kernel
theorem dX12_declaration_154 : decode cX12_declaration 154 = .ok (.getfield 93, 3) := by decide +kernel
theorem dX12_declaration_157 : decode cX12_declaration 157 = .ok (.iload_n 2, 1) := by decide +kernel
theorem dX12_declaration_158 : decode cX12_declaration 158 = .ok (.aload_n 0, 1) := by decide +kernel
theorem dX12_declaration_159 : decode cX12_declaration 159 = .ok (.invokevirtual 387, 3) := by decide +kernel
theorem dX12_declaration_162 : decode cX12_declaration 162 = .ok (.iastore, 1) := by decide +kernel
theorem dX12_declaration_163 : decode cX12_declaration 163 = .ok (.goto 50, 3) := by decide +kernel
theorem hV_X12_member : yX12_member.cls = RX12 ∧ yX12_member.cls ≠ "java/lang/invoke/MethodHandle" ∧ yX12_member.cls ≠ "java/lang/invoke/VarHandle" ∧ (parseMethodDescriptor yX12_member.desc).map (fun d => d.parameters.length) = some 1 := by decide +kernel
theorem hV_X12_listOfNames : yX12_listOfNames.cls = RX12 ∧ yX12_listOfNames.cls ≠ "java/lang/invoke/MethodHandle" ∧ yX12_listOfNames.cls ≠ "java/lang/invoke/VarHandle" ∧ (parseMethodDescriptor yX12_listOfNames.desc).map (fun d => d.parameters.length) = some 0 := by decide +kernel
set_option maxHeartbeats 2000000 in
set_option maxRecDepth 100000 in
/-- declaration(), no fault ahead -/
theorem RM_declaration (l : Launch) (G : pT) (h0 : Nat) (a : Nat → Nat) (F : Nat → Int32) (B : Nat → Nat → Int32) (at0 : Nat) (T : Nat) (nm : Nat) (nd : Nat) (wr : Nat) (lz : Nat) (dc : Nat) (fd : Nat) (md : Nat) (pr : Nat) (bk : Nat) (mf : Nat) (mm : Nat) (lk : Nat) (ne0 : Int32) (K : Nat → Int32) (hat : at0 ≤ T) (hT : T ≤ 5000) (hK : K T = 0 ∨ K T = 3) (hV : NamOK K (B 5) T nm) (hnd : nd ≤ 2 * at0) (hwr : wr ≤ at0) (hls : lz ≤ at0) (hpr : pr ≤ at0) (hlk : lk ≤ 60) (hdc : 7 ≤ dc ∧ dc ≤ 37) (hbk : bk ≤ md) (hmd : md + 210 ≤ 30 * dc) (hfd : fd + 140 ≤ 20 * dc) (hsn : Sng B dc lz) (hps : PS T nm wr lz dc fd md pr bk B) (hfm : FrM K T wr B nd md) (hy : tkRow (B 19) wr T) (hlr : lsRow (B 22) (B 23) lz T) : PM l G pX0 yX12_declaration cX12_declaration 3 none ({ frames := 644, cells := 0, slots := 0, locals := 50200 }) [.ref h0] (mW G h0 a (upd (upd (upd (upd (upd (upd (upd (upd (upd (upd (upd (upd (upd (upd F 15 0) 27 (nI nd)) 31 (nI wr)) 34 (nI lz)) 35 (nI dc)) 44 (nI fd)) 49 (nI md)) 59 (nI bk)) 60 (nI pr)) 64 (nI at0)) 65 ne0) 66 (nI lk)) 67 (nI mf)) 68 (nI mm)) (updA B 2 K)) (fun (v : Option Value) (u : Nat × Nat × Int32 × Nat × Nat × Nat × Nat × Nat × Nat × Nat × Nat × Nat × Nat × Int32 × (Nat → Nat → Int32)) => v = none ∧ (at0 ≤ u.1) ∧ (u.1 ≤ T) ∧ (u.2.1 ≤ 100) ∧ (at0 + 1 ≤ u.1 + u.2.1) ∧ (Kq 1 B u.2.2.2.2.2.2.2.2.2.2.2.2.2.2) ∧ (If (u.2.1 = 0) ((u.2.2.2.1 ≤ 2 * u.1 ∧ u.2.2.2.2.1 ≤ u.1 ∧ u.2.2.2.2.2.1 ≤ u.1 ∧ u.2.2.2.2.2.2.2.2.2.1 ≤ u.1 ∧ u.2.2.2.2.2.2.1 ≤ 37 ∧ dc ≤ u.2.2.2.2.2.2.1 ∧ u.2.2.2.2.2.2.2.2.2.2.1 ≤ u.2.2.2.2.2.2.2.2.1 ∧ wr ≤ u.2.2.2.2.1 ∧ lz ≤ u.2.2.2.2.2.1) ∧ (u.2.2.2.2.2.2.2.2.1 + 210 ≤ 30 * u.2.2.2.2.2.2.1 ∧ u.2.2.2.2.2.2.2.1 + 140 ≤ 20 * u.2.2.2.2.2.2.1 ∧ u.2.2.2.2.2.2.1 ≤ 37 ∧ 7 ≤ u.2.2.2.2.2.2.1 ∧ u.2.2.2.2.2.2.1 ≤ dc + 1) ∧ PS T nm u.2.2.2.2.1 u.2.2.2.2.2.1 u.2.2.2.2.2.2.1 u.2.2.2.2.2.2.2.1 u.2.2.2.2.2.2.2.2.1 u.2.2.2.2.2.2.2.2.2.1 u.2.2.2.2.2.2.2.2.2.2.1 u.2.2.2.2.2.2.2.2.2.2.2.2.2.2 ∧ FrM K T u.2.2.2.2.1 u.2.2.2.2.2.2.2.2.2.2.2.2.2.2 u.2.2.2.1 u.2.2.2.2.2.2.2.2.1 ∧ tkRow (u.2.2.2.2.2.2.2.2.2.2.2.2.2.2 19) u.2.2.2.2.1 T ∧ lsRow (u.2.2.2.2.2.2.2.2.2.2.2.2.2.2 22) (u.2.2.2.2.2.2.2.2.2.2.2.2.2.2 23) u.2.2.2.2.2.1 T)) ∧ (If (u.2.1 = 0) (Sng u.2.2.2.2.2.2.2.2.2.2.2.2.2.2 u.2.2.2.2.2.2.1 u.2.2.2.2.2.1))) (fun u => (mW G h0 a (upd (upd (upd (upd (upd (upd (upd (upd (upd (upd (upd (upd (upd (upd (upd F 15 (nI u.2.1)) 16 u.2.2.1) 27 (nI u.2.2.2.1)) 31 (nI u.2.2.2.2.1)) 34 (nI u.2.2.2.2.2.1)) 35 (nI u.2.2.2.2.2.2.1)) 44 (nI u.2.2.2.2.2.2.2.1)) 49 (nI u.2.2.2.2.2.2.2.2.1)) 59 (nI u.2.2.2.2.2.2.2.2.2.2.1)) 60 (nI u.2.2.2.2.2.2.2.2.2.1)) 64 (nI u.1)) 65 u.2.2.2.2.2.2.2.2.2.2.2.2.2.1) 66 (nI lk)) 67 (nI u.2.2.2.2.2.2.2.2.2.2.2.1)) 68 (nI u.2.2.2.2.2.2.2.2.2.2.2.2.1)) (updA u.2.2.2.2.2.2.2.2.2.2.2.2.2.2 2 K))) := by
  intro sz
  refine Met.ofW (cc := cX12_declaration) (maxL := 3) (ret := none) (by decide) rfl ?_
  intro p e s m args below meth c s₁ B9 hml hv
  obtain ⟨rfl, hsz, hP, hD0, hE, hX⟩ := hv
  have hx := B9.exec
  have hb := B9.bytes
  have hr := B9.returns
  have hts := atoms_spec (ws := Cond.code yX12_declaration cX12_declaration 3 none :: pw) B9.pre
  have hq : ∀ w ∈ pw, w.before _ s = true := fun w h => hts w (List.mem_cons_of_mem _ h)
  have hown : s.vm.findClass RX12 = some m.cls := findClass_of_methodNamed B9.named
  have hlocks := B9.notSynchronized
  subst hsz
  have hD := hD0.self (sz := s.heap.size)
  have hA : ∀ q : Nat, s.heap.size ≤ q → va_A (mW G h0 a (upd (upd (upd (upd (upd (upd (upd (upd (upd (upd (upd (upd (upd (upd F 15 0) 27 (nI nd)) 31 (nI wr)) 34 (nI lz)) 35 (nI dc)) 44 (nI fd)) 49 (nI md)) 59 (nI bk)) 60 (nI pr)) 64 (nI at0)) 65 ne0) 66 (nI lk)) 67 (nI mf)) 68 (nI mm)) (updA B 2 K)) s.heap.size q := fun q h => Or.inr h
  have hP : va_P G.1 pCl (mW G h0 a (upd (upd (upd (upd (upd (upd (upd (upd (upd (upd (upd (upd (upd (upd F 15 0) 27 (nI nd)) 31 (nI wr)) 34 (nI lz)) 35 (nI dc)) 44 (nI fd)) 49 (nI md)) 59 (nI bk)) 60 (nI pr)) 64 (nI at0)) 65 ne0) 66 (nI lk)) 67 (nI mf)) 68 (nI mm)) (updA B 2 K)) s.heap := hP
  generalize va_A (mW G h0 a (upd (upd (upd (upd (upd (upd (upd (upd (upd (upd (upd (upd (upd (upd F 15 0) 27 (nI nd)) 31 (nI wr)) 34 (nI lz)) 35 (nI dc)) 44 (nI fd)) 49 (nI md)) 59 (nI bk)) 60 (nI pr)) 64 (nI at0)) 65 ne0) 66 (nI lk)) 67 (nI mf)) 68 (nI mm)) (updA B 2 K)) s.heap.size = A at hD hE hA ⊢
  have hS : va_S A s.heap s.heap [] := va_S.rf
  have hl := lv_entry ([.ref h0]) (n := 3) (Nat.le_of_ble_eq_true rfl)
  rw [lg_entry_eq]
  generalize (lg_sl ([.ref h0]) ++ List.replicate (3 - (lg_sl ([.ref h0])).length) Slot.unset).toArray = ls at hl ⊢
  have hl : lv_has ls 3 [(0, .ref h0)] := hl
  have hkq1 : Kq 1 B B := Kq.rfl
  refine lv_aload_n hx hb dX12_declaration_0 rfl (lv_at hl 0 rfl) ?_
  have hP : va_P G.1 pCl (mW G h0 a (upd (upd (upd (upd (upd (upd (upd (upd (upd (upd (upd (upd (upd (upd (upd (upd F 15 0) 27 (nI nd)) 31 (nI wr)) 34 (nI lz)) 35 (nI dc)) 44 (nI fd)) 49 (nI md)) 59 (nI bk)) 60 (nI pr)) 64 (nI at0)) 65 ne0) 66 (nI lk)) 67 (nI mf)) 68 (nI mm)) 15 (nI 0)) 64 (nI at0)) (updA (updA B 2 K) 2 K)) _ := hP
  have hD : va_D A (mW G h0 a (upd (upd (upd (upd (upd (upd (upd (upd (upd (upd (upd (upd (upd (upd (upd (upd F 15 0) 27 (nI nd)) 31 (nI wr)) 34 (nI lz)) 35 (nI dc)) 44 (nI fd)) 49 (nI md)) 59 (nI bk)) 60 (nI pr)) 64 (nI at0)) 65 ne0) 66 (nI lk)) 67 (nI mf)) 68 (nI mm)) 15 (nI 0)) 64 (nI at0)) (updA (updA B 2 K) 2 K)) := hD
  refine pc_V0 (G := G) (As := []) (rest := []) hx hb hml hown hq hE hX pX0_al hP hD hS hA hl.1 (R_kind l G h0 a (upd (upd (upd (upd (upd (upd (upd (upd (upd (upd (upd (upd (upd (upd F 15 0) 27 (nI nd)) 31 (nI wr)) 34 (nI lz)) 35 (nI dc)) 44 (nI fd)) 49 (nI md)) 59 (nI bk)) 60 (nI pr)) 64 (nI at0)) 65 ne0) 66 (nI lk)) 67 (nI mf)) 68 (nI mm)) (updA B 2 K) at0 T 0 K (by omega) (by omega) hK (by omega)) (gV pw_1626 pw_1627 pw_1628 pw_1523 pw_1591) hV_X12_kind 0 9 rfl rfl rfl rfl (Nat.le_of_ble_eq_true rfl) dX12_declaration_1 ⟨Nat.le_of_ble_eq_true rfl, Nat.le_of_ble_eq_true rfl⟩ ⟨Nat.le_of_ble_eq_true rfl, Nat.le_of_ble_eq_true rfl⟩ (fun v4 u2 H locs hw3 hP hD hS => ?_)
  obtain rfl : v4 = some (.int (K at0)) := hw3
  have hP : va_P G.1 pCl (mW G h0 a (upd (upd (upd (upd (upd (upd (upd (upd (upd (upd (upd (upd (upd (upd F 15 0) 27 (nI nd)) 31 (nI wr)) 34 (nI lz)) 35 (nI dc)) 44 (nI fd)) 49 (nI md)) 59 (nI bk)) 60 (nI pr)) 64 (nI at0)) 65 ne0) 66 (nI lk)) 67 (nI mf)) 68 (nI mm)) (updA B 2 K)) _ := hP
  have hD : va_D A (mW G h0 a (upd (upd (upd (upd (upd (upd (upd (upd (upd (upd (upd (upd (upd (upd F 15 0) 27 (nI nd)) 31 (nI wr)) 34 (nI lz)) 35 (nI dc)) 44 (nI fd)) 49 (nI md)) 59 (nI bk)) 60 (nI pr)) 64 (nI at0)) 65 ne0) 66 (nI lk)) 67 (nI mf)) 68 (nI mm)) (updA B 2 K)) := hD
  refine W.widen (k := 0) (n := 0) (Nat.le_of_ble_eq_true rfl) (Nat.le_of_ble_eq_true rfl) ?_
  refine W.eq (g2 := F0 m 4 ls [.int (K at0)]) rfl ?_
  refine lv_sipush (v := 324) hx hb dX12_declaration_4 (by decide) ?_
  refine lv_icmp_ne (tgt := 14) hx hb dX12_declaration_7 (by decide) (fun c5 => ?_) (fun c5 => ?_)
  · refine lv_iconst (v := 0) hx hb dX12_declaration_14 (by decide) ?_
    refine lv_istore_n (lv' := [(1, .int 0), (0, .ref h0)]) hx hb dX12_declaration_15 rfl hl (by decide) rfl (fun ls hl => ?_)
    refine lv_iload_n hx hb dX12_declaration_16 rfl (lv_at hl 0 rfl) ?_
    refine lv_if_ne (tgt := 36) hx hb dX12_declaration_17 (by decide) (fun c6 => absurd c6 (by decide)) (fun c6 => ?_)
    refine lv_aload_n hx hb dX12_declaration_20 rfl (lv_at hl 1 rfl) ?_
    have hP : va_P G.1 pCl (mW G h0 a (upd (upd (upd (upd (upd (upd (upd (upd (upd (upd (upd (upd (upd (upd (upd (upd F 15 0) 27 (nI nd)) 31 (nI wr)) 34 (nI lz)) 35 (nI dc)) 44 (nI fd)) 49 (nI md)) 59 (nI bk)) 60 (nI pr)) 64 (nI at0)) 65 ne0) 66 (nI lk)) 67 (nI mf)) 68 (nI mm)) 15 (nI 0)) 64 (nI at0)) (updA (updA B 2 K) 2 K)) _ := hP
    have hD : va_D A (mW G h0 a (upd (upd (upd (upd (upd (upd (upd (upd (upd (upd (upd (upd (upd (upd (upd (upd F 15 0) 27 (nI nd)) 31 (nI wr)) 34 (nI lz)) 35 (nI dc)) 44 (nI fd)) 49 (nI md)) 59 (nI bk)) 60 (nI pr)) 64 (nI at0)) 65 ne0) 66 (nI lk)) 67 (nI mf)) 68 (nI mm)) 15 (nI 0)) 64 (nI at0)) (updA (updA B 2 K) 2 K)) := hD
    refine pc_V0 (G := G) (As := []) (rest := []) hx hb hml hown hq hE hX pX0_al hP hD hS hA hl.1 (R_kind l G h0 a (upd (upd (upd (upd (upd (upd (upd (upd (upd (upd (upd (upd (upd (upd F 15 0) 27 (nI nd)) 31 (nI wr)) 34 (nI lz)) 35 (nI dc)) 44 (nI fd)) 49 (nI md)) 59 (nI bk)) 60 (nI pr)) 64 (nI at0)) 65 ne0) 66 (nI lk)) 67 (nI mf)) 68 (nI mm)) (updA B 2 K) at0 T 0 K (by omega) (by omega) hK (by omega)) (gV pw_1626 pw_1627 pw_1628 pw_1523 pw_1591) hV_X12_kind 0 9 rfl rfl rfl rfl (Nat.le_of_ble_eq_true rfl) dX12_declaration_21 ⟨Nat.le_of_ble_eq_true rfl, Nat.le_of_ble_eq_true rfl⟩ ⟨Nat.le_of_ble_eq_true rfl, Nat.le_of_ble_eq_true rfl⟩ (fun v9 u7 H locs hw8 hP hD hS => ?_)
    obtain rfl : v9 = some (.int (K at0)) := hw8
    have hP : va_P G.1 pCl (mW G h0 a (upd (upd (upd (upd (upd (upd (upd (upd (upd (upd (upd (upd (upd (upd F 15 0) 27 (nI nd)) 31 (nI wr)) 34 (nI lz)) 35 (nI dc)) 44 (nI fd)) 49 (nI md)) 59 (nI bk)) 60 (nI pr)) 64 (nI at0)) 65 ne0) 66 (nI lk)) 67 (nI mf)) 68 (nI mm)) (updA B 2 K)) _ := hP
    have hD : va_D A (mW G h0 a (upd (upd (upd (upd (upd (upd (upd (upd (upd (upd (upd (upd (upd (upd F 15 0) 27 (nI nd)) 31 (nI wr)) 34 (nI lz)) 35 (nI dc)) 44 (nI fd)) 49 (nI md)) 59 (nI bk)) 60 (nI pr)) 64 (nI at0)) 65 ne0) 66 (nI lk)) 67 (nI mf)) 68 (nI mm)) (updA B 2 K)) := hD
    refine W.widen (k := 0) (n := 0) (Nat.le_of_ble_eq_true rfl) (Nat.le_of_ble_eq_true rfl) ?_
    refine W.eq (g2 := F0 m 24 ls [.int (K at0)]) rfl ?_
    refine lv_sipush (v := 314) hx hb dX12_declaration_24 (by decide) ?_
    refine lv_icmp_eq (tgt := 36) hx hb dX12_declaration_27 (by decide) (fun c10 => ?_) (fun c10 => ?_)
    · have n11 : at0 < T := tk_lt hat hK c10 (by decide) (by decide)
      refine lv_aload_n hx hb dX12_declaration_36 rfl (lv_at hl 1 rfl) ?_
      refine r_get (v := .int (nI dc)) hx hb hown hq hE hP 35 384 tFX12_35 (by decide) pw_1732 rfl dX12_declaration_37 ?_
      refine lv_bipush (v := 37) hx hb dX12_declaration_40 (by decide) ?_
      refine lv_icmp_ne (tgt := 51) hx hb dX12_declaration_42 (by decide) (fun c12 => ?_) (fun c12 => ?_)
      · have n13 : ¬ (dc = 37) := fun h9 => c12 ((nI_eq (a := dc) (b := 37) (by omega) (by omega)).mpr h9)
        refine lv_aload_n hx hb dX12_declaration_51 rfl (lv_at hl 1 rfl) ?_
        refine lv_dup hx hb dX12_declaration_52 rfl ?_
        refine r_get (v := .int (nI at0)) hx hb hown hq hE hP 64 343 tFX12_64 (by decide) pw_1592 rfl dX12_declaration_53 ?_
        refine lv_iconst (v := 1) hx hb dX12_declaration_56 (by decide) ?_
        refine lv_iadd hx hb dX12_declaration_57 ?_
        refine lv_topi (fun x14 e15 => ?_)
        obtain rfl : x14 = nI (at0 + 1) := e15.trans (nI_add (at0) (1))
        refine r_put (v := (nI (at0 + 1))) (ty := .int) hx hb hown hq hE hP hD hS 64 343 tFX12_64 (by decide) pw_1592 (by decide) rfl rfl (ms_64 a _ _) dX12_declaration_58 (fun H locs hP hD hS => ?_)
        refine lv_aload_n hx hb dX12_declaration_61 rfl (lv_at hl 1 rfl) ?_
        refine r_get (v := .int (nI dc)) hx hb hown hq hE hP 35 384 tFX12_35 (by decide) pw_1732 rfl dX12_declaration_62 ?_
        refine lv_istore_n (lv' := [(2, .int (nI dc)), (1, .int 0), (0, .ref h0)]) hx hb dX12_declaration_65 rfl hl (by decide) rfl (fun ls hl => ?_)
        refine lv_aload_n hx hb dX12_declaration_66 rfl (lv_at hl 2 rfl) ?_
        refine r_get (v := .ref (a 26)) hx hb hown hq hE hP 38 90 tFX12_38 (by decide) pw_1457 rfl dX12_declaration_67 ?_
        refine lv_iload_n hx hb dX12_declaration_70 rfl (lv_at hl 0 rfl) ?_
        refine lv_iload_n hx hb dX12_declaration_71 rfl (lv_at hl 1 rfl) ?_
        refine r_stz (f := (B 26)) (j := dc) hx hb hE hP hD hS 26 (ma_26 G a _) rfl (mas_26 G a _) (by omega) (by decide) dX12_declaration_72 (fun H locs hP hD hS => ?_)
        have hP : va_P G.1 pCl (mW G h0 a (upd (upd (upd (upd (upd (upd (upd (upd (upd (upd (upd (upd (upd (upd F 15 0) 27 (nI nd)) 31 (nI wr)) 34 (nI lz)) 35 (nI dc)) 44 (nI fd)) 49 (nI md)) 59 (nI bk)) 60 (nI pr)) 64 (nI (at0 + 1))) 65 ne0) 66 (nI lk)) 67 (nI mf)) 68 (nI mm)) (updA (stR B 26 dc 0) 2 K)) _ := hP
        have hD : va_D A (mW G h0 a (upd (upd (upd (upd (upd (upd (upd (upd (upd (upd (upd (upd (upd (upd F 15 0) 27 (nI nd)) 31 (nI wr)) 34 (nI lz)) 35 (nI dc)) 44 (nI fd)) 49 (nI md)) 59 (nI bk)) 60 (nI pr)) 64 (nI (at0 + 1))) 65 ne0) 66 (nI lk)) 67 (nI mf)) 68 (nI mm)) (updA (stR B 26 dc 0) 2 K)) := hD
        have hkq16 : Kq 1 B (stR B 26 dc 0) := (Kq.st hkq1 (by omega))
        have hty17 : tkRow ((stR B 26 dc 0) 19) wr T := hy
        have hps18 : PS T nm wr lz dc fd md pr bk (stR B 26 dc 0) := (PS.same hps (by omega) (by omega) (fun r i q1 q2 q3 => st_ne (fun e => by rw [e.1, e.2] at q3; exact absurd (show dc < dc from q3) (by omega))))
        have hfm19 : FrM K T wr (stR B 26 dc 0) nd md := (FrM.same hfm (by omega) (fun j i q1 q2 q3 => st_ne (by omega)) (fun i q => st_ne (by omega)))
        have hsn20 : Sng (stR B 26 dc 0) dc lz := (Sng.same hsn (by omega) (fun i q => st_ne (by omega)) (fun i q => st_ne (by omega)) (fun i q => st_ne (by omega)))
        have hlr21 : lsRow ((stR B 26 dc 0) 22) ((stR B 26 dc 0) 23) lz T := hlr
        have hce22 : (stR B 26 dc 0) 26 dc = 0 := st_eq
        refine lv_aload_n hx hb dX12_declaration_73 rfl (lv_at hl 2 rfl) ?_
        refine r_get (v := .ref (a 25)) hx hb hown hq hE hP 37 87 tFX12_37 (by decide) pw_1456 rfl dX12_declaration_74 ?_
        refine lv_iload_n hx hb dX12_declaration_77 rfl (lv_at hl 0 rfl) ?_
        refine lv_aload_n hx hb dX12_declaration_78 rfl (lv_at hl 2 rfl) ?_
        have hP : va_P G.1 pCl (mW G h0 a (upd (upd (upd (upd (upd (upd (upd (upd (upd (upd (upd (upd (upd (upd (upd (upd F 15 0) 27 (nI nd)) 31 (nI wr)) 34 (nI lz)) 35 (nI dc)) 44 (nI fd)) 49 (nI md)) 59 (nI bk)) 60 (nI pr)) 64 (nI (at0 + 1))) 65 ne0) 66 (nI lk)) 67 (nI mf)) 68 (nI mm)) 15 (nI 0)) 64 (nI (at0 + 1))) (updA (updA (stR B 26 dc 0) 2 K) 2 K)) _ := hP
        have hD : va_D A (mW G h0 a (upd (upd (upd (upd (upd (upd (upd (upd (upd (upd (upd (upd (upd (upd (upd (upd F 15 0) 27 (nI nd)) 31 (nI wr)) 34 (nI lz)) 35 (nI dc)) 44 (nI fd)) 49 (nI md)) 59 (nI bk)) 60 (nI pr)) 64 (nI (at0 + 1))) 65 ne0) 66 (nI lk)) 67 (nI mf)) 68 (nI mm)) 15 (nI 0)) 64 (nI (at0 + 1))) (updA (updA (stR B 26 dc 0) 2 K) 2 K)) := hD
        refine pc_V0 (G := G) (As := []) (rest := [.int (nI dc), .ref (a 25)]) hx hb hml hown hq hE hX pX0_al hP hD hS hA hl.1 (R_name l G h0 a (upd (upd (upd (upd (upd (upd (upd (upd (upd (upd (upd (upd (upd (upd F 15 0) 27 (nI nd)) 31 (nI wr)) 34 (nI lz)) 35 (nI dc)) 44 (nI fd)) 49 (nI md)) 59 (nI bk)) 60 (nI pr)) 64 (nI (at0 + 1))) 65 ne0) 66 (nI lk)) 67 (nI mf)) 68 (nI mm)) (updA (stR B 26 dc 0) 2 K) (at0 + 1) T 0 K (by omega) (by omega) hK (by omega)) (gV pw_1618 pw_1619 pw_1620 pw_1523 pw_1613) hV_X12_name 0 9 rfl rfl rfl rfl (Nat.le_of_ble_eq_true rfl) dX12_declaration_79 ⟨Nat.le_of_ble_eq_true rfl, Nat.le_of_ble_eq_true rfl⟩ ⟨Nat.le_of_ble_eq_true rfl, Nat.le_of_ble_eq_true rfl⟩ (fun v25 u23 H locs hw24 hP hD hS => ?_)
        obtain ⟨at26, fa27, pl28⟩ := u23
        obtain ⟨hw24, h29, h30, h31, h32, h33, h34, h35, h36⟩ := hw24
        replace h29 : (at0 + 1) ≤ at26 := h29
        replace h30 : at26 ≤ T := h30
        replace h31 : 0 ≤ fa27 := h31
        replace h32 : fa27 ≤ 100 := h32
        replace h33 : If (0 < 0) (at26 = (at0 + 1) ∧ fa27 = 0) := h33
        replace h34 : at26 ≤ (at0 + 1) + 1 := h34
        replace h35 : (at0 + 1) + 1 ≤ at26 + fa27 := h35
        replace h36 : If (fa27 = 0) (K (at0 + 1) = 1) := h36
        obtain rfl : v25 = some (.int (nI (at0 + 1))) := hw24
        have hP : va_P G.1 pCl (mW G h0 a (upd (upd (upd (upd (upd (upd (upd (upd (upd (upd (upd (upd (upd (upd (upd F 15 (nI fa27)) 16 pl28) 27 (nI nd)) 31 (nI wr)) 34 (nI lz)) 35 (nI dc)) 44 (nI fd)) 49 (nI md)) 59 (nI bk)) 60 (nI pr)) 64 (nI at26)) 65 ne0) 66 (nI lk)) 67 (nI mf)) 68 (nI mm)) (updA (stR B 26 dc 0) 2 K)) _ := hP
        have hD : va_D A (mW G h0 a (upd (upd (upd (upd (upd (upd (upd (upd (upd (upd (upd (upd (upd (upd (upd F 15 (nI fa27)) 16 pl28) 27 (nI nd)) 31 (nI wr)) 34 (nI lz)) 35 (nI dc)) 44 (nI fd)) 49 (nI md)) 59 (nI bk)) 60 (nI pr)) 64 (nI at26)) 65 ne0) 66 (nI lk)) 67 (nI mf)) 68 (nI mm)) (updA (stR B 26 dc 0) 2 K)) := hD
        refine W.widen (k := 0) (n := 0) (Nat.le_of_ble_eq_true rfl) (Nat.le_of_ble_eq_true rfl) ?_
        refine W.eq (g2 := F0 m 82 ls [.int (nI (at0 + 1)), .int (nI dc), .ref (a 25)]) rfl ?_
        rcases Nat.eq_zero_or_pos fa27 with e37 | e37
        · subst e37
          have hP : va_P G.1 pCl (mW G h0 a (upd (upd (upd (upd (upd (upd (upd (upd (upd (upd (upd (upd (upd (upd (upd F 15 0) 16 pl28) 27 (nI nd)) 31 (nI wr)) 34 (nI lz)) 35 (nI dc)) 44 (nI fd)) 49 (nI md)) 59 (nI bk)) 60 (nI pr)) 64 (nI at26)) 65 ne0) 66 (nI lk)) 67 (nI mf)) 68 (nI mm)) (updA (stR B 26 dc 0) 2 K)) _ := hP
          have hD : va_D A (mW G h0 a (upd (upd (upd (upd (upd (upd (upd (upd (upd (upd (upd (upd (upd (upd (upd F 15 0) 16 pl28) 27 (nI nd)) 31 (nI wr)) 34 (nI lz)) 35 (nI dc)) 44 (nI fd)) 49 (nI md)) 59 (nI bk)) 60 (nI pr)) 64 (nI at26)) 65 ne0) 66 (nI lk)) 67 (nI mf)) 68 (nI mm)) (updA (stR B 26 dc 0) 2 K)) := hD
          refine r_sti (f := ((stR B 26 dc 0) 25)) (j := dc) hx hb hE hP hD hS 25 (ma_25 G a _) rfl (mas_25 G a _) (by omega) (by decide) dX12_declaration_82 (fun H locs hP hD hS => ?_)
          have hP : va_P G.1 pCl (mW G h0 a (upd (upd (upd (upd (upd (upd (upd (upd (upd (upd (upd (upd (upd (upd (upd F 15 0) 16 pl28) 27 (nI nd)) 31 (nI wr)) 34 (nI lz)) 35 (nI dc)) 44 (nI fd)) 49 (nI md)) 59 (nI bk)) 60 (nI pr)) 64 (nI at26)) 65 ne0) 66 (nI lk)) 67 (nI mf)) 68 (nI mm)) (updA (stR (stR B 26 dc 0) 25 dc (nI (at0 + 1))) 2 K)) _ := hP
          have hD : va_D A (mW G h0 a (upd (upd (upd (upd (upd (upd (upd (upd (upd (upd (upd (upd (upd (upd (upd F 15 0) 16 pl28) 27 (nI nd)) 31 (nI wr)) 34 (nI lz)) 35 (nI dc)) 44 (nI fd)) 49 (nI md)) 59 (nI bk)) 60 (nI pr)) 64 (nI at26)) 65 ne0) 66 (nI lk)) 67 (nI mf)) 68 (nI mm)) (updA (stR (stR B 26 dc 0) 25 dc (nI (at0 + 1))) 2 K)) := hD
          have hkq38 : Kq 1 B (stR (stR B 26 dc 0) 25 dc (nI (at0 + 1))) := (Kq.st hkq16 (by omega))
          have hce39 : (stR (stR B 26 dc 0) 25 dc (nI (at0 + 1))) 26 dc = 0 := ((st_ne (by omega)).trans hce22)
          have hty40 : tkRow ((stR (stR B 26 dc 0) 25 dc (nI (at0 + 1))) 19) wr T := hty17
          have hps41 : PS T nm wr lz dc fd md pr bk (stR (stR B 26 dc 0) 25 dc (nI (at0 + 1))) := (PS.same hps18 (by omega) (by omega) (fun r i q1 q2 q3 => st_ne (fun e => by rw [e.1, e.2] at q3; exact absurd (show dc < dc from q3) (by omega))))
          have hfm42 : FrM K T wr (stR (stR B 26 dc 0) 25 dc (nI (at0 + 1))) nd md := (FrM.same hfm19 (by omega) (fun j i q1 q2 q3 => st_ne (by omega)) (fun i q => st_ne (by omega)))
          have hsn43 : Sng (stR (stR B 26 dc 0) 25 dc (nI (at0 + 1))) dc lz := (Sng.same hsn20 (by omega) (fun i q => st_ne (by omega)) (fun i q => st_ne (by omega)) (fun i q => st_ne (by omega)))
          have hlr44 : lsRow ((stR (stR B 26 dc 0) 25 dc (nI (at0 + 1))) 22) ((stR (stR B 26 dc 0) 25 dc (nI (at0 + 1))) 23) lz T := hlr21
          have hce45 : (stR (stR B 26 dc 0) 25 dc (nI (at0 + 1))) 25 dc = (nI (at0 + 1)) := st_eq
          refine lv_aload_n hx hb dX12_declaration_83 rfl (lv_at hl 2 rfl) ?_
          refine r_get (v := .int 0) hx hb hown hq hE hP 15 350 tFX12_15 (by decide) pw_1594 rfl dX12_declaration_84 ?_
          refine lv_if_le (tgt := 91) hx hb dX12_declaration_87 (by decide) (fun c46 => ?_) (fun c46 => absurd c46 (by decide))
          refine lv_aload_n hx hb dX12_declaration_91 rfl (lv_at hl 2 rfl) ?_
          refine r_get (v := .ref (a 24)) hx hb hown hq hE hP 36 84 tFX12_36 (by decide) pw_1455 rfl dX12_declaration_92 ?_
          refine lv_iload_n hx hb dX12_declaration_95 rfl (lv_at hl 0 rfl) ?_
          refine lv_aload_n hx hb dX12_declaration_96 rfl (lv_at hl 2 rfl) ?_
          refine r_get (v := .ref (a 5)) hx hb hown hq hE hP 8 25 tFX12_8 (by decide) pw_1435 rfl dX12_declaration_97 ?_
          refine lv_aload_n hx hb dX12_declaration_100 rfl (lv_at hl 2 rfl) ?_
          refine r_get (v := .ref (a 25)) hx hb hown hq hE hP 37 87 tFX12_37 (by decide) pw_1456 rfl dX12_declaration_101 ?_
          refine lv_iload_n hx hb dX12_declaration_104 rfl (lv_at hl 0 rfl) ?_
          refine r_ldi (f := ((stR (stR B 26 dc 0) 25 dc (nI (at0 + 1))) 25)) (j := dc) hx hb hE hP 25 (ma_25 G a _) rfl (by omega) (by decide) dX12_declaration_105 ?_
          refine lv_topi (fun x47 e48 => ?_)
          obtain rfl : x47 = (nI (at0 + 1)) := e48.trans hce45
          refine r_ldi (f := ((stR (stR B 26 dc 0) 25 dc (nI (at0 + 1))) 5)) (j := (at0 + 1)) hx hb hE hP 5 (ma_5 G a _) rfl (by omega) (by decide) dX12_declaration_106 ?_
          obtain ⟨v51, h52, e53⟩ := hV (at0 + 1) (by omega) (h36 rfl)
          refine lv_topi (fun x49 e50 => ?_)
          obtain rfl : x49 = nI v51 := e50.trans ((congrFun (hkq38 5 (by omega)) (at0 + 1)).trans e53)
          refine r_sti (f := ((stR (stR B 26 dc 0) 25 dc (nI (at0 + 1))) 24)) (j := dc) hx hb hE hP hD hS 24 (ma_24 G a _) rfl (mas_24 G a _) (by omega) (by decide) dX12_declaration_107 (fun H locs hP hD hS => ?_)
          have hP : va_P G.1 pCl (mW G h0 a (upd (upd (upd (upd (upd (upd (upd (upd (upd (upd (upd (upd (upd (upd (upd F 15 0) 16 pl28) 27 (nI nd)) 31 (nI wr)) 34 (nI lz)) 35 (nI dc)) 44 (nI fd)) 49 (nI md)) 59 (nI bk)) 60 (nI pr)) 64 (nI at26)) 65 ne0) 66 (nI lk)) 67 (nI mf)) 68 (nI mm)) (updA (stR (stR (stR B 26 dc 0) 25 dc (nI (at0 + 1))) 24 dc (nI v51)) 2 K)) _ := hP
          have hD : va_D A (mW G h0 a (upd (upd (upd (upd (upd (upd (upd (upd (upd (upd (upd (upd (upd (upd (upd F 15 0) 16 pl28) 27 (nI nd)) 31 (nI wr)) 34 (nI lz)) 35 (nI dc)) 44 (nI fd)) 49 (nI md)) 59 (nI bk)) 60 (nI pr)) 64 (nI at26)) 65 ne0) 66 (nI lk)) 67 (nI mf)) 68 (nI mm)) (updA (stR (stR (stR B 26 dc 0) 25 dc (nI (at0 + 1))) 24 dc (nI v51)) 2 K)) := hD
          have hkq54 : Kq 1 B (stR (stR (stR B 26 dc 0) 25 dc (nI (at0 + 1))) 24 dc (nI v51)) := (Kq.st hkq38 (by omega))
          have hce55 : (stR (stR (stR B 26 dc 0) 25 dc (nI (at0 + 1))) 24 dc (nI v51)) 26 dc = 0 := ((st_ne (by omega)).trans hce39)
          have hce56 : (stR (stR (stR B 26 dc 0) 25 dc (nI (at0 + 1))) 24 dc (nI v51)) 25 dc = (nI (at0 + 1)) := ((st_ne (by omega)).trans hce45)
          have hty57 : tkRow ((stR (stR (stR B 26 dc 0) 25 dc (nI (at0 + 1))) 24 dc (nI v51)) 19) wr T := hty40
          have hps58 : PS T nm wr lz dc fd md pr bk (stR (stR (stR B 26 dc 0) 25 dc (nI (at0 + 1))) 24 dc (nI v51)) := (PS.same hps41 (by omega) (by omega) (fun r i q1 q2 q3 => st_ne (fun e => by rw [e.1, e.2] at q3; exact absurd (show dc < dc from q3) (by omega))))
          have hfm59 : FrM K T wr (stR (stR (stR B 26 dc 0) 25 dc (nI (at0 + 1))) 24 dc (nI v51)) nd md := (FrM.same hfm42 (by omega) (fun j i q1 q2 q3 => st_ne (by omega)) (fun i q => st_ne (by omega)))
          have hsn60 : Sng (stR (stR (stR B 26 dc 0) 25 dc (nI (at0 + 1))) 24 dc (nI v51)) dc lz := (Sng.same hsn43 (by omega) (fun i q => st_ne (by omega)) (fun i q => st_ne (by omega)) (fun i q => st_ne (by omega)))
          have hlr61 : lsRow ((stR (stR (stR B 26 dc 0) 25 dc (nI (at0 + 1))) 24 dc (nI v51)) 22) ((stR (stR (stR B 26 dc 0) 25 dc (nI (at0 + 1))) 24 dc (nI v51)) 23) lz T := hlr44
          have hce62 : (stR (stR (stR B 26 dc 0) 25 dc (nI (at0 + 1))) 24 dc (nI v51)) 24 dc = (nI v51) := st_eq
          refine lv_aload_n hx hb dX12_declaration_108 rfl (lv_at hl 2 rfl) ?_
          refine r_get (v := .ref (a 27)) hx hb hown hq hE hP 39 93 tFX12_39 (by decide) pw_1458 rfl dX12_declaration_109 ?_
          refine lv_iload_n hx hb dX12_declaration_112 rfl (lv_at hl 0 rfl) ?_
          refine lv_iconst (v := (-1)) hx hb dX12_declaration_113 (by decide) ?_
          refine r_sti (f := ((stR (stR (stR B 26 dc 0) 25 dc (nI (at0 + 1))) 24 dc (nI v51)) 27)) (j := dc) hx hb hE hP hD hS 27 (ma_27 G a _) rfl (mas_27 G a _) (by omega) (by decide) dX12_declaration_114 (fun H locs hP hD hS => ?_)
          have hP : va_P G.1 pCl (mW G h0 a (upd (upd (upd (upd (upd (upd (upd (upd (upd (upd (upd (upd (upd (upd (upd F 15 0) 16 pl28) 27 (nI nd)) 31 (nI wr)) 34 (nI lz)) 35 (nI dc)) 44 (nI fd)) 49 (nI md)) 59 (nI bk)) 60 (nI pr)) 64 (nI at26)) 65 ne0) 66 (nI lk)) 67 (nI mf)) 68 (nI mm)) (updA (stR (stR (stR (stR B 26 dc 0) 25 dc (nI (at0 + 1))) 24 dc (nI v51)) 27 dc (-1)) 2 K)) _ := hP
          have hD : va_D A (mW G h0 a (upd (upd (upd (upd (upd (upd (upd (upd (upd (upd (upd (upd (upd (upd (upd F 15 0) 16 pl28) 27 (nI nd)) 31 (nI wr)) 34 (nI lz)) 35 (nI dc)) 44 (nI fd)) 49 (nI md)) 59 (nI bk)) 60 (nI pr)) 64 (nI at26)) 65 ne0) 66 (nI lk)) 67 (nI mf)) 68 (nI mm)) (updA (stR (stR (stR (stR B 26 dc 0) 25 dc (nI (at0 + 1))) 24 dc (nI v51)) 27 dc (-1)) 2 K)) := hD
          have hkq63 : Kq 1 B (stR (stR (stR (stR B 26 dc 0) 25 dc (nI (at0 + 1))) 24 dc (nI v51)) 27 dc (-1)) := (Kq.st hkq54 (by omega))
          have hce64 : (stR (stR (stR (stR B 26 dc 0) 25 dc (nI (at0 + 1))) 24 dc (nI v51)) 27 dc (-1)) 26 dc = 0 := ((st_ne (by omega)).trans hce55)
          have hce65 : (stR (stR (stR (stR B 26 dc 0) 25 dc (nI (at0 + 1))) 24 dc (nI v51)) 27 dc (-1)) 25 dc = (nI (at0 + 1)) := ((st_ne (by omega)).trans hce56)
          have hce66 : (stR (stR (stR (stR B 26 dc 0) 25 dc (nI (at0 + 1))) 24 dc (nI v51)) 27 dc (-1)) 24 dc = (nI v51) := ((st_ne (by omega)).trans hce62)
          have hty67 : tkRow ((stR (stR (stR (stR B 26 dc 0) 25 dc (nI (at0 + 1))) 24 dc (nI v51)) 27 dc (-1)) 19) wr T := hty57
          have hps68 : PS T nm wr lz dc fd md pr bk (stR (stR (stR (stR B 26 dc 0) 25 dc (nI (at0 + 1))) 24 dc (nI v51)) 27 dc (-1)) := (PS.same hps58 (by omega) (by omega) (fun r i q1 q2 q3 => st_ne (fun e => by rw [e.1, e.2] at q3; exact absurd (show dc < dc from q3) (by omega))))
          have hfm69 : FrM K T wr (stR (stR (stR (stR B 26 dc 0) 25 dc (nI (at0 + 1))) 24 dc (nI v51)) 27 dc (-1)) nd md := (FrM.same hfm59 (by omega) (fun j i q1 q2 q3 => st_ne (by omega)) (fun i q => st_ne (by omega)))
          have hsn70 : Sng (stR (stR (stR (stR B 26 dc 0) 25 dc (nI (at0 + 1))) 24 dc (nI v51)) 27 dc (-1)) dc lz := (Sng.same hsn60 (by omega) (fun i q => st_ne (by omega)) (fun i q => st_ne (by omega)) (fun i q => st_ne (by omega)))
          have hlr71 : lsRow ((stR (stR (stR (stR B 26 dc 0) 25 dc (nI (at0 + 1))) 24 dc (nI v51)) 27 dc (-1)) 22) ((stR (stR (stR (stR B 26 dc 0) 25 dc (nI (at0 + 1))) 24 dc (nI v51)) 27 dc (-1)) 23) lz T := hlr61
          have hce72 : (stR (stR (stR (stR B 26 dc 0) 25 dc (nI (at0 + 1))) 24 dc (nI v51)) 27 dc (-1)) 27 dc = (-1) := st_eq
          refine lv_aload_n hx hb dX12_declaration_115 rfl (lv_at hl 2 rfl) ?_
          refine r_get (v := .ref (a 28)) hx hb hown hq hE hP 40 96 tFX12_40 (by decide) pw_1459 rfl dX12_declaration_116 ?_
          refine lv_iload_n hx hb dX12_declaration_119 rfl (lv_at hl 0 rfl) ?_
          refine lv_iconst (v := (-1)) hx hb dX12_declaration_120 (by decide) ?_
          refine r_sti (f := ((stR (stR (stR (stR B 26 dc 0) 25 dc (nI (at0 + 1))) 24 dc (nI v51)) 27 dc (-1)) 28)) (j := dc) hx hb hE hP hD hS 28 (ma_28 G a _) rfl (mas_28 G a _) (by omega) (by decide) dX12_declaration_121 (fun H locs hP hD hS => ?_)
          have hP : va_P G.1 pCl (mW G h0 a (upd (upd (upd (upd (upd (upd (upd (upd (upd (upd (upd (upd (upd (upd (upd F 15 0) 16 pl28) 27 (nI nd)) 31 (nI wr)) 34 (nI lz)) 35 (nI dc)) 44 (nI fd)) 49 (nI md)) 59 (nI bk)) 60 (nI pr)) 64 (nI at26)) 65 ne0) 66 (nI lk)) 67 (nI mf)) 68 (nI mm)) (updA (stR (stR (stR (stR (stR B 26 dc 0) 25 dc (nI (at0 + 1))) 24 dc (nI v51)) 27 dc (-1)) 28 dc (-1)) 2 K)) _ := hP
          have hD : va_D A (mW G h0 a (upd (upd (upd (upd (upd (upd (upd (upd (upd (upd (upd (upd (upd (upd (upd F 15 0) 16 pl28) 27 (nI nd)) 31 (nI wr)) 34 (nI lz)) 35 (nI dc)) 44 (nI fd)) 49 (nI md)) 59 (nI bk)) 60 (nI pr)) 64 (nI at26)) 65 ne0) 66 (nI lk)) 67 (nI mf)) 68 (nI mm)) (updA (stR (stR (stR (stR (stR B 26 dc 0) 25 dc (nI (at0 + 1))) 24 dc (nI v51)) 27 dc (-1)) 28 dc (-1)) 2 K)) := hD
          have hkq73 : Kq 1 B (stR (stR (stR (stR (stR B 26 dc 0) 25 dc (nI (at0 + 1))) 24 dc (nI v51)) 27 dc (-1)) 28 dc (-1)) := (Kq.st hkq63 (by omega))
          have hce74 : (stR (stR (stR (stR (stR B 26 dc 0) 25 dc (nI (at0 + 1))) 24 dc (nI v51)) 27 dc (-1)) 28 dc (-1)) 26 dc = 0 := ((st_ne (by omega)).trans hce64)
          have hce75 : (stR (stR (stR (stR (stR B 26 dc 0) 25 dc (nI (at0 + 1))) 24 dc (nI v51)) 27 dc (-1)) 28 dc (-1)) 25 dc = (nI (at0 + 1)) := ((st_ne (by omega)).trans hce65)
          have hce76 : (stR (stR (stR (stR (stR B 26 dc 0) 25 dc (nI (at0 + 1))) 24 dc (nI v51)) 27 dc (-1)) 28 dc (-1)) 24 dc = (nI v51) := ((st_ne (by omega)).trans hce66)
          have hce77 : (stR (stR (stR (stR (stR B 26 dc 0) 25 dc (nI (at0 + 1))) 24 dc (nI v51)) 27 dc (-1)) 28 dc (-1)) 27 dc = (-1) := ((st_ne (by omega)).trans hce72)
          have hty78 : tkRow ((stR (stR (stR (stR (stR B 26 dc 0) 25 dc (nI (at0 + 1))) 24 dc (nI v51)) 27 dc (-1)) 28 dc (-1)) 19) wr T := hty67
          have hps79 : PS T nm wr lz dc fd md pr bk (stR (stR (stR (stR (stR B 26 dc 0) 25 dc (nI (at0 + 1))) 24 dc (nI v51)) 27 dc (-1)) 28 dc (-1)) := (PS.same hps68 (by omega) (by omega) (fun r i q1 q2 q3 => st_ne (fun e => by rw [e.1, e.2] at q3; exact absurd (show dc < dc from q3) (by omega))))
          have hfm80 : FrM K T wr (stR (stR (stR (stR (stR B 26 dc 0) 25 dc (nI (at0 + 1))) 24 dc (nI v51)) 27 dc (-1)) 28 dc (-1)) nd md := (FrM.same hfm69 (by omega) (fun j i q1 q2 q3 => st_ne (by omega)) (fun i q => st_ne (by omega)))
          have hsn81 : Sng (stR (stR (stR (stR (stR B 26 dc 0) 25 dc (nI (at0 + 1))) 24 dc (nI v51)) 27 dc (-1)) 28 dc (-1)) dc lz := (Sng.same hsn70 (by omega) (fun i q => st_ne (by omega)) (fun i q => st_ne (by omega)) (fun i q => st_ne (by omega)))
          have hlr82 : lsRow ((stR (stR (stR (stR (stR B 26 dc 0) 25 dc (nI (at0 + 1))) 24 dc (nI v51)) 27 dc (-1)) 28 dc (-1)) 22) ((stR (stR (stR (stR (stR B 26 dc 0) 25 dc (nI (at0 + 1))) 24 dc (nI v51)) 27 dc (-1)) 28 dc (-1)) 23) lz T := hlr71
          have hce83 : (stR (stR (stR (stR (stR B 26 dc 0) 25 dc (nI (at0 + 1))) 24 dc (nI v51)) 27 dc (-1)) 28 dc (-1)) 28 dc = (-1) := st_eq
          refine lv_aload_n hx hb dX12_declaration_122 rfl (lv_at hl 2 rfl) ?_
          refine r_get (v := .ref (a 29)) hx hb hown hq hE hP 41 99 tFX12_41 (by decide) pw_1460 rfl dX12_declaration_123 ?_
          refine lv_iload_n hx hb dX12_declaration_126 rfl (lv_at hl 0 rfl) ?_
          refine lv_iconst (v := 0) hx hb dX12_declaration_127 (by decide) ?_
          refine r_sti (f := ((stR (stR (stR (stR (stR B 26 dc 0) 25 dc (nI (at0 + 1))) 24 dc (nI v51)) 27 dc (-1)) 28 dc (-1)) 29)) (j := dc) hx hb hE hP hD hS 29 (ma_29 G a _) rfl (mas_29 G a _) (by omega) (by decide) dX12_declaration_128 (fun H locs hP hD hS => ?_)
          have hP : va_P G.1 pCl (mW G h0 a (upd (upd (upd (upd (upd (upd (upd (upd (upd (upd (upd (upd (upd (upd (upd F 15 0) 16 pl28) 27 (nI nd)) 31 (nI wr)) 34 (nI lz)) 35 (nI dc)) 44 (nI fd)) 49 (nI md)) 59 (nI bk)) 60 (nI pr)) 64 (nI at26)) 65 ne0) 66 (nI lk)) 67 (nI mf)) 68 (nI mm)) (updA (stR (stR (stR (stR (stR (stR B 26 dc 0) 25 dc (nI (at0 + 1))) 24 dc (nI v51)) 27 dc (-1)) 28 dc (-1)) 29 dc 0) 2 K)) _ := hP
          have hD : va_D A (mW G h0 a (upd (upd (upd (upd (upd (upd (upd (upd (upd (upd (upd (upd (upd (upd (upd F 15 0) 16 pl28) 27 (nI nd)) 31 (nI wr)) 34 (nI lz)) 35 (nI dc)) 44 (nI fd)) 49 (nI md)) 59 (nI bk)) 60 (nI pr)) 64 (nI at26)) 65 ne0) 66 (nI lk)) 67 (nI mf)) 68 (nI mm)) (updA (stR (stR (stR (stR (stR (stR B 26 dc 0) 25 dc (nI (at0 + 1))) 24 dc (nI v51)) 27 dc (-1)) 28 dc (-1)) 29 dc 0) 2 K)) := hD
          have hkq84 : Kq 1 B (stR (stR (stR (stR (stR (stR B 26 dc 0) 25 dc (nI (at0 + 1))) 24 dc (nI v51)) 27 dc (-1)) 28 dc (-1)) 29 dc 0) := (Kq.st hkq73 (by omega))
          have hce85 : (stR (stR (stR (stR (stR (stR B 26 dc 0) 25 dc (nI (at0 + 1))) 24 dc (nI v51)) 27 dc (-1)) 28 dc (-1)) 29 dc 0) 26 dc = 0 := ((st_ne (by omega)).trans hce74)
          have hce86 : (stR (stR (stR (stR (stR (stR B 26 dc 0) 25 dc (nI (at0 + 1))) 24 dc (nI v51)) 27 dc (-1)) 28 dc (-1)) 29 dc 0) 25 dc = (nI (at0 + 1)) := ((st_ne (by omega)).trans hce75)
          have hce87 : (stR (stR (stR (stR (stR (stR B 26 dc 0) 25 dc (nI (at0 + 1))) 24 dc (nI v51)) 27 dc (-1)) 28 dc (-1)) 29 dc 0) 24 dc = (nI v51) := ((st_ne (by omega)).trans hce76)
          have hce88 : (stR (stR (stR (stR (stR (stR B 26 dc 0) 25 dc (nI (at0 + 1))) 24 dc (nI v51)) 27 dc (-1)) 28 dc (-1)) 29 dc 0) 27 dc = (-1) := ((st_ne (by omega)).trans hce77)
          have hce89 : (stR (stR (stR (stR (stR (stR B 26 dc 0) 25 dc (nI (at0 + 1))) 24 dc (nI v51)) 27 dc (-1)) 28 dc (-1)) 29 dc 0) 28 dc = (-1) := ((st_ne (by omega)).trans hce83)
          have hty90 : tkRow ((stR (stR (stR (stR (stR (stR B 26 dc 0) 25 dc (nI (at0 + 1))) 24 dc (nI v51)) 27 dc (-1)) 28 dc (-1)) 29 dc 0) 19) wr T := hty78
          have hps91 : PS T nm wr lz dc fd md pr bk (stR (stR (stR (stR (stR (stR B 26 dc 0) 25 dc (nI (at0 + 1))) 24 dc (nI v51)) 27 dc (-1)) 28 dc (-1)) 29 dc 0) := (PS.same hps79 (by omega) (by omega) (fun r i q1 q2 q3 => st_ne (fun e => by rw [e.1, e.2] at q3; exact absurd (show dc < dc from q3) (by omega))))
          have hfm92 : FrM K T wr (stR (stR (stR (stR (stR (stR B 26 dc 0) 25 dc (nI (at0 + 1))) 24 dc (nI v51)) 27 dc (-1)) 28 dc (-1)) 29 dc 0) nd md := (FrM.same hfm80 (by omega) (fun j i q1 q2 q3 => st_ne (by omega)) (fun i q => st_ne (by omega)))
          have hsn93 : Sng (stR (stR (stR (stR (stR (stR B 26 dc 0) 25 dc (nI (at0 + 1))) 24 dc (nI v51)) 27 dc (-1)) 28 dc (-1)) 29 dc 0) dc lz := (Sng.same hsn81 (by omega) (fun i q => st_ne (by omega)) (fun i q => st_ne (by omega)) (fun i q => st_ne (by omega)))
          have hlr94 : lsRow ((stR (stR (stR (stR (stR (stR B 26 dc 0) 25 dc (nI (at0 + 1))) 24 dc (nI v51)) 27 dc (-1)) 28 dc (-1)) 29 dc 0) 22) ((stR (stR (stR (stR (stR (stR B 26 dc 0) 25 dc (nI (at0 + 1))) 24 dc (nI v51)) 27 dc (-1)) 28 dc (-1)) 29 dc 0) 23) lz T := hlr82
          have hce95 : (stR (stR (stR (stR (stR (stR B 26 dc 0) 25 dc (nI (at0 + 1))) 24 dc (nI v51)) 27 dc (-1)) 28 dc (-1)) 29 dc 0) 29 dc = 0 := st_eq
          refine lv_aload_n hx hb dX12_declaration_129 rfl (lv_at hl 2 rfl) ?_
          refine lv_dup hx hb dX12_declaration_130 rfl ?_
          refine r_get (v := .int (nI dc)) hx hb hown hq hE hP 35 384 tFX12_35 (by decide) pw_1732 rfl dX12_declaration_131 ?_
          refine lv_iconst (v := 1) hx hb dX12_declaration_134 (by decide) ?_
          refine lv_iadd hx hb dX12_declaration_135 ?_
          refine lv_topi (fun x96 e97 => ?_)
          obtain rfl : x96 = nI (dc + 1) := e97.trans (nI_add (dc) (1))
          refine r_put (v := (nI (dc + 1))) (ty := .int) hx hb hown hq hE hP hD hS 35 384 tFX12_35 (by decide) pw_1732 (by decide) rfl rfl (ms_35 a _ _) dX12_declaration_136 (fun H locs hP hD hS => ?_)
          have cut_j : ∀ (at2 : Nat) (lz2 : Nat) (pl2 : Int32) (X2 : Nat → Nat → Int32) (H : Heap) (locs : List Loc) (ls : Array Slot), (at0 + 2 ≤ at2) → (at2 ≤ T) → (lz ≤ lz2 ∧ lz2 ≤ at2) → (Kq 1 B X2) → (PS T nm wr lz2 (dc + 1) fd md pr bk X2) → (FrM K T wr X2 nd md) → (tkRow (X2 19) wr T) → (lsRow (X2 22) (X2 23) lz2 T) → (Sng X2 (dc + 1) lz2) → va_P G.1 pCl (mW G h0 a (upd (upd (upd (upd (upd (upd (upd (upd (upd (upd (upd (upd (upd (upd (upd F 15 0) 16 pl2) 27 (nI nd)) 31 (nI wr)) 34 (nI lz2)) 35 (nI (dc + 1))) 44 (nI fd)) 49 (nI md)) 59 (nI bk)) 60 (nI pr)) 64 (nI at2)) 65 ne0) 66 (nI lk)) 67 (nI mf)) 68 (nI mm)) (updA X2 2 K)) H → va_D A (mW G h0 a (upd (upd (upd (upd (upd (upd (upd (upd (upd (upd (upd (upd (upd (upd (upd F 15 0) 16 pl2) 27 (nI nd)) 31 (nI wr)) 34 (nI lz2)) 35 (nI (dc + 1))) 44 (nI fd)) 49 (nI md)) 59 (nI bk)) 60 (nI pr)) 64 (nI at2)) 65 ne0) 66 (nI lk)) 67 (nI mf)) 68 (nI mm)) (updA X2 2 K)) → va_S A s.heap H locs → lv_has ls 3 [(2, .int (nI dc)), (0, .ref h0)] → W p l e (headSpec (Cond.code yX12_declaration cX12_declaration 3 none :: pw) ({ frames := 644, cells := 0, slots := 0, locals := 50200 } : Room)).room s m ([.ref h0] : List Value).toArray below meth c H locs 0 0 (MQ below (pQ G A (fun (v : Option Value) (u : Nat × Nat × Int32 × Nat × Nat × Nat × Nat × Nat × Nat × Nat × Nat × Nat × Nat × Int32 × (Nat → Nat → Int32)) => v = none ∧ (at0 ≤ u.1) ∧ (u.1 ≤ T) ∧ (u.2.1 ≤ 100) ∧ (at0 + 1 ≤ u.1 + u.2.1) ∧ (Kq 1 B u.2.2.2.2.2.2.2.2.2.2.2.2.2.2) ∧ (If (u.2.1 = 0) ((u.2.2.2.1 ≤ 2 * u.1 ∧ u.2.2.2.2.1 ≤ u.1 ∧ u.2.2.2.2.2.1 ≤ u.1 ∧ u.2.2.2.2.2.2.2.2.2.1 ≤ u.1 ∧ u.2.2.2.2.2.2.1 ≤ 37 ∧ dc ≤ u.2.2.2.2.2.2.1 ∧ u.2.2.2.2.2.2.2.2.2.2.1 ≤ u.2.2.2.2.2.2.2.2.1 ∧ wr ≤ u.2.2.2.2.1 ∧ lz ≤ u.2.2.2.2.2.1) ∧ (u.2.2.2.2.2.2.2.2.1 + 210 ≤ 30 * u.2.2.2.2.2.2.1 ∧ u.2.2.2.2.2.2.2.1 + 140 ≤ 20 * u.2.2.2.2.2.2.1 ∧ u.2.2.2.2.2.2.1 ≤ 37 ∧ 7 ≤ u.2.2.2.2.2.2.1 ∧ u.2.2.2.2.2.2.1 ≤ dc + 1) ∧ PS T nm u.2.2.2.2.1 u.2.2.2.2.2.1 u.2.2.2.2.2.2.1 u.2.2.2.2.2.2.2.1 u.2.2.2.2.2.2.2.2.1 u.2.2.2.2.2.2.2.2.2.1 u.2.2.2.2.2.2.2.2.2.2.1 u.2.2.2.2.2.2.2.2.2.2.2.2.2.2 ∧ FrM K T u.2.2.2.2.1 u.2.2.2.2.2.2.2.2.2.2.2.2.2.2 u.2.2.2.1 u.2.2.2.2.2.2.2.2.1 ∧ tkRow (u.2.2.2.2.2.2.2.2.2.2.2.2.2.2 19) u.2.2.2.2.1 T ∧ lsRow (u.2.2.2.2.2.2.2.2.2.2.2.2.2.2 22) (u.2.2.2.2.2.2.2.2.2.2.2.2.2.2 23) u.2.2.2.2.2.1 T)) ∧ (If (u.2.1 = 0) (Sng u.2.2.2.2.2.2.2.2.2.2.2.2.2.2 u.2.2.2.2.2.2.1 u.2.2.2.2.2.1))) (fun u => (mW G h0 a (upd (upd (upd (upd (upd (upd (upd (upd (upd (upd (upd (upd (upd (upd (upd F 15 (nI u.2.1)) 16 u.2.2.1) 27 (nI u.2.2.2.1)) 31 (nI u.2.2.2.2.1)) 34 (nI u.2.2.2.2.2.1)) 35 (nI u.2.2.2.2.2.2.1)) 44 (nI u.2.2.2.2.2.2.2.1)) 49 (nI u.2.2.2.2.2.2.2.2.1)) 59 (nI u.2.2.2.2.2.2.2.2.2.2.1)) 60 (nI u.2.2.2.2.2.2.2.2.2.1)) 64 (nI u.1)) 65 u.2.2.2.2.2.2.2.2.2.2.2.2.2.1) 66 (nI lk)) 67 (nI u.2.2.2.2.2.2.2.2.2.2.2.1)) 68 (nI u.2.2.2.2.2.2.2.2.2.2.2.2.1)) (updA u.2.2.2.2.2.2.2.2.2.2.2.2.2.2 2 K)))) ([.ref h0] : List Value).toArray s ({ frames := 644, cells := 0, slots := 0, locals := 50200 } : Room).cells ({ frames := 644, cells := 0, slots := 0, locals := 50200 } : Room).slots A) (F0 m 237 ls []) := by
            intro at2 lz2 pl2 X2 H locs ls hl1 hl0 hl2 hkq2 hps2 hfm2 hy2 hlr2 hsn2 hP hD hS hl
            refine lv_aload_n hx hb dX12_declaration_237 rfl (lv_at hl 1 rfl) ?_
            refine lv_bipush (v := 123) hx hb dX12_declaration_238 (by decide) ?_
            have hP : va_P G.1 pCl (mW G h0 a (upd (upd (upd (upd (upd (upd (upd (upd (upd (upd (upd (upd (upd (upd (upd (upd (upd F 15 0) 16 pl2) 27 (nI nd)) 31 (nI wr)) 34 (nI lz2)) 35 (nI (dc + 1))) 44 (nI fd)) 49 (nI md)) 59 (nI bk)) 60 (nI pr)) 64 (nI at2)) 65 ne0) 66 (nI lk)) 67 (nI mf)) 68 (nI mm)) 15 (nI 0)) 64 (nI at2)) (updA (updA X2 2 K) 2 K)) _ := hP
            have hD : va_D A (mW G h0 a (upd (upd (upd (upd (upd (upd (upd (upd (upd (upd (upd (upd (upd (upd (upd (upd (upd F 15 0) 16 pl2) 27 (nI nd)) 31 (nI wr)) 34 (nI lz2)) 35 (nI (dc + 1))) 44 (nI fd)) 49 (nI md)) 59 (nI bk)) 60 (nI pr)) 64 (nI at2)) 65 ne0) 66 (nI lk)) 67 (nI mf)) 68 (nI mm)) 15 (nI 0)) 64 (nI at2)) (updA (updA X2 2 K) 2 K)) := hD
            refine pc_V0 (G := G) (As := [.int 123]) (rest := []) hx hb hml hown hq hE hX pX0_al hP hD hS hA hl.1 (R_take l G h0 a (upd (upd (upd (upd (upd (upd (upd (upd (upd (upd (upd (upd (upd (upd (upd F 15 0) 16 pl2) 27 (nI nd)) 31 (nI wr)) 34 (nI lz2)) 35 (nI (dc + 1))) 44 (nI fd)) 49 (nI md)) 59 (nI bk)) 60 (nI pr)) 64 (nI at2)) 65 ne0) 66 (nI lk)) 67 (nI mf)) 68 (nI mm)) (updA X2 2 K) at2 T 0 K 123 (by omega) (by omega) hK (by omega) (by decide) (by decide)) (gV pw_1614 pw_1615 pw_1616 pw_1523 pw_1601) hV_X12_take 0 9 rfl rfl rfl rfl (Nat.le_of_ble_eq_true rfl) dX12_declaration_240 ⟨Nat.le_of_ble_eq_true rfl, Nat.le_of_ble_eq_true rfl⟩ ⟨Nat.le_of_ble_eq_true rfl, Nat.le_of_ble_eq_true rfl⟩ (fun v100 u98 H locs hw99 hP hD hS => ?_)
            obtain ⟨at101, fa102, pl103⟩ := u98
            obtain ⟨hw99, h104, h105, h106, h107, h108, h109, h110, h111⟩ := hw99
            replace h104 : at2 ≤ at101 := h104
            replace h105 : at101 ≤ T := h105
            replace h106 : 0 ≤ fa102 := h106
            replace h107 : fa102 ≤ 100 := h107
            replace h108 : If (0 < 0) (at101 = at2 ∧ fa102 = 0) := h108
            replace h109 : at101 ≤ at2 + 1 := h109
            replace h110 : at2 + 1 ≤ at101 + fa102 := h110
            replace h111 : If (fa102 = 0) (K at2 = 123) := h111
            obtain rfl : v100 = none := hw99
            have hP : va_P G.1 pCl (mW G h0 a (upd (upd (upd (upd (upd (upd (upd (upd (upd (upd (upd (upd (upd (upd (upd F 15 (nI fa102)) 16 pl103) 27 (nI nd)) 31 (nI wr)) 34 (nI lz2)) 35 (nI (dc + 1))) 44 (nI fd)) 49 (nI md)) 59 (nI bk)) 60 (nI pr)) 64 (nI at101)) 65 ne0) 66 (nI lk)) 67 (nI mf)) 68 (nI mm)) (updA X2 2 K)) _ := hP
            have hD : va_D A (mW G h0 a (upd (upd (upd (upd (upd (upd (upd (upd (upd (upd (upd (upd (upd (upd (upd F 15 (nI fa102)) 16 pl103) 27 (nI nd)) 31 (nI wr)) 34 (nI lz2)) 35 (nI (dc + 1))) 44 (nI fd)) 49 (nI md)) 59 (nI bk)) 60 (nI pr)) 64 (nI at101)) 65 ne0) 66 (nI lk)) 67 (nI mf)) 68 (nI mm)) (updA X2 2 K)) := hD
            refine W.widen (k := 0) (n := 0) (Nat.le_of_ble_eq_true rfl) (Nat.le_of_ble_eq_true rfl) ?_
            refine W.eq (g2 := F0 m 243 ls []) rfl ?_
            rcases Nat.eq_zero_or_pos fa102 with e112 | e112
            · subst e112
              have hP : va_P G.1 pCl (mW G h0 a (upd (upd (upd (upd (upd (upd (upd (upd (upd (upd (upd (upd (upd (upd (upd F 15 0) 16 pl103) 27 (nI nd)) 31 (nI wr)) 34 (nI lz2)) 35 (nI (dc + 1))) 44 (nI fd)) 49 (nI md)) 59 (nI bk)) 60 (nI pr)) 64 (nI at101)) 65 ne0) 66 (nI lk)) 67 (nI mf)) 68 (nI mm)) (updA X2 2 K)) _ := hP
              have hD : va_D A (mW G h0 a (upd (upd (upd (upd (upd (upd (upd (upd (upd (upd (upd (upd (upd (upd (upd F 15 0) 16 pl103) 27 (nI nd)) 31 (nI wr)) 34 (nI lz2)) 35 (nI (dc + 1))) 44 (nI fd)) 49 (nI md)) 59 (nI bk)) 60 (nI pr)) 64 (nI at101)) 65 ne0) 66 (nI lk)) 67 (nI mf)) 68 (nI mm)) (updA X2 2 K)) := hD
              refine lv_aload_n hx hb dX12_declaration_243 rfl (lv_at hl 1 rfl) ?_
              refine lv_iconst (v := 0) hx hb dX12_declaration_244 (by decide) ?_
              refine r_put (v := 0) (ty := .int) hx hb hown hq hE hP hD hS 67 390 tFX12_67 (by decide) pw_1726 (by decide) rfl rfl (ms_67 a _ _) dX12_declaration_245 (fun H locs hP hD hS => ?_)
              refine lv_aload_n hx hb dX12_declaration_248 rfl (lv_at hl 1 rfl) ?_
              refine lv_iconst (v := 0) hx hb dX12_declaration_249 (by decide) ?_
              refine r_put (v := 0) (ty := .int) hx hb hown hq hE hP hD hS 68 393 tFX12_68 (by decide) pw_1722 (by decide) rfl rfl (ms_68 a _ _) dX12_declaration_250 (fun H locs hP hD hS => ?_)
              have loop_o : ∀ (n_o : Nat) (at3 : Nat) (nd3 : Nat) (wr3 : Nat) (lz3 : Nat) (fd3 : Nat) (md3 : Nat) (pr3 : Nat) (bk3 : Nat) (mf3 : Nat) (mm3 : Nat) (pl3 : Int32) (ne3 : Int32) (X3 : Nat → Nat → Int32) (H : Heap) (locs : List Loc) (ls : Array Slot), at3 ≤ T → T + 1 ≤ at3 + n_o → (at0 + 3 ≤ at3) → (nd3 ≤ 2 * at3 ∧ wr3 ≤ at3 ∧ lz3 ≤ at3 ∧ pr3 ≤ at3 ∧ bk3 ≤ md3 ∧ wr ≤ wr3 ∧ lz ≤ lz3) → (md3 + 240 ≤ 30 * (dc + 1) + mm3 ∧ fd3 + 160 ≤ 20 * (dc + 1) + mf3 ∧ mf3 ≤ 20 ∧ mm3 ≤ 30) → (dc + 1 ≤ 37) → (Kq 1 B X3) → (PS T nm wr3 lz3 (dc + 1) fd3 md3 pr3 bk3 X3) → (FrM K T wr3 X3 nd3 md3) → (tkRow (X3 19) wr3 T) → (lsRow (X3 22) (X3 23) lz3 T) → (Sng X3 (dc + 1) lz3) → va_P G.1 pCl (mW G h0 a (upd (upd (upd (upd (upd (upd (upd (upd (upd (upd (upd (upd (upd (upd (upd F 15 0) 16 pl3) 27 (nI nd3)) 31 (nI wr3)) 34 (nI lz3)) 35 (nI (dc + 1))) 44 (nI fd3)) 49 (nI md3)) 59 (nI bk3)) 60 (nI pr3)) 64 (nI at3)) 65 ne3) 66 (nI lk)) 67 (nI mf3)) 68 (nI mm3)) (updA X3 2 K)) H → va_D A (mW G h0 a (upd (upd (upd (upd (upd (upd (upd (upd (upd (upd (upd (upd (upd (upd (upd F 15 0) 16 pl3) 27 (nI nd3)) 31 (nI wr3)) 34 (nI lz3)) 35 (nI (dc + 1))) 44 (nI fd3)) 49 (nI md3)) 59 (nI bk3)) 60 (nI pr3)) 64 (nI at3)) 65 ne3) 66 (nI lk)) 67 (nI mf3)) 68 (nI mm3)) (updA X3 2 K)) → va_S A s.heap H locs → lv_has ls 3 [(2, .int (nI dc)), (0, .ref h0)] → W p l e (headSpec (Cond.code yX12_declaration cX12_declaration 3 none :: pw) ({ frames := 644, cells := 0, slots := 0, locals := 50200 } : Room)).room s m ([.ref h0] : List Value).toArray below meth c H locs 0 0 (MQ below (pQ G A (fun (v : Option Value) (u : Nat × Nat × Int32 × Nat × Nat × Nat × Nat × Nat × Nat × Nat × Nat × Nat × Nat × Int32 × (Nat → Nat → Int32)) => v = none ∧ (at0 ≤ u.1) ∧ (u.1 ≤ T) ∧ (u.2.1 ≤ 100) ∧ (at0 + 1 ≤ u.1 + u.2.1) ∧ (Kq 1 B u.2.2.2.2.2.2.2.2.2.2.2.2.2.2) ∧ (If (u.2.1 = 0) ((u.2.2.2.1 ≤ 2 * u.1 ∧ u.2.2.2.2.1 ≤ u.1 ∧ u.2.2.2.2.2.1 ≤ u.1 ∧ u.2.2.2.2.2.2.2.2.2.1 ≤ u.1 ∧ u.2.2.2.2.2.2.1 ≤ 37 ∧ dc ≤ u.2.2.2.2.2.2.1 ∧ u.2.2.2.2.2.2.2.2.2.2.1 ≤ u.2.2.2.2.2.2.2.2.1 ∧ wr ≤ u.2.2.2.2.1 ∧ lz ≤ u.2.2.2.2.2.1) ∧ (u.2.2.2.2.2.2.2.2.1 + 210 ≤ 30 * u.2.2.2.2.2.2.1 ∧ u.2.2.2.2.2.2.2.1 + 140 ≤ 20 * u.2.2.2.2.2.2.1 ∧ u.2.2.2.2.2.2.1 ≤ 37 ∧ 7 ≤ u.2.2.2.2.2.2.1 ∧ u.2.2.2.2.2.2.1 ≤ dc + 1) ∧ PS T nm u.2.2.2.2.1 u.2.2.2.2.2.1 u.2.2.2.2.2.2.1 u.2.2.2.2.2.2.2.1 u.2.2.2.2.2.2.2.2.1 u.2.2.2.2.2.2.2.2.2.1 u.2.2.2.2.2.2.2.2.2.2.1 u.2.2.2.2.2.2.2.2.2.2.2.2.2.2 ∧ FrM K T u.2.2.2.2.1 u.2.2.2.2.2.2.2.2.2.2.2.2.2.2 u.2.2.2.1 u.2.2.2.2.2.2.2.2.1 ∧ tkRow (u.2.2.2.2.2.2.2.2.2.2.2.2.2.2 19) u.2.2.2.2.1 T ∧ lsRow (u.2.2.2.2.2.2.2.2.2.2.2.2.2.2 22) (u.2.2.2.2.2.2.2.2.2.2.2.2.2.2 23) u.2.2.2.2.2.1 T)) ∧ (If (u.2.1 = 0) (Sng u.2.2.2.2.2.2.2.2.2.2.2.2.2.2 u.2.2.2.2.2.2.1 u.2.2.2.2.2.1))) (fun u => (mW G h0 a (upd (upd (upd (upd (upd (upd (upd (upd (upd (upd (upd (upd (upd (upd (upd F 15 (nI u.2.1)) 16 u.2.2.1) 27 (nI u.2.2.2.1)) 31 (nI u.2.2.2.2.1)) 34 (nI u.2.2.2.2.2.1)) 35 (nI u.2.2.2.2.2.2.1)) 44 (nI u.2.2.2.2.2.2.2.1)) 49 (nI u.2.2.2.2.2.2.2.2.1)) 59 (nI u.2.2.2.2.2.2.2.2.2.2.1)) 60 (nI u.2.2.2.2.2.2.2.2.2.1)) 64 (nI u.1)) 65 u.2.2.2.2.2.2.2.2.2.2.2.2.2.1) 66 (nI lk)) 67 (nI u.2.2.2.2.2.2.2.2.2.2.2.1)) 68 (nI u.2.2.2.2.2.2.2.2.2.2.2.2.1)) (updA u.2.2.2.2.2.2.2.2.2.2.2.2.2.2 2 K)))) ([.ref h0] : List Value).toArray s ({ frames := 644, cells := 0, slots := 0, locals := 50200 } : Room).cells ({ frames := 644, cells := 0, slots := 0, locals := 50200 } : Room).slots A) (F0 m 253 ls []) := by
                intro n_o
                induction n_o with
                | zero => intro at3 nd3 wr3 lz3 fd3 md3 pr3 bk3 mf3 mm3 pl3 ne3 X3 H locs ls hk_o hn_o; omega
                | succ n_o ih_o =>
                  intro at3 nd3 wr3 lz3 fd3 md3 pr3 bk3 mf3 mm3 pl3 ne3 X3 H locs ls hk_o hn_o hm1 hm2 hm3 hm4 hkq3 hps3 hfm3 hy3 hlr3 hsn3 hP hD hS hl
                  refine lv_aload_n hx hb dX12_declaration_253 rfl (lv_at hl 1 rfl) ?_
                  refine r_get (v := .int 0) hx hb hown hq hE hP 15 350 tFX12_15 (by decide) pw_1594 rfl dX12_declaration_254 ?_
                  refine lv_if_ne (tgt := 277) hx hb dX12_declaration_257 (by decide) (fun c113 => absurd c113 (by decide)) (fun c113 => ?_)
                  refine lv_aload_n hx hb dX12_declaration_260 rfl (lv_at hl 1 rfl) ?_
                  have hP : va_P G.1 pCl (mW G h0 a (upd (upd (upd (upd (upd (upd (upd (upd (upd (upd (upd (upd (upd (upd (upd (upd (upd F 15 0) 16 pl3) 27 (nI nd3)) 31 (nI wr3)) 34 (nI lz3)) 35 (nI (dc + 1))) 44 (nI fd3)) 49 (nI md3)) 59 (nI bk3)) 60 (nI pr3)) 64 (nI at3)) 65 ne3) 66 (nI lk)) 67 (nI mf3)) 68 (nI mm3)) 15 (nI 0)) 64 (nI at3)) (updA (updA X3 2 K) 2 K)) _ := hP
                  have hD : va_D A (mW G h0 a (upd (upd (upd (upd (upd (upd (upd (upd (upd (upd (upd (upd (upd (upd (upd (upd (upd F 15 0) 16 pl3) 27 (nI nd3)) 31 (nI wr3)) 34 (nI lz3)) 35 (nI (dc + 1))) 44 (nI fd3)) 49 (nI md3)) 59 (nI bk3)) 60 (nI pr3)) 64 (nI at3)) 65 ne3) 66 (nI lk)) 67 (nI mf3)) 68 (nI mm3)) 15 (nI 0)) 64 (nI at3)) (updA (updA X3 2 K) 2 K)) := hD
                  refine pc_V0 (G := G) (As := []) (rest := []) hx hb hml hown hq hE hX pX0_al hP hD hS hA hl.1 (R_kind l G h0 a (upd (upd (upd (upd (upd (upd (upd (upd (upd (upd (upd (upd (upd (upd (upd F 15 0) 16 pl3) 27 (nI nd3)) 31 (nI wr3)) 34 (nI lz3)) 35 (nI (dc + 1))) 44 (nI fd3)) 49 (nI md3)) 59 (nI bk3)) 60 (nI pr3)) 64 (nI at3)) 65 ne3) 66 (nI lk)) 67 (nI mf3)) 68 (nI mm3)) (updA X3 2 K) at3 T 0 K (by omega) (by omega) hK (by omega)) (gV pw_1626 pw_1627 pw_1628 pw_1523 pw_1591) hV_X12_kind 0 9 rfl rfl rfl rfl (Nat.le_of_ble_eq_true rfl) dX12_declaration_261 ⟨Nat.le_of_ble_eq_true rfl, Nat.le_of_ble_eq_true rfl⟩ ⟨Nat.le_of_ble_eq_true rfl, Nat.le_of_ble_eq_true rfl⟩ (fun v116 u114 H locs hw115 hP hD hS => ?_)
                  obtain rfl : v116 = some (.int (K at3)) := hw115
                  have hP : va_P G.1 pCl (mW G h0 a (upd (upd (upd (upd (upd (upd (upd (upd (upd (upd (upd (upd (upd (upd (upd F 15 0) 16 pl3) 27 (nI nd3)) 31 (nI wr3)) 34 (nI lz3)) 35 (nI (dc + 1))) 44 (nI fd3)) 49 (nI md3)) 59 (nI bk3)) 60 (nI pr3)) 64 (nI at3)) 65 ne3) 66 (nI lk)) 67 (nI mf3)) 68 (nI mm3)) (updA X3 2 K)) _ := hP
                  have hD : va_D A (mW G h0 a (upd (upd (upd (upd (upd (upd (upd (upd (upd (upd (upd (upd (upd (upd (upd F 15 0) 16 pl3) 27 (nI nd3)) 31 (nI wr3)) 34 (nI lz3)) 35 (nI (dc + 1))) 44 (nI fd3)) 49 (nI md3)) 59 (nI bk3)) 60 (nI pr3)) 64 (nI at3)) 65 ne3) 66 (nI lk)) 67 (nI mf3)) 68 (nI mm3)) (updA X3 2 K)) := hD
                  refine W.widen (k := 0) (n := 0) (Nat.le_of_ble_eq_true rfl) (Nat.le_of_ble_eq_true rfl) ?_
                  refine W.eq (g2 := F0 m 264 ls [.int (K at3)]) rfl ?_
                  refine lv_bipush (v := 125) hx hb dX12_declaration_264 (by decide) ?_
                  refine lv_icmp_eq (tgt := 277) hx hb dX12_declaration_266 (by decide) (fun c117 => ?_) (fun c117 => ?_)
                  · refine lv_aload_n hx hb dX12_declaration_277 rfl (lv_at hl 1 rfl) ?_
                    refine lv_bipush (v := 125) hx hb dX12_declaration_278 (by decide) ?_
                    have hP : va_P G.1 pCl (mW G h0 a (upd (upd (upd (upd (upd (upd (upd (upd (upd (upd (upd (upd (upd (upd (upd (upd (upd F 15 0) 16 pl3) 27 (nI nd3)) 31 (nI wr3)) 34 (nI lz3)) 35 (nI (dc + 1))) 44 (nI fd3)) 49 (nI md3)) 59 (nI bk3)) 60 (nI pr3)) 64 (nI at3)) 65 ne3) 66 (nI lk)) 67 (nI mf3)) 68 (nI mm3)) 15 (nI 0)) 64 (nI at3)) (updA (updA X3 2 K) 2 K)) _ := hP
                    have hD : va_D A (mW G h0 a (upd (upd (upd (upd (upd (upd (upd (upd (upd (upd (upd (upd (upd (upd (upd (upd (upd F 15 0) 16 pl3) 27 (nI nd3)) 31 (nI wr3)) 34 (nI lz3)) 35 (nI (dc + 1))) 44 (nI fd3)) 49 (nI md3)) 59 (nI bk3)) 60 (nI pr3)) 64 (nI at3)) 65 ne3) 66 (nI lk)) 67 (nI mf3)) 68 (nI mm3)) 15 (nI 0)) 64 (nI at3)) (updA (updA X3 2 K) 2 K)) := hD
                    refine pc_V0 (G := G) (As := [.int 125]) (rest := []) hx hb hml hown hq hE hX pX0_al hP hD hS hA hl.1 (R_take l G h0 a (upd (upd (upd (upd (upd (upd (upd (upd (upd (upd (upd (upd (upd (upd (upd F 15 0) 16 pl3) 27 (nI nd3)) 31 (nI wr3)) 34 (nI lz3)) 35 (nI (dc + 1))) 44 (nI fd3)) 49 (nI md3)) 59 (nI bk3)) 60 (nI pr3)) 64 (nI at3)) 65 ne3) 66 (nI lk)) 67 (nI mf3)) 68 (nI mm3)) (updA X3 2 K) at3 T 0 K 125 (by omega) (by omega) hK (by omega) (by decide) (by decide)) (gV pw_1614 pw_1615 pw_1616 pw_1523 pw_1601) hV_X12_take 0 9 rfl rfl rfl rfl (Nat.le_of_ble_eq_true rfl) dX12_declaration_280 ⟨Nat.le_of_ble_eq_true rfl, Nat.le_of_ble_eq_true rfl⟩ ⟨Nat.le_of_ble_eq_true rfl, Nat.le_of_ble_eq_true rfl⟩ (fun v120 u118 H locs hw119 hP hD hS => ?_)
                    obtain ⟨at121, fa122, pl123⟩ := u118
                    obtain ⟨hw119, h124, h125, h126, h127, h128, h129, h130, h131⟩ := hw119
                    replace h124 : at3 ≤ at121 := h124
                    replace h125 : at121 ≤ T := h125
                    replace h126 : 0 ≤ fa122 := h126
                    replace h127 : fa122 ≤ 100 := h127
                    replace h128 : If (0 < 0) (at121 = at3 ∧ fa122 = 0) := h128
                    replace h129 : at121 ≤ at3 + 1 := h129
                    replace h130 : at3 + 1 ≤ at121 + fa122 := h130
                    replace h131 : If (fa122 = 0) (K at3 = 125) := h131
                    obtain rfl : v120 = none := hw119
                    have hP : va_P G.1 pCl (mW G h0 a (upd (upd (upd (upd (upd (upd (upd (upd (upd (upd (upd (upd (upd (upd (upd F 15 (nI fa122)) 16 pl123) 27 (nI nd3)) 31 (nI wr3)) 34 (nI lz3)) 35 (nI (dc + 1))) 44 (nI fd3)) 49 (nI md3)) 59 (nI bk3)) 60 (nI pr3)) 64 (nI at121)) 65 ne3) 66 (nI lk)) 67 (nI mf3)) 68 (nI mm3)) (updA X3 2 K)) _ := hP
                    have hD : va_D A (mW G h0 a (upd (upd (upd (upd (upd (upd (upd (upd (upd (upd (upd (upd (upd (upd (upd F 15 (nI fa122)) 16 pl123) 27 (nI nd3)) 31 (nI wr3)) 34 (nI lz3)) 35 (nI (dc + 1))) 44 (nI fd3)) 49 (nI md3)) 59 (nI bk3)) 60 (nI pr3)) 64 (nI at121)) 65 ne3) 66 (nI lk)) 67 (nI mf3)) 68 (nI mm3)) (updA X3 2 K)) := hD
                    refine W.widen (k := 0) (n := 0) (Nat.le_of_ble_eq_true rfl) (Nat.le_of_ble_eq_true rfl) ?_
                    refine W.eq (g2 := F0 m 283 ls []) rfl ?_
                    rcases Nat.eq_zero_or_pos fa122 with e132 | e132
                    · subst e132
                      have hP : va_P G.1 pCl (mW G h0 a (upd (upd (upd (upd (upd (upd (upd (upd (upd (upd (upd (upd (upd (upd (upd F 15 0) 16 pl123) 27 (nI nd3)) 31 (nI wr3)) 34 (nI lz3)) 35 (nI (dc + 1))) 44 (nI fd3)) 49 (nI md3)) 59 (nI bk3)) 60 (nI pr3)) 64 (nI at121)) 65 ne3) 66 (nI lk)) 67 (nI mf3)) 68 (nI mm3)) (updA X3 2 K)) _ := hP
                      have hD : va_D A (mW G h0 a (upd (upd (upd (upd (upd (upd (upd (upd (upd (upd (upd (upd (upd (upd (upd F 15 0) 16 pl123) 27 (nI nd3)) 31 (nI wr3)) 34 (nI lz3)) 35 (nI (dc + 1))) 44 (nI fd3)) 49 (nI md3)) 59 (nI bk3)) 60 (nI pr3)) 64 (nI at121)) 65 ne3) 66 (nI lk)) 67 (nI mf3)) 68 (nI mm3)) (updA X3 2 K)) := hD
                      have hz133 : at0 ≤ at121 := (by omega)
                      have hz134 : at121 ≤ T := (by omega)
                      have hz135 : 0 ≤ 100 := (by omega)
                      have hz136 : at0 + 1 ≤ at121 + 0 := (by omega)
                      have hz137 : Kq 1 B X3 := hkq3
                      have hz138 : If (0 = 0) ((nd3 ≤ 2 * at121 ∧ wr3 ≤ at121 ∧ lz3 ≤ at121 ∧ pr3 ≤ at121 ∧ (dc + 1) ≤ 37 ∧ dc ≤ (dc + 1) ∧ bk3 ≤ md3 ∧ wr ≤ wr3 ∧ lz ≤ lz3) ∧ (md3 + 210 ≤ 30 * (dc + 1) ∧ fd3 + 140 ≤ 20 * (dc + 1) ∧ (dc + 1) ≤ 37 ∧ 7 ≤ (dc + 1) ∧ (dc + 1) ≤ dc + 1) ∧ PS T nm wr3 lz3 (dc + 1) fd3 md3 pr3 bk3 X3 ∧ FrM K T wr3 X3 nd3 md3 ∧ tkRow (X3 19) wr3 T ∧ lsRow (X3 22) (X3 23) lz3 T) := (fun _ => ⟨by omega, by omega, hps3, hfm3, hy3, hlr3⟩)
                      have hz139 : If (0 = 0) (Sng X3 (dc + 1) lz3) := (fun _ => hsn3)
                      have hP : va_P G.1 pCl (mW G h0 a (upd (upd (upd (upd (upd (upd (upd (upd (upd (upd (upd (upd (upd (upd (upd F 15 (nI 0)) 16 pl123) 27 (nI nd3)) 31 (nI wr3)) 34 (nI lz3)) 35 (nI (dc + 1))) 44 (nI fd3)) 49 (nI md3)) 59 (nI bk3)) 60 (nI pr3)) 64 (nI at121)) 65 ne3) 66 (nI lk)) 67 (nI mf3)) 68 (nI mm3)) (updA X3 2 K)) _ := hP
                      have hD : va_D A (mW G h0 a (upd (upd (upd (upd (upd (upd (upd (upd (upd (upd (upd (upd (upd (upd (upd F 15 (nI 0)) 16 pl123) 27 (nI nd3)) 31 (nI wr3)) 34 (nI lz3)) 35 (nI (dc + 1))) 44 (nI fd3)) 49 (nI md3)) 59 (nI bk3)) 60 (nI pr3)) 64 (nI at121)) 65 ne3) 66 (nI lk)) 67 (nI mf3)) 68 (nI mm3)) (updA X3 2 K)) := hD
                      exact W.vret hx hb hr (fun t9 ht9 hW9 => ⟨⟨_, (at121, 0, pl123, nd3, wr3, lz3, (dc + 1), fd3, md3, pr3, bk3, mf3, mm3, ne3, X3), rfl, ⟨rfl, hz133, hz134, hz135, hz136, hz137, hz138, hz139⟩, by rw [ht9]; exact hP, hD⟩, hS.F ht9⟩) hS.2.2 dX12_declaration_283
                    · have e132 := e132
                      have hz140 : at0 ≤ at121 := (by omega)
                      have hz141 : at121 ≤ T := (by omega)
                      have hz142 : fa122 ≤ 100 := (by omega)
                      have hz143 : at0 + 1 ≤ at121 + fa122 := (by omega)
                      have hz144 : Kq 1 B X3 := hkq3
                      have hz145 : If (fa122 = 0) ((nd3 ≤ 2 * at121 ∧ wr3 ≤ at121 ∧ lz3 ≤ at121 ∧ pr3 ≤ at121 ∧ (dc + 1) ≤ 37 ∧ dc ≤ (dc + 1) ∧ bk3 ≤ md3 ∧ wr ≤ wr3 ∧ lz ≤ lz3) ∧ (md3 + 210 ≤ 30 * (dc + 1) ∧ fd3 + 140 ≤ 20 * (dc + 1) ∧ (dc + 1) ≤ 37 ∧ 7 ≤ (dc + 1) ∧ (dc + 1) ≤ dc + 1) ∧ PS T nm wr3 lz3 (dc + 1) fd3 md3 pr3 bk3 X3 ∧ FrM K T wr3 X3 nd3 md3 ∧ tkRow (X3 19) wr3 T ∧ lsRow (X3 22) (X3 23) lz3 T) := (fun e => absurd e (by omega))
                      have hz146 : If (fa122 = 0) (Sng X3 (dc + 1) lz3) := (fun e => absurd e (by omega))
                      have hP : va_P G.1 pCl (mW G h0 a (upd (upd (upd (upd (upd (upd (upd (upd (upd (upd (upd (upd (upd (upd (upd F 15 (nI fa122)) 16 pl123) 27 (nI nd3)) 31 (nI wr3)) 34 (nI lz3)) 35 (nI (dc + 1))) 44 (nI fd3)) 49 (nI md3)) 59 (nI bk3)) 60 (nI pr3)) 64 (nI at121)) 65 ne3) 66 (nI lk)) 67 (nI mf3)) 68 (nI mm3)) (updA X3 2 K)) _ := hP
                      have hD : va_D A (mW G h0 a (upd (upd (upd (upd (upd (upd (upd (upd (upd (upd (upd (upd (upd (upd (upd F 15 (nI fa122)) 16 pl123) 27 (nI nd3)) 31 (nI wr3)) 34 (nI lz3)) 35 (nI (dc + 1))) 44 (nI fd3)) 49 (nI md3)) 59 (nI bk3)) 60 (nI pr3)) 64 (nI at121)) 65 ne3) 66 (nI lk)) 67 (nI mf3)) 68 (nI mm3)) (updA X3 2 K)) := hD
                      exact W.vret hx hb hr (fun t9 ht9 hW9 => ⟨⟨_, (at121, fa122, pl123, nd3, wr3, lz3, (dc + 1), fd3, md3, pr3, bk3, mf3, mm3, ne3, X3), rfl, ⟨rfl, hz140, hz141, hz142, hz143, hz144, hz145, hz146⟩, by rw [ht9]; exact hP, hD⟩, hS.F ht9⟩) hS.2.2 dX12_declaration_283
                  · refine lv_aload_n hx hb dX12_declaration_269 rfl (lv_at hl 1 rfl) ?_
                    refine lv_iload_n hx hb dX12_declaration_270 rfl (lv_at hl 0 rfl) ?_
                    have hP : va_P G.1 pCl (mW G h0 a (upd (upd (upd (upd (upd (upd (upd (upd (upd (upd (upd (upd (upd (upd (upd (upd (upd (upd (upd (upd (upd (upd (upd (upd (upd (upd (upd (upd (upd F 15 0) 16 pl3) 27 (nI nd3)) 31 (nI wr3)) 34 (nI lz3)) 35 (nI (dc + 1))) 44 (nI fd3)) 49 (nI md3)) 59 (nI bk3)) 60 (nI pr3)) 64 (nI at3)) 65 ne3) 66 (nI lk)) 67 (nI mf3)) 68 (nI mm3)) 15 0) 27 (nI nd3)) 31 (nI wr3)) 34 (nI lz3)) 35 (nI (dc + 1))) 44 (nI fd3)) 49 (nI md3)) 59 (nI bk3)) 60 (nI pr3)) 64 (nI at3)) 65 ne3) 66 (nI lk)) 67 (nI mf3)) 68 (nI mm3)) (updA X3 2 K)) _ := hP
                    have hD : va_D A (mW G h0 a (upd (upd (upd (upd (upd (upd (upd (upd (upd (upd (upd (upd (upd (upd (upd (upd (upd (upd (upd (upd (upd (upd (upd (upd (upd (upd (upd (upd (upd F 15 0) 16 pl3) 27 (nI nd3)) 31 (nI wr3)) 34 (nI lz3)) 35 (nI (dc + 1))) 44 (nI fd3)) 49 (nI md3)) 59 (nI bk3)) 60 (nI pr3)) 64 (nI at3)) 65 ne3) 66 (nI lk)) 67 (nI mf3)) 68 (nI mm3)) 15 0) 27 (nI nd3)) 31 (nI wr3)) 34 (nI lz3)) 35 (nI (dc + 1))) 44 (nI fd3)) 49 (nI md3)) 59 (nI bk3)) 60 (nI pr3)) 64 (nI at3)) 65 ne3) 66 (nI lk)) 67 (nI mf3)) 68 (nI mm3)) (updA X3 2 K)) := hD
                    refine pc_V0 (G := G) (As := [.int (nI dc)]) (rest := []) hx hb hml hown hq hE hX pX0_al hP hD hS hA hl.1 (RM_member l G h0 a (upd (upd (upd (upd (upd (upd (upd (upd (upd (upd (upd (upd (upd (upd (upd F 15 0) 16 pl3) 27 (nI nd3)) 31 (nI wr3)) 34 (nI lz3)) 35 (nI (dc + 1))) 44 (nI fd3)) 49 (nI md3)) 59 (nI bk3)) 60 (nI pr3)) 64 (nI at3)) 65 ne3) 66 (nI lk)) 67 (nI mf3)) 68 (nI mm3)) X3 at3 T nm nd3 wr3 lz3 (dc + 1) fd3 md3 pr3 bk3 mf3 mm3 lk ne3 K dc (by omega) (by omega) hK (by rw [hkq3 5 (by omega)]; exact hV) (by omega) (by omega) (by omega) (by omega) (by omega) (by omega) (by omega) (by omega) (by omega) (by omega) (by omega) (by omega) hps3 hfm3 hy3 hlr3) (gV pw_1736 pw_1737 pw_1738 pw_1523 pw_1731) hV_X12_member 0 9 rfl rfl rfl rfl (Nat.le_of_ble_eq_true rfl) dX12_declaration_271 ⟨Nat.le_of_ble_eq_true rfl, Nat.le_of_ble_eq_true rfl⟩ ⟨Nat.le_of_ble_eq_true rfl, Nat.le_of_ble_eq_true rfl⟩ (fun v149 u147 H locs hw148 hP hD hS => ?_)
                    obtain ⟨at150, fa151, pl152, nd153, wr154, lz155, dc156, fd157, md158, pr159, bk160, mf161, mm162, ne163, X164⟩ := u147
                    obtain ⟨hw148, h165, h166, h167, h168, h169, h170⟩ := hw148
                    replace h165 : at3 ≤ at150 := h165
                    replace h166 : at150 ≤ T := h166
                    replace h167 : fa151 ≤ 100 := h167
                    replace h168 : at3 + 1 ≤ at150 + fa151 := h168
                    replace h169 : Kq 0 X3 X164 := h169
                    replace h170 : If (fa151 = 0) ((nd153 ≤ 2 * at150 ∧ wr154 ≤ at150 ∧ lz155 ≤ at150 ∧ pr159 ≤ at150 ∧ dc156 ≤ 37 ∧ (dc + 1) ≤ dc156 ∧ bk160 ≤ md158 ∧ wr3 ≤ wr154 ∧ lz3 ≤ lz155) ∧ (md158 + 240 ≤ 30 * dc156 + mm162 ∧ fd157 + 160 ≤ 20 * dc156 + mf161 ∧ mf161 ≤ 20 ∧ mm162 ≤ 30 ∧ dc156 = (dc + 1)) ∧ PS T nm wr154 lz155 dc156 fd157 md158 pr159 bk160 X164 ∧ FrM K T wr154 X164 nd153 md158 ∧ tkRow (X164 19) wr154 T ∧ lsRow (X164 22) (X164 23) lz155 T) := h170
                    obtain rfl : v149 = none := hw148
                    have hP : va_P G.1 pCl (mW G h0 a (upd (upd (upd (upd (upd (upd (upd (upd (upd (upd (upd (upd (upd (upd (upd F 15 (nI fa151)) 16 pl152) 27 (nI nd153)) 31 (nI wr154)) 34 (nI lz155)) 35 (nI dc156)) 44 (nI fd157)) 49 (nI md158)) 59 (nI bk160)) 60 (nI pr159)) 64 (nI at150)) 65 ne163) 66 (nI lk)) 67 (nI mf161)) 68 (nI mm162)) (updA X164 2 K)) _ := hP
                    have hD : va_D A (mW G h0 a (upd (upd (upd (upd (upd (upd (upd (upd (upd (upd (upd (upd (upd (upd (upd F 15 (nI fa151)) 16 pl152) 27 (nI nd153)) 31 (nI wr154)) 34 (nI lz155)) 35 (nI dc156)) 44 (nI fd157)) 49 (nI md158)) 59 (nI bk160)) 60 (nI pr159)) 64 (nI at150)) 65 ne163) 66 (nI lk)) 67 (nI mf161)) 68 (nI mm162)) (updA X164 2 K)) := hD
                    refine W.widen (k := 0) (n := 0) (Nat.le_of_ble_eq_true rfl) (Nat.le_of_ble_eq_true rfl) ?_
                    refine W.eq (g2 := F0 m 274 ls []) rfl ?_
                    have hkq171 : Kq 1 B X164 := (Kq.trans hkq3 h169 (by omega))
                    rcases Nat.eq_zero_or_pos fa151 with e172 | e172
                    · subst e172
                      have hP : va_P G.1 pCl (mW G h0 a (upd (upd (upd (upd (upd (upd (upd (upd (upd (upd (upd (upd (upd (upd (upd F 15 0) 16 pl152) 27 (nI nd153)) 31 (nI wr154)) 34 (nI lz155)) 35 (nI dc156)) 44 (nI fd157)) 49 (nI md158)) 59 (nI bk160)) 60 (nI pr159)) 64 (nI at150)) 65 ne163) 66 (nI lk)) 67 (nI mf161)) 68 (nI mm162)) (updA X164 2 K)) _ := hP
                      have hD : va_D A (mW G h0 a (upd (upd (upd (upd (upd (upd (upd (upd (upd (upd (upd (upd (upd (upd (upd F 15 0) 16 pl152) 27 (nI nd153)) 31 (nI wr154)) 34 (nI lz155)) 35 (nI dc156)) 44 (nI fd157)) 49 (nI md158)) 59 (nI bk160)) 60 (nI pr159)) 64 (nI at150)) 65 ne163) 66 (nI lk)) 67 (nI mf161)) 68 (nI mm162)) (updA X164 2 K)) := hD
                      obtain ⟨hq173, hq174, hq175, hq176, hq177, hq178⟩ := h170 rfl
                      obtain rfl : (dc + 1) = dc156 := (by omega)
                      have hsn179 : Sng X164 (dc + 1) lz155 := (Sng.same hsn3 (by omega) (fun i q => congrFun (h169 26 (by omega)) i) (fun i q => congrFun (h169 27 (by omega)) i) (fun i q => congrFun (h169 23 (by omega)) i))
                      refine lv_goto (tgt := 253) hx hb dX12_declaration_274 (by decide) ?_
                      have hP : va_P G.1 pCl (mW G h0 a (upd (upd (upd (upd (upd (upd (upd (upd (upd (upd (upd (upd (upd (upd (upd F 15 0) 16 pl152) 27 (nI nd153)) 31 (nI wr154)) 34 (nI lz155)) 35 (nI (dc + 1))) 44 (nI fd157)) 49 (nI md158)) 59 (nI bk160)) 60 (nI pr159)) 64 (nI at150)) 65 ne163) 66 (nI lk)) 67 (nI mf161)) 68 (nI mm162)) (updA X164 2 K)) _ := hP
                      have hD : va_D A (mW G h0 a (upd (upd (upd (upd (upd (upd (upd (upd (upd (upd (upd (upd (upd (upd (upd F 15 0) 16 pl152) 27 (nI nd153)) 31 (nI wr154)) 34 (nI lz155)) 35 (nI (dc + 1))) 44 (nI fd157)) 49 (nI md158)) 59 (nI bk160)) 60 (nI pr159)) 64 (nI at150)) 65 ne163) 66 (nI lk)) 67 (nI mf161)) 68 (nI mm162)) (updA X164 2 K)) := hD
                      exact ih_o at150 nd153 wr154 lz155 fd157 md158 pr159 bk160 mf161 mm162 pl152 ne163 X164 _ _ _ (by omega) (by omega) (by omega) (by omega) (by omega) (by omega) hkq171 hq175 hq176 hq177 hq178 hsn179 hP hD hS (lv_sub hl [0, 1] rfl)
                    · have e172 := e172
                      refine lv_goto (tgt := 253) hx hb dX12_declaration_274 (by decide) ?_
                      refine lv_aload_n hx hb dX12_declaration_253 rfl (lv_at hl 1 rfl) ?_
                      refine r_get (v := .int (nI fa151)) hx hb hown hq hE hP 15 350 tFX12_15 (by decide) pw_1594 rfl dX12_declaration_254 ?_
                      refine lv_if_ne (tgt := 277) hx hb dX12_declaration_257 (by decide) (fun c180 => ?_) (fun c180 => (by have n181 : fa151 = 0 := (nI_eq (a := fa151) (b := 0) (by omega) (by omega)).mp c180; omega))
                      refine lv_aload_n hx hb dX12_declaration_277 rfl (lv_at hl 1 rfl) ?_
                      refine lv_bipush (v := 125) hx hb dX12_declaration_278 (by decide) ?_
                      have hP : va_P G.1 pCl (mW G h0 a (upd (upd (upd (upd (upd (upd (upd (upd (upd (upd (upd (upd (upd (upd (upd (upd (upd F 15 (nI fa151)) 16 pl152) 27 (nI nd153)) 31 (nI wr154)) 34 (nI lz155)) 35 (nI dc156)) 44 (nI fd157)) 49 (nI md158)) 59 (nI bk160)) 60 (nI pr159)) 64 (nI at150)) 65 ne163) 66 (nI lk)) 67 (nI mf161)) 68 (nI mm162)) 15 (nI fa151)) 64 (nI at150)) (updA (updA X164 2 K) 2 K)) _ := hP
                      have hD : va_D A (mW G h0 a (upd (upd (upd (upd (upd (upd (upd (upd (upd (upd (upd (upd (upd (upd (upd (upd (upd F 15 (nI fa151)) 16 pl152) 27 (nI nd153)) 31 (nI wr154)) 34 (nI lz155)) 35 (nI dc156)) 44 (nI fd157)) 49 (nI md158)) 59 (nI bk160)) 60 (nI pr159)) 64 (nI at150)) 65 ne163) 66 (nI lk)) 67 (nI mf161)) 68 (nI mm162)) 15 (nI fa151)) 64 (nI at150)) (updA (updA X164 2 K) 2 K)) := hD
                      refine pc_V0 (G := G) (As := [.int 125]) (rest := []) hx hb hml hown hq hE hX pX0_al hP hD hS hA hl.1 (R_take l G h0 a (upd (upd (upd (upd (upd (upd (upd (upd (upd (upd (upd (upd (upd (upd (upd F 15 (nI fa151)) 16 pl152) 27 (nI nd153)) 31 (nI wr154)) 34 (nI lz155)) 35 (nI dc156)) 44 (nI fd157)) 49 (nI md158)) 59 (nI bk160)) 60 (nI pr159)) 64 (nI at150)) 65 ne163) 66 (nI lk)) 67 (nI mf161)) 68 (nI mm162)) (updA X164 2 K) at150 T fa151 K 125 (by omega) (by omega) hK (by omega) (by decide) (by decide)) (gV pw_1614 pw_1615 pw_1616 pw_1523 pw_1601) hV_X12_take 0 9 rfl rfl rfl rfl (Nat.le_of_ble_eq_true rfl) dX12_declaration_280 ⟨Nat.le_of_ble_eq_true rfl, Nat.le_of_ble_eq_true rfl⟩ ⟨Nat.le_of_ble_eq_true rfl, Nat.le_of_ble_eq_true rfl⟩ (fun v184 u182 H locs hw183 hP hD hS => ?_)
                      obtain ⟨at185, fa186, pl187⟩ := u182
                      obtain ⟨hw183, h188, h189, h190, h191, h192, h193, h194, h195⟩ := hw183
                      replace h188 : at150 ≤ at185 := h188
                      replace h189 : at185 ≤ T := h189
                      replace h190 : fa151 ≤ fa186 := h190
                      replace h191 : fa186 ≤ 100 := h191
                      replace h192 : If (0 < fa151) (at185 = at150 ∧ fa186 = fa151) := h192
                      replace h193 : at185 ≤ at150 + 1 := h193
                      replace h194 : at150 + 1 ≤ at185 + fa186 := h194
                      replace h195 : If (fa186 = 0) (K at150 = 125) := h195
                      obtain rfl : v184 = none := hw183
                      have hP : va_P G.1 pCl (mW G h0 a (upd (upd (upd (upd (upd (upd (upd (upd (upd (upd (upd (upd (upd (upd (upd F 15 (nI fa186)) 16 pl187) 27 (nI nd153)) 31 (nI wr154)) 34 (nI lz155)) 35 (nI dc156)) 44 (nI fd157)) 49 (nI md158)) 59 (nI bk160)) 60 (nI pr159)) 64 (nI at185)) 65 ne163) 66 (nI lk)) 67 (nI mf161)) 68 (nI mm162)) (updA X164 2 K)) _ := hP
                      have hD : va_D A (mW G h0 a (upd (upd (upd (upd (upd (upd (upd (upd (upd (upd (upd (upd (upd (upd (upd F 15 (nI fa186)) 16 pl187) 27 (nI nd153)) 31 (nI wr154)) 34 (nI lz155)) 35 (nI dc156)) 44 (nI fd157)) 49 (nI md158)) 59 (nI bk160)) 60 (nI pr159)) 64 (nI at185)) 65 ne163) 66 (nI lk)) 67 (nI mf161)) 68 (nI mm162)) (updA X164 2 K)) := hD
                      refine W.widen (k := 0) (n := 0) (Nat.le_of_ble_eq_true rfl) (Nat.le_of_ble_eq_true rfl) ?_
                      refine W.eq (g2 := F0 m 283 ls []) rfl ?_
                      obtain ⟨n197, n196⟩ := h192 e172
                      replace n197 := n197.symm
                      subst n197
                      replace n196 := n196.symm
                      subst n196
                      have hz198 : at0 ≤ at150 := (by omega)
                      have hz199 : at150 ≤ T := (by omega)
                      have hz200 : fa151 ≤ 100 := (by omega)
                      have hz201 : at0 + 1 ≤ at150 + fa151 := (by omega)
                      have hz202 : Kq 1 B X164 := hkq171
                      have hz203 : If (fa151 = 0) ((nd153 ≤ 2 * at150 ∧ wr154 ≤ at150 ∧ lz155 ≤ at150 ∧ pr159 ≤ at150 ∧ dc156 ≤ 37 ∧ dc ≤ dc156 ∧ bk160 ≤ md158 ∧ wr ≤ wr154 ∧ lz ≤ lz155) ∧ (md158 + 210 ≤ 30 * dc156 ∧ fd157 + 140 ≤ 20 * dc156 ∧ dc156 ≤ 37 ∧ 7 ≤ dc156 ∧ dc156 ≤ dc + 1) ∧ PS T nm wr154 lz155 dc156 fd157 md158 pr159 bk160 X164 ∧ FrM K T wr154 X164 nd153 md158 ∧ tkRow (X164 19) wr154 T ∧ lsRow (X164 22) (X164 23) lz155 T) := (fun e => absurd e (by omega))
                      have hz204 : If (fa151 = 0) (Sng X164 dc156 lz155) := (fun e => absurd e (by omega))
                      have hP : va_P G.1 pCl (mW G h0 a (upd (upd (upd (upd (upd (upd (upd (upd (upd (upd (upd (upd (upd (upd (upd F 15 (nI fa151)) 16 pl187) 27 (nI nd153)) 31 (nI wr154)) 34 (nI lz155)) 35 (nI dc156)) 44 (nI fd157)) 49 (nI md158)) 59 (nI bk160)) 60 (nI pr159)) 64 (nI at150)) 65 ne163) 66 (nI lk)) 67 (nI mf161)) 68 (nI mm162)) (updA X164 2 K)) _ := hP
                      have hD : va_D A (mW G h0 a (upd (upd (upd (upd (upd (upd (upd (upd (upd (upd (upd (upd (upd (upd (upd F 15 (nI fa151)) 16 pl187) 27 (nI nd153)) 31 (nI wr154)) 34 (nI lz155)) 35 (nI dc156)) 44 (nI fd157)) 49 (nI md158)) 59 (nI bk160)) 60 (nI pr159)) 64 (nI at150)) 65 ne163) 66 (nI lk)) 67 (nI mf161)) 68 (nI mm162)) (updA X164 2 K)) := hD
                      exact W.vret hx hb hr (fun t9 ht9 hW9 => ⟨⟨_, (at150, fa151, pl187, nd153, wr154, lz155, dc156, fd157, md158, pr159, bk160, mf161, mm162, ne163, X164), rfl, ⟨rfl, hz198, hz199, hz200, hz201, hz202, hz203, hz204⟩, by rw [ht9]; exact hP, hD⟩, hS.F ht9⟩) hS.2.2 dX12_declaration_283
              have hP : va_P G.1 pCl (mW G h0 a (upd (upd (upd (upd (upd (upd (upd (upd (upd (upd (upd (upd (upd (upd (upd F 15 0) 16 pl103) 27 (nI nd)) 31 (nI wr)) 34 (nI lz2)) 35 (nI (dc + 1))) 44 (nI fd)) 49 (nI md)) 59 (nI bk)) 60 (nI pr)) 64 (nI at101)) 65 ne0) 66 (nI lk)) 67 (nI 0)) 68 (nI 0)) (updA X2 2 K)) _ := hP
              have hD : va_D A (mW G h0 a (upd (upd (upd (upd (upd (upd (upd (upd (upd (upd (upd (upd (upd (upd (upd F 15 0) 16 pl103) 27 (nI nd)) 31 (nI wr)) 34 (nI lz2)) 35 (nI (dc + 1))) 44 (nI fd)) 49 (nI md)) 59 (nI bk)) 60 (nI pr)) 64 (nI at101)) 65 ne0) 66 (nI lk)) 67 (nI 0)) 68 (nI 0)) (updA X2 2 K)) := hD
              exact loop_o (T + 1) at101 nd wr lz2 fd md pr bk 0 0 pl103 ne0 X2 _ _ _ (by omega) (by omega) (by omega) (by omega) (by omega) (by omega) hkq2 hps2 hfm2 hy2 hlr2 hsn2 hP hD hS (lv_sub hl [0, 1] rfl)
            · have e112 := e112
              refine lv_aload_n hx hb dX12_declaration_243 rfl (lv_at hl 1 rfl) ?_
              refine lv_iconst (v := 0) hx hb dX12_declaration_244 (by decide) ?_
              refine r_put (v := 0) (ty := .int) hx hb hown hq hE hP hD hS 67 390 tFX12_67 (by decide) pw_1726 (by decide) rfl rfl (ms_67 a _ _) dX12_declaration_245 (fun H locs hP hD hS => ?_)
              refine lv_aload_n hx hb dX12_declaration_248 rfl (lv_at hl 1 rfl) ?_
              refine lv_iconst (v := 0) hx hb dX12_declaration_249 (by decide) ?_
              refine r_put (v := 0) (ty := .int) hx hb hown hq hE hP hD hS 68 393 tFX12_68 (by decide) pw_1722 (by decide) rfl rfl (ms_68 a _ _) dX12_declaration_250 (fun H locs hP hD hS => ?_)
              refine lv_aload_n hx hb dX12_declaration_253 rfl (lv_at hl 1 rfl) ?_
              refine r_get (v := .int (nI fa102)) hx hb hown hq hE hP 15 350 tFX12_15 (by decide) pw_1594 rfl dX12_declaration_254 ?_
              refine lv_if_ne (tgt := 277) hx hb dX12_declaration_257 (by decide) (fun c205 => ?_) (fun c205 => (by have n206 : fa102 = 0 := (nI_eq (a := fa102) (b := 0) (by omega) (by omega)).mp c205; omega))
              refine lv_aload_n hx hb dX12_declaration_277 rfl (lv_at hl 1 rfl) ?_
              refine lv_bipush (v := 125) hx hb dX12_declaration_278 (by decide) ?_
              have hP : va_P G.1 pCl (mW G h0 a (upd (upd (upd (upd (upd (upd (upd (upd (upd (upd (upd (upd (upd (upd (upd (upd (upd F 15 (nI fa102)) 16 pl103) 27 (nI nd)) 31 (nI wr)) 34 (nI lz2)) 35 (nI (dc + 1))) 44 (nI fd)) 49 (nI md)) 59 (nI bk)) 60 (nI pr)) 64 (nI at101)) 65 ne0) 66 (nI lk)) 67 0) 68 0) 15 (nI fa102)) 64 (nI at101)) (updA (updA X2 2 K) 2 K)) _ := hP
              have hD : va_D A (mW G h0 a (upd (upd (upd (upd (upd (upd (upd (upd (upd (upd (upd (upd (upd (upd (upd (upd (upd F 15 (nI fa102)) 16 pl103) 27 (nI nd)) 31 (nI wr)) 34 (nI lz2)) 35 (nI (dc + 1))) 44 (nI fd)) 49 (nI md)) 59 (nI bk)) 60 (nI pr)) 64 (nI at101)) 65 ne0) 66 (nI lk)) 67 0) 68 0) 15 (nI fa102)) 64 (nI at101)) (updA (updA X2 2 K) 2 K)) := hD
              refine pc_V0 (G := G) (As := [.int 125]) (rest := []) hx hb hml hown hq hE hX pX0_al hP hD hS hA hl.1 (R_take l G h0 a (upd (upd (upd (upd (upd (upd (upd (upd (upd (upd (upd (upd (upd (upd (upd F 15 (nI fa102)) 16 pl103) 27 (nI nd)) 31 (nI wr)) 34 (nI lz2)) 35 (nI (dc + 1))) 44 (nI fd)) 49 (nI md)) 59 (nI bk)) 60 (nI pr)) 64 (nI at101)) 65 ne0) 66 (nI lk)) 67 0) 68 0) (updA X2 2 K) at101 T fa102 K 125 (by omega) (by omega) hK (by omega) (by decide) (by decide)) (gV pw_1614 pw_1615 pw_1616 pw_1523 pw_1601) hV_X12_take 0 9 rfl rfl rfl rfl (Nat.le_of_ble_eq_true rfl) dX12_declaration_280 ⟨Nat.le_of_ble_eq_true rfl, Nat.le_of_ble_eq_true rfl⟩ ⟨Nat.le_of_ble_eq_true rfl, Nat.le_of_ble_eq_true rfl⟩ (fun v209 u207 H locs hw208 hP hD hS => ?_)
              obtain ⟨at210, fa211, pl212⟩ := u207
              obtain ⟨hw208, h213, h214, h215, h216, h217, h218, h219, h220⟩ := hw208
              replace h213 : at101 ≤ at210 := h213
              replace h214 : at210 ≤ T := h214
              replace h215 : fa102 ≤ fa211 := h215
              replace h216 : fa211 ≤ 100 := h216
              replace h217 : If (0 < fa102) (at210 = at101 ∧ fa211 = fa102) := h217
              replace h218 : at210 ≤ at101 + 1 := h218
              replace h219 : at101 + 1 ≤ at210 + fa211 := h219
              replace h220 : If (fa211 = 0) (K at101 = 125) := h220
              obtain rfl : v209 = none := hw208
              have hP : va_P G.1 pCl (mW G h0 a (upd (upd (upd (upd (upd (upd (upd (upd (upd (upd (upd (upd (upd (upd (upd F 15 (nI fa211)) 16 pl212) 27 (nI nd)) 31 (nI wr)) 34 (nI lz2)) 35 (nI (dc + 1))) 44 (nI fd)) 49 (nI md)) 59 (nI bk)) 60 (nI pr)) 64 (nI at210)) 65 ne0) 66 (nI lk)) 67 0) 68 0) (updA X2 2 K)) _ := hP
              have hD : va_D A (mW G h0 a (upd (upd (upd (upd (upd (upd (upd (upd (upd (upd (upd (upd (upd (upd (upd F 15 (nI fa211)) 16 pl212) 27 (nI nd)) 31 (nI wr)) 34 (nI lz2)) 35 (nI (dc + 1))) 44 (nI fd)) 49 (nI md)) 59 (nI bk)) 60 (nI pr)) 64 (nI at210)) 65 ne0) 66 (nI lk)) 67 0) 68 0) (updA X2 2 K)) := hD
              refine W.widen (k := 0) (n := 0) (Nat.le_of_ble_eq_true rfl) (Nat.le_of_ble_eq_true rfl) ?_
              refine W.eq (g2 := F0 m 283 ls []) rfl ?_
              obtain ⟨n222, n221⟩ := h217 e112
              replace n222 := n222.symm
              subst n222
              replace n221 := n221.symm
              subst n221
              have hz223 : at0 ≤ at101 := (by omega)
              have hz224 : at101 ≤ T := (by omega)
              have hz225 : fa102 ≤ 100 := (by omega)
              have hz226 : at0 + 1 ≤ at101 + fa102 := (by omega)
              have hz227 : Kq 1 B X2 := hkq2
              have hz228 : If (fa102 = 0) ((nd ≤ 2 * at101 ∧ wr ≤ at101 ∧ lz2 ≤ at101 ∧ pr ≤ at101 ∧ (dc + 1) ≤ 37 ∧ dc ≤ (dc + 1) ∧ bk ≤ md ∧ wr ≤ wr ∧ lz ≤ lz2) ∧ (md + 210 ≤ 30 * (dc + 1) ∧ fd + 140 ≤ 20 * (dc + 1) ∧ (dc + 1) ≤ 37 ∧ 7 ≤ (dc + 1) ∧ (dc + 1) ≤ dc + 1) ∧ PS T nm wr lz2 (dc + 1) fd md pr bk X2 ∧ FrM K T wr X2 nd md ∧ tkRow (X2 19) wr T ∧ lsRow (X2 22) (X2 23) lz2 T) := (fun e => absurd e (by omega))
              have hz229 : If (fa102 = 0) (Sng X2 (dc + 1) lz2) := (fun e => absurd e (by omega))
              have hP : va_P G.1 pCl (mW G h0 a (upd (upd (upd (upd (upd (upd (upd (upd (upd (upd (upd (upd (upd (upd (upd F 15 (nI fa102)) 16 pl212) 27 (nI nd)) 31 (nI wr)) 34 (nI lz2)) 35 (nI (dc + 1))) 44 (nI fd)) 49 (nI md)) 59 (nI bk)) 60 (nI pr)) 64 (nI at101)) 65 ne0) 66 (nI lk)) 67 (nI 0)) 68 (nI 0)) (updA X2 2 K)) _ := hP
              have hD : va_D A (mW G h0 a (upd (upd (upd (upd (upd (upd (upd (upd (upd (upd (upd (upd (upd (upd (upd F 15 (nI fa102)) 16 pl212) 27 (nI nd)) 31 (nI wr)) 34 (nI lz2)) 35 (nI (dc + 1))) 44 (nI fd)) 49 (nI md)) 59 (nI bk)) 60 (nI pr)) 64 (nI at101)) 65 ne0) 66 (nI lk)) 67 (nI 0)) 68 (nI 0)) (updA X2 2 K)) := hD
              exact W.vret hx hb hr (fun t9 ht9 hW9 => ⟨⟨_, (at101, fa102, pl212, nd, wr, lz2, (dc + 1), fd, md, pr, bk, 0, 0, ne0, X2), rfl, ⟨rfl, hz223, hz224, hz225, hz226, hz227, hz228, hz229⟩, by rw [ht9]; exact hP, hD⟩, hS.F ht9⟩) hS.2.2 dX12_declaration_283
          refine lv_aload_n hx hb dX12_declaration_139 rfl (lv_at hl 2 rfl) ?_
          refine lv_sipush (v := 317) hx hb dX12_declaration_140 (by decide) ?_
          have hP : va_P G.1 pCl (mW G h0 a (upd (upd (upd (upd (upd (upd (upd (upd (upd (upd (upd (upd (upd (upd (upd (upd (upd F 15 0) 16 pl28) 27 (nI nd)) 31 (nI wr)) 34 (nI lz)) 35 (nI (dc + 1))) 44 (nI fd)) 49 (nI md)) 59 (nI bk)) 60 (nI pr)) 64 (nI at26)) 65 ne0) 66 (nI lk)) 67 (nI mf)) 68 (nI mm)) 15 (nI 0)) 64 (nI at26)) (updA (updA (stR (stR (stR (stR (stR (stR B 26 dc 0) 25 dc (nI (at0 + 1))) 24 dc (nI v51)) 27 dc (-1)) 28 dc (-1)) 29 dc 0) 2 K) 2 K)) _ := hP
          have hD : va_D A (mW G h0 a (upd (upd (upd (upd (upd (upd (upd (upd (upd (upd (upd (upd (upd (upd (upd (upd (upd F 15 0) 16 pl28) 27 (nI nd)) 31 (nI wr)) 34 (nI lz)) 35 (nI (dc + 1))) 44 (nI fd)) 49 (nI md)) 59 (nI bk)) 60 (nI pr)) 64 (nI at26)) 65 ne0) 66 (nI lk)) 67 (nI mf)) 68 (nI mm)) 15 (nI 0)) 64 (nI at26)) (updA (updA (stR (stR (stR (stR (stR (stR B 26 dc 0) 25 dc (nI (at0 + 1))) 24 dc (nI v51)) 27 dc (-1)) 28 dc (-1)) 29 dc 0) 2 K) 2 K)) := hD
          refine pc_V0 (G := G) (As := [.int 317]) (rest := []) hx hb hml hown hq hE hX pX0_al hP hD hS hA hl.1 (R_may l G h0 a (upd (upd (upd (upd (upd (upd (upd (upd (upd (upd (upd (upd (upd (upd (upd F 15 0) 16 pl28) 27 (nI nd)) 31 (nI wr)) 34 (nI lz)) 35 (nI (dc + 1))) 44 (nI fd)) 49 (nI md)) 59 (nI bk)) 60 (nI pr)) 64 (nI at26)) 65 ne0) 66 (nI lk)) 67 (nI mf)) 68 (nI mm)) (updA (stR (stR (stR (stR (stR (stR B 26 dc 0) 25 dc (nI (at0 + 1))) 24 dc (nI v51)) 27 dc (-1)) 28 dc (-1)) 29 dc 0) 2 K) at26 T 0 K 317 (by omega) (by omega) hK (by omega) (by decide) (by decide)) (gV pw_1621 pw_1622 pw_1623 pw_1523 pw_1605) hV_X12_may 0 9 rfl rfl rfl rfl (Nat.le_of_ble_eq_true rfl) dX12_declaration_143 ⟨Nat.le_of_ble_eq_true rfl, Nat.le_of_ble_eq_true rfl⟩ ⟨Nat.le_of_ble_eq_true rfl, Nat.le_of_ble_eq_true rfl⟩ (fun v232 u230 H locs hw231 hP hD hS => ?_)
          obtain ⟨at233, r234⟩ := u230
          obtain ⟨hw231, h235, h236, h237, h238, h239, h240⟩ := hw231
          replace h235 : r234 ≤ 1 := h235
          replace h236 : 0 + 100 * r234 ≤ 100 := h236
          replace h237 : at233 = at26 + r234 := h237
          replace h238 : at233 ≤ T := h238
          replace h239 : If (r234 = 1) (K at26 = 317) := h239
          replace h240 : If (r234 = 0) (0 = 0 → ¬ K at26 = 317) := h240
          obtain rfl : v232 = some (.int (nI r234)) := hw231
          have hP : va_P G.1 pCl (mW G h0 a (upd (upd (upd (upd (upd (upd (upd (upd (upd (upd (upd (upd (upd (upd (upd F 15 0) 16 pl28) 27 (nI nd)) 31 (nI wr)) 34 (nI lz)) 35 (nI (dc + 1))) 44 (nI fd)) 49 (nI md)) 59 (nI bk)) 60 (nI pr)) 64 (nI at233)) 65 ne0) 66 (nI lk)) 67 (nI mf)) 68 (nI mm)) (updA (stR (stR (stR (stR (stR (stR B 26 dc 0) 25 dc (nI (at0 + 1))) 24 dc (nI v51)) 27 dc (-1)) 28 dc (-1)) 29 dc 0) 2 K)) _ := hP
          have hD : va_D A (mW G h0 a (upd (upd (upd (upd (upd (upd (upd (upd (upd (upd (upd (upd (upd (upd (upd F 15 0) 16 pl28) 27 (nI nd)) 31 (nI wr)) 34 (nI lz)) 35 (nI (dc + 1))) 44 (nI fd)) 49 (nI md)) 59 (nI bk)) 60 (nI pr)) 64 (nI at233)) 65 ne0) 66 (nI lk)) 67 (nI mf)) 68 (nI mm)) (updA (stR (stR (stR (stR (stR (stR B 26 dc 0) 25 dc (nI (at0 + 1))) 24 dc (nI v51)) 27 dc (-1)) 28 dc (-1)) 29 dc 0) 2 K)) := hD
          refine W.widen (k := 0) (n := 0) (Nat.le_of_ble_eq_true rfl) (Nat.le_of_ble_eq_true rfl) ?_
          refine W.eq (g2 := F0 m 146 ls [.int (nI r234)]) rfl ?_
          refine lv_if_eq (tgt := 213) hx hb dX12_declaration_146 (by decide) (fun c241 => ?_) (fun c241 => ?_)
          · have n242 : r234 = 0 := (nI_eq (a := r234) (b := 0) (by omega) (by omega)).mp c241
            refine lv_iload_n hx hb dX12_declaration_213 rfl (lv_at hl 1 rfl) ?_
            refine lv_if_ne (tgt := 237) hx hb dX12_declaration_214 (by decide) (fun c243 => absurd c243 (by decide)) (fun c243 => ?_)
            refine lv_aload_n hx hb dX12_declaration_217 rfl (lv_at hl 2 rfl) ?_
            refine lv_sipush (v := 322) hx hb dX12_declaration_218 (by decide) ?_
            have hP : va_P G.1 pCl (mW G h0 a (upd (upd (upd (upd (upd (upd (upd (upd (upd (upd (upd (upd (upd (upd (upd (upd (upd F 15 0) 16 pl28) 27 (nI nd)) 31 (nI wr)) 34 (nI lz)) 35 (nI (dc + 1))) 44 (nI fd)) 49 (nI md)) 59 (nI bk)) 60 (nI pr)) 64 (nI at233)) 65 ne0) 66 (nI lk)) 67 (nI mf)) 68 (nI mm)) 15 (nI 0)) 64 (nI at233)) (updA (updA (stR (stR (stR (stR (stR (stR B 26 dc 0) 25 dc (nI (at0 + 1))) 24 dc (nI v51)) 27 dc (-1)) 28 dc (-1)) 29 dc 0) 2 K) 2 K)) _ := hP
            have hD : va_D A (mW G h0 a (upd (upd (upd (upd (upd (upd (upd (upd (upd (upd (upd (upd (upd (upd (upd (upd (upd F 15 0) 16 pl28) 27 (nI nd)) 31 (nI wr)) 34 (nI lz)) 35 (nI (dc + 1))) 44 (nI fd)) 49 (nI md)) 59 (nI bk)) 60 (nI pr)) 64 (nI at233)) 65 ne0) 66 (nI lk)) 67 (nI mf)) 68 (nI mm)) 15 (nI 0)) 64 (nI at233)) (updA (updA (stR (stR (stR (stR (stR (stR B 26 dc 0) 25 dc (nI (at0 + 1))) 24 dc (nI v51)) 27 dc (-1)) 28 dc (-1)) 29 dc 0) 2 K) 2 K)) := hD
            refine pc_V0 (G := G) (As := [.int 322]) (rest := []) hx hb hml hown hq hE hX pX0_al hP hD hS hA hl.1 (R_may l G h0 a (upd (upd (upd (upd (upd (upd (upd (upd (upd (upd (upd (upd (upd (upd (upd F 15 0) 16 pl28) 27 (nI nd)) 31 (nI wr)) 34 (nI lz)) 35 (nI (dc + 1))) 44 (nI fd)) 49 (nI md)) 59 (nI bk)) 60 (nI pr)) 64 (nI at233)) 65 ne0) 66 (nI lk)) 67 (nI mf)) 68 (nI mm)) (updA (stR (stR (stR (stR (stR (stR B 26 dc 0) 25 dc (nI (at0 + 1))) 24 dc (nI v51)) 27 dc (-1)) 28 dc (-1)) 29 dc 0) 2 K) at233 T 0 K 322 (by omega) (by omega) hK (by omega) (by decide) (by decide)) (gV pw_1621 pw_1622 pw_1623 pw_1523 pw_1605) hV_X12_may 0 9 rfl rfl rfl rfl (Nat.le_of_ble_eq_true rfl) dX12_declaration_221 ⟨Nat.le_of_ble_eq_true rfl, Nat.le_of_ble_eq_true rfl⟩ ⟨Nat.le_of_ble_eq_true rfl, Nat.le_of_ble_eq_true rfl⟩ (fun v246 u244 H locs hw245 hP hD hS => ?_)
            obtain ⟨at247, r248⟩ := u244
            obtain ⟨hw245, h249, h250, h251, h252, h253, h254⟩ := hw245
            replace h249 : r248 ≤ 1 := h249
            replace h250 : 0 + 100 * r248 ≤ 100 := h250
            replace h251 : at247 = at233 + r248 := h251
            replace h252 : at247 ≤ T := h252
            replace h253 : If (r248 = 1) (K at233 = 322) := h253
            replace h254 : If (r248 = 0) (0 = 0 → ¬ K at233 = 322) := h254
            obtain rfl : v246 = some (.int (nI r248)) := hw245
            have hP : va_P G.1 pCl (mW G h0 a (upd (upd (upd (upd (upd (upd (upd (upd (upd (upd (upd (upd (upd (upd (upd F 15 0) 16 pl28) 27 (nI nd)) 31 (nI wr)) 34 (nI lz)) 35 (nI (dc + 1))) 44 (nI fd)) 49 (nI md)) 59 (nI bk)) 60 (nI pr)) 64 (nI at247)) 65 ne0) 66 (nI lk)) 67 (nI mf)) 68 (nI mm)) (updA (stR (stR (stR (stR (stR (stR B 26 dc 0) 25 dc (nI (at0 + 1))) 24 dc (nI v51)) 27 dc (-1)) 28 dc (-1)) 29 dc 0) 2 K)) _ := hP
            have hD : va_D A (mW G h0 a (upd (upd (upd (upd (upd (upd (upd (upd (upd (upd (upd (upd (upd (upd (upd F 15 0) 16 pl28) 27 (nI nd)) 31 (nI wr)) 34 (nI lz)) 35 (nI (dc + 1))) 44 (nI fd)) 49 (nI md)) 59 (nI bk)) 60 (nI pr)) 64 (nI at247)) 65 ne0) 66 (nI lk)) 67 (nI mf)) 68 (nI mm)) (updA (stR (stR (stR (stR (stR (stR B 26 dc 0) 25 dc (nI (at0 + 1))) 24 dc (nI v51)) 27 dc (-1)) 28 dc (-1)) 29 dc 0) 2 K)) := hD
            refine W.widen (k := 0) (n := 0) (Nat.le_of_ble_eq_true rfl) (Nat.le_of_ble_eq_true rfl) ?_
            refine W.eq (g2 := F0 m 224 ls [.int (nI r248)]) rfl ?_
            refine lv_if_eq (tgt := 237) hx hb dX12_declaration_224 (by decide) (fun c255 => ?_) (fun c255 => ?_)
            · have n256 : r248 = 0 := (nI_eq (a := r248) (b := 0) (by omega) (by omega)).mp c255
              have hP : va_P G.1 pCl (mW G h0 a (upd (upd (upd (upd (upd (upd (upd (upd (upd (upd (upd (upd (upd (upd (upd F 15 0) 16 pl28) 27 (nI nd)) 31 (nI wr)) 34 (nI lz)) 35 (nI (dc + 1))) 44 (nI fd)) 49 (nI md)) 59 (nI bk)) 60 (nI pr)) 64 (nI at247)) 65 ne0) 66 (nI lk)) 67 (nI mf)) 68 (nI mm)) (updA (stR (stR (stR (stR (stR (stR B 26 dc 0) 25 dc (nI (at0 + 1))) 24 dc (nI v51)) 27 dc (-1)) 28 dc (-1)) 29 dc 0) 2 K)) _ := hP
              have hD : va_D A (mW G h0 a (upd (upd (upd (upd (upd (upd (upd (upd (upd (upd (upd (upd (upd (upd (upd F 15 0) 16 pl28) 27 (nI nd)) 31 (nI wr)) 34 (nI lz)) 35 (nI (dc + 1))) 44 (nI fd)) 49 (nI md)) 59 (nI bk)) 60 (nI pr)) 64 (nI at247)) 65 ne0) 66 (nI lk)) 67 (nI mf)) 68 (nI mm)) (updA (stR (stR (stR (stR (stR (stR B 26 dc 0) 25 dc (nI (at0 + 1))) 24 dc (nI v51)) 27 dc (-1)) 28 dc (-1)) 29 dc 0) 2 K)) := hD
              exact cut_j at247 lz pl28 (stR (stR (stR (stR (stR (stR B 26 dc 0) 25 dc (nI (at0 + 1))) 24 dc (nI v51)) 27 dc (-1)) 28 dc (-1)) 29 dc 0) _ _ _ (by omega) (by omega) (by omega) hkq84 (PS.dec hps91 (by omega) hce86 (by omega) hce87 (by omega) hce85 (Or.inl rfl) hce88 (Or.inl rfl) hce89 (Or.inl rfl)) hfm92 hty90 hlr94 (Sng.dec (Sng.same hsn93 (ls' := lz) (by omega) (fun i q => rfl) (fun i q => rfl) (fun i q => rfl)) hce85 hce88 (fun _ => Or.inl rfl)) hP hD hS (lv_sub hl [0, 2] rfl)
            · have n257 : ¬ (r248 = 0) := fun h9 => c255 ((nI_eq (a := r248) (b := 0) (by omega) (by omega)).mpr h9)
              refine lv_aload_n hx hb dX12_declaration_227 rfl (lv_at hl 2 rfl) ?_
              refine r_get (v := .ref (a 28)) hx hb hown hq hE hP 40 96 tFX12_40 (by decide) pw_1459 rfl dX12_declaration_228 ?_
              refine lv_iload_n hx hb dX12_declaration_231 rfl (lv_at hl 0 rfl) ?_
              refine lv_aload_n hx hb dX12_declaration_232 rfl (lv_at hl 2 rfl) ?_
              have hP : va_P G.1 pCl (mW G h0 a (upd (upd (upd (upd (upd (upd (upd (upd (upd (upd (upd (upd (upd (upd (upd (upd (upd (upd F 15 0) 16 pl28) 27 (nI nd)) 31 (nI wr)) 34 (nI lz)) 35 (nI (dc + 1))) 44 (nI fd)) 49 (nI md)) 59 (nI bk)) 60 (nI pr)) 64 (nI at247)) 65 ne0) 66 (nI lk)) 67 (nI mf)) 68 (nI mm)) 15 (nI 0)) 34 (nI lz)) 64 (nI at247)) (updA (updA (updA (updA (stR (stR (stR (stR (stR (stR B 26 dc 0) 25 dc (nI (at0 + 1))) 24 dc (nI v51)) 27 dc (-1)) 28 dc (-1)) 29 dc 0) 2 K) 2 K) 22 ((stR (stR (stR (stR (stR (stR B 26 dc 0) 25 dc (nI (at0 + 1))) 24 dc (nI v51)) 27 dc (-1)) 28 dc (-1)) 29 dc 0) 22)) 23 ((stR (stR (stR (stR (stR (stR B 26 dc 0) 25 dc (nI (at0 + 1))) 24 dc (nI v51)) 27 dc (-1)) 28 dc (-1)) 29 dc 0) 23))) _ := hP
              have hD : va_D A (mW G h0 a (upd (upd (upd (upd (upd (upd (upd (upd (upd (upd (upd (upd (upd (upd (upd (upd (upd (upd F 15 0) 16 pl28) 27 (nI nd)) 31 (nI wr)) 34 (nI lz)) 35 (nI (dc + 1))) 44 (nI fd)) 49 (nI md)) 59 (nI bk)) 60 (nI pr)) 64 (nI at247)) 65 ne0) 66 (nI lk)) 67 (nI mf)) 68 (nI mm)) 15 (nI 0)) 34 (nI lz)) 64 (nI at247)) (updA (updA (updA (updA (stR (stR (stR (stR (stR (stR B 26 dc 0) 25 dc (nI (at0 + 1))) 24 dc (nI v51)) 27 dc (-1)) 28 dc (-1)) 29 dc 0) 2 K) 2 K) 22 ((stR (stR (stR (stR (stR (stR B 26 dc 0) 25 dc (nI (at0 + 1))) 24 dc (nI v51)) 27 dc (-1)) 28 dc (-1)) 29 dc 0) 22)) 23 ((stR (stR (stR (stR (stR (stR B 26 dc 0) 25 dc (nI (at0 + 1))) 24 dc (nI v51)) 27 dc (-1)) 28 dc (-1)) 29 dc 0) 23))) := hD
              refine pc_V0 (G := G) (As := []) (rest := [.int (nI dc), .ref (a 28)]) hx hb hml hown hq hE hX pX0_al hP hD hS hA hl.1 (R_listOfNamesN l G h0 a (upd (upd (upd (upd (upd (upd (upd (upd (upd (upd (upd (upd (upd (upd (upd F 15 0) 16 pl28) 27 (nI nd)) 31 (nI wr)) 34 (nI lz)) 35 (nI (dc + 1))) 44 (nI fd)) 49 (nI md)) 59 (nI bk)) 60 (nI pr)) 64 (nI at247)) 65 ne0) 66 (nI lk)) 67 (nI mf)) 68 (nI mm)) (updA (stR (stR (stR (stR (stR (stR B 26 dc 0) 25 dc (nI (at0 + 1))) 24 dc (nI v51)) 27 dc (-1)) 28 dc (-1)) 29 dc 0) 2 K) at247 T 0 K lz ((stR (stR (stR (stR (stR (stR B 26 dc 0) 25 dc (nI (at0 + 1))) 24 dc (nI v51)) 27 dc (-1)) 28 dc (-1)) 29 dc 0) 22) ((stR (stR (stR (stR (stR (stR B 26 dc 0) 25 dc (nI (at0 + 1))) 24 dc (nI v51)) 27 dc (-1)) 28 dc (-1)) 29 dc 0) 23) (by omega) (by omega) hK (by omega) (by omega) hlr94) (gV pw_1733 pw_1734 pw_1735 pw_1523 pw_1624) hV_X12_listOfNames 0 9 rfl rfl rfl rfl (Nat.le_of_ble_eq_true rfl) dX12_declaration_233 ⟨Nat.le_of_ble_eq_true rfl, Nat.le_of_ble_eq_true rfl⟩ ⟨Nat.le_of_ble_eq_true rfl, Nat.le_of_ble_eq_true rfl⟩ (fun v260 u258 H locs hw259 hP hD hS => ?_)
              obtain ⟨at261, fa262, pl263, ls264, lt265, ln266, r267⟩ := u258
              obtain ⟨hw259, h268, h269, h270, h271, h272, h273, h274, h275, h276, h277, h278, h279⟩ := hw259
              replace h268 : at247 ≤ at261 := h268
              replace h269 : at261 ≤ T := h269
              replace h270 : 0 ≤ fa262 := h270
              replace h271 : fa262 ≤ 100 := h271
              replace h272 : If (0 < 0) (at261 = at247 ∧ fa262 = 0) := h272
              replace h273 : lz ≤ ls264 := h273
              replace h274 : ls264 + at247 ≤ lz + at261 + fa262 := h274
              replace h275 : ls264 + at247 ≤ lz + at261 + 1 := h275
              replace h276 : lsRow lt265 ln266 ls264 T := h276
              replace h277 : r267 = -1 ∨ ∃ p : Nat, p < ls264 ∧ r267 = nI p := h277
              replace h278 : If (0 < 0) (ls264 = lz) := h278
              replace h279 : ∀ i : Nat, i < lz → ln266 i = ((stR (stR (stR (stR (stR (stR B 26 dc 0) 25 dc (nI (at0 + 1))) 24 dc (nI v51)) 27 dc (-1)) 28 dc (-1)) 29 dc 0) 23) i := h279
              obtain rfl : v260 = some (.int r267) := hw259
              have hP : va_P G.1 pCl (mW G h0 a (upd (upd (upd (upd (upd (upd (upd (upd (upd (upd (upd (upd (upd (upd (upd F 15 (nI fa262)) 16 pl263) 27 (nI nd)) 31 (nI wr)) 34 (nI ls264)) 35 (nI (dc + 1))) 44 (nI fd)) 49 (nI md)) 59 (nI bk)) 60 (nI pr)) 64 (nI at261)) 65 ne0) 66 (nI lk)) 67 (nI mf)) 68 (nI mm)) (updA (updA (updA (stR (stR (stR (stR (stR (stR B 26 dc 0) 25 dc (nI (at0 + 1))) 24 dc (nI v51)) 27 dc (-1)) 28 dc (-1)) 29 dc 0) 2 K) 22 lt265) 23 ln266)) _ := hP
              have hD : va_D A (mW G h0 a (upd (upd (upd (upd (upd (upd (upd (upd (upd (upd (upd (upd (upd (upd (upd F 15 (nI fa262)) 16 pl263) 27 (nI nd)) 31 (nI wr)) 34 (nI ls264)) 35 (nI (dc + 1))) 44 (nI fd)) 49 (nI md)) 59 (nI bk)) 60 (nI pr)) 64 (nI at261)) 65 ne0) 66 (nI lk)) 67 (nI mf)) 68 (nI mm)) (updA (updA (updA (stR (stR (stR (stR (stR (stR B 26 dc 0) 25 dc (nI (at0 + 1))) 24 dc (nI v51)) 27 dc (-1)) 28 dc (-1)) 29 dc 0) 2 K) 22 lt265) 23 ln266)) := hD
              refine W.widen (k := 0) (n := 0) (Nat.le_of_ble_eq_true rfl) (Nat.le_of_ble_eq_true rfl) ?_
              refine W.eq (g2 := F0 m 236 ls [.int r267, .int (nI dc), .ref (a 28)]) rfl ?_
              have hP : va_P G.1 pCl (mW G h0 a (upd (upd (upd (upd (upd (upd (upd (upd (upd (upd (upd (upd (upd (upd (upd F 15 (nI fa262)) 16 pl263) 27 (nI nd)) 31 (nI wr)) 34 (nI ls264)) 35 (nI (dc + 1))) 44 (nI fd)) 49 (nI md)) 59 (nI bk)) 60 (nI pr)) 64 (nI at261)) 65 ne0) 66 (nI lk)) 67 (nI mf)) 68 (nI mm)) (updA (updA (updA (stR (stR (stR (stR (stR (stR B 26 dc 0) 25 dc (nI (at0 + 1))) 24 dc (nI v51)) 27 dc (-1)) 28 dc (-1)) 29 dc 0) 22 lt265) 23 ln266) 2 K)) _ := hP
              have hD : va_D A (mW G h0 a (upd (upd (upd (upd (upd (upd (upd (upd (upd (upd (upd (upd (upd (upd (upd F 15 (nI fa262)) 16 pl263) 27 (nI nd)) 31 (nI wr)) 34 (nI ls264)) 35 (nI (dc + 1))) 44 (nI fd)) 49 (nI md)) 59 (nI bk)) 60 (nI pr)) 64 (nI at261)) 65 ne0) 66 (nI lk)) 67 (nI mf)) 68 (nI mm)) (updA (updA (updA (stR (stR (stR (stR (stR (stR B 26 dc 0) 25 dc (nI (at0 + 1))) 24 dc (nI v51)) 27 dc (-1)) 28 dc (-1)) 29 dc 0) 22 lt265) 23 ln266) 2 K)) := hD
              rcases Nat.eq_zero_or_pos fa262 with e280 | e280
              · subst e280
                have hP : va_P G.1 pCl (mW G h0 a (upd (upd (upd (upd (upd (upd (upd (upd (upd (upd (upd (upd (upd (upd (upd F 15 0) 16 pl263) 27 (nI nd)) 31 (nI wr)) 34 (nI ls264)) 35 (nI (dc + 1))) 44 (nI fd)) 49 (nI md)) 59 (nI bk)) 60 (nI pr)) 64 (nI at261)) 65 ne0) 66 (nI lk)) 67 (nI mf)) 68 (nI mm)) (updA (updA (updA (stR (stR (stR (stR (stR (stR B 26 dc 0) 25 dc (nI (at0 + 1))) 24 dc (nI v51)) 27 dc (-1)) 28 dc (-1)) 29 dc 0) 22 lt265) 23 ln266) 2 K)) _ := hP
                have hD : va_D A (mW G h0 a (upd (upd (upd (upd (upd (upd (upd (upd (upd (upd (upd (upd (upd (upd (upd F 15 0) 16 pl263) 27 (nI nd)) 31 (nI wr)) 34 (nI ls264)) 35 (nI (dc + 1))) 44 (nI fd)) 49 (nI md)) 59 (nI bk)) 60 (nI pr)) 64 (nI at261)) 65 ne0) 66 (nI lk)) 67 (nI mf)) 68 (nI mm)) (updA (updA (updA (stR (stR (stR (stR (stR (stR B 26 dc 0) 25 dc (nI (at0 + 1))) 24 dc (nI v51)) 27 dc (-1)) 28 dc (-1)) 29 dc 0) 22 lt265) 23 ln266) 2 K)) := hD
                have hkq281 : Kq 1 B (updA (updA (stR (stR (stR (stR (stR (stR B 26 dc 0) 25 dc (nI (at0 + 1))) 24 dc (nI v51)) 27 dc (-1)) 28 dc (-1)) 29 dc 0) 22 lt265) 23 ln266) := (Kq.row (Kq.row hkq84 (by omega)) (by omega))
                have hce282 : (updA (updA (stR (stR (stR (stR (stR (stR B 26 dc 0) 25 dc (nI (at0 + 1))) 24 dc (nI v51)) 27 dc (-1)) 28 dc (-1)) 29 dc 0) 22 lt265) 23 ln266) 26 dc = 0 := hce85
                have hce283 : (updA (updA (stR (stR (stR (stR (stR (stR B 26 dc 0) 25 dc (nI (at0 + 1))) 24 dc (nI v51)) 27 dc (-1)) 28 dc (-1)) 29 dc 0) 22 lt265) 23 ln266) 25 dc = (nI (at0 + 1)) := hce86
                have hce284 : (updA (updA (stR (stR (stR (stR (stR (stR B 26 dc 0) 25 dc (nI (at0 + 1))) 24 dc (nI v51)) 27 dc (-1)) 28 dc (-1)) 29 dc 0) 22 lt265) 23 ln266) 24 dc = (nI v51) := hce87
                have hce285 : (updA (updA (stR (stR (stR (stR (stR (stR B 26 dc 0) 25 dc (nI (at0 + 1))) 24 dc (nI v51)) 27 dc (-1)) 28 dc (-1)) 29 dc 0) 22 lt265) 23 ln266) 27 dc = (-1) := hce88
                have hce286 : (updA (updA (stR (stR (stR (stR (stR (stR B 26 dc 0) 25 dc (nI (at0 + 1))) 24 dc (nI v51)) 27 dc (-1)) 28 dc (-1)) 29 dc 0) 22 lt265) 23 ln266) 28 dc = (-1) := hce89
                have hce287 : (updA (updA (stR (stR (stR (stR (stR (stR B 26 dc 0) 25 dc (nI (at0 + 1))) 24 dc (nI v51)) 27 dc (-1)) 28 dc (-1)) 29 dc 0) 22 lt265) 23 ln266) 29 dc = 0 := hce95
                have hty288 : tkRow ((updA (updA (stR (stR (stR (stR (stR (stR B 26 dc 0) 25 dc (nI (at0 + 1))) 24 dc (nI v51)) 27 dc (-1)) 28 dc (-1)) 29 dc 0) 22 lt265) 23 ln266) 19) wr T := hty90
                have hps289 : PS T nm wr ls264 dc fd md pr bk (updA (updA (stR (stR (stR (stR (stR (stR B 26 dc 0) 25 dc (nI (at0 + 1))) 24 dc (nI v51)) 27 dc (-1)) 28 dc (-1)) 29 dc 0) 22 lt265) 23 ln266) := (PS.same hps91 (by omega) (by omega) (fun r i q1 q2 q3 => by unfold updA; rw [if_neg (by omega), if_neg (by omega)]))
                have hfm290 : FrM K T wr (updA (updA (stR (stR (stR (stR (stR (stR B 26 dc 0) 25 dc (nI (at0 + 1))) 24 dc (nI v51)) 27 dc (-1)) 28 dc (-1)) 29 dc 0) 22 lt265) 23 ln266) nd md := (FrM.same hfm92 (by omega) (fun j i q1 q2 q3 => by unfold updA; rw [if_neg (by omega), if_neg (by omega)]) (fun i q => rfl))
                have hsn291 : Sng (updA (updA (stR (stR (stR (stR (stR (stR B 26 dc 0) 25 dc (nI (at0 + 1))) 24 dc (nI v51)) 27 dc (-1)) 28 dc (-1)) 29 dc 0) 22 lt265) 23 ln266) dc lz := (Sng.same hsn93 (by omega) (fun i q => rfl) (fun i q => rfl) (fun i q => h279 i (by omega)))
                have hlr292 : lsRow ((updA (updA (stR (stR (stR (stR (stR (stR B 26 dc 0) 25 dc (nI (at0 + 1))) 24 dc (nI v51)) 27 dc (-1)) 28 dc (-1)) 29 dc 0) 22 lt265) 23 ln266) 22) ((updA (updA (stR (stR (stR (stR (stR (stR B 26 dc 0) 25 dc (nI (at0 + 1))) 24 dc (nI v51)) 27 dc (-1)) 28 dc (-1)) 29 dc 0) 22 lt265) 23 ln266) 23) ls264 T := h276
                refine r_sti (f := ((updA (updA (stR (stR (stR (stR (stR (stR B 26 dc 0) 25 dc (nI (at0 + 1))) 24 dc (nI v51)) 27 dc (-1)) 28 dc (-1)) 29 dc 0) 22 lt265) 23 ln266) 28)) (j := dc) hx hb hE hP hD hS 28 (ma_28 G a _) rfl (mas_28 G a _) (by omega) (by decide) dX12_declaration_236 (fun H locs hP hD hS => ?_)
                have hP : va_P G.1 pCl (mW G h0 a (upd (upd (upd (upd (upd (upd (upd (upd (upd (upd (upd (upd (upd (upd (upd F 15 0) 16 pl263) 27 (nI nd)) 31 (nI wr)) 34 (nI ls264)) 35 (nI (dc + 1))) 44 (nI fd)) 49 (nI md)) 59 (nI bk)) 60 (nI pr)) 64 (nI at261)) 65 ne0) 66 (nI lk)) 67 (nI mf)) 68 (nI mm)) (updA (stR (updA (updA (stR (stR (stR (stR (stR (stR B 26 dc 0) 25 dc (nI (at0 + 1))) 24 dc (nI v51)) 27 dc (-1)) 28 dc (-1)) 29 dc 0) 22 lt265) 23 ln266) 28 dc r267) 2 K)) _ := hP
                have hD : va_D A (mW G h0 a (upd (upd (upd (upd (upd (upd (upd (upd (upd (upd (upd (upd (upd (upd (upd F 15 0) 16 pl263) 27 (nI nd)) 31 (nI wr)) 34 (nI ls264)) 35 (nI (dc + 1))) 44 (nI fd)) 49 (nI md)) 59 (nI bk)) 60 (nI pr)) 64 (nI at261)) 65 ne0) 66 (nI lk)) 67 (nI mf)) 68 (nI mm)) (updA (stR (updA (updA (stR (stR (stR (stR (stR (stR B 26 dc 0) 25 dc (nI (at0 + 1))) 24 dc (nI v51)) 27 dc (-1)) 28 dc (-1)) 29 dc 0) 22 lt265) 23 ln266) 28 dc r267) 2 K)) := hD
                have hkq293 : Kq 1 B (stR (updA (updA (stR (stR (stR (stR (stR (stR B 26 dc 0) 25 dc (nI (at0 + 1))) 24 dc (nI v51)) 27 dc (-1)) 28 dc (-1)) 29 dc 0) 22 lt265) 23 ln266) 28 dc r267) := (Kq.st hkq281 (by omega))
                have hce294 : (stR (updA (updA (stR (stR (stR (stR (stR (stR B 26 dc 0) 25 dc (nI (at0 + 1))) 24 dc (nI v51)) 27 dc (-1)) 28 dc (-1)) 29 dc 0) 22 lt265) 23 ln266) 28 dc r267) 26 dc = 0 := ((st_ne (by omega)).trans hce282)
                have hce295 : (stR (updA (updA (stR (stR (stR (stR (stR (stR B 26 dc 0) 25 dc (nI (at0 + 1))) 24 dc (nI v51)) 27 dc (-1)) 28 dc (-1)) 29 dc 0) 22 lt265) 23 ln266) 28 dc r267) 25 dc = (nI (at0 + 1)) := ((st_ne (by omega)).trans hce283)
                have hce296 : (stR (updA (updA (stR (stR (stR (stR (stR (stR B 26 dc 0) 25 dc (nI (at0 + 1))) 24 dc (nI v51)) 27 dc (-1)) 28 dc (-1)) 29 dc 0) 22 lt265) 23 ln266) 28 dc r267) 24 dc = (nI v51) := ((st_ne (by omega)).trans hce284)
                have hce297 : (stR (updA (updA (stR (stR (stR (stR (stR (stR B 26 dc 0) 25 dc (nI (at0 + 1))) 24 dc (nI v51)) 27 dc (-1)) 28 dc (-1)) 29 dc 0) 22 lt265) 23 ln266) 28 dc r267) 27 dc = (-1) := ((st_ne (by omega)).trans hce285)
                have hce298 : (stR (updA (updA (stR (stR (stR (stR (stR (stR B 26 dc 0) 25 dc (nI (at0 + 1))) 24 dc (nI v51)) 27 dc (-1)) 28 dc (-1)) 29 dc 0) 22 lt265) 23 ln266) 28 dc r267) 28 dc = r267 := st_eq
                have hce299 : (stR (updA (updA (stR (stR (stR (stR (stR (stR B 26 dc 0) 25 dc (nI (at0 + 1))) 24 dc (nI v51)) 27 dc (-1)) 28 dc (-1)) 29 dc 0) 22 lt265) 23 ln266) 28 dc r267) 29 dc = 0 := ((st_ne (by omega)).trans hce287)
                have hty300 : tkRow ((stR (updA (updA (stR (stR (stR (stR (stR (stR B 26 dc 0) 25 dc (nI (at0 + 1))) 24 dc (nI v51)) 27 dc (-1)) 28 dc (-1)) 29 dc 0) 22 lt265) 23 ln266) 28 dc r267) 19) wr T := hty288
                have hps301 : PS T nm wr ls264 dc fd md pr bk (stR (updA (updA (stR (stR (stR (stR (stR (stR B 26 dc 0) 25 dc (nI (at0 + 1))) 24 dc (nI v51)) 27 dc (-1)) 28 dc (-1)) 29 dc 0) 22 lt265) 23 ln266) 28 dc r267) := (PS.same hps289 (by omega) (by omega) (fun r i q1 q2 q3 => st_ne (fun e => by rw [e.1, e.2] at q3; exact absurd (show dc < dc from q3) (by omega))))
                have hfm302 : FrM K T wr (stR (updA (updA (stR (stR (stR (stR (stR (stR B 26 dc 0) 25 dc (nI (at0 + 1))) 24 dc (nI v51)) 27 dc (-1)) 28 dc (-1)) 29 dc 0) 22 lt265) 23 ln266) 28 dc r267) nd md := (FrM.same hfm290 (by omega) (fun j i q1 q2 q3 => st_ne (by omega)) (fun i q => st_ne (by omega)))
                have hsn303 : Sng (stR (updA (updA (stR (stR (stR (stR (stR (stR B 26 dc 0) 25 dc (nI (at0 + 1))) 24 dc (nI v51)) 27 dc (-1)) 28 dc (-1)) 29 dc 0) 22 lt265) 23 ln266) 28 dc r267) dc lz := (Sng.same hsn291 (by omega) (fun i q => st_ne (by omega)) (fun i q => st_ne (by omega)) (fun i q => st_ne (by omega)))
                have hlr304 : lsRow ((stR (updA (updA (stR (stR (stR (stR (stR (stR B 26 dc 0) 25 dc (nI (at0 + 1))) 24 dc (nI v51)) 27 dc (-1)) 28 dc (-1)) 29 dc 0) 22 lt265) 23 ln266) 28 dc r267) 22) ((stR (updA (updA (stR (stR (stR (stR (stR (stR B 26 dc 0) 25 dc (nI (at0 + 1))) 24 dc (nI v51)) 27 dc (-1)) 28 dc (-1)) 29 dc 0) 22 lt265) 23 ln266) 28 dc r267) 23) ls264 T := hlr292
                have hP : va_P G.1 pCl (mW G h0 a (upd (upd (upd (upd (upd (upd (upd (upd (upd (upd (upd (upd (upd (upd (upd F 15 0) 16 pl263) 27 (nI nd)) 31 (nI wr)) 34 (nI ls264)) 35 (nI (dc + 1))) 44 (nI fd)) 49 (nI md)) 59 (nI bk)) 60 (nI pr)) 64 (nI at261)) 65 ne0) 66 (nI lk)) 67 (nI mf)) 68 (nI mm)) (updA (stR (updA (updA (stR (stR (stR (stR (stR (stR B 26 dc 0) 25 dc (nI (at0 + 1))) 24 dc (nI v51)) 27 dc (-1)) 28 dc (-1)) 29 dc 0) 22 lt265) 23 ln266) 28 dc r267) 2 K)) _ := hP
                have hD : va_D A (mW G h0 a (upd (upd (upd (upd (upd (upd (upd (upd (upd (upd (upd (upd (upd (upd (upd F 15 0) 16 pl263) 27 (nI nd)) 31 (nI wr)) 34 (nI ls264)) 35 (nI (dc + 1))) 44 (nI fd)) 49 (nI md)) 59 (nI bk)) 60 (nI pr)) 64 (nI at261)) 65 ne0) 66 (nI lk)) 67 (nI mf)) 68 (nI mm)) (updA (stR (updA (updA (stR (stR (stR (stR (stR (stR B 26 dc 0) 25 dc (nI (at0 + 1))) 24 dc (nI v51)) 27 dc (-1)) 28 dc (-1)) 29 dc 0) 22 lt265) 23 ln266) 28 dc r267) 2 K)) := hD
                exact cut_j at261 ls264 pl263 (stR (updA (updA (stR (stR (stR (stR (stR (stR B 26 dc 0) 25 dc (nI (at0 + 1))) 24 dc (nI v51)) 27 dc (-1)) 28 dc (-1)) 29 dc 0) 22 lt265) 23 ln266) 28 dc r267) _ _ _ (by omega) (by omega) (by omega) hkq293 (PS.dec hps301 (by omega) hce295 (by omega) hce296 (by omega) hce294 (Or.inl rfl) hce297 (Or.inl rfl) hce298 (OrY.mono (wr := ls264) (h277.imp id (fun ⟨p, a, b⟩ => ⟨p, b, a⟩)) (by omega))) hfm302 hty300 hlr304 (Sng.dec (Sng.same hsn303 (ls' := ls264) (by omega) (fun i q => rfl) (fun i q => rfl) (fun i q => rfl)) hce294 hce297 (fun _ => Or.inl rfl)) hP hD hS (lv_sub hl [0, 2] rfl)
              · have e280 := e280
                have hkq305 : Kq 1 B (updA (updA (stR (stR (stR (stR (stR (stR B 26 dc 0) 25 dc (nI (at0 + 1))) 24 dc (nI v51)) 27 dc (-1)) 28 dc (-1)) 29 dc 0) 22 lt265) 23 ln266) := (Kq.row (Kq.row hkq84 (by omega)) (by omega))
                have hce306 : (updA (updA (stR (stR (stR (stR (stR (stR B 26 dc 0) 25 dc (nI (at0 + 1))) 24 dc (nI v51)) 27 dc (-1)) 28 dc (-1)) 29 dc 0) 22 lt265) 23 ln266) 26 dc = 0 := hce85
                have hce307 : (updA (updA (stR (stR (stR (stR (stR (stR B 26 dc 0) 25 dc (nI (at0 + 1))) 24 dc (nI v51)) 27 dc (-1)) 28 dc (-1)) 29 dc 0) 22 lt265) 23 ln266) 25 dc = (nI (at0 + 1)) := hce86
                have hce308 : (updA (updA (stR (stR (stR (stR (stR (stR B 26 dc 0) 25 dc (nI (at0 + 1))) 24 dc (nI v51)) 27 dc (-1)) 28 dc (-1)) 29 dc 0) 22 lt265) 23 ln266) 24 dc = (nI v51) := hce87
                have hce309 : (updA (updA (stR (stR (stR (stR (stR (stR B 26 dc 0) 25 dc (nI (at0 + 1))) 24 dc (nI v51)) 27 dc (-1)) 28 dc (-1)) 29 dc 0) 22 lt265) 23 ln266) 27 dc = (-1) := hce88
                have hce310 : (updA (updA (stR (stR (stR (stR (stR (stR B 26 dc 0) 25 dc (nI (at0 + 1))) 24 dc (nI v51)) 27 dc (-1)) 28 dc (-1)) 29 dc 0) 22 lt265) 23 ln266) 28 dc = (-1) := hce89
                have hce311 : (updA (updA (stR (stR (stR (stR (stR (stR B 26 dc 0) 25 dc (nI (at0 + 1))) 24 dc (nI v51)) 27 dc (-1)) 28 dc (-1)) 29 dc 0) 22 lt265) 23 ln266) 29 dc = 0 := hce95
                have hty312 : tkRow ((updA (updA (stR (stR (stR (stR (stR (stR B 26 dc 0) 25 dc (nI (at0 + 1))) 24 dc (nI v51)) 27 dc (-1)) 28 dc (-1)) 29 dc 0) 22 lt265) 23 ln266) 19) wr T := hty90
                refine r_sti (f := ((updA (updA (stR (stR (stR (stR (stR (stR B 26 dc 0) 25 dc (nI (at0 + 1))) 24 dc (nI v51)) 27 dc (-1)) 28 dc (-1)) 29 dc 0) 22 lt265) 23 ln266) 28)) (j := dc) hx hb hE hP hD hS 28 (ma_28 G a _) rfl (mas_28 G a _) (by omega) (by decide) dX12_declaration_236 (fun H locs hP hD hS => ?_)
                have hP : va_P G.1 pCl (mW G h0 a (upd (upd (upd (upd (upd (upd (upd (upd (upd (upd (upd (upd (upd (upd (upd F 15 (nI fa262)) 16 pl263) 27 (nI nd)) 31 (nI wr)) 34 (nI ls264)) 35 (nI (dc + 1))) 44 (nI fd)) 49 (nI md)) 59 (nI bk)) 60 (nI pr)) 64 (nI at261)) 65 ne0) 66 (nI lk)) 67 (nI mf)) 68 (nI mm)) (updA (stR (updA (updA (stR (stR (stR (stR (stR (stR B 26 dc 0) 25 dc (nI (at0 + 1))) 24 dc (nI v51)) 27 dc (-1)) 28 dc (-1)) 29 dc 0) 22 lt265) 23 ln266) 28 dc r267) 2 K)) _ := hP
                have hD : va_D A (mW G h0 a (upd (upd (upd (upd (upd (upd (upd (upd (upd (upd (upd (upd (upd (upd (upd F 15 (nI fa262)) 16 pl263) 27 (nI nd)) 31 (nI wr)) 34 (nI ls264)) 35 (nI (dc + 1))) 44 (nI fd)) 49 (nI md)) 59 (nI bk)) 60 (nI pr)) 64 (nI at261)) 65 ne0) 66 (nI lk)) 67 (nI mf)) 68 (nI mm)) (updA (stR (updA (updA (stR (stR (stR (stR (stR (stR B 26 dc 0) 25 dc (nI (at0 + 1))) 24 dc (nI v51)) 27 dc (-1)) 28 dc (-1)) 29 dc 0) 22 lt265) 23 ln266) 28 dc r267) 2 K)) := hD
                have hkq313 : Kq 1 B (stR (updA (updA (stR (stR (stR (stR (stR (stR B 26 dc 0) 25 dc (nI (at0 + 1))) 24 dc (nI v51)) 27 dc (-1)) 28 dc (-1)) 29 dc 0) 22 lt265) 23 ln266) 28 dc r267) := (Kq.st hkq305 (by omega))
                have hce314 : (stR (updA (updA (stR (stR (stR (stR (stR (stR B 26 dc 0) 25 dc (nI (at0 + 1))) 24 dc (nI v51)) 27 dc (-1)) 28 dc (-1)) 29 dc 0) 22 lt265) 23 ln266) 28 dc r267) 26 dc = 0 := ((st_ne (by omega)).trans hce306)
                have hce315 : (stR (updA (updA (stR (stR (stR (stR (stR (stR B 26 dc 0) 25 dc (nI (at0 + 1))) 24 dc (nI v51)) 27 dc (-1)) 28 dc (-1)) 29 dc 0) 22 lt265) 23 ln266) 28 dc r267) 25 dc = (nI (at0 + 1)) := ((st_ne (by omega)).trans hce307)
                have hce316 : (stR (updA (updA (stR (stR (stR (stR (stR (stR B 26 dc 0) 25 dc (nI (at0 + 1))) 24 dc (nI v51)) 27 dc (-1)) 28 dc (-1)) 29 dc 0) 22 lt265) 23 ln266) 28 dc r267) 24 dc = (nI v51) := ((st_ne (by omega)).trans hce308)
                have hce317 : (stR (updA (updA (stR (stR (stR (stR (stR (stR B 26 dc 0) 25 dc (nI (at0 + 1))) 24 dc (nI v51)) 27 dc (-1)) 28 dc (-1)) 29 dc 0) 22 lt265) 23 ln266) 28 dc r267) 27 dc = (-1) := ((st_ne (by omega)).trans hce309)
                have hce318 : (stR (updA (updA (stR (stR (stR (stR (stR (stR B 26 dc 0) 25 dc (nI (at0 + 1))) 24 dc (nI v51)) 27 dc (-1)) 28 dc (-1)) 29 dc 0) 22 lt265) 23 ln266) 28 dc r267) 28 dc = r267 := st_eq
                have hce319 : (stR (updA (updA (stR (stR (stR (stR (stR (stR B 26 dc 0) 25 dc (nI (at0 + 1))) 24 dc (nI v51)) 27 dc (-1)) 28 dc (-1)) 29 dc 0) 22 lt265) 23 ln266) 28 dc r267) 29 dc = 0 := ((st_ne (by omega)).trans hce311)
                have hty320 : tkRow ((stR (updA (updA (stR (stR (stR (stR (stR (stR B 26 dc 0) 25 dc (nI (at0 + 1))) 24 dc (nI v51)) 27 dc (-1)) 28 dc (-1)) 29 dc 0) 22 lt265) 23 ln266) 28 dc r267) 19) wr T := hty312
                refine lv_aload_n hx hb dX12_declaration_237 rfl (lv_at hl 2 rfl) ?_
                refine lv_bipush (v := 123) hx hb dX12_declaration_238 (by decide) ?_
                have hP : va_P G.1 pCl (mW G h0 a (upd (upd (upd (upd (upd (upd (upd (upd (upd (upd (upd (upd (upd (upd (upd (upd (upd F 15 (nI fa262)) 16 pl263) 27 (nI nd)) 31 (nI wr)) 34 (nI ls264)) 35 (nI (dc + 1))) 44 (nI fd)) 49 (nI md)) 59 (nI bk)) 60 (nI pr)) 64 (nI at261)) 65 ne0) 66 (nI lk)) 67 (nI mf)) 68 (nI mm)) 15 (nI fa262)) 64 (nI at261)) (updA (updA (stR (updA (updA (stR (stR (stR (stR (stR (stR B 26 dc 0) 25 dc (nI (at0 + 1))) 24 dc (nI v51)) 27 dc (-1)) 28 dc (-1)) 29 dc 0) 22 lt265) 23 ln266) 28 dc r267) 2 K) 2 K)) _ := hP
                have hD : va_D A (mW G h0 a (upd (upd (upd (upd (upd (upd (upd (upd (upd (upd (upd (upd (upd (upd (upd (upd (upd F 15 (nI fa262)) 16 pl263) 27 (nI nd)) 31 (nI wr)) 34 (nI ls264)) 35 (nI (dc + 1))) 44 (nI fd)) 49 (nI md)) 59 (nI bk)) 60 (nI pr)) 64 (nI at261)) 65 ne0) 66 (nI lk)) 67 (nI mf)) 68 (nI mm)) 15 (nI fa262)) 64 (nI at261)) (updA (updA (stR (updA (updA (stR (stR (stR (stR (stR (stR B 26 dc 0) 25 dc (nI (at0 + 1))) 24 dc (nI v51)) 27 dc (-1)) 28 dc (-1)) 29 dc 0) 22 lt265) 23 ln266) 28 dc r267) 2 K) 2 K)) := hD
                refine pc_V0 (G := G) (As := [.int 123]) (rest := []) hx hb hml hown hq hE hX pX0_al hP hD hS hA hl.1 (R_take l G h0 a (upd (upd (upd (upd (upd (upd (upd (upd (upd (upd (upd (upd (upd (upd (upd F 15 (nI fa262)) 16 pl263) 27 (nI nd)) 31 (nI wr)) 34 (nI ls264)) 35 (nI (dc + 1))) 44 (nI fd)) 49 (nI md)) 59 (nI bk)) 60 (nI pr)) 64 (nI at261)) 65 ne0) 66 (nI lk)) 67 (nI mf)) 68 (nI mm)) (updA (stR (updA (updA (stR (stR (stR (stR (stR (stR B 26 dc 0) 25 dc (nI (at0 + 1))) 24 dc (nI v51)) 27 dc (-1)) 28 dc (-1)) 29 dc 0) 22 lt265) 23 ln266) 28 dc r267) 2 K) at261 T fa262 K 123 (by omega) (by omega) hK (by omega) (by decide) (by decide)) (gV pw_1614 pw_1615 pw_1616 pw_1523 pw_1601) hV_X12_take 0 9 rfl rfl rfl rfl (Nat.le_of_ble_eq_true rfl) dX12_declaration_240 ⟨Nat.le_of_ble_eq_true rfl, Nat.le_of_ble_eq_true rfl⟩ ⟨Nat.le_of_ble_eq_true rfl, Nat.le_of_ble_eq_true rfl⟩ (fun v323 u321 H locs hw322 hP hD hS => ?_)
                obtain ⟨at324, fa325, pl326⟩ := u321
                obtain ⟨hw322, h327, h328, h329, h330, h331, h332, h333, h334⟩ := hw322
                replace h327 : at261 ≤ at324 := h327
                replace h328 : at324 ≤ T := h328
                replace h329 : fa262 ≤ fa325 := h329
                replace h330 : fa325 ≤ 100 := h330
                replace h331 : If (0 < fa262) (at324 = at261 ∧ fa325 = fa262) := h331
                replace h332 : at324 ≤ at261 + 1 := h332
                replace h333 : at261 + 1 ≤ at324 + fa325 := h333
                replace h334 : If (fa325 = 0) (K at261 = 123) := h334
                obtain rfl : v323 = none := hw322
                have hP : va_P G.1 pCl (mW G h0 a (upd (upd (upd (upd (upd (upd (upd (upd (upd (upd (upd (upd (upd (upd (upd F 15 (nI fa325)) 16 pl326) 27 (nI nd)) 31 (nI wr)) 34 (nI ls264)) 35 (nI (dc + 1))) 44 (nI fd)) 49 (nI md)) 59 (nI bk)) 60 (nI pr)) 64 (nI at324)) 65 ne0) 66 (nI lk)) 67 (nI mf)) 68 (nI mm)) (updA (stR (updA (updA (stR (stR (stR (stR (stR (stR B 26 dc 0) 25 dc (nI (at0 + 1))) 24 dc (nI v51)) 27 dc (-1)) 28 dc (-1)) 29 dc 0) 22 lt265) 23 ln266) 28 dc r267) 2 K)) _ := hP
                have hD : va_D A (mW G h0 a (upd (upd (upd (upd (upd (upd (upd (upd (upd (upd (upd (upd (upd (upd (upd F 15 (nI fa325)) 16 pl326) 27 (nI nd)) 31 (nI wr)) 34 (nI ls264)) 35 (nI (dc + 1))) 44 (nI fd)) 49 (nI md)) 59 (nI bk)) 60 (nI pr)) 64 (nI at324)) 65 ne0) 66 (nI lk)) 67 (nI mf)) 68 (nI mm)) (updA (stR (updA (updA (stR (stR (stR (stR (stR (stR B 26 dc 0) 25 dc (nI (at0 + 1))) 24 dc (nI v51)) 27 dc (-1)) 28 dc (-1)) 29 dc 0) 22 lt265) 23 ln266) 28 dc r267) 2 K)) := hD
                refine W.widen (k := 0) (n := 0) (Nat.le_of_ble_eq_true rfl) (Nat.le_of_ble_eq_true rfl) ?_
                refine W.eq (g2 := F0 m 243 ls []) rfl ?_
                obtain ⟨n336, n335⟩ := h331 e280
                replace n336 := n336.symm
                subst n336
                replace n335 := n335.symm
                subst n335
                refine lv_aload_n hx hb dX12_declaration_243 rfl (lv_at hl 2 rfl) ?_
                refine lv_iconst (v := 0) hx hb dX12_declaration_244 (by decide) ?_
                refine r_put (v := 0) (ty := .int) hx hb hown hq hE hP hD hS 67 390 tFX12_67 (by decide) pw_1726 (by decide) rfl rfl (ms_67 a _ _) dX12_declaration_245 (fun H locs hP hD hS => ?_)
                refine lv_aload_n hx hb dX12_declaration_248 rfl (lv_at hl 2 rfl) ?_
                refine lv_iconst (v := 0) hx hb dX12_declaration_249 (by decide) ?_
                refine r_put (v := 0) (ty := .int) hx hb hown hq hE hP hD hS 68 393 tFX12_68 (by decide) pw_1722 (by decide) rfl rfl (ms_68 a _ _) dX12_declaration_250 (fun H locs hP hD hS => ?_)
                refine lv_aload_n hx hb dX12_declaration_253 rfl (lv_at hl 2 rfl) ?_
                refine r_get (v := .int (nI fa262)) hx hb hown hq hE hP 15 350 tFX12_15 (by decide) pw_1594 rfl dX12_declaration_254 ?_
                refine lv_if_ne (tgt := 277) hx hb dX12_declaration_257 (by decide) (fun c337 => ?_) (fun c337 => (by have n338 : fa262 = 0 := (nI_eq (a := fa262) (b := 0) (by omega) (by omega)).mp c337; omega))
                refine lv_aload_n hx hb dX12_declaration_277 rfl (lv_at hl 2 rfl) ?_
                refine lv_bipush (v := 125) hx hb dX12_declaration_278 (by decide) ?_
                have hP : va_P G.1 pCl (mW G h0 a (upd (upd (upd (upd (upd (upd (upd (upd (upd (upd (upd (upd (upd (upd (upd (upd (upd F 15 (nI fa262)) 16 pl326) 27 (nI nd)) 31 (nI wr)) 34 (nI ls264)) 35 (nI (dc + 1))) 44 (nI fd)) 49 (nI md)) 59 (nI bk)) 60 (nI pr)) 64 (nI at261)) 65 ne0) 66 (nI lk)) 67 0) 68 0) 15 (nI fa262)) 64 (nI at261)) (updA (updA (stR (updA (updA (stR (stR (stR (stR (stR (stR B 26 dc 0) 25 dc (nI (at0 + 1))) 24 dc (nI v51)) 27 dc (-1)) 28 dc (-1)) 29 dc 0) 22 lt265) 23 ln266) 28 dc r267) 2 K) 2 K)) _ := hP
                have hD : va_D A (mW G h0 a (upd (upd (upd (upd (upd (upd (upd (upd (upd (upd (upd (upd (upd (upd (upd (upd (upd F 15 (nI fa262)) 16 pl326) 27 (nI nd)) 31 (nI wr)) 34 (nI ls264)) 35 (nI (dc + 1))) 44 (nI fd)) 49 (nI md)) 59 (nI bk)) 60 (nI pr)) 64 (nI at261)) 65 ne0) 66 (nI lk)) 67 0) 68 0) 15 (nI fa262)) 64 (nI at261)) (updA (updA (stR (updA (updA (stR (stR (stR (stR (stR (stR B 26 dc 0) 25 dc (nI (at0 + 1))) 24 dc (nI v51)) 27 dc (-1)) 28 dc (-1)) 29 dc 0) 22 lt265) 23 ln266) 28 dc r267) 2 K) 2 K)) := hD
                refine pc_V0 (G := G) (As := [.int 125]) (rest := []) hx hb hml hown hq hE hX pX0_al hP hD hS hA hl.1 (R_take l G h0 a (upd (upd (upd (upd (upd (upd (upd (upd (upd (upd (upd (upd (upd (upd (upd F 15 (nI fa262)) 16 pl326) 27 (nI nd)) 31 (nI wr)) 34 (nI ls264)) 35 (nI (dc + 1))) 44 (nI fd)) 49 (nI md)) 59 (nI bk)) 60 (nI pr)) 64 (nI at261)) 65 ne0) 66 (nI lk)) 67 0) 68 0) (updA (stR (updA (updA (stR (stR (stR (stR (stR (stR B 26 dc 0) 25 dc (nI (at0 + 1))) 24 dc (nI v51)) 27 dc (-1)) 28 dc (-1)) 29 dc 0) 22 lt265) 23 ln266) 28 dc r267) 2 K) at261 T fa262 K 125 (by omega) (by omega) hK (by omega) (by decide) (by decide)) (gV pw_1614 pw_1615 pw_1616 pw_1523 pw_1601) hV_X12_take 0 9 rfl rfl rfl rfl (Nat.le_of_ble_eq_true rfl) dX12_declaration_280 ⟨Nat.le_of_ble_eq_true rfl, Nat.le_of_ble_eq_true rfl⟩ ⟨Nat.le_of_ble_eq_true rfl, Nat.le_of_ble_eq_true rfl⟩ (fun v341 u339 H locs hw340 hP hD hS => ?_)
                obtain ⟨at342, fa343, pl344⟩ := u339
                obtain ⟨hw340, h345, h346, h347, h348, h349, h350, h351, h352⟩ := hw340
                replace h345 : at261 ≤ at342 := h345
                replace h346 : at342 ≤ T := h346
                replace h347 : fa262 ≤ fa343 := h347
                replace h348 : fa343 ≤ 100 := h348
                replace h349 : If (0 < fa262) (at342 = at261 ∧ fa343 = fa262) := h349
                replace h350 : at342 ≤ at261 + 1 := h350
                replace h351 : at261 + 1 ≤ at342 + fa343 := h351
                replace h352 : If (fa343 = 0) (K at261 = 125) := h352
                obtain rfl : v341 = none := hw340
                have hP : va_P G.1 pCl (mW G h0 a (upd (upd (upd (upd (upd (upd (upd (upd (upd (upd (upd (upd (upd (upd (upd F 15 (nI fa343)) 16 pl344) 27 (nI nd)) 31 (nI wr)) 34 (nI ls264)) 35 (nI (dc + 1))) 44 (nI fd)) 49 (nI md)) 59 (nI bk)) 60 (nI pr)) 64 (nI at342)) 65 ne0) 66 (nI lk)) 67 0) 68 0) (updA (stR (updA (updA (stR (stR (stR (stR (stR (stR B 26 dc 0) 25 dc (nI (at0 + 1))) 24 dc (nI v51)) 27 dc (-1)) 28 dc (-1)) 29 dc 0) 22 lt265) 23 ln266) 28 dc r267) 2 K)) _ := hP
                have hD : va_D A (mW G h0 a (upd (upd (upd (upd (upd (upd (upd (upd (upd (upd (upd (upd (upd (upd (upd F 15 (nI fa343)) 16 pl344) 27 (nI nd)) 31 (nI wr)) 34 (nI ls264)) 35 (nI (dc + 1))) 44 (nI fd)) 49 (nI md)) 59 (nI bk)) 60 (nI pr)) 64 (nI at342)) 65 ne0) 66 (nI lk)) 67 0) 68 0) (updA (stR (updA (updA (stR (stR (stR (stR (stR (stR B 26 dc 0) 25 dc (nI (at0 + 1))) 24 dc (nI v51)) 27 dc (-1)) 28 dc (-1)) 29 dc 0) 22 lt265) 23 ln266) 28 dc r267) 2 K)) := hD
                refine W.widen (k := 0) (n := 0) (Nat.le_of_ble_eq_true rfl) (Nat.le_of_ble_eq_true rfl) ?_
                refine W.eq (g2 := F0 m 283 ls []) rfl ?_
                obtain ⟨n354, n353⟩ := h349 e280
                replace n354 := n354.symm
                subst n354
                replace n353 := n353.symm
                subst n353
                have hz355 : at0 ≤ at261 := (by omega)
                have hz356 : at261 ≤ T := (by omega)
                have hz357 : fa262 ≤ 100 := (by omega)
                have hz358 : at0 + 1 ≤ at261 + fa262 := (by omega)
                have hz359 : Kq 1 B (stR (updA (updA (stR (stR (stR (stR (stR (stR B 26 dc 0) 25 dc (nI (at0 + 1))) 24 dc (nI v51)) 27 dc (-1)) 28 dc (-1)) 29 dc 0) 22 lt265) 23 ln266) 28 dc r267) := hkq313
                have hz360 : If (fa262 = 0) ((nd ≤ 2 * at261 ∧ wr ≤ at261 ∧ ls264 ≤ at261 ∧ pr ≤ at261 ∧ (dc + 1) ≤ 37 ∧ dc ≤ (dc + 1) ∧ bk ≤ md ∧ wr ≤ wr ∧ lz ≤ ls264) ∧ (md + 210 ≤ 30 * (dc + 1) ∧ fd + 140 ≤ 20 * (dc + 1) ∧ (dc + 1) ≤ 37 ∧ 7 ≤ (dc + 1) ∧ (dc + 1) ≤ dc + 1) ∧ PS T nm wr ls264 (dc + 1) fd md pr bk (stR (updA (updA (stR (stR (stR (stR (stR (stR B 26 dc 0) 25 dc (nI (at0 + 1))) 24 dc (nI v51)) 27 dc (-1)) 28 dc (-1)) 29 dc 0) 22 lt265) 23 ln266) 28 dc r267) ∧ FrM K T wr (stR (updA (updA (stR (stR (stR (stR (stR (stR B 26 dc 0) 25 dc (nI (at0 + 1))) 24 dc (nI v51)) 27 dc (-1)) 28 dc (-1)) 29 dc 0) 22 lt265) 23 ln266) 28 dc r267) nd md ∧ tkRow ((stR (updA (updA (stR (stR (stR (stR (stR (stR B 26 dc 0) 25 dc (nI (at0 + 1))) 24 dc (nI v51)) 27 dc (-1)) 28 dc (-1)) 29 dc 0) 22 lt265) 23 ln266) 28 dc r267) 19) wr T ∧ lsRow ((stR (updA (updA (stR (stR (stR (stR (stR (stR B 26 dc 0) 25 dc (nI (at0 + 1))) 24 dc (nI v51)) 27 dc (-1)) 28 dc (-1)) 29 dc 0) 22 lt265) 23 ln266) 28 dc r267) 22) ((stR (updA (updA (stR (stR (stR (stR (stR (stR B 26 dc 0) 25 dc (nI (at0 + 1))) 24 dc (nI v51)) 27 dc (-1)) 28 dc (-1)) 29 dc 0) 22 lt265) 23 ln266) 28 dc r267) 23) ls264 T) := (fun e => absurd e (by omega))
                have hz361 : If (fa262 = 0) (Sng (stR (updA (updA (stR (stR (stR (stR (stR (stR B 26 dc 0) 25 dc (nI (at0 + 1))) 24 dc (nI v51)) 27 dc (-1)) 28 dc (-1)) 29 dc 0) 22 lt265) 23 ln266) 28 dc r267) (dc + 1) ls264) := (fun e => absurd e (by omega))
                have hP : va_P G.1 pCl (mW G h0 a (upd (upd (upd (upd (upd (upd (upd (upd (upd (upd (upd (upd (upd (upd (upd F 15 (nI fa262)) 16 pl344) 27 (nI nd)) 31 (nI wr)) 34 (nI ls264)) 35 (nI (dc + 1))) 44 (nI fd)) 49 (nI md)) 59 (nI bk)) 60 (nI pr)) 64 (nI at261)) 65 ne0) 66 (nI lk)) 67 (nI 0)) 68 (nI 0)) (updA (stR (updA (updA (stR (stR (stR (stR (stR (stR B 26 dc 0) 25 dc (nI (at0 + 1))) 24 dc (nI v51)) 27 dc (-1)) 28 dc (-1)) 29 dc 0) 22 lt265) 23 ln266) 28 dc r267) 2 K)) _ := hP
                have hD : va_D A (mW G h0 a (upd (upd (upd (upd (upd (upd (upd (upd (upd (upd (upd (upd (upd (upd (upd F 15 (nI fa262)) 16 pl344) 27 (nI nd)) 31 (nI wr)) 34 (nI ls264)) 35 (nI (dc + 1))) 44 (nI fd)) 49 (nI md)) 59 (nI bk)) 60 (nI pr)) 64 (nI at261)) 65 ne0) 66 (nI lk)) 67 (nI 0)) 68 (nI 0)) (updA (stR (updA (updA (stR (stR (stR (stR (stR (stR B 26 dc 0) 25 dc (nI (at0 + 1))) 24 dc (nI v51)) 27 dc (-1)) 28 dc (-1)) 29 dc 0) 22 lt265) 23 ln266) 28 dc r267) 2 K)) := hD
                exact W.vret hx hb hr (fun t9 ht9 hW9 => ⟨⟨_, (at261, fa262, pl344, nd, wr, ls264, (dc + 1), fd, md, pr, bk, 0, 0, ne0, (stR (updA (updA (stR (stR (stR (stR (stR (stR B 26 dc 0) 25 dc (nI (at0 + 1))) 24 dc (nI v51)) 27 dc (-1)) 28 dc (-1)) 29 dc 0) 22 lt265) 23 ln266) 28 dc r267)), rfl, ⟨rfl, hz355, hz356, hz357, hz358, hz359, hz360, hz361⟩, by rw [ht9]; exact hP, hD⟩, hS.F ht9⟩) hS.2.2 dX12_declaration_283
          · have n362 : ¬ (r234 = 0) := fun h9 => c241 ((nI_eq (a := r234) (b := 0) (by omega) (by omega)).mpr h9)
            refine lv_iload_n hx hb dX12_declaration_149 rfl (lv_at hl 1 rfl) ?_
            refine lv_if_eq (tgt := 166) hx hb dX12_declaration_150 (by decide) (fun c363 => ?_) (fun c363 => absurd c363 (by decide))
            refine lv_aload_n hx hb dX12_declaration_166 rfl (lv_at hl 2 rfl) ?_
            refine r_get (v := .ref (a 27)) hx hb hown hq hE hP 39 93 tFX12_39 (by decide) pw_1458 rfl dX12_declaration_167 ?_
            refine lv_iload_n hx hb dX12_declaration_170 rfl (lv_at hl 0 rfl) ?_
            refine lv_aload_n hx hb dX12_declaration_171 rfl (lv_at hl 2 rfl) ?_
            refine r_get (v := .int (nI lz)) hx hb hown hq hE hP 34 372 tFX12_34 (by decide) pw_1617 rfl dX12_declaration_172 ?_
            refine r_sti (f := ((stR (stR (stR (stR (stR (stR B 26 dc 0) 25 dc (nI (at0 + 1))) 24 dc (nI v51)) 27 dc (-1)) 28 dc (-1)) 29 dc 0) 27)) (j := dc) hx hb hE hP hD hS 27 (ma_27 G a _) rfl (mas_27 G a _) (by omega) (by decide) dX12_declaration_175 (fun H locs hP hD hS => ?_)
            have hP : va_P G.1 pCl (mW G h0 a (upd (upd (upd (upd (upd (upd (upd (upd (upd (upd (upd (upd (upd (upd (upd F 15 0) 16 pl28) 27 (nI nd)) 31 (nI wr)) 34 (nI lz)) 35 (nI (dc + 1))) 44 (nI fd)) 49 (nI md)) 59 (nI bk)) 60 (nI pr)) 64 (nI at233)) 65 ne0) 66 (nI lk)) 67 (nI mf)) 68 (nI mm)) (updA (stR (stR (stR (stR (stR (stR (stR B 26 dc 0) 25 dc (nI (at0 + 1))) 24 dc (nI v51)) 27 dc (-1)) 28 dc (-1)) 29 dc 0) 27 dc (nI lz)) 2 K)) _ := hP
            have hD : va_D A (mW G h0 a (upd (upd (upd (upd (upd (upd (upd (upd (upd (upd (upd (upd (upd (upd (upd F 15 0) 16 pl28) 27 (nI nd)) 31 (nI wr)) 34 (nI lz)) 35 (nI (dc + 1))) 44 (nI fd)) 49 (nI md)) 59 (nI bk)) 60 (nI pr)) 64 (nI at233)) 65 ne0) 66 (nI lk)) 67 (nI mf)) 68 (nI mm)) (updA (stR (stR (stR (stR (stR (stR (stR B 26 dc 0) 25 dc (nI (at0 + 1))) 24 dc (nI v51)) 27 dc (-1)) 28 dc (-1)) 29 dc 0) 27 dc (nI lz)) 2 K)) := hD
            have hkq364 : Kq 1 B (stR (stR (stR (stR (stR (stR (stR B 26 dc 0) 25 dc (nI (at0 + 1))) 24 dc (nI v51)) 27 dc (-1)) 28 dc (-1)) 29 dc 0) 27 dc (nI lz)) := (Kq.st hkq84 (by omega))
            have hce365 : (stR (stR (stR (stR (stR (stR (stR B 26 dc 0) 25 dc (nI (at0 + 1))) 24 dc (nI v51)) 27 dc (-1)) 28 dc (-1)) 29 dc 0) 27 dc (nI lz)) 26 dc = 0 := ((st_ne (by omega)).trans hce85)
            have hce366 : (stR (stR (stR (stR (stR (stR (stR B 26 dc 0) 25 dc (nI (at0 + 1))) 24 dc (nI v51)) 27 dc (-1)) 28 dc (-1)) 29 dc 0) 27 dc (nI lz)) 25 dc = (nI (at0 + 1)) := ((st_ne (by omega)).trans hce86)
            have hce367 : (stR (stR (stR (stR (stR (stR (stR B 26 dc 0) 25 dc (nI (at0 + 1))) 24 dc (nI v51)) 27 dc (-1)) 28 dc (-1)) 29 dc 0) 27 dc (nI lz)) 24 dc = (nI v51) := ((st_ne (by omega)).trans hce87)
            have hce368 : (stR (stR (stR (stR (stR (stR (stR B 26 dc 0) 25 dc (nI (at0 + 1))) 24 dc (nI v51)) 27 dc (-1)) 28 dc (-1)) 29 dc 0) 27 dc (nI lz)) 27 dc = (nI lz) := st_eq
            have hce369 : (stR (stR (stR (stR (stR (stR (stR B 26 dc 0) 25 dc (nI (at0 + 1))) 24 dc (nI v51)) 27 dc (-1)) 28 dc (-1)) 29 dc 0) 27 dc (nI lz)) 28 dc = (-1) := ((st_ne (by omega)).trans hce89)
            have hce370 : (stR (stR (stR (stR (stR (stR (stR B 26 dc 0) 25 dc (nI (at0 + 1))) 24 dc (nI v51)) 27 dc (-1)) 28 dc (-1)) 29 dc 0) 27 dc (nI lz)) 29 dc = 0 := ((st_ne (by omega)).trans hce95)
            have hty371 : tkRow ((stR (stR (stR (stR (stR (stR (stR B 26 dc 0) 25 dc (nI (at0 + 1))) 24 dc (nI v51)) 27 dc (-1)) 28 dc (-1)) 29 dc 0) 27 dc (nI lz)) 19) wr T := hty90
            have hps372 : PS T nm wr lz dc fd md pr bk (stR (stR (stR (stR (stR (stR (stR B 26 dc 0) 25 dc (nI (at0 + 1))) 24 dc (nI v51)) 27 dc (-1)) 28 dc (-1)) 29 dc 0) 27 dc (nI lz)) := (PS.same hps91 (by omega) (by omega) (fun r i q1 q2 q3 => st_ne (fun e => by rw [e.1, e.2] at q3; exact absurd (show dc < dc from q3) (by omega))))
            have hfm373 : FrM K T wr (stR (stR (stR (stR (stR (stR (stR B 26 dc 0) 25 dc (nI (at0 + 1))) 24 dc (nI v51)) 27 dc (-1)) 28 dc (-1)) 29 dc 0) 27 dc (nI lz)) nd md := (FrM.same hfm92 (by omega) (fun j i q1 q2 q3 => st_ne (by omega)) (fun i q => st_ne (by omega)))
            have hsn374 : Sng (stR (stR (stR (stR (stR (stR (stR B 26 dc 0) 25 dc (nI (at0 + 1))) 24 dc (nI v51)) 27 dc (-1)) 28 dc (-1)) 29 dc 0) 27 dc (nI lz)) dc lz := (Sng.same hsn93 (by omega) (fun i q => st_ne (by omega)) (fun i q => st_ne (by omega)) (fun i q => st_ne (by omega)))
            have hlr375 : lsRow ((stR (stR (stR (stR (stR (stR (stR B 26 dc 0) 25 dc (nI (at0 + 1))) 24 dc (nI v51)) 27 dc (-1)) 28 dc (-1)) 29 dc 0) 27 dc (nI lz)) 22) ((stR (stR (stR (stR (stR (stR (stR B 26 dc 0) 25 dc (nI (at0 + 1))) 24 dc (nI v51)) 27 dc (-1)) 28 dc (-1)) 29 dc 0) 27 dc (nI lz)) 23) lz T := hlr94
            refine lv_aload_n hx hb dX12_declaration_176 rfl (lv_at hl 2 rfl) ?_
            refine lv_dup hx hb dX12_declaration_177 rfl ?_
            refine r_get (v := .int (nI lz)) hx hb hown hq hE hP 34 372 tFX12_34 (by decide) pw_1617 rfl dX12_declaration_178 ?_
            refine lv_iconst (v := 1) hx hb dX12_declaration_181 (by decide) ?_
            refine lv_iadd hx hb dX12_declaration_182 ?_
            refine lv_topi (fun x376 e377 => ?_)
            obtain rfl : x376 = nI (lz + 1) := e377.trans (nI_add (lz) (1))
            refine r_put (v := (nI (lz + 1))) (ty := .int) hx hb hown hq hE hP hD hS 34 372 tFX12_34 (by decide) pw_1617 (by decide) rfl rfl (ms_34 a _ _) dX12_declaration_183 (fun H locs hP hD hS => ?_)
            refine lv_aload_n hx hb dX12_declaration_186 rfl (lv_at hl 2 rfl) ?_
            refine r_get (v := .ref (a 22)) hx hb hown hq hE hP 32 78 tFX12_32 (by decide) pw_1453 rfl dX12_declaration_187 ?_
            refine lv_aload_n hx hb dX12_declaration_190 rfl (lv_at hl 2 rfl) ?_
            refine r_get (v := .ref (a 27)) hx hb hown hq hE hP 39 93 tFX12_39 (by decide) pw_1458 rfl dX12_declaration_191 ?_
            refine lv_iload_n hx hb dX12_declaration_194 rfl (lv_at hl 0 rfl) ?_
            refine r_ldi (f := ((stR (stR (stR (stR (stR (stR (stR B 26 dc 0) 25 dc (nI (at0 + 1))) 24 dc (nI v51)) 27 dc (-1)) 28 dc (-1)) 29 dc 0) 27 dc (nI lz)) 27)) (j := dc) hx hb hE hP 27 (ma_27 G a _) rfl (by omega) (by decide) dX12_declaration_195 ?_
            refine lv_topi (fun x378 e379 => ?_)
            obtain rfl : x378 = (nI lz) := e379.trans hce368
            refine lv_aload_n hx hb dX12_declaration_196 rfl (lv_at hl 2 rfl) ?_
            have hP : va_P G.1 pCl (mW G h0 a (upd (upd (upd (upd (upd (upd (upd (upd (upd (upd (upd (upd (upd (upd (upd (upd (upd F 15 0) 16 pl28) 27 (nI nd)) 31 (nI wr)) 34 (nI (lz + 1))) 35 (nI (dc + 1))) 44 (nI fd)) 49 (nI md)) 59 (nI bk)) 60 (nI pr)) 64 (nI at233)) 65 ne0) 66 (nI lk)) 67 (nI mf)) 68 (nI mm)) 15 (nI 0)) 64 (nI at233)) (updA (updA (stR (stR (stR (stR (stR (stR (stR B 26 dc 0) 25 dc (nI (at0 + 1))) 24 dc (nI v51)) 27 dc (-1)) 28 dc (-1)) 29 dc 0) 27 dc (nI lz)) 2 K) 2 K)) _ := hP
            have hD : va_D A (mW G h0 a (upd (upd (upd (upd (upd (upd (upd (upd (upd (upd (upd (upd (upd (upd (upd (upd (upd F 15 0) 16 pl28) 27 (nI nd)) 31 (nI wr)) 34 (nI (lz + 1))) 35 (nI (dc + 1))) 44 (nI fd)) 49 (nI md)) 59 (nI bk)) 60 (nI pr)) 64 (nI at233)) 65 ne0) 66 (nI lk)) 67 (nI mf)) 68 (nI mm)) 15 (nI 0)) 64 (nI at233)) (updA (updA (stR (stR (stR (stR (stR (stR (stR B 26 dc 0) 25 dc (nI (at0 + 1))) 24 dc (nI v51)) 27 dc (-1)) 28 dc (-1)) 29 dc 0) 27 dc (nI lz)) 2 K) 2 K)) := hD
            refine pc_V0 (G := G) (As := []) (rest := [.int (nI lz), .ref (a 22)]) hx hb hml hown hq hE hX pX0_al hP hD hS hA hl.1 (R_name l G h0 a (upd (upd (upd (upd (upd (upd (upd (upd (upd (upd (upd (upd (upd (upd (upd F 15 0) 16 pl28) 27 (nI nd)) 31 (nI wr)) 34 (nI (lz + 1))) 35 (nI (dc + 1))) 44 (nI fd)) 49 (nI md)) 59 (nI bk)) 60 (nI pr)) 64 (nI at233)) 65 ne0) 66 (nI lk)) 67 (nI mf)) 68 (nI mm)) (updA (stR (stR (stR (stR (stR (stR (stR B 26 dc 0) 25 dc (nI (at0 + 1))) 24 dc (nI v51)) 27 dc (-1)) 28 dc (-1)) 29 dc 0) 27 dc (nI lz)) 2 K) at233 T 0 K (by omega) (by omega) hK (by omega)) (gV pw_1618 pw_1619 pw_1620 pw_1523 pw_1613) hV_X12_name 0 9 rfl rfl rfl rfl (Nat.le_of_ble_eq_true rfl) dX12_declaration_197 ⟨Nat.le_of_ble_eq_true rfl, Nat.le_of_ble_eq_true rfl⟩ ⟨Nat.le_of_ble_eq_true rfl, Nat.le_of_ble_eq_true rfl⟩ (fun v382 u380 H locs hw381 hP hD hS => ?_)
            obtain ⟨at383, fa384, pl385⟩ := u380
            obtain ⟨hw381, h386, h387, h388, h389, h390, h391, h392, h393⟩ := hw381
            replace h386 : at233 ≤ at383 := h386
            replace h387 : at383 ≤ T := h387
            replace h388 : 0 ≤ fa384 := h388
            replace h389 : fa384 ≤ 100 := h389
            replace h390 : If (0 < 0) (at383 = at233 ∧ fa384 = 0) := h390
            replace h391 : at383 ≤ at233 + 1 := h391
            replace h392 : at233 + 1 ≤ at383 + fa384 := h392
            replace h393 : If (fa384 = 0) (K at233 = 1) := h393
            obtain rfl : v382 = some (.int (nI at233)) := hw381
            have hP : va_P G.1 pCl (mW G h0 a (upd (upd (upd (upd (upd (upd (upd (upd (upd (upd (upd (upd (upd (upd (upd F 15 (nI fa384)) 16 pl385) 27 (nI nd)) 31 (nI wr)) 34 (nI (lz + 1))) 35 (nI (dc + 1))) 44 (nI fd)) 49 (nI md)) 59 (nI bk)) 60 (nI pr)) 64 (nI at383)) 65 ne0) 66 (nI lk)) 67 (nI mf)) 68 (nI mm)) (updA (stR (stR (stR (stR (stR (stR (stR B 26 dc 0) 25 dc (nI (at0 + 1))) 24 dc (nI v51)) 27 dc (-1)) 28 dc (-1)) 29 dc 0) 27 dc (nI lz)) 2 K)) _ := hP
            have hD : va_D A (mW G h0 a (upd (upd (upd (upd (upd (upd (upd (upd (upd (upd (upd (upd (upd (upd (upd F 15 (nI fa384)) 16 pl385) 27 (nI nd)) 31 (nI wr)) 34 (nI (lz + 1))) 35 (nI (dc + 1))) 44 (nI fd)) 49 (nI md)) 59 (nI bk)) 60 (nI pr)) 64 (nI at383)) 65 ne0) 66 (nI lk)) 67 (nI mf)) 68 (nI mm)) (updA (stR (stR (stR (stR (stR (stR (stR B 26 dc 0) 25 dc (nI (at0 + 1))) 24 dc (nI v51)) 27 dc (-1)) 28 dc (-1)) 29 dc 0) 27 dc (nI lz)) 2 K)) := hD
            refine W.widen (k := 0) (n := 0) (Nat.le_of_ble_eq_true rfl) (Nat.le_of_ble_eq_true rfl) ?_
            refine W.eq (g2 := F0 m 200 ls [.int (nI at233), .int (nI lz), .ref (a 22)]) rfl ?_
            rcases Nat.eq_zero_or_pos fa384 with e394 | e394
            · subst e394
              have hP : va_P G.1 pCl (mW G h0 a (upd (upd (upd (upd (upd (upd (upd (upd (upd (upd (upd (upd (upd (upd (upd F 15 0) 16 pl385) 27 (nI nd)) 31 (nI wr)) 34 (nI (lz + 1))) 35 (nI (dc + 1))) 44 (nI fd)) 49 (nI md)) 59 (nI bk)) 60 (nI pr)) 64 (nI at383)) 65 ne0) 66 (nI lk)) 67 (nI mf)) 68 (nI mm)) (updA (stR (stR (stR (stR (stR (stR (stR B 26 dc 0) 25 dc (nI (at0 + 1))) 24 dc (nI v51)) 27 dc (-1)) 28 dc (-1)) 29 dc 0) 27 dc (nI lz)) 2 K)) _ := hP
              have hD : va_D A (mW G h0 a (upd (upd (upd (upd (upd (upd (upd (upd (upd (upd (upd (upd (upd (upd (upd F 15 0) 16 pl385) 27 (nI nd)) 31 (nI wr)) 34 (nI (lz + 1))) 35 (nI (dc + 1))) 44 (nI fd)) 49 (nI md)) 59 (nI bk)) 60 (nI pr)) 64 (nI at383)) 65 ne0) 66 (nI lk)) 67 (nI mf)) 68 (nI mm)) (updA (stR (stR (stR (stR (stR (stR (stR B 26 dc 0) 25 dc (nI (at0 + 1))) 24 dc (nI v51)) 27 dc (-1)) 28 dc (-1)) 29 dc 0) 27 dc (nI lz)) 2 K)) := hD
              refine r_sti (f := ((stR (stR (stR (stR (stR (stR (stR B 26 dc 0) 25 dc (nI (at0 + 1))) 24 dc (nI v51)) 27 dc (-1)) 28 dc (-1)) 29 dc 0) 27 dc (nI lz)) 22)) (j := lz) hx hb hE hP hD hS 22 (ma_22 G a _) rfl (mas_22 G a _) (by omega) (by decide) dX12_declaration_200 (fun H locs hP hD hS => ?_)
              have hP : va_P G.1 pCl (mW G h0 a (upd (upd (upd (upd (upd (upd (upd (upd (upd (upd (upd (upd (upd (upd (upd F 15 0) 16 pl385) 27 (nI nd)) 31 (nI wr)) 34 (nI (lz + 1))) 35 (nI (dc + 1))) 44 (nI fd)) 49 (nI md)) 59 (nI bk)) 60 (nI pr)) 64 (nI at383)) 65 ne0) 66 (nI lk)) 67 (nI mf)) 68 (nI mm)) (updA (stR (stR (stR (stR (stR (stR (stR (stR B 26 dc 0) 25 dc (nI (at0 + 1))) 24 dc (nI v51)) 27 dc (-1)) 28 dc (-1)) 29 dc 0) 27 dc (nI lz)) 22 lz (nI at233)) 2 K)) _ := hP
              have hD : va_D A (mW G h0 a (upd (upd (upd (upd (upd (upd (upd (upd (upd (upd (upd (upd (upd (upd (upd F 15 0) 16 pl385) 27 (nI nd)) 31 (nI wr)) 34 (nI (lz + 1))) 35 (nI (dc + 1))) 44 (nI fd)) 49 (nI md)) 59 (nI bk)) 60 (nI pr)) 64 (nI at383)) 65 ne0) 66 (nI lk)) 67 (nI mf)) 68 (nI mm)) (updA (stR (stR (stR (stR (stR (stR (stR (stR B 26 dc 0) 25 dc (nI (at0 + 1))) 24 dc (nI v51)) 27 dc (-1)) 28 dc (-1)) 29 dc 0) 27 dc (nI lz)) 22 lz (nI at233)) 2 K)) := hD
              have hkq395 : Kq 1 B (stR (stR (stR (stR (stR (stR (stR (stR B 26 dc 0) 25 dc (nI (at0 + 1))) 24 dc (nI v51)) 27 dc (-1)) 28 dc (-1)) 29 dc 0) 27 dc (nI lz)) 22 lz (nI at233)) := (Kq.st hkq364 (by omega))
              have hce396 : (stR (stR (stR (stR (stR (stR (stR (stR B 26 dc 0) 25 dc (nI (at0 + 1))) 24 dc (nI v51)) 27 dc (-1)) 28 dc (-1)) 29 dc 0) 27 dc (nI lz)) 22 lz (nI at233)) 26 dc = 0 := ((st_ne (by omega)).trans hce365)
              have hce397 : (stR (stR (stR (stR (stR (stR (stR (stR B 26 dc 0) 25 dc (nI (at0 + 1))) 24 dc (nI v51)) 27 dc (-1)) 28 dc (-1)) 29 dc 0) 27 dc (nI lz)) 22 lz (nI at233)) 25 dc = (nI (at0 + 1)) := ((st_ne (by omega)).trans hce366)
              have hce398 : (stR (stR (stR (stR (stR (stR (stR (stR B 26 dc 0) 25 dc (nI (at0 + 1))) 24 dc (nI v51)) 27 dc (-1)) 28 dc (-1)) 29 dc 0) 27 dc (nI lz)) 22 lz (nI at233)) 24 dc = (nI v51) := ((st_ne (by omega)).trans hce367)
              have hce399 : (stR (stR (stR (stR (stR (stR (stR (stR B 26 dc 0) 25 dc (nI (at0 + 1))) 24 dc (nI v51)) 27 dc (-1)) 28 dc (-1)) 29 dc 0) 27 dc (nI lz)) 22 lz (nI at233)) 27 dc = (nI lz) := ((st_ne (by omega)).trans hce368)
              have hce400 : (stR (stR (stR (stR (stR (stR (stR (stR B 26 dc 0) 25 dc (nI (at0 + 1))) 24 dc (nI v51)) 27 dc (-1)) 28 dc (-1)) 29 dc 0) 27 dc (nI lz)) 22 lz (nI at233)) 28 dc = (-1) := ((st_ne (by omega)).trans hce369)
              have hce401 : (stR (stR (stR (stR (stR (stR (stR (stR B 26 dc 0) 25 dc (nI (at0 + 1))) 24 dc (nI v51)) 27 dc (-1)) 28 dc (-1)) 29 dc 0) 27 dc (nI lz)) 22 lz (nI at233)) 29 dc = 0 := ((st_ne (by omega)).trans hce370)
              have hty402 : tkRow ((stR (stR (stR (stR (stR (stR (stR (stR B 26 dc 0) 25 dc (nI (at0 + 1))) 24 dc (nI v51)) 27 dc (-1)) 28 dc (-1)) 29 dc 0) 27 dc (nI lz)) 22 lz (nI at233)) 19) wr T := hty371
              have hps403 : PS T nm wr (lz + 1) dc fd md pr bk (stR (stR (stR (stR (stR (stR (stR (stR B 26 dc 0) 25 dc (nI (at0 + 1))) 24 dc (nI v51)) 27 dc (-1)) 28 dc (-1)) 29 dc 0) 27 dc (nI lz)) 22 lz (nI at233)) := (PS.same hps372 (by omega) (by omega) (fun r i q1 q2 q3 => st_ne (by omega)))
              have hfm404 : FrM K T wr (stR (stR (stR (stR (stR (stR (stR (stR B 26 dc 0) 25 dc (nI (at0 + 1))) 24 dc (nI v51)) 27 dc (-1)) 28 dc (-1)) 29 dc 0) 27 dc (nI lz)) 22 lz (nI at233)) nd md := (FrM.same hfm373 (by omega) (fun j i q1 q2 q3 => st_ne (by omega)) (fun i q => st_ne (by omega)))
              have hsn405 : Sng (stR (stR (stR (stR (stR (stR (stR (stR B 26 dc 0) 25 dc (nI (at0 + 1))) 24 dc (nI v51)) 27 dc (-1)) 28 dc (-1)) 29 dc 0) 27 dc (nI lz)) 22 lz (nI at233)) dc lz := (Sng.same hsn374 (by omega) (fun i q => st_ne (by omega)) (fun i q => st_ne (by omega)) (fun i q => st_ne (by omega)))
              have hlr406 : lsRow ((stR (stR (stR (stR (stR (stR (stR (stR B 26 dc 0) 25 dc (nI (at0 + 1))) 24 dc (nI v51)) 27 dc (-1)) 28 dc (-1)) 29 dc 0) 27 dc (nI lz)) 22 lz (nI at233)) 22) ((stR (stR (stR (stR (stR (stR (stR (stR B 26 dc 0) 25 dc (nI (at0 + 1))) 24 dc (nI v51)) 27 dc (-1)) 28 dc (-1)) 29 dc 0) 27 dc (nI lz)) 22 lz (nI at233)) 23) lz T := (lsRow_up1 hlr375)
              refine lv_aload_n hx hb dX12_declaration_201 rfl (lv_at hl 2 rfl) ?_
              refine r_get (v := .ref (a 23)) hx hb hown hq hE hP 33 81 tFX12_33 (by decide) pw_1454 rfl dX12_declaration_202 ?_
              refine lv_aload_n hx hb dX12_declaration_205 rfl (lv_at hl 2 rfl) ?_
              refine r_get (v := .ref (a 27)) hx hb hown hq hE hP 39 93 tFX12_39 (by decide) pw_1458 rfl dX12_declaration_206 ?_
              refine lv_iload_n hx hb dX12_declaration_209 rfl (lv_at hl 0 rfl) ?_
              refine r_ldi (f := ((stR (stR (stR (stR (stR (stR (stR (stR B 26 dc 0) 25 dc (nI (at0 + 1))) 24 dc (nI v51)) 27 dc (-1)) 28 dc (-1)) 29 dc 0) 27 dc (nI lz)) 22 lz (nI at233)) 27)) (j := dc) hx hb hE hP 27 (ma_27 G a _) rfl (by omega) (by decide) dX12_declaration_210 ?_
              refine lv_topi (fun x407 e408 => ?_)
              obtain rfl : x407 = (nI lz) := e408.trans hce399
              refine lv_iconst (v := (-1)) hx hb dX12_declaration_211 (by decide) ?_
              refine r_sti (f := ((stR (stR (stR (stR (stR (stR (stR (stR B 26 dc 0) 25 dc (nI (at0 + 1))) 24 dc (nI v51)) 27 dc (-1)) 28 dc (-1)) 29 dc 0) 27 dc (nI lz)) 22 lz (nI at233)) 23)) (j := lz) hx hb hE hP hD hS 23 (ma_23 G a _) rfl (mas_23 G a _) (by omega) (by decide) dX12_declaration_212 (fun H locs hP hD hS => ?_)
              have hP : va_P G.1 pCl (mW G h0 a (upd (upd (upd (upd (upd (upd (upd (upd (upd (upd (upd (upd (upd (upd (upd F 15 0) 16 pl385) 27 (nI nd)) 31 (nI wr)) 34 (nI (lz + 1))) 35 (nI (dc + 1))) 44 (nI fd)) 49 (nI md)) 59 (nI bk)) 60 (nI pr)) 64 (nI at383)) 65 ne0) 66 (nI lk)) 67 (nI mf)) 68 (nI mm)) (updA (stR (stR (stR (stR (stR (stR (stR (stR (stR B 26 dc 0) 25 dc (nI (at0 + 1))) 24 dc (nI v51)) 27 dc (-1)) 28 dc (-1)) 29 dc 0) 27 dc (nI lz)) 22 lz (nI at233)) 23 lz (-1)) 2 K)) _ := hP
              have hD : va_D A (mW G h0 a (upd (upd (upd (upd (upd (upd (upd (upd (upd (upd (upd (upd (upd (upd (upd F 15 0) 16 pl385) 27 (nI nd)) 31 (nI wr)) 34 (nI (lz + 1))) 35 (nI (dc + 1))) 44 (nI fd)) 49 (nI md)) 59 (nI bk)) 60 (nI pr)) 64 (nI at383)) 65 ne0) 66 (nI lk)) 67 (nI mf)) 68 (nI mm)) (updA (stR (stR (stR (stR (stR (stR (stR (stR (stR B 26 dc 0) 25 dc (nI (at0 + 1))) 24 dc (nI v51)) 27 dc (-1)) 28 dc (-1)) 29 dc 0) 27 dc (nI lz)) 22 lz (nI at233)) 23 lz (-1)) 2 K)) := hD
              have hkq409 : Kq 1 B (stR (stR (stR (stR (stR (stR (stR (stR (stR B 26 dc 0) 25 dc (nI (at0 + 1))) 24 dc (nI v51)) 27 dc (-1)) 28 dc (-1)) 29 dc 0) 27 dc (nI lz)) 22 lz (nI at233)) 23 lz (-1)) := (Kq.st hkq395 (by omega))
              have hce410 : (stR (stR (stR (stR (stR (stR (stR (stR (stR B 26 dc 0) 25 dc (nI (at0 + 1))) 24 dc (nI v51)) 27 dc (-1)) 28 dc (-1)) 29 dc 0) 27 dc (nI lz)) 22 lz (nI at233)) 23 lz (-1)) 26 dc = 0 := ((st_ne (by omega)).trans hce396)
              have hce411 : (stR (stR (stR (stR (stR (stR (stR (stR (stR B 26 dc 0) 25 dc (nI (at0 + 1))) 24 dc (nI v51)) 27 dc (-1)) 28 dc (-1)) 29 dc 0) 27 dc (nI lz)) 22 lz (nI at233)) 23 lz (-1)) 25 dc = (nI (at0 + 1)) := ((st_ne (by omega)).trans hce397)
              have hce412 : (stR (stR (stR (stR (stR (stR (stR (stR (stR B 26 dc 0) 25 dc (nI (at0 + 1))) 24 dc (nI v51)) 27 dc (-1)) 28 dc (-1)) 29 dc 0) 27 dc (nI lz)) 22 lz (nI at233)) 23 lz (-1)) 24 dc = (nI v51) := ((st_ne (by omega)).trans hce398)
              have hce413 : (stR (stR (stR (stR (stR (stR (stR (stR (stR B 26 dc 0) 25 dc (nI (at0 + 1))) 24 dc (nI v51)) 27 dc (-1)) 28 dc (-1)) 29 dc 0) 27 dc (nI lz)) 22 lz (nI at233)) 23 lz (-1)) 27 dc = (nI lz) := ((st_ne (by omega)).trans hce399)
              have hce414 : (stR (stR (stR (stR (stR (stR (stR (stR (stR B 26 dc 0) 25 dc (nI (at0 + 1))) 24 dc (nI v51)) 27 dc (-1)) 28 dc (-1)) 29 dc 0) 27 dc (nI lz)) 22 lz (nI at233)) 23 lz (-1)) 28 dc = (-1) := ((st_ne (by omega)).trans hce400)
              have hce415 : (stR (stR (stR (stR (stR (stR (stR (stR (stR B 26 dc 0) 25 dc (nI (at0 + 1))) 24 dc (nI v51)) 27 dc (-1)) 28 dc (-1)) 29 dc 0) 27 dc (nI lz)) 22 lz (nI at233)) 23 lz (-1)) 29 dc = 0 := ((st_ne (by omega)).trans hce401)
              have hty416 : tkRow ((stR (stR (stR (stR (stR (stR (stR (stR (stR B 26 dc 0) 25 dc (nI (at0 + 1))) 24 dc (nI v51)) 27 dc (-1)) 28 dc (-1)) 29 dc 0) 27 dc (nI lz)) 22 lz (nI at233)) 23 lz (-1)) 19) wr T := hty402
              have hps417 : PS T nm wr (lz + 1) dc fd md pr bk (stR (stR (stR (stR (stR (stR (stR (stR (stR B 26 dc 0) 25 dc (nI (at0 + 1))) 24 dc (nI v51)) 27 dc (-1)) 28 dc (-1)) 29 dc 0) 27 dc (nI lz)) 22 lz (nI at233)) 23 lz (-1)) := (PS.same hps403 (by omega) (by omega) (fun r i q1 q2 q3 => st_ne (by omega)))
              have hfm418 : FrM K T wr (stR (stR (stR (stR (stR (stR (stR (stR (stR B 26 dc 0) 25 dc (nI (at0 + 1))) 24 dc (nI v51)) 27 dc (-1)) 28 dc (-1)) 29 dc 0) 27 dc (nI lz)) 22 lz (nI at233)) 23 lz (-1)) nd md := (FrM.same hfm404 (by omega) (fun j i q1 q2 q3 => st_ne (by omega)) (fun i q => st_ne (by omega)))
              have hsn419 : Sng (stR (stR (stR (stR (stR (stR (stR (stR (stR B 26 dc 0) 25 dc (nI (at0 + 1))) 24 dc (nI v51)) 27 dc (-1)) 28 dc (-1)) 29 dc 0) 27 dc (nI lz)) 22 lz (nI at233)) 23 lz (-1)) dc lz := (Sng.same hsn405 (by omega) (fun i q => st_ne (by omega)) (fun i q => st_ne (by omega)) (fun i q => st_ne (by omega)))
              have hlr420 : lsRow ((stR (stR (stR (stR (stR (stR (stR (stR (stR B 26 dc 0) 25 dc (nI (at0 + 1))) 24 dc (nI v51)) 27 dc (-1)) 28 dc (-1)) 29 dc 0) 27 dc (nI lz)) 22 lz (nI at233)) 23 lz (-1)) 22) ((stR (stR (stR (stR (stR (stR (stR (stR (stR B 26 dc 0) 25 dc (nI (at0 + 1))) 24 dc (nI v51)) 27 dc (-1)) 28 dc (-1)) 29 dc 0) 27 dc (nI lz)) 22 lz (nI at233)) 23 lz (-1)) 23) (lz + 1) T := (lsRow_new hlr375 (by omega))
              have hce421 : (stR (stR (stR (stR (stR (stR (stR (stR (stR B 26 dc 0) 25 dc (nI (at0 + 1))) 24 dc (nI v51)) 27 dc (-1)) 28 dc (-1)) 29 dc 0) 27 dc (nI lz)) 22 lz (nI at233)) 23 lz (-1)) 23 lz = (-1) := st_eq
              refine lv_iload_n hx hb dX12_declaration_213 rfl (lv_at hl 1 rfl) ?_
              refine lv_if_ne (tgt := 237) hx hb dX12_declaration_214 (by decide) (fun c422 => absurd c422 (by decide)) (fun c422 => ?_)
              refine lv_aload_n hx hb dX12_declaration_217 rfl (lv_at hl 2 rfl) ?_
              refine lv_sipush (v := 322) hx hb dX12_declaration_218 (by decide) ?_
              have hP : va_P G.1 pCl (mW G h0 a (upd (upd (upd (upd (upd (upd (upd (upd (upd (upd (upd (upd (upd (upd (upd (upd (upd F 15 0) 16 pl385) 27 (nI nd)) 31 (nI wr)) 34 (nI (lz + 1))) 35 (nI (dc + 1))) 44 (nI fd)) 49 (nI md)) 59 (nI bk)) 60 (nI pr)) 64 (nI at383)) 65 ne0) 66 (nI lk)) 67 (nI mf)) 68 (nI mm)) 15 (nI 0)) 64 (nI at383)) (updA (updA (stR (stR (stR (stR (stR (stR (stR (stR (stR B 26 dc 0) 25 dc (nI (at0 + 1))) 24 dc (nI v51)) 27 dc (-1)) 28 dc (-1)) 29 dc 0) 27 dc (nI lz)) 22 lz (nI at233)) 23 lz (-1)) 2 K) 2 K)) _ := hP
              have hD : va_D A (mW G h0 a (upd (upd (upd (upd (upd (upd (upd (upd (upd (upd (upd (upd (upd (upd (upd (upd (upd F 15 0) 16 pl385) 27 (nI nd)) 31 (nI wr)) 34 (nI (lz + 1))) 35 (nI (dc + 1))) 44 (nI fd)) 49 (nI md)) 59 (nI bk)) 60 (nI pr)) 64 (nI at383)) 65 ne0) 66 (nI lk)) 67 (nI mf)) 68 (nI mm)) 15 (nI 0)) 64 (nI at383)) (updA (updA (stR (stR (stR (stR (stR (stR (stR (stR (stR B 26 dc 0) 25 dc (nI (at0 + 1))) 24 dc (nI v51)) 27 dc (-1)) 28 dc (-1)) 29 dc 0) 27 dc (nI lz)) 22 lz (nI at233)) 23 lz (-1)) 2 K) 2 K)) := hD
              refine pc_V0 (G := G) (As := [.int 322]) (rest := []) hx hb hml hown hq hE hX pX0_al hP hD hS hA hl.1 (R_may l G h0 a (upd (upd (upd (upd (upd (upd (upd (upd (upd (upd (upd (upd (upd (upd (upd F 15 0) 16 pl385) 27 (nI nd)) 31 (nI wr)) 34 (nI (lz + 1))) 35 (nI (dc + 1))) 44 (nI fd)) 49 (nI md)) 59 (nI bk)) 60 (nI pr)) 64 (nI at383)) 65 ne0) 66 (nI lk)) 67 (nI mf)) 68 (nI mm)) (updA (stR (stR (stR (stR (stR (stR (stR (stR (stR B 26 dc 0) 25 dc (nI (at0 + 1))) 24 dc (nI v51)) 27 dc (-1)) 28 dc (-1)) 29 dc 0) 27 dc (nI lz)) 22 lz (nI at233)) 23 lz (-1)) 2 K) at383 T 0 K 322 (by omega) (by omega) hK (by omega) (by decide) (by decide)) (gV pw_1621 pw_1622 pw_1623 pw_1523 pw_1605) hV_X12_may 0 9 rfl rfl rfl rfl (Nat.le_of_ble_eq_true rfl) dX12_declaration_221 ⟨Nat.le_of_ble_eq_true rfl, Nat.le_of_ble_eq_true rfl⟩ ⟨Nat.le_of_ble_eq_true rfl, Nat.le_of_ble_eq_true rfl⟩ (fun v425 u423 H locs hw424 hP hD hS => ?_)
              obtain ⟨at426, r427⟩ := u423
              obtain ⟨hw424, h428, h429, h430, h431, h432, h433⟩ := hw424
              replace h428 : r427 ≤ 1 := h428
              replace h429 : 0 + 100 * r427 ≤ 100 := h429
              replace h430 : at426 = at383 + r427 := h430
              replace h431 : at426 ≤ T := h431
              replace h432 : If (r427 = 1) (K at383 = 322) := h432
              replace h433 : If (r427 = 0) (0 = 0 → ¬ K at383 = 322) := h433
              obtain rfl : v425 = some (.int (nI r427)) := hw424
              have hP : va_P G.1 pCl (mW G h0 a (upd (upd (upd (upd (upd (upd (upd (upd (upd (upd (upd (upd (upd (upd (upd F 15 0) 16 pl385) 27 (nI nd)) 31 (nI wr)) 34 (nI (lz + 1))) 35 (nI (dc + 1))) 44 (nI fd)) 49 (nI md)) 59 (nI bk)) 60 (nI pr)) 64 (nI at426)) 65 ne0) 66 (nI lk)) 67 (nI mf)) 68 (nI mm)) (updA (stR (stR (stR (stR (stR (stR (stR (stR (stR B 26 dc 0) 25 dc (nI (at0 + 1))) 24 dc (nI v51)) 27 dc (-1)) 28 dc (-1)) 29 dc 0) 27 dc (nI lz)) 22 lz (nI at233)) 23 lz (-1)) 2 K)) _ := hP
              have hD : va_D A (mW G h0 a (upd (upd (upd (upd (upd (upd (upd (upd (upd (upd (upd (upd (upd (upd (upd F 15 0) 16 pl385) 27 (nI nd)) 31 (nI wr)) 34 (nI (lz + 1))) 35 (nI (dc + 1))) 44 (nI fd)) 49 (nI md)) 59 (nI bk)) 60 (nI pr)) 64 (nI at426)) 65 ne0) 66 (nI lk)) 67 (nI mf)) 68 (nI mm)) (updA (stR (stR (stR (stR (stR (stR (stR (stR (stR B 26 dc 0) 25 dc (nI (at0 + 1))) 24 dc (nI v51)) 27 dc (-1)) 28 dc (-1)) 29 dc 0) 27 dc (nI lz)) 22 lz (nI at233)) 23 lz (-1)) 2 K)) := hD
              refine W.widen (k := 0) (n := 0) (Nat.le_of_ble_eq_true rfl) (Nat.le_of_ble_eq_true rfl) ?_
              refine W.eq (g2 := F0 m 224 ls [.int (nI r427)]) rfl ?_
              refine lv_if_eq (tgt := 237) hx hb dX12_declaration_224 (by decide) (fun c434 => ?_) (fun c434 => ?_)
              · have n435 : r427 = 0 := (nI_eq (a := r427) (b := 0) (by omega) (by omega)).mp c434
                have hP : va_P G.1 pCl (mW G h0 a (upd (upd (upd (upd (upd (upd (upd (upd (upd (upd (upd (upd (upd (upd (upd F 15 0) 16 pl385) 27 (nI nd)) 31 (nI wr)) 34 (nI (lz + 1))) 35 (nI (dc + 1))) 44 (nI fd)) 49 (nI md)) 59 (nI bk)) 60 (nI pr)) 64 (nI at426)) 65 ne0) 66 (nI lk)) 67 (nI mf)) 68 (nI mm)) (updA (stR (stR (stR (stR (stR (stR (stR (stR (stR B 26 dc 0) 25 dc (nI (at0 + 1))) 24 dc (nI v51)) 27 dc (-1)) 28 dc (-1)) 29 dc 0) 27 dc (nI lz)) 22 lz (nI at233)) 23 lz (-1)) 2 K)) _ := hP
                have hD : va_D A (mW G h0 a (upd (upd (upd (upd (upd (upd (upd (upd (upd (upd (upd (upd (upd (upd (upd F 15 0) 16 pl385) 27 (nI nd)) 31 (nI wr)) 34 (nI (lz + 1))) 35 (nI (dc + 1))) 44 (nI fd)) 49 (nI md)) 59 (nI bk)) 60 (nI pr)) 64 (nI at426)) 65 ne0) 66 (nI lk)) 67 (nI mf)) 68 (nI mm)) (updA (stR (stR (stR (stR (stR (stR (stR (stR (stR B 26 dc 0) 25 dc (nI (at0 + 1))) 24 dc (nI v51)) 27 dc (-1)) 28 dc (-1)) 29 dc 0) 27 dc (nI lz)) 22 lz (nI at233)) 23 lz (-1)) 2 K)) := hD
                exact cut_j at426 (lz + 1) pl385 (stR (stR (stR (stR (stR (stR (stR (stR (stR B 26 dc 0) 25 dc (nI (at0 + 1))) 24 dc (nI v51)) 27 dc (-1)) 28 dc (-1)) 29 dc 0) 27 dc (nI lz)) 22 lz (nI at233)) 23 lz (-1)) _ _ _ (by omega) (by omega) (by omega) hkq409 (PS.dec hps417 (by omega) hce411 (by omega) hce412 (by omega) hce410 (Or.inl rfl) hce413 (Or.inr ⟨lz, rfl, by omega⟩) hce414 (Or.inl rfl)) hfm418 hty416 hlr420 (Sng.dec (Sng.same hsn419 (ls' := (lz + 1)) (by omega) (fun i q => rfl) (fun i q => rfl) (fun i q => rfl)) hce410 hce413 (fun _ => Or.inr ⟨lz, rfl, by omega, hce421⟩)) hP hD hS (lv_sub hl [0, 2] rfl)
              · have n436 : ¬ (r427 = 0) := fun h9 => c434 ((nI_eq (a := r427) (b := 0) (by omega) (by omega)).mpr h9)
                refine lv_aload_n hx hb dX12_declaration_227 rfl (lv_at hl 2 rfl) ?_
                refine r_get (v := .ref (a 28)) hx hb hown hq hE hP 40 96 tFX12_40 (by decide) pw_1459 rfl dX12_declaration_228 ?_
                refine lv_iload_n hx hb dX12_declaration_231 rfl (lv_at hl 0 rfl) ?_
                refine lv_aload_n hx hb dX12_declaration_232 rfl (lv_at hl 2 rfl) ?_
                have hP : va_P G.1 pCl (mW G h0 a (upd (upd (upd (upd (upd (upd (upd (upd (upd (upd (upd (upd (upd (upd (upd (upd (upd (upd F 15 0) 16 pl385) 27 (nI nd)) 31 (nI wr)) 34 (nI (lz + 1))) 35 (nI (dc + 1))) 44 (nI fd)) 49 (nI md)) 59 (nI bk)) 60 (nI pr)) 64 (nI at426)) 65 ne0) 66 (nI lk)) 67 (nI mf)) 68 (nI mm)) 15 (nI 0)) 34 (nI (lz + 1))) 64 (nI at426)) (updA (updA (updA (updA (stR (stR (stR (stR (stR (stR (stR (stR (stR B 26 dc 0) 25 dc (nI (at0 + 1))) 24 dc (nI v51)) 27 dc (-1)) 28 dc (-1)) 29 dc 0) 27 dc (nI lz)) 22 lz (nI at233)) 23 lz (-1)) 2 K) 2 K) 22 ((stR (stR (stR (stR (stR (stR (stR (stR (stR B 26 dc 0) 25 dc (nI (at0 + 1))) 24 dc (nI v51)) 27 dc (-1)) 28 dc (-1)) 29 dc 0) 27 dc (nI lz)) 22 lz (nI at233)) 23 lz (-1)) 22)) 23 ((stR (stR (stR (stR (stR (stR (stR (stR (stR B 26 dc 0) 25 dc (nI (at0 + 1))) 24 dc (nI v51)) 27 dc (-1)) 28 dc (-1)) 29 dc 0) 27 dc (nI lz)) 22 lz (nI at233)) 23 lz (-1)) 23))) _ := hP
                have hD : va_D A (mW G h0 a (upd (upd (upd (upd (upd (upd (upd (upd (upd (upd (upd (upd (upd (upd (upd (upd (upd (upd F 15 0) 16 pl385) 27 (nI nd)) 31 (nI wr)) 34 (nI (lz + 1))) 35 (nI (dc + 1))) 44 (nI fd)) 49 (nI md)) 59 (nI bk)) 60 (nI pr)) 64 (nI at426)) 65 ne0) 66 (nI lk)) 67 (nI mf)) 68 (nI mm)) 15 (nI 0)) 34 (nI (lz + 1))) 64 (nI at426)) (updA (updA (updA (updA (stR (stR (stR (stR (stR (stR (stR (stR (stR B 26 dc 0) 25 dc (nI (at0 + 1))) 24 dc (nI v51)) 27 dc (-1)) 28 dc (-1)) 29 dc 0) 27 dc (nI lz)) 22 lz (nI at233)) 23 lz (-1)) 2 K) 2 K) 22 ((stR (stR (stR (stR (stR (stR (stR (stR (stR B 26 dc 0) 25 dc (nI (at0 + 1))) 24 dc (nI v51)) 27 dc (-1)) 28 dc (-1)) 29 dc 0) 27 dc (nI lz)) 22 lz (nI at233)) 23 lz (-1)) 22)) 23 ((stR (stR (stR (stR (stR (stR (stR (stR (stR B 26 dc 0) 25 dc (nI (at0 + 1))) 24 dc (nI v51)) 27 dc (-1)) 28 dc (-1)) 29 dc 0) 27 dc (nI lz)) 22 lz (nI at233)) 23 lz (-1)) 23))) := hD
                refine pc_V0 (G := G) (As := []) (rest := [.int (nI dc), .ref (a 28)]) hx hb hml hown hq hE hX pX0_al hP hD hS hA hl.1 (R_listOfNamesN l G h0 a (upd (upd (upd (upd (upd (upd (upd (upd (upd (upd (upd (upd (upd (upd (upd F 15 0) 16 pl385) 27 (nI nd)) 31 (nI wr)) 34 (nI (lz + 1))) 35 (nI (dc + 1))) 44 (nI fd)) 49 (nI md)) 59 (nI bk)) 60 (nI pr)) 64 (nI at426)) 65 ne0) 66 (nI lk)) 67 (nI mf)) 68 (nI mm)) (updA (stR (stR (stR (stR (stR (stR (stR (stR (stR B 26 dc 0) 25 dc (nI (at0 + 1))) 24 dc (nI v51)) 27 dc (-1)) 28 dc (-1)) 29 dc 0) 27 dc (nI lz)) 22 lz (nI at233)) 23 lz (-1)) 2 K) at426 T 0 K (lz + 1) ((stR (stR (stR (stR (stR (stR (stR (stR (stR B 26 dc 0) 25 dc (nI (at0 + 1))) 24 dc (nI v51)) 27 dc (-1)) 28 dc (-1)) 29 dc 0) 27 dc (nI lz)) 22 lz (nI at233)) 23 lz (-1)) 22) ((stR (stR (stR (stR (stR (stR (stR (stR (stR B 26 dc 0) 25 dc (nI (at0 + 1))) 24 dc (nI v51)) 27 dc (-1)) 28 dc (-1)) 29 dc 0) 27 dc (nI lz)) 22 lz (nI at233)) 23 lz (-1)) 23) (by omega) (by omega) hK (by omega) (by omega) hlr420) (gV pw_1733 pw_1734 pw_1735 pw_1523 pw_1624) hV_X12_listOfNames 0 9 rfl rfl rfl rfl (Nat.le_of_ble_eq_true rfl) dX12_declaration_233 ⟨Nat.le_of_ble_eq_true rfl, Nat.le_of_ble_eq_true rfl⟩ ⟨Nat.le_of_ble_eq_true rfl, Nat.le_of_ble_eq_true rfl⟩ (fun v439 u437 H locs hw438 hP hD hS => ?_)
                obtain ⟨at440, fa441, pl442, ls443, lt444, ln445, r446⟩ := u437
                obtain ⟨hw438, h447, h448, h449, h450, h451, h452, h453, h454, h455, h456, h457, h458⟩ := hw438
                replace h447 : at426 ≤ at440 := h447
                replace h448 : at440 ≤ T := h448
                replace h449 : 0 ≤ fa441 := h449
                replace h450 : fa441 ≤ 100 := h450
                replace h451 : If (0 < 0) (at440 = at426 ∧ fa441 = 0) := h451
                replace h452 : (lz + 1) ≤ ls443 := h452
                replace h453 : ls443 + at426 ≤ (lz + 1) + at440 + fa441 := h453
                replace h454 : ls443 + at426 ≤ (lz + 1) + at440 + 1 := h454
                replace h455 : lsRow lt444 ln445 ls443 T := h455
                replace h456 : r446 = -1 ∨ ∃ p : Nat, p < ls443 ∧ r446 = nI p := h456
                replace h457 : If (0 < 0) (ls443 = (lz + 1)) := h457
                replace h458 : ∀ i : Nat, i < (lz + 1) → ln445 i = ((stR (stR (stR (stR (stR (stR (stR (stR (stR B 26 dc 0) 25 dc (nI (at0 + 1))) 24 dc (nI v51)) 27 dc (-1)) 28 dc (-1)) 29 dc 0) 27 dc (nI lz)) 22 lz (nI at233)) 23 lz (-1)) 23) i := h458
                obtain rfl : v439 = some (.int r446) := hw438
                have hP : va_P G.1 pCl (mW G h0 a (upd (upd (upd (upd (upd (upd (upd (upd (upd (upd (upd (upd (upd (upd (upd F 15 (nI fa441)) 16 pl442) 27 (nI nd)) 31 (nI wr)) 34 (nI ls443)) 35 (nI (dc + 1))) 44 (nI fd)) 49 (nI md)) 59 (nI bk)) 60 (nI pr)) 64 (nI at440)) 65 ne0) 66 (nI lk)) 67 (nI mf)) 68 (nI mm)) (updA (updA (updA (stR (stR (stR (stR (stR (stR (stR (stR (stR B 26 dc 0) 25 dc (nI (at0 + 1))) 24 dc (nI v51)) 27 dc (-1)) 28 dc (-1)) 29 dc 0) 27 dc (nI lz)) 22 lz (nI at233)) 23 lz (-1)) 2 K) 22 lt444) 23 ln445)) _ := hP
                have hD : va_D A (mW G h0 a (upd (upd (upd (upd (upd (upd (upd (upd (upd (upd (upd (upd (upd (upd (upd F 15 (nI fa441)) 16 pl442) 27 (nI nd)) 31 (nI wr)) 34 (nI ls443)) 35 (nI (dc + 1))) 44 (nI fd)) 49 (nI md)) 59 (nI bk)) 60 (nI pr)) 64 (nI at440)) 65 ne0) 66 (nI lk)) 67 (nI mf)) 68 (nI mm)) (updA (updA (updA (stR (stR (stR (stR (stR (stR (stR (stR (stR B 26 dc 0) 25 dc (nI (at0 + 1))) 24 dc (nI v51)) 27 dc (-1)) 28 dc (-1)) 29 dc 0) 27 dc (nI lz)) 22 lz (nI at233)) 23 lz (-1)) 2 K) 22 lt444) 23 ln445)) := hD
                refine W.widen (k := 0) (n := 0) (Nat.le_of_ble_eq_true rfl) (Nat.le_of_ble_eq_true rfl) ?_
                refine W.eq (g2 := F0 m 236 ls [.int r446, .int (nI dc), .ref (a 28)]) rfl ?_
                have hP : va_P G.1 pCl (mW G h0 a (upd (upd (upd (upd (upd (upd (upd (upd (upd (upd (upd (upd (upd (upd (upd F 15 (nI fa441)) 16 pl442) 27 (nI nd)) 31 (nI wr)) 34 (nI ls443)) 35 (nI (dc + 1))) 44 (nI fd)) 49 (nI md)) 59 (nI bk)) 60 (nI pr)) 64 (nI at440)) 65 ne0) 66 (nI lk)) 67 (nI mf)) 68 (nI mm)) (updA (updA (updA (stR (stR (stR (stR (stR (stR (stR (stR (stR B 26 dc 0) 25 dc (nI (at0 + 1))) 24 dc (nI v51)) 27 dc (-1)) 28 dc (-1)) 29 dc 0) 27 dc (nI lz)) 22 lz (nI at233)) 23 lz (-1)) 22 lt444) 23 ln445) 2 K)) _ := hP
                have hD : va_D A (mW G h0 a (upd (upd (upd (upd (upd (upd (upd (upd (upd (upd (upd (upd (upd (upd (upd F 15 (nI fa441)) 16 pl442) 27 (nI nd)) 31 (nI wr)) 34 (nI ls443)) 35 (nI (dc + 1))) 44 (nI fd)) 49 (nI md)) 59 (nI bk)) 60 (nI pr)) 64 (nI at440)) 65 ne0) 66 (nI lk)) 67 (nI mf)) 68 (nI mm)) (updA (updA (updA (stR (stR (stR (stR (stR (stR (stR (stR (stR B 26 dc 0) 25 dc (nI (at0 + 1))) 24 dc (nI v51)) 27 dc (-1)) 28 dc (-1)) 29 dc 0) 27 dc (nI lz)) 22 lz (nI at233)) 23 lz (-1)) 22 lt444) 23 ln445) 2 K)) := hD
                rcases Nat.eq_zero_or_pos fa441 with e459 | e459
                · subst e459
                  have hP : va_P G.1 pCl (mW G h0 a (upd (upd (upd (upd (upd (upd (upd (upd (upd (upd (upd (upd (upd (upd (upd F 15 0) 16 pl442) 27 (nI nd)) 31 (nI wr)) 34 (nI ls443)) 35 (nI (dc + 1))) 44 (nI fd)) 49 (nI md)) 59 (nI bk)) 60 (nI pr)) 64 (nI at440)) 65 ne0) 66 (nI lk)) 67 (nI mf)) 68 (nI mm)) (updA (updA (updA (stR (stR (stR (stR (stR (stR (stR (stR (stR B 26 dc 0) 25 dc (nI (at0 + 1))) 24 dc (nI v51)) 27 dc (-1)) 28 dc (-1)) 29 dc 0) 27 dc (nI lz)) 22 lz (nI at233)) 23 lz (-1)) 22 lt444) 23 ln445) 2 K)) _ := hP
                  have hD : va_D A (mW G h0 a (upd (upd (upd (upd (upd (upd (upd (upd (upd (upd (upd (upd (upd (upd (upd F 15 0) 16 pl442) 27 (nI nd)) 31 (nI wr)) 34 (nI ls443)) 35 (nI (dc + 1))) 44 (nI fd)) 49 (nI md)) 59 (nI bk)) 60 (nI pr)) 64 (nI at440)) 65 ne0) 66 (nI lk)) 67 (nI mf)) 68 (nI mm)) (updA (updA (updA (stR (stR (stR (stR (stR (stR (stR (stR (stR B 26 dc 0) 25 dc (nI (at0 + 1))) 24 dc (nI v51)) 27 dc (-1)) 28 dc (-1)) 29 dc 0) 27 dc (nI lz)) 22 lz (nI at233)) 23 lz (-1)) 22 lt444) 23 ln445) 2 K)) := hD
                  have hkq460 : Kq 1 B (updA (updA (stR (stR (stR (stR (stR (stR (stR (stR (stR B 26 dc 0) 25 dc (nI (at0 + 1))) 24 dc (nI v51)) 27 dc (-1)) 28 dc (-1)) 29 dc 0) 27 dc (nI lz)) 22 lz (nI at233)) 23 lz (-1)) 22 lt444) 23 ln445) := (Kq.row (Kq.row hkq409 (by omega)) (by omega))
                  have hce461 : (updA (updA (stR (stR (stR (stR (stR (stR (stR (stR (stR B 26 dc 0) 25 dc (nI (at0 + 1))) 24 dc (nI v51)) 27 dc (-1)) 28 dc (-1)) 29 dc 0) 27 dc (nI lz)) 22 lz (nI at233)) 23 lz (-1)) 22 lt444) 23 ln445) 26 dc = 0 := hce410
                  have hce462 : (updA (updA (stR (stR (stR (stR (stR (stR (stR (stR (stR B 26 dc 0) 25 dc (nI (at0 + 1))) 24 dc (nI v51)) 27 dc (-1)) 28 dc (-1)) 29 dc 0) 27 dc (nI lz)) 22 lz (nI at233)) 23 lz (-1)) 22 lt444) 23 ln445) 25 dc = (nI (at0 + 1)) := hce411
                  have hce463 : (updA (updA (stR (stR (stR (stR (stR (stR (stR (stR (stR B 26 dc 0) 25 dc (nI (at0 + 1))) 24 dc (nI v51)) 27 dc (-1)) 28 dc (-1)) 29 dc 0) 27 dc (nI lz)) 22 lz (nI at233)) 23 lz (-1)) 22 lt444) 23 ln445) 24 dc = (nI v51) := hce412
                  have hce464 : (updA (updA (stR (stR (stR (stR (stR (stR (stR (stR (stR B 26 dc 0) 25 dc (nI (at0 + 1))) 24 dc (nI v51)) 27 dc (-1)) 28 dc (-1)) 29 dc 0) 27 dc (nI lz)) 22 lz (nI at233)) 23 lz (-1)) 22 lt444) 23 ln445) 27 dc = (nI lz) := hce413
                  have hce465 : (updA (updA (stR (stR (stR (stR (stR (stR (stR (stR (stR B 26 dc 0) 25 dc (nI (at0 + 1))) 24 dc (nI v51)) 27 dc (-1)) 28 dc (-1)) 29 dc 0) 27 dc (nI lz)) 22 lz (nI at233)) 23 lz (-1)) 22 lt444) 23 ln445) 28 dc = (-1) := hce414
                  have hce466 : (updA (updA (stR (stR (stR (stR (stR (stR (stR (stR (stR B 26 dc 0) 25 dc (nI (at0 + 1))) 24 dc (nI v51)) 27 dc (-1)) 28 dc (-1)) 29 dc 0) 27 dc (nI lz)) 22 lz (nI at233)) 23 lz (-1)) 22 lt444) 23 ln445) 29 dc = 0 := hce415
                  have hce467 : (updA (updA (stR (stR (stR (stR (stR (stR (stR (stR (stR B 26 dc 0) 25 dc (nI (at0 + 1))) 24 dc (nI v51)) 27 dc (-1)) 28 dc (-1)) 29 dc 0) 27 dc (nI lz)) 22 lz (nI at233)) 23 lz (-1)) 22 lt444) 23 ln445) 23 lz = (-1) := ((h458 lz (by omega)).trans hce421)
                  have hty468 : tkRow ((updA (updA (stR (stR (stR (stR (stR (stR (stR (stR (stR B 26 dc 0) 25 dc (nI (at0 + 1))) 24 dc (nI v51)) 27 dc (-1)) 28 dc (-1)) 29 dc 0) 27 dc (nI lz)) 22 lz (nI at233)) 23 lz (-1)) 22 lt444) 23 ln445) 19) wr T := hty416
                  have hps469 : PS T nm wr ls443 dc fd md pr bk (updA (updA (stR (stR (stR (stR (stR (stR (stR (stR (stR B 26 dc 0) 25 dc (nI (at0 + 1))) 24 dc (nI v51)) 27 dc (-1)) 28 dc (-1)) 29 dc 0) 27 dc (nI lz)) 22 lz (nI at233)) 23 lz (-1)) 22 lt444) 23 ln445) := (PS.same hps417 (by omega) (by omega) (fun r i q1 q2 q3 => by unfold updA; rw [if_neg (by omega), if_neg (by omega)]))
                  have hfm470 : FrM K T wr (updA (updA (stR (stR (stR (stR (stR (stR (stR (stR (stR B 26 dc 0) 25 dc (nI (at0 + 1))) 24 dc (nI v51)) 27 dc (-1)) 28 dc (-1)) 29 dc 0) 27 dc (nI lz)) 22 lz (nI at233)) 23 lz (-1)) 22 lt444) 23 ln445) nd md := (FrM.same hfm418 (by omega) (fun j i q1 q2 q3 => by unfold updA; rw [if_neg (by omega), if_neg (by omega)]) (fun i q => rfl))
                  have hsn471 : Sng (updA (updA (stR (stR (stR (stR (stR (stR (stR (stR (stR B 26 dc 0) 25 dc (nI (at0 + 1))) 24 dc (nI v51)) 27 dc (-1)) 28 dc (-1)) 29 dc 0) 27 dc (nI lz)) 22 lz (nI at233)) 23 lz (-1)) 22 lt444) 23 ln445) dc lz := (Sng.same hsn419 (by omega) (fun i q => rfl) (fun i q => rfl) (fun i q => h458 i (by omega)))
                  have hlr472 : lsRow ((updA (updA (stR (stR (stR (stR (stR (stR (stR (stR (stR B 26 dc 0) 25 dc (nI (at0 + 1))) 24 dc (nI v51)) 27 dc (-1)) 28 dc (-1)) 29 dc 0) 27 dc (nI lz)) 22 lz (nI at233)) 23 lz (-1)) 22 lt444) 23 ln445) 22) ((updA (updA (stR (stR (stR (stR (stR (stR (stR (stR (stR B 26 dc 0) 25 dc (nI (at0 + 1))) 24 dc (nI v51)) 27 dc (-1)) 28 dc (-1)) 29 dc 0) 27 dc (nI lz)) 22 lz (nI at233)) 23 lz (-1)) 22 lt444) 23 ln445) 23) ls443 T := h455
                  refine r_sti (f := ((updA (updA (stR (stR (stR (stR (stR (stR (stR (stR (stR B 26 dc 0) 25 dc (nI (at0 + 1))) 24 dc (nI v51)) 27 dc (-1)) 28 dc (-1)) 29 dc 0) 27 dc (nI lz)) 22 lz (nI at233)) 23 lz (-1)) 22 lt444) 23 ln445) 28)) (j := dc) hx hb hE hP hD hS 28 (ma_28 G a _) rfl (mas_28 G a _) (by omega) (by decide) dX12_declaration_236 (fun H locs hP hD hS => ?_)
                  have hP : va_P G.1 pCl (mW G h0 a (upd (upd (upd (upd (upd (upd (upd (upd (upd (upd (upd (upd (upd (upd (upd F 15 0) 16 pl442) 27 (nI nd)) 31 (nI wr)) 34 (nI ls443)) 35 (nI (dc + 1))) 44 (nI fd)) 49 (nI md)) 59 (nI bk)) 60 (nI pr)) 64 (nI at440)) 65 ne0) 66 (nI lk)) 67 (nI mf)) 68 (nI mm)) (updA (stR (updA (updA (stR (stR (stR (stR (stR (stR (stR (stR (stR B 26 dc 0) 25 dc (nI (at0 + 1))) 24 dc (nI v51)) 27 dc (-1)) 28 dc (-1)) 29 dc 0) 27 dc (nI lz)) 22 lz (nI at233)) 23 lz (-1)) 22 lt444) 23 ln445) 28 dc r446) 2 K)) _ := hP
                  have hD : va_D A (mW G h0 a (upd (upd (upd (upd (upd (upd (upd (upd (upd (upd (upd (upd (upd (upd (upd F 15 0) 16 pl442) 27 (nI nd)) 31 (nI wr)) 34 (nI ls443)) 35 (nI (dc + 1))) 44 (nI fd)) 49 (nI md)) 59 (nI bk)) 60 (nI pr)) 64 (nI at440)) 65 ne0) 66 (nI lk)) 67 (nI mf)) 68 (nI mm)) (updA (stR (updA (updA (stR (stR (stR (stR (stR (stR (stR (stR (stR B 26 dc 0) 25 dc (nI (at0 + 1))) 24 dc (nI v51)) 27 dc (-1)) 28 dc (-1)) 29 dc 0) 27 dc (nI lz)) 22 lz (nI at233)) 23 lz (-1)) 22 lt444) 23 ln445) 28 dc r446) 2 K)) := hD
                  have hkq473 : Kq 1 B (stR (updA (updA (stR (stR (stR (stR (stR (stR (stR (stR (stR B 26 dc 0) 25 dc (nI (at0 + 1))) 24 dc (nI v51)) 27 dc (-1)) 28 dc (-1)) 29 dc 0) 27 dc (nI lz)) 22 lz (nI at233)) 23 lz (-1)) 22 lt444) 23 ln445) 28 dc r446) := (Kq.st hkq460 (by omega))
                  have hce474 : (stR (updA (updA (stR (stR (stR (stR (stR (stR (stR (stR (stR B 26 dc 0) 25 dc (nI (at0 + 1))) 24 dc (nI v51)) 27 dc (-1)) 28 dc (-1)) 29 dc 0) 27 dc (nI lz)) 22 lz (nI at233)) 23 lz (-1)) 22 lt444) 23 ln445) 28 dc r446) 26 dc = 0 := ((st_ne (by omega)).trans hce461)
                  have hce475 : (stR (updA (updA (stR (stR (stR (stR (stR (stR (stR (stR (stR B 26 dc 0) 25 dc (nI (at0 + 1))) 24 dc (nI v51)) 27 dc (-1)) 28 dc (-1)) 29 dc 0) 27 dc (nI lz)) 22 lz (nI at233)) 23 lz (-1)) 22 lt444) 23 ln445) 28 dc r446) 25 dc = (nI (at0 + 1)) := ((st_ne (by omega)).trans hce462)
                  have hce476 : (stR (updA (updA (stR (stR (stR (stR (stR (stR (stR (stR (stR B 26 dc 0) 25 dc (nI (at0 + 1))) 24 dc (nI v51)) 27 dc (-1)) 28 dc (-1)) 29 dc 0) 27 dc (nI lz)) 22 lz (nI at233)) 23 lz (-1)) 22 lt444) 23 ln445) 28 dc r446) 24 dc = (nI v51) := ((st_ne (by omega)).trans hce463)
                  have hce477 : (stR (updA (updA (stR (stR (stR (stR (stR (stR (stR (stR (stR B 26 dc 0) 25 dc (nI (at0 + 1))) 24 dc (nI v51)) 27 dc (-1)) 28 dc (-1)) 29 dc 0) 27 dc (nI lz)) 22 lz (nI at233)) 23 lz (-1)) 22 lt444) 23 ln445) 28 dc r446) 27 dc = (nI lz) := ((st_ne (by omega)).trans hce464)
                  have hce478 : (stR (updA (updA (stR (stR (stR (stR (stR (stR (stR (stR (stR B 26 dc 0) 25 dc (nI (at0 + 1))) 24 dc (nI v51)) 27 dc (-1)) 28 dc (-1)) 29 dc 0) 27 dc (nI lz)) 22 lz (nI at233)) 23 lz (-1)) 22 lt444) 23 ln445) 28 dc r446) 28 dc = r446 := st_eq
                  have hce479 : (stR (updA (updA (stR (stR (stR (stR (stR (stR (stR (stR (stR B 26 dc 0) 25 dc (nI (at0 + 1))) 24 dc (nI v51)) 27 dc (-1)) 28 dc (-1)) 29 dc 0) 27 dc (nI lz)) 22 lz (nI at233)) 23 lz (-1)) 22 lt444) 23 ln445) 28 dc r446) 29 dc = 0 := ((st_ne (by omega)).trans hce466)
                  have hce480 : (stR (updA (updA (stR (stR (stR (stR (stR (stR (stR (stR (stR B 26 dc 0) 25 dc (nI (at0 + 1))) 24 dc (nI v51)) 27 dc (-1)) 28 dc (-1)) 29 dc 0) 27 dc (nI lz)) 22 lz (nI at233)) 23 lz (-1)) 22 lt444) 23 ln445) 28 dc r446) 23 lz = (-1) := ((st_ne (by omega)).trans hce467)
                  have hty481 : tkRow ((stR (updA (updA (stR (stR (stR (stR (stR (stR (stR (stR (stR B 26 dc 0) 25 dc (nI (at0 + 1))) 24 dc (nI v51)) 27 dc (-1)) 28 dc (-1)) 29 dc 0) 27 dc (nI lz)) 22 lz (nI at233)) 23 lz (-1)) 22 lt444) 23 ln445) 28 dc r446) 19) wr T := hty468
                  have hps482 : PS T nm wr ls443 dc fd md pr bk (stR (updA (updA (stR (stR (stR (stR (stR (stR (stR (stR (stR B 26 dc 0) 25 dc (nI (at0 + 1))) 24 dc (nI v51)) 27 dc (-1)) 28 dc (-1)) 29 dc 0) 27 dc (nI lz)) 22 lz (nI at233)) 23 lz (-1)) 22 lt444) 23 ln445) 28 dc r446) := (PS.same hps469 (by omega) (by omega) (fun r i q1 q2 q3 => st_ne (fun e => by rw [e.1, e.2] at q3; exact absurd (show dc < dc from q3) (by omega))))
                  have hfm483 : FrM K T wr (stR (updA (updA (stR (stR (stR (stR (stR (stR (stR (stR (stR B 26 dc 0) 25 dc (nI (at0 + 1))) 24 dc (nI v51)) 27 dc (-1)) 28 dc (-1)) 29 dc 0) 27 dc (nI lz)) 22 lz (nI at233)) 23 lz (-1)) 22 lt444) 23 ln445) 28 dc r446) nd md := (FrM.same hfm470 (by omega) (fun j i q1 q2 q3 => st_ne (by omega)) (fun i q => st_ne (by omega)))
                  have hsn484 : Sng (stR (updA (updA (stR (stR (stR (stR (stR (stR (stR (stR (stR B 26 dc 0) 25 dc (nI (at0 + 1))) 24 dc (nI v51)) 27 dc (-1)) 28 dc (-1)) 29 dc 0) 27 dc (nI lz)) 22 lz (nI at233)) 23 lz (-1)) 22 lt444) 23 ln445) 28 dc r446) dc lz := (Sng.same hsn471 (by omega) (fun i q => st_ne (by omega)) (fun i q => st_ne (by omega)) (fun i q => st_ne (by omega)))
                  have hlr485 : lsRow ((stR (updA (updA (stR (stR (stR (stR (stR (stR (stR (stR (stR B 26 dc 0) 25 dc (nI (at0 + 1))) 24 dc (nI v51)) 27 dc (-1)) 28 dc (-1)) 29 dc 0) 27 dc (nI lz)) 22 lz (nI at233)) 23 lz (-1)) 22 lt444) 23 ln445) 28 dc r446) 22) ((stR (updA (updA (stR (stR (stR (stR (stR (stR (stR (stR (stR B 26 dc 0) 25 dc (nI (at0 + 1))) 24 dc (nI v51)) 27 dc (-1)) 28 dc (-1)) 29 dc 0) 27 dc (nI lz)) 22 lz (nI at233)) 23 lz (-1)) 22 lt444) 23 ln445) 28 dc r446) 23) ls443 T := hlr472
                  have hP : va_P G.1 pCl (mW G h0 a (upd (upd (upd (upd (upd (upd (upd (upd (upd (upd (upd (upd (upd (upd (upd F 15 0) 16 pl442) 27 (nI nd)) 31 (nI wr)) 34 (nI ls443)) 35 (nI (dc + 1))) 44 (nI fd)) 49 (nI md)) 59 (nI bk)) 60 (nI pr)) 64 (nI at440)) 65 ne0) 66 (nI lk)) 67 (nI mf)) 68 (nI mm)) (updA (stR (updA (updA (stR (stR (stR (stR (stR (stR (stR (stR (stR B 26 dc 0) 25 dc (nI (at0 + 1))) 24 dc (nI v51)) 27 dc (-1)) 28 dc (-1)) 29 dc 0) 27 dc (nI lz)) 22 lz (nI at233)) 23 lz (-1)) 22 lt444) 23 ln445) 28 dc r446) 2 K)) _ := hP
                  have hD : va_D A (mW G h0 a (upd (upd (upd (upd (upd (upd (upd (upd (upd (upd (upd (upd (upd (upd (upd F 15 0) 16 pl442) 27 (nI nd)) 31 (nI wr)) 34 (nI ls443)) 35 (nI (dc + 1))) 44 (nI fd)) 49 (nI md)) 59 (nI bk)) 60 (nI pr)) 64 (nI at440)) 65 ne0) 66 (nI lk)) 67 (nI mf)) 68 (nI mm)) (updA (stR (updA (updA (stR (stR (stR (stR (stR (stR (stR (stR (stR B 26 dc 0) 25 dc (nI (at0 + 1))) 24 dc (nI v51)) 27 dc (-1)) 28 dc (-1)) 29 dc 0) 27 dc (nI lz)) 22 lz (nI at233)) 23 lz (-1)) 22 lt444) 23 ln445) 28 dc r446) 2 K)) := hD
                  exact cut_j at440 ls443 pl442 (stR (updA (updA (stR (stR (stR (stR (stR (stR (stR (stR (stR B 26 dc 0) 25 dc (nI (at0 + 1))) 24 dc (nI v51)) 27 dc (-1)) 28 dc (-1)) 29 dc 0) 27 dc (nI lz)) 22 lz (nI at233)) 23 lz (-1)) 22 lt444) 23 ln445) 28 dc r446) _ _ _ (by omega) (by omega) (by omega) hkq473 (PS.dec hps482 (by omega) hce475 (by omega) hce476 (by omega) hce474 (Or.inl rfl) hce477 (Or.inr ⟨lz, rfl, by omega⟩) hce478 (OrY.mono (wr := ls443) (h456.imp id (fun ⟨p, a, b⟩ => ⟨p, b, a⟩)) (by omega))) hfm483 hty481 hlr485 (Sng.dec (Sng.same hsn484 (ls' := ls443) (by omega) (fun i q => rfl) (fun i q => rfl) (fun i q => rfl)) hce474 hce477 (fun _ => Or.inr ⟨lz, rfl, by omega, hce480⟩)) hP hD hS (lv_sub hl [0, 2] rfl)
                · have e459 := e459
                  have hkq486 : Kq 1 B (updA (updA (stR (stR (stR (stR (stR (stR (stR (stR (stR B 26 dc 0) 25 dc (nI (at0 + 1))) 24 dc (nI v51)) 27 dc (-1)) 28 dc (-1)) 29 dc 0) 27 dc (nI lz)) 22 lz (nI at233)) 23 lz (-1)) 22 lt444) 23 ln445) := (Kq.row (Kq.row hkq409 (by omega)) (by omega))
                  have hce487 : (updA (updA (stR (stR (stR (stR (stR (stR (stR (stR (stR B 26 dc 0) 25 dc (nI (at0 + 1))) 24 dc (nI v51)) 27 dc (-1)) 28 dc (-1)) 29 dc 0) 27 dc (nI lz)) 22 lz (nI at233)) 23 lz (-1)) 22 lt444) 23 ln445) 26 dc = 0 := hce410
                  have hce488 : (updA (updA (stR (stR (stR (stR (stR (stR (stR (stR (stR B 26 dc 0) 25 dc (nI (at0 + 1))) 24 dc (nI v51)) 27 dc (-1)) 28 dc (-1)) 29 dc 0) 27 dc (nI lz)) 22 lz (nI at233)) 23 lz (-1)) 22 lt444) 23 ln445) 25 dc = (nI (at0 + 1)) := hce411
                  have hce489 : (updA (updA (stR (stR (stR (stR (stR (stR (stR (stR (stR B 26 dc 0) 25 dc (nI (at0 + 1))) 24 dc (nI v51)) 27 dc (-1)) 28 dc (-1)) 29 dc 0) 27 dc (nI lz)) 22 lz (nI at233)) 23 lz (-1)) 22 lt444) 23 ln445) 24 dc = (nI v51) := hce412
                  have hce490 : (updA (updA (stR (stR (stR (stR (stR (stR (stR (stR (stR B 26 dc 0) 25 dc (nI (at0 + 1))) 24 dc (nI v51)) 27 dc (-1)) 28 dc (-1)) 29 dc 0) 27 dc (nI lz)) 22 lz (nI at233)) 23 lz (-1)) 22 lt444) 23 ln445) 27 dc = (nI lz) := hce413
                  have hce491 : (updA (updA (stR (stR (stR (stR (stR (stR (stR (stR (stR B 26 dc 0) 25 dc (nI (at0 + 1))) 24 dc (nI v51)) 27 dc (-1)) 28 dc (-1)) 29 dc 0) 27 dc (nI lz)) 22 lz (nI at233)) 23 lz (-1)) 22 lt444) 23 ln445) 28 dc = (-1) := hce414
                  have hce492 : (updA (updA (stR (stR (stR (stR (stR (stR (stR (stR (stR B 26 dc 0) 25 dc (nI (at0 + 1))) 24 dc (nI v51)) 27 dc (-1)) 28 dc (-1)) 29 dc 0) 27 dc (nI lz)) 22 lz (nI at233)) 23 lz (-1)) 22 lt444) 23 ln445) 29 dc = 0 := hce415
                  have hce493 : (updA (updA (stR (stR (stR (stR (stR (stR (stR (stR (stR B 26 dc 0) 25 dc (nI (at0 + 1))) 24 dc (nI v51)) 27 dc (-1)) 28 dc (-1)) 29 dc 0) 27 dc (nI lz)) 22 lz (nI at233)) 23 lz (-1)) 22 lt444) 23 ln445) 23 lz = (-1) := ((h458 lz (by omega)).trans hce421)
                  have hty494 : tkRow ((updA (updA (stR (stR (stR (stR (stR (stR (stR (stR (stR B 26 dc 0) 25 dc (nI (at0 + 1))) 24 dc (nI v51)) 27 dc (-1)) 28 dc (-1)) 29 dc 0) 27 dc (nI lz)) 22 lz (nI at233)) 23 lz (-1)) 22 lt444) 23 ln445) 19) wr T := hty416
                  refine r_sti (f := ((updA (updA (stR (stR (stR (stR (stR (stR (stR (stR (stR B 26 dc 0) 25 dc (nI (at0 + 1))) 24 dc (nI v51)) 27 dc (-1)) 28 dc (-1)) 29 dc 0) 27 dc (nI lz)) 22 lz (nI at233)) 23 lz (-1)) 22 lt444) 23 ln445) 28)) (j := dc) hx hb hE hP hD hS 28 (ma_28 G a _) rfl (mas_28 G a _) (by omega) (by decide) dX12_declaration_236 (fun H locs hP hD hS => ?_)
                  have hP : va_P G.1 pCl (mW G h0 a (upd (upd (upd (upd (upd (upd (upd (upd (upd (upd (upd (upd (upd (upd (upd F 15 (nI fa441)) 16 pl442) 27 (nI nd)) 31 (nI wr)) 34 (nI ls443)) 35 (nI (dc + 1))) 44 (nI fd)) 49 (nI md)) 59 (nI bk)) 60 (nI pr)) 64 (nI at440)) 65 ne0) 66 (nI lk)) 67 (nI mf)) 68 (nI mm)) (updA (stR (updA (updA (stR (stR (stR (stR (stR (stR (stR (stR (stR B 26 dc 0) 25 dc (nI (at0 + 1))) 24 dc (nI v51)) 27 dc (-1)) 28 dc (-1)) 29 dc 0) 27 dc (nI lz)) 22 lz (nI at233)) 23 lz (-1)) 22 lt444) 23 ln445) 28 dc r446) 2 K)) _ := hP
                  have hD : va_D A (mW G h0 a (upd (upd (upd (upd (upd (upd (upd (upd (upd (upd (upd (upd (upd (upd (upd F 15 (nI fa441)) 16 pl442) 27 (nI nd)) 31 (nI wr)) 34 (nI ls443)) 35 (nI (dc + 1))) 44 (nI fd)) 49 (nI md)) 59 (nI bk)) 60 (nI pr)) 64 (nI at440)) 65 ne0) 66 (nI lk)) 67 (nI mf)) 68 (nI mm)) (updA (stR (updA (updA (stR (stR (stR (stR (stR (stR (stR (stR (stR B 26 dc 0) 25 dc (nI (at0 + 1))) 24 dc (nI v51)) 27 dc (-1)) 28 dc (-1)) 29 dc 0) 27 dc (nI lz)) 22 lz (nI at233)) 23 lz (-1)) 22 lt444) 23 ln445) 28 dc r446) 2 K)) := hD
                  have hkq495 : Kq 1 B (stR (updA (updA (stR (stR (stR (stR (stR (stR (stR (stR (stR B 26 dc 0) 25 dc (nI (at0 + 1))) 24 dc (nI v51)) 27 dc (-1)) 28 dc (-1)) 29 dc 0) 27 dc (nI lz)) 22 lz (nI at233)) 23 lz (-1)) 22 lt444) 23 ln445) 28 dc r446) := (Kq.st hkq486 (by omega))
                  have hce496 : (stR (updA (updA (stR (stR (stR (stR (stR (stR (stR (stR (stR B 26 dc 0) 25 dc (nI (at0 + 1))) 24 dc (nI v51)) 27 dc (-1)) 28 dc (-1)) 29 dc 0) 27 dc (nI lz)) 22 lz (nI at233)) 23 lz (-1)) 22 lt444) 23 ln445) 28 dc r446) 26 dc = 0 := ((st_ne (by omega)).trans hce487)
                  have hce497 : (stR (updA (updA (stR (stR (stR (stR (stR (stR (stR (stR (stR B 26 dc 0) 25 dc (nI (at0 + 1))) 24 dc (nI v51)) 27 dc (-1)) 28 dc (-1)) 29 dc 0) 27 dc (nI lz)) 22 lz (nI at233)) 23 lz (-1)) 22 lt444) 23 ln445) 28 dc r446) 25 dc = (nI (at0 + 1)) := ((st_ne (by omega)).trans hce488)
                  have hce498 : (stR (updA (updA (stR (stR (stR (stR (stR (stR (stR (stR (stR B 26 dc 0) 25 dc (nI (at0 + 1))) 24 dc (nI v51)) 27 dc (-1)) 28 dc (-1)) 29 dc 0) 27 dc (nI lz)) 22 lz (nI at233)) 23 lz (-1)) 22 lt444) 23 ln445) 28 dc r446) 24 dc = (nI v51) := ((st_ne (by omega)).trans hce489)
                  have hce499 : (stR (updA (updA (stR (stR (stR (stR (stR (stR (stR (stR (stR B 26 dc 0) 25 dc (nI (at0 + 1))) 24 dc (nI v51)) 27 dc (-1)) 28 dc (-1)) 29 dc 0) 27 dc (nI lz)) 22 lz (nI at233)) 23 lz (-1)) 22 lt444) 23 ln445) 28 dc r446) 27 dc = (nI lz) := ((st_ne (by omega)).trans hce490)
                  have hce500 : (stR (updA (updA (stR (stR (stR (stR (stR (stR (stR (stR (stR B 26 dc 0) 25 dc (nI (at0 + 1))) 24 dc (nI v51)) 27 dc (-1)) 28 dc (-1)) 29 dc 0) 27 dc (nI lz)) 22 lz (nI at233)) 23 lz (-1)) 22 lt444) 23 ln445) 28 dc r446) 28 dc = r446 := st_eq
                  have hce501 : (stR (updA (updA (stR (stR (stR (stR (stR (stR (stR (stR (stR B 26 dc 0) 25 dc (nI (at0 + 1))) 24 dc (nI v51)) 27 dc (-1)) 28 dc (-1)) 29 dc 0) 27 dc (nI lz)) 22 lz (nI at233)) 23 lz (-1)) 22 lt444) 23 ln445) 28 dc r446) 29 dc = 0 := ((st_ne (by omega)).trans hce492)
                  have hce502 : (stR (updA (updA (stR (stR (stR (stR (stR (stR (stR (stR (stR B 26 dc 0) 25 dc (nI (at0 + 1))) 24 dc (nI v51)) 27 dc (-1)) 28 dc (-1)) 29 dc 0) 27 dc (nI lz)) 22 lz (nI at233)) 23 lz (-1)) 22 lt444) 23 ln445) 28 dc r446) 23 lz = (-1) := ((st_ne (by omega)).trans hce493)
                  have hty503 : tkRow ((stR (updA (updA (stR (stR (stR (stR (stR (stR (stR (stR (stR B 26 dc 0) 25 dc (nI (at0 + 1))) 24 dc (nI v51)) 27 dc (-1)) 28 dc (-1)) 29 dc 0) 27 dc (nI lz)) 22 lz (nI at233)) 23 lz (-1)) 22 lt444) 23 ln445) 28 dc r446) 19) wr T := hty494
                  refine lv_aload_n hx hb dX12_declaration_237 rfl (lv_at hl 2 rfl) ?_
                  refine lv_bipush (v := 123) hx hb dX12_declaration_238 (by decide) ?_
                  have hP : va_P G.1 pCl (mW G h0 a (upd (upd (upd (upd (upd (upd (upd (upd (upd (upd (upd (upd (upd (upd (upd (upd (upd F 15 (nI fa441)) 16 pl442) 27 (nI nd)) 31 (nI wr)) 34 (nI ls443)) 35 (nI (dc + 1))) 44 (nI fd)) 49 (nI md)) 59 (nI bk)) 60 (nI pr)) 64 (nI at440)) 65 ne0) 66 (nI lk)) 67 (nI mf)) 68 (nI mm)) 15 (nI fa441)) 64 (nI at440)) (updA (updA (stR (updA (updA (stR (stR (stR (stR (stR (stR (stR (stR (stR B 26 dc 0) 25 dc (nI (at0 + 1))) 24 dc (nI v51)) 27 dc (-1)) 28 dc (-1)) 29 dc 0) 27 dc (nI lz)) 22 lz (nI at233)) 23 lz (-1)) 22 lt444) 23 ln445) 28 dc r446) 2 K) 2 K)) _ := hP
                  have hD : va_D A (mW G h0 a (upd (upd (upd (upd (upd (upd (upd (upd (upd (upd (upd (upd (upd (upd (upd (upd (upd F 15 (nI fa441)) 16 pl442) 27 (nI nd)) 31 (nI wr)) 34 (nI ls443)) 35 (nI (dc + 1))) 44 (nI fd)) 49 (nI md)) 59 (nI bk)) 60 (nI pr)) 64 (nI at440)) 65 ne0) 66 (nI lk)) 67 (nI mf)) 68 (nI mm)) 15 (nI fa441)) 64 (nI at440)) (updA (updA (stR (updA (updA (stR (stR (stR (stR (stR (stR (stR (stR (stR B 26 dc 0) 25 dc (nI (at0 + 1))) 24 dc (nI v51)) 27 dc (-1)) 28 dc (-1)) 29 dc 0) 27 dc (nI lz)) 22 lz (nI at233)) 23 lz (-1)) 22 lt444) 23 ln445) 28 dc r446) 2 K) 2 K)) := hD
                  refine pc_V0 (G := G) (As := [.int 123]) (rest := []) hx hb hml hown hq hE hX pX0_al hP hD hS hA hl.1 (R_take l G h0 a (upd (upd (upd (upd (upd (upd (upd (upd (upd (upd (upd (upd (upd (upd (upd F 15 (nI fa441)) 16 pl442) 27 (nI nd)) 31 (nI wr)) 34 (nI ls443)) 35 (nI (dc + 1))) 44 (nI fd)) 49 (nI md)) 59 (nI bk)) 60 (nI pr)) 64 (nI at440)) 65 ne0) 66 (nI lk)) 67 (nI mf)) 68 (nI mm)) (updA (stR (updA (updA (stR (stR (stR (stR (stR (stR (stR (stR (stR B 26 dc 0) 25 dc (nI (at0 + 1))) 24 dc (nI v51)) 27 dc (-1)) 28 dc (-1)) 29 dc 0) 27 dc (nI lz)) 22 lz (nI at233)) 23 lz (-1)) 22 lt444) 23 ln445) 28 dc r446) 2 K) at440 T fa441 K 123 (by omega) (by omega) hK (by omega) (by decide) (by decide)) (gV pw_1614 pw_1615 pw_1616 pw_1523 pw_1601) hV_X12_take 0 9 rfl rfl rfl rfl (Nat.le_of_ble_eq_true rfl) dX12_declaration_240 ⟨Nat.le_of_ble_eq_true rfl, Nat.le_of_ble_eq_true rfl⟩ ⟨Nat.le_of_ble_eq_true rfl, Nat.le_of_ble_eq_true rfl⟩ (fun v506 u504 H locs hw505 hP hD hS => ?_)
                  obtain ⟨at507, fa508, pl509⟩ := u504
                  obtain ⟨hw505, h510, h511, h512, h513, h514, h515, h516, h517⟩ := hw505
                  replace h510 : at440 ≤ at507 := h510
                  replace h511 : at507 ≤ T := h511
                  replace h512 : fa441 ≤ fa508 := h512
                  replace h513 : fa508 ≤ 100 := h513
                  replace h514 : If (0 < fa441) (at507 = at440 ∧ fa508 = fa441) := h514
                  replace h515 : at507 ≤ at440 + 1 := h515
                  replace h516 : at440 + 1 ≤ at507 + fa508 := h516
                  replace h517 : If (fa508 = 0) (K at440 = 123) := h517
                  obtain rfl : v506 = none := hw505
                  have hP : va_P G.1 pCl (mW G h0 a (upd (upd (upd (upd (upd (upd (upd (upd (upd (upd (upd (upd (upd (upd (upd F 15 (nI fa508)) 16 pl509) 27 (nI nd)) 31 (nI wr)) 34 (nI ls443)) 35 (nI (dc + 1))) 44 (nI fd)) 49 (nI md)) 59 (nI bk)) 60 (nI pr)) 64 (nI at507)) 65 ne0) 66 (nI lk)) 67 (nI mf)) 68 (nI mm)) (updA (stR (updA (updA (stR (stR (stR (stR (stR (stR (stR (stR (stR B 26 dc 0) 25 dc (nI (at0 + 1))) 24 dc (nI v51)) 27 dc (-1)) 28 dc (-1)) 29 dc 0) 27 dc (nI lz)) 22 lz (nI at233)) 23 lz (-1)) 22 lt444) 23 ln445) 28 dc r446) 2 K)) _ := hP
                  have hD : va_D A (mW G h0 a (upd (upd (upd (upd (upd (upd (upd (upd (upd (upd (upd (upd (upd (upd (upd F 15 (nI fa508)) 16 pl509) 27 (nI nd)) 31 (nI wr)) 34 (nI ls443)) 35 (nI (dc + 1))) 44 (nI fd)) 49 (nI md)) 59 (nI bk)) 60 (nI pr)) 64 (nI at507)) 65 ne0) 66 (nI lk)) 67 (nI mf)) 68 (nI mm)) (updA (stR (updA (updA (stR (stR (stR (stR (stR (stR (stR (stR (stR B 26 dc 0) 25 dc (nI (at0 + 1))) 24 dc (nI v51)) 27 dc (-1)) 28 dc (-1)) 29 dc 0) 27 dc (nI lz)) 22 lz (nI at233)) 23 lz (-1)) 22 lt444) 23 ln445) 28 dc r446) 2 K)) := hD
                  refine W.widen (k := 0) (n := 0) (Nat.le_of_ble_eq_true rfl) (Nat.le_of_ble_eq_true rfl) ?_
                  refine W.eq (g2 := F0 m 243 ls []) rfl ?_
                  obtain ⟨n519, n518⟩ := h514 e459
                  replace n519 := n519.symm
                  subst n519
                  replace n518 := n518.symm
                  subst n518
                  refine lv_aload_n hx hb dX12_declaration_243 rfl (lv_at hl 2 rfl) ?_
                  refine lv_iconst (v := 0) hx hb dX12_declaration_244 (by decide) ?_
                  refine r_put (v := 0) (ty := .int) hx hb hown hq hE hP hD hS 67 390 tFX12_67 (by decide) pw_1726 (by decide) rfl rfl (ms_67 a _ _) dX12_declaration_245 (fun H locs hP hD hS => ?_)
                  refine lv_aload_n hx hb dX12_declaration_248 rfl (lv_at hl 2 rfl) ?_
                  refine lv_iconst (v := 0) hx hb dX12_declaration_249 (by decide) ?_
                  refine r_put (v := 0) (ty := .int) hx hb hown hq hE hP hD hS 68 393 tFX12_68 (by decide) pw_1722 (by decide) rfl rfl (ms_68 a _ _) dX12_declaration_250 (fun H locs hP hD hS => ?_)
                  refine lv_aload_n hx hb dX12_declaration_253 rfl (lv_at hl 2 rfl) ?_
                  refine r_get (v := .int (nI fa441)) hx hb hown hq hE hP 15 350 tFX12_15 (by decide) pw_1594 rfl dX12_declaration_254 ?_
                  refine lv_if_ne (tgt := 277) hx hb dX12_declaration_257 (by decide) (fun c520 => ?_) (fun c520 => (by have n521 : fa441 = 0 := (nI_eq (a := fa441) (b := 0) (by omega) (by omega)).mp c520; omega))
                  refine lv_aload_n hx hb dX12_declaration_277 rfl (lv_at hl 2 rfl) ?_
                  refine lv_bipush (v := 125) hx hb dX12_declaration_278 (by decide) ?_
                  have hP : va_P G.1 pCl (mW G h0 a (upd (upd (upd (upd (upd (upd (upd (upd (upd (upd (upd (upd (upd (upd (upd (upd (upd F 15 (nI fa441)) 16 pl509) 27 (nI nd)) 31 (nI wr)) 34 (nI ls443)) 35 (nI (dc + 1))) 44 (nI fd)) 49 (nI md)) 59 (nI bk)) 60 (nI pr)) 64 (nI at440)) 65 ne0) 66 (nI lk)) 67 0) 68 0) 15 (nI fa441)) 64 (nI at440)) (updA (updA (stR (updA (updA (stR (stR (stR (stR (stR (stR (stR (stR (stR B 26 dc 0) 25 dc (nI (at0 + 1))) 24 dc (nI v51)) 27 dc (-1)) 28 dc (-1)) 29 dc 0) 27 dc (nI lz)) 22 lz (nI at233)) 23 lz (-1)) 22 lt444) 23 ln445) 28 dc r446) 2 K) 2 K)) _ := hP
                  have hD : va_D A (mW G h0 a (upd (upd (upd (upd (upd (upd (upd (upd (upd (upd (upd (upd (upd (upd (upd (upd (upd F 15 (nI fa441)) 16 pl509) 27 (nI nd)) 31 (nI wr)) 34 (nI ls443)) 35 (nI (dc + 1))) 44 (nI fd)) 49 (nI md)) 59 (nI bk)) 60 (nI pr)) 64 (nI at440)) 65 ne0) 66 (nI lk)) 67 0) 68 0) 15 (nI fa441)) 64 (nI at440)) (updA (updA (stR (updA (updA (stR (stR (stR (stR (stR (stR (stR (stR (stR B 26 dc 0) 25 dc (nI (at0 + 1))) 24 dc (nI v51)) 27 dc (-1)) 28 dc (-1)) 29 dc 0) 27 dc (nI lz)) 22 lz (nI at233)) 23 lz (-1)) 22 lt444) 23 ln445) 28 dc r446) 2 K) 2 K)) := hD
                  refine pc_V0 (G := G) (As := [.int 125]) (rest := []) hx hb hml hown hq hE hX pX0_al hP hD hS hA hl.1 (R_take l G h0 a (upd (upd (upd (upd (upd (upd (upd (upd (upd (upd (upd (upd (upd (upd (upd F 15 (nI fa441)) 16 pl509) 27 (nI nd)) 31 (nI wr)) 34 (nI ls443)) 35 (nI (dc + 1))) 44 (nI fd)) 49 (nI md)) 59 (nI bk)) 60 (nI pr)) 64 (nI at440)) 65 ne0) 66 (nI lk)) 67 0) 68 0) (updA (stR (updA (updA (stR (stR (stR (stR (stR (stR (stR (stR (stR B 26 dc 0) 25 dc (nI (at0 + 1))) 24 dc (nI v51)) 27 dc (-1)) 28 dc (-1)) 29 dc 0) 27 dc (nI lz)) 22 lz (nI at233)) 23 lz (-1)) 22 lt444) 23 ln445) 28 dc r446) 2 K) at440 T fa441 K 125 (by omega) (by omega) hK (by omega) (by decide) (by decide)) (gV pw_1614 pw_1615 pw_1616 pw_1523 pw_1601) hV_X12_take 0 9 rfl rfl rfl rfl (Nat.le_of_ble_eq_true rfl) dX12_declaration_280 ⟨Nat.le_of_ble_eq_true rfl, Nat.le_of_ble_eq_true rfl⟩ ⟨Nat.le_of_ble_eq_true rfl, Nat.le_of_ble_eq_true rfl⟩ (fun v524 u522 H locs hw523 hP hD hS => ?_)
                  obtain ⟨at525, fa526, pl527⟩ := u522
                  obtain ⟨hw523, h528, h529, h530, h531, h532, h533, h534, h535⟩ := hw523
                  replace h528 : at440 ≤ at525 := h528
                  replace h529 : at525 ≤ T := h529
                  replace h530 : fa441 ≤ fa526 := h530
                  replace h531 : fa526 ≤ 100 := h531
                  replace h532 : If (0 < fa441) (at525 = at440 ∧ fa526 = fa441) := h532
                  replace h533 : at525 ≤ at440 + 1 := h533
                  replace h534 : at440 + 1 ≤ at525 + fa526 := h534
                  replace h535 : If (fa526 = 0) (K at440 = 125) := h535
                  obtain rfl : v524 = none := hw523
                  have hP : va_P G.1 pCl (mW G h0 a (upd (upd (upd (upd (upd (upd (upd (upd (upd (upd (upd (upd (upd (upd (upd F 15 (nI fa526)) 16 pl527) 27 (nI nd)) 31 (nI wr)) 34 (nI ls443)) 35 (nI (dc + 1))) 44 (nI fd)) 49 (nI md)) 59 (nI bk)) 60 (nI pr)) 64 (nI at525)) 65 ne0) 66 (nI lk)) 67 0) 68 0) (updA (stR (updA (updA (stR (stR (stR (stR (stR (stR (stR (stR (stR B 26 dc 0) 25 dc (nI (at0 + 1))) 24 dc (nI v51)) 27 dc (-1)) 28 dc (-1)) 29 dc 0) 27 dc (nI lz)) 22 lz (nI at233)) 23 lz (-1)) 22 lt444) 23 ln445) 28 dc r446) 2 K)) _ := hP
                  have hD : va_D A (mW G h0 a (upd (upd (upd (upd (upd (upd (upd (upd (upd (upd (upd (upd (upd (upd (upd F 15 (nI fa526)) 16 pl527) 27 (nI nd)) 31 (nI wr)) 34 (nI ls443)) 35 (nI (dc + 1))) 44 (nI fd)) 49 (nI md)) 59 (nI bk)) 60 (nI pr)) 64 (nI at525)) 65 ne0) 66 (nI lk)) 67 0) 68 0) (updA (stR (updA (updA (stR (stR (stR (stR (stR (stR (stR (stR (stR B 26 dc 0) 25 dc (nI (at0 + 1))) 24 dc (nI v51)) 27 dc (-1)) 28 dc (-1)) 29 dc 0) 27 dc (nI lz)) 22 lz (nI at233)) 23 lz (-1)) 22 lt444) 23 ln445) 28 dc r446) 2 K)) := hD
                  refine W.widen (k := 0) (n := 0) (Nat.le_of_ble_eq_true rfl) (Nat.le_of_ble_eq_true rfl) ?_
                  refine W.eq (g2 := F0 m 283 ls []) rfl ?_
                  obtain ⟨n537, n536⟩ := h532 e459
                  replace n537 := n537.symm
                  subst n537
                  replace n536 := n536.symm
                  subst n536
                  have hz538 : at0 ≤ at440 := (by omega)
                  have hz539 : at440 ≤ T := (by omega)
                  have hz540 : fa441 ≤ 100 := (by omega)
                  have hz541 : at0 + 1 ≤ at440 + fa441 := (by omega)
                  have hz542 : Kq 1 B (stR (updA (updA (stR (stR (stR (stR (stR (stR (stR (stR (stR B 26 dc 0) 25 dc (nI (at0 + 1))) 24 dc (nI v51)) 27 dc (-1)) 28 dc (-1)) 29 dc 0) 27 dc (nI lz)) 22 lz (nI at233)) 23 lz (-1)) 22 lt444) 23 ln445) 28 dc r446) := hkq495
                  have hz543 : If (fa441 = 0) ((nd ≤ 2 * at440 ∧ wr ≤ at440 ∧ ls443 ≤ at440 ∧ pr ≤ at440 ∧ (dc + 1) ≤ 37 ∧ dc ≤ (dc + 1) ∧ bk ≤ md ∧ wr ≤ wr ∧ lz ≤ ls443) ∧ (md + 210 ≤ 30 * (dc + 1) ∧ fd + 140 ≤ 20 * (dc + 1) ∧ (dc + 1) ≤ 37 ∧ 7 ≤ (dc + 1) ∧ (dc + 1) ≤ dc + 1) ∧ PS T nm wr ls443 (dc + 1) fd md pr bk (stR (updA (updA (stR (stR (stR (stR (stR (stR (stR (stR (stR B 26 dc 0) 25 dc (nI (at0 + 1))) 24 dc (nI v51)) 27 dc (-1)) 28 dc (-1)) 29 dc 0) 27 dc (nI lz)) 22 lz (nI at233)) 23 lz (-1)) 22 lt444) 23 ln445) 28 dc r446) ∧ FrM K T wr (stR (updA (updA (stR (stR (stR (stR (stR (stR (stR (stR (stR B 26 dc 0) 25 dc (nI (at0 + 1))) 24 dc (nI v51)) 27 dc (-1)) 28 dc (-1)) 29 dc 0) 27 dc (nI lz)) 22 lz (nI at233)) 23 lz (-1)) 22 lt444) 23 ln445) 28 dc r446) nd md ∧ tkRow ((stR (updA (updA (stR (stR (stR (stR (stR (stR (stR (stR (stR B 26 dc 0) 25 dc (nI (at0 + 1))) 24 dc (nI v51)) 27 dc (-1)) 28 dc (-1)) 29 dc 0) 27 dc (nI lz)) 22 lz (nI at233)) 23 lz (-1)) 22 lt444) 23 ln445) 28 dc r446) 19) wr T ∧ lsRow ((stR (updA (updA (stR (stR (stR (stR (stR (stR (stR (stR (stR B 26 dc 0) 25 dc (nI (at0 + 1))) 24 dc (nI v51)) 27 dc (-1)) 28 dc (-1)) 29 dc 0) 27 dc (nI lz)) 22 lz (nI at233)) 23 lz (-1)) 22 lt444) 23 ln445) 28 dc r446) 22) ((stR (updA (updA (stR (stR (stR (stR (stR (stR (stR (stR (stR B 26 dc 0) 25 dc (nI (at0 + 1))) 24 dc (nI v51)) 27 dc (-1)) 28 dc (-1)) 29 dc 0) 27 dc (nI lz)) 22 lz (nI at233)) 23 lz (-1)) 22 lt444) 23 ln445) 28 dc r446) 23) ls443 T) := (fun e => absurd e (by omega))
                  have hz544 : If (fa441 = 0) (Sng (stR (updA (updA (stR (stR (stR (stR (stR (stR (stR (stR (stR B 26 dc 0) 25 dc (nI (at0 + 1))) 24 dc (nI v51)) 27 dc (-1)) 28 dc (-1)) 29 dc 0) 27 dc (nI lz)) 22 lz (nI at233)) 23 lz (-1)) 22 lt444) 23 ln445) 28 dc r446) (dc + 1) ls443) := (fun e => absurd e (by omega))
                  have hP : va_P G.1 pCl (mW G h0 a (upd (upd (upd (upd (upd (upd (upd (upd (upd (upd (upd (upd (upd (upd (upd F 15 (nI fa441)) 16 pl527) 27 (nI nd)) 31 (nI wr)) 34 (nI ls443)) 35 (nI (dc + 1))) 44 (nI fd)) 49 (nI md)) 59 (nI bk)) 60 (nI pr)) 64 (nI at440)) 65 ne0) 66 (nI lk)) 67 (nI 0)) 68 (nI 0)) (updA (stR (updA (updA (stR (stR (stR (stR (stR (stR (stR (stR (stR B 26 dc 0) 25 dc (nI (at0 + 1))) 24 dc (nI v51)) 27 dc (-1)) 28 dc (-1)) 29 dc 0) 27 dc (nI lz)) 22 lz (nI at233)) 23 lz (-1)) 22 lt444) 23 ln445) 28 dc r446) 2 K)) _ := hP
                  have hD : va_D A (mW G h0 a (upd (upd (upd (upd (upd (upd (upd (upd (upd (upd (upd (upd (upd (upd (upd F 15 (nI fa441)) 16 pl527) 27 (nI nd)) 31 (nI wr)) 34 (nI ls443)) 35 (nI (dc + 1))) 44 (nI fd)) 49 (nI md)) 59 (nI bk)) 60 (nI pr)) 64 (nI at440)) 65 ne0) 66 (nI lk)) 67 (nI 0)) 68 (nI 0)) (updA (stR (updA (updA (stR (stR (stR (stR (stR (stR (stR (stR (stR B 26 dc 0) 25 dc (nI (at0 + 1))) 24 dc (nI v51)) 27 dc (-1)) 28 dc (-1)) 29 dc 0) 27 dc (nI lz)) 22 lz (nI at233)) 23 lz (-1)) 22 lt444) 23 ln445) 28 dc r446) 2 K)) := hD
                  exact W.vret hx hb hr (fun t9 ht9 hW9 => ⟨⟨_, (at440, fa441, pl527, nd, wr, ls443, (dc + 1), fd, md, pr, bk, 0, 0, ne0, (stR (updA (updA (stR (stR (stR (stR (stR (stR (stR (stR (stR B 26 dc 0) 25 dc (nI (at0 + 1))) 24 dc (nI v51)) 27 dc (-1)) 28 dc (-1)) 29 dc 0) 27 dc (nI lz)) 22 lz (nI at233)) 23 lz (-1)) 22 lt444) 23 ln445) 28 dc r446)), rfl, ⟨rfl, hz538, hz539, hz540, hz541, hz542, hz543, hz544⟩, by rw [ht9]; exact hP, hD⟩, hS.F ht9⟩) hS.2.2 dX12_declaration_283
            · have e394 := e394
              refine r_sti (f := ((stR (stR (stR (stR (stR (stR (stR B 26 dc 0) 25 dc (nI (at0 + 1))) 24 dc (nI v51)) 27 dc (-1)) 28 dc (-1)) 29 dc 0) 27 dc (nI lz)) 22)) (j := lz) hx hb hE hP hD hS 22 (ma_22 G a _) rfl (mas_22 G a _) (by omega) (by decide) dX12_declaration_200 (fun H locs hP hD hS => ?_)
              have hP : va_P G.1 pCl (mW G h0 a (upd (upd (upd (upd (upd (upd (upd (upd (upd (upd (upd (upd (upd (upd (upd F 15 (nI fa384)) 16 pl385) 27 (nI nd)) 31 (nI wr)) 34 (nI (lz + 1))) 35 (nI (dc + 1))) 44 (nI fd)) 49 (nI md)) 59 (nI bk)) 60 (nI pr)) 64 (nI at383)) 65 ne0) 66 (nI lk)) 67 (nI mf)) 68 (nI mm)) (updA (stR (stR (stR (stR (stR (stR (stR (stR B 26 dc 0) 25 dc (nI (at0 + 1))) 24 dc (nI v51)) 27 dc (-1)) 28 dc (-1)) 29 dc 0) 27 dc (nI lz)) 22 lz (nI at233)) 2 K)) _ := hP
              have hD : va_D A (mW G h0 a (upd (upd (upd (upd (upd (upd (upd (upd (upd (upd (upd (upd (upd (upd (upd F 15 (nI fa384)) 16 pl385) 27 (nI nd)) 31 (nI wr)) 34 (nI (lz + 1))) 35 (nI (dc + 1))) 44 (nI fd)) 49 (nI md)) 59 (nI bk)) 60 (nI pr)) 64 (nI at383)) 65 ne0) 66 (nI lk)) 67 (nI mf)) 68 (nI mm)) (updA (stR (stR (stR (stR (stR (stR (stR (stR B 26 dc 0) 25 dc (nI (at0 + 1))) 24 dc (nI v51)) 27 dc (-1)) 28 dc (-1)) 29 dc 0) 27 dc (nI lz)) 22 lz (nI at233)) 2 K)) := hD
              have hkq545 : Kq 1 B (stR (stR (stR (stR (stR (stR (stR (stR B 26 dc 0) 25 dc (nI (at0 + 1))) 24 dc (nI v51)) 27 dc (-1)) 28 dc (-1)) 29 dc 0) 27 dc (nI lz)) 22 lz (nI at233)) := (Kq.st hkq364 (by omega))
              have hce546 : (stR (stR (stR (stR (stR (stR (stR (stR B 26 dc 0) 25 dc (nI (at0 + 1))) 24 dc (nI v51)) 27 dc (-1)) 28 dc (-1)) 29 dc 0) 27 dc (nI lz)) 22 lz (nI at233)) 26 dc = 0 := ((st_ne (by omega)).trans hce365)
              have hce547 : (stR (stR (stR (stR (stR (stR (stR (stR B 26 dc 0) 25 dc (nI (at0 + 1))) 24 dc (nI v51)) 27 dc (-1)) 28 dc (-1)) 29 dc 0) 27 dc (nI lz)) 22 lz (nI at233)) 25 dc = (nI (at0 + 1)) := ((st_ne (by omega)).trans hce366)
              have hce548 : (stR (stR (stR (stR (stR (stR (stR (stR B 26 dc 0) 25 dc (nI (at0 + 1))) 24 dc (nI v51)) 27 dc (-1)) 28 dc (-1)) 29 dc 0) 27 dc (nI lz)) 22 lz (nI at233)) 24 dc = (nI v51) := ((st_ne (by omega)).trans hce367)
              have hce549 : (stR (stR (stR (stR (stR (stR (stR (stR B 26 dc 0) 25 dc (nI (at0 + 1))) 24 dc (nI v51)) 27 dc (-1)) 28 dc (-1)) 29 dc 0) 27 dc (nI lz)) 22 lz (nI at233)) 27 dc = (nI lz) := ((st_ne (by omega)).trans hce368)
              have hce550 : (stR (stR (stR (stR (stR (stR (stR (stR B 26 dc 0) 25 dc (nI (at0 + 1))) 24 dc (nI v51)) 27 dc (-1)) 28 dc (-1)) 29 dc 0) 27 dc (nI lz)) 22 lz (nI at233)) 28 dc = (-1) := ((st_ne (by omega)).trans hce369)
              have hce551 : (stR (stR (stR (stR (stR (stR (stR (stR B 26 dc 0) 25 dc (nI (at0 + 1))) 24 dc (nI v51)) 27 dc (-1)) 28 dc (-1)) 29 dc 0) 27 dc (nI lz)) 22 lz (nI at233)) 29 dc = 0 := ((st_ne (by omega)).trans hce370)
              have hty552 : tkRow ((stR (stR (stR (stR (stR (stR (stR (stR B 26 dc 0) 25 dc (nI (at0 + 1))) 24 dc (nI v51)) 27 dc (-1)) 28 dc (-1)) 29 dc 0) 27 dc (nI lz)) 22 lz (nI at233)) 19) wr T := hty371
              refine lv_aload_n hx hb dX12_declaration_201 rfl (lv_at hl 2 rfl) ?_
              refine r_get (v := .ref (a 23)) hx hb hown hq hE hP 33 81 tFX12_33 (by decide) pw_1454 rfl dX12_declaration_202 ?_
              refine lv_aload_n hx hb dX12_declaration_205 rfl (lv_at hl 2 rfl) ?_
              refine r_get (v := .ref (a 27)) hx hb hown hq hE hP 39 93 tFX12_39 (by decide) pw_1458 rfl dX12_declaration_206 ?_
              refine lv_iload_n hx hb dX12_declaration_209 rfl (lv_at hl 0 rfl) ?_
              refine r_ldi (f := ((stR (stR (stR (stR (stR (stR (stR (stR B 26 dc 0) 25 dc (nI (at0 + 1))) 24 dc (nI v51)) 27 dc (-1)) 28 dc (-1)) 29 dc 0) 27 dc (nI lz)) 22 lz (nI at233)) 27)) (j := dc) hx hb hE hP 27 (ma_27 G a _) rfl (by omega) (by decide) dX12_declaration_210 ?_
              refine lv_topi (fun x553 e554 => ?_)
              obtain rfl : x553 = (nI lz) := e554.trans hce549
              refine lv_iconst (v := (-1)) hx hb dX12_declaration_211 (by decide) ?_
              refine r_sti (f := ((stR (stR (stR (stR (stR (stR (stR (stR B 26 dc 0) 25 dc (nI (at0 + 1))) 24 dc (nI v51)) 27 dc (-1)) 28 dc (-1)) 29 dc 0) 27 dc (nI lz)) 22 lz (nI at233)) 23)) (j := lz) hx hb hE hP hD hS 23 (ma_23 G a _) rfl (mas_23 G a _) (by omega) (by decide) dX12_declaration_212 (fun H locs hP hD hS => ?_)
              have hP : va_P G.1 pCl (mW G h0 a (upd (upd (upd (upd (upd (upd (upd (upd (upd (upd (upd (upd (upd (upd (upd F 15 (nI fa384)) 16 pl385) 27 (nI nd)) 31 (nI wr)) 34 (nI (lz + 1))) 35 (nI (dc + 1))) 44 (nI fd)) 49 (nI md)) 59 (nI bk)) 60 (nI pr)) 64 (nI at383)) 65 ne0) 66 (nI lk)) 67 (nI mf)) 68 (nI mm)) (updA (stR (stR (stR (stR (stR (stR (stR (stR (stR B 26 dc 0) 25 dc (nI (at0 + 1))) 24 dc (nI v51)) 27 dc (-1)) 28 dc (-1)) 29 dc 0) 27 dc (nI lz)) 22 lz (nI at233)) 23 lz (-1)) 2 K)) _ := hP
              have hD : va_D A (mW G h0 a (upd (upd (upd (upd (upd (upd (upd (upd (upd (upd (upd (upd (upd (upd (upd F 15 (nI fa384)) 16 pl385) 27 (nI nd)) 31 (nI wr)) 34 (nI (lz + 1))) 35 (nI (dc + 1))) 44 (nI fd)) 49 (nI md)) 59 (nI bk)) 60 (nI pr)) 64 (nI at383)) 65 ne0) 66 (nI lk)) 67 (nI mf)) 68 (nI mm)) (updA (stR (stR (stR (stR (stR (stR (stR (stR (stR B 26 dc 0) 25 dc (nI (at0 + 1))) 24 dc (nI v51)) 27 dc (-1)) 28 dc (-1)) 29 dc 0) 27 dc (nI lz)) 22 lz (nI at233)) 23 lz (-1)) 2 K)) := hD
              have hkq555 : Kq 1 B (stR (stR (stR (stR (stR (stR (stR (stR (stR B 26 dc 0) 25 dc (nI (at0 + 1))) 24 dc (nI v51)) 27 dc (-1)) 28 dc (-1)) 29 dc 0) 27 dc (nI lz)) 22 lz (nI at233)) 23 lz (-1)) := (Kq.st hkq545 (by omega))
              have hce556 : (stR (stR (stR (stR (stR (stR (stR (stR (stR B 26 dc 0) 25 dc (nI (at0 + 1))) 24 dc (nI v51)) 27 dc (-1)) 28 dc (-1)) 29 dc 0) 27 dc (nI lz)) 22 lz (nI at233)) 23 lz (-1)) 26 dc = 0 := ((st_ne (by omega)).trans hce546)
              have hce557 : (stR (stR (stR (stR (stR (stR (stR (stR (stR B 26 dc 0) 25 dc (nI (at0 + 1))) 24 dc (nI v51)) 27 dc (-1)) 28 dc (-1)) 29 dc 0) 27 dc (nI lz)) 22 lz (nI at233)) 23 lz (-1)) 25 dc = (nI (at0 + 1)) := ((st_ne (by omega)).trans hce547)
              have hce558 : (stR (stR (stR (stR (stR (stR (stR (stR (stR B 26 dc 0) 25 dc (nI (at0 + 1))) 24 dc (nI v51)) 27 dc (-1)) 28 dc (-1)) 29 dc 0) 27 dc (nI lz)) 22 lz (nI at233)) 23 lz (-1)) 24 dc = (nI v51) := ((st_ne (by omega)).trans hce548)
              have hce559 : (stR (stR (stR (stR (stR (stR (stR (stR (stR B 26 dc 0) 25 dc (nI (at0 + 1))) 24 dc (nI v51)) 27 dc (-1)) 28 dc (-1)) 29 dc 0) 27 dc (nI lz)) 22 lz (nI at233)) 23 lz (-1)) 27 dc = (nI lz) := ((st_ne (by omega)).trans hce549)
              have hce560 : (stR (stR (stR (stR (stR (stR (stR (stR (stR B 26 dc 0) 25 dc (nI (at0 + 1))) 24 dc (nI v51)) 27 dc (-1)) 28 dc (-1)) 29 dc 0) 27 dc (nI lz)) 22 lz (nI at233)) 23 lz (-1)) 28 dc = (-1) := ((st_ne (by omega)).trans hce550)
              have hce561 : (stR (stR (stR (stR (stR (stR (stR (stR (stR B 26 dc 0) 25 dc (nI (at0 + 1))) 24 dc (nI v51)) 27 dc (-1)) 28 dc (-1)) 29 dc 0) 27 dc (nI lz)) 22 lz (nI at233)) 23 lz (-1)) 29 dc = 0 := ((st_ne (by omega)).trans hce551)
              have hty562 : tkRow ((stR (stR (stR (stR (stR (stR (stR (stR (stR B 26 dc 0) 25 dc (nI (at0 + 1))) 24 dc (nI v51)) 27 dc (-1)) 28 dc (-1)) 29 dc 0) 27 dc (nI lz)) 22 lz (nI at233)) 23 lz (-1)) 19) wr T := hty552
              have hce563 : (stR (stR (stR (stR (stR (stR (stR (stR (stR B 26 dc 0) 25 dc (nI (at0 + 1))) 24 dc (nI v51)) 27 dc (-1)) 28 dc (-1)) 29 dc 0) 27 dc (nI lz)) 22 lz (nI at233)) 23 lz (-1)) 23 lz = (-1) := st_eq
              refine lv_iload_n hx hb dX12_declaration_213 rfl (lv_at hl 1 rfl) ?_
              refine lv_if_ne (tgt := 237) hx hb dX12_declaration_214 (by decide) (fun c564 => absurd c564 (by decide)) (fun c564 => ?_)
              refine lv_aload_n hx hb dX12_declaration_217 rfl (lv_at hl 2 rfl) ?_
              refine lv_sipush (v := 322) hx hb dX12_declaration_218 (by decide) ?_
              have hP : va_P G.1 pCl (mW G h0 a (upd (upd (upd (upd (upd (upd (upd (upd (upd (upd (upd (upd (upd (upd (upd (upd (upd F 15 (nI fa384)) 16 pl385) 27 (nI nd)) 31 (nI wr)) 34 (nI (lz + 1))) 35 (nI (dc + 1))) 44 (nI fd)) 49 (nI md)) 59 (nI bk)) 60 (nI pr)) 64 (nI at383)) 65 ne0) 66 (nI lk)) 67 (nI mf)) 68 (nI mm)) 15 (nI fa384)) 64 (nI at383)) (updA (updA (stR (stR (stR (stR (stR (stR (stR (stR (stR B 26 dc 0) 25 dc (nI (at0 + 1))) 24 dc (nI v51)) 27 dc (-1)) 28 dc (-1)) 29 dc 0) 27 dc (nI lz)) 22 lz (nI at233)) 23 lz (-1)) 2 K) 2 K)) _ := hP
              have hD : va_D A (mW G h0 a (upd (upd (upd (upd (upd (upd (upd (upd (upd (upd (upd (upd (upd (upd (upd (upd (upd F 15 (nI fa384)) 16 pl385) 27 (nI nd)) 31 (nI wr)) 34 (nI (lz + 1))) 35 (nI (dc + 1))) 44 (nI fd)) 49 (nI md)) 59 (nI bk)) 60 (nI pr)) 64 (nI at383)) 65 ne0) 66 (nI lk)) 67 (nI mf)) 68 (nI mm)) 15 (nI fa384)) 64 (nI at383)) (updA (updA (stR (stR (stR (stR (stR (stR (stR (stR (stR B 26 dc 0) 25 dc (nI (at0 + 1))) 24 dc (nI v51)) 27 dc (-1)) 28 dc (-1)) 29 dc 0) 27 dc (nI lz)) 22 lz (nI at233)) 23 lz (-1)) 2 K) 2 K)) := hD
              refine pc_V0 (G := G) (As := [.int 322]) (rest := []) hx hb hml hown hq hE hX pX0_al hP hD hS hA hl.1 (R_may l G h0 a (upd (upd (upd (upd (upd (upd (upd (upd (upd (upd (upd (upd (upd (upd (upd F 15 (nI fa384)) 16 pl385) 27 (nI nd)) 31 (nI wr)) 34 (nI (lz + 1))) 35 (nI (dc + 1))) 44 (nI fd)) 49 (nI md)) 59 (nI bk)) 60 (nI pr)) 64 (nI at383)) 65 ne0) 66 (nI lk)) 67 (nI mf)) 68 (nI mm)) (updA (stR (stR (stR (stR (stR (stR (stR (stR (stR B 26 dc 0) 25 dc (nI (at0 + 1))) 24 dc (nI v51)) 27 dc (-1)) 28 dc (-1)) 29 dc 0) 27 dc (nI lz)) 22 lz (nI at233)) 23 lz (-1)) 2 K) at383 T fa384 K 322 (by omega) (by omega) hK (by omega) (by decide) (by decide)) (gV pw_1621 pw_1622 pw_1623 pw_1523 pw_1605) hV_X12_may 0 9 rfl rfl rfl rfl (Nat.le_of_ble_eq_true rfl) dX12_declaration_221 ⟨Nat.le_of_ble_eq_true rfl, Nat.le_of_ble_eq_true rfl⟩ ⟨Nat.le_of_ble_eq_true rfl, Nat.le_of_ble_eq_true rfl⟩ (fun v567 u565 H locs hw566 hP hD hS => ?_)
              obtain ⟨at568, r569⟩ := u565
              obtain ⟨hw566, h570, h571, h572, h573, h574, h575⟩ := hw566
              replace h570 : r569 ≤ 1 := h570
              replace h571 : fa384 + 100 * r569 ≤ 100 := h571
              replace h572 : at568 = at383 + r569 := h572
              replace h573 : at568 ≤ T := h573
              replace h574 : If (r569 = 1) (K at383 = 322) := h574
              replace h575 : If (r569 = 0) (fa384 = 0 → ¬ K at383 = 322) := h575
              obtain rfl : v567 = some (.int (nI r569)) := hw566
              have hP : va_P G.1 pCl (mW G h0 a (upd (upd (upd (upd (upd (upd (upd (upd (upd (upd (upd (upd (upd (upd (upd F 15 (nI fa384)) 16 pl385) 27 (nI nd)) 31 (nI wr)) 34 (nI (lz + 1))) 35 (nI (dc + 1))) 44 (nI fd)) 49 (nI md)) 59 (nI bk)) 60 (nI pr)) 64 (nI at568)) 65 ne0) 66 (nI lk)) 67 (nI mf)) 68 (nI mm)) (updA (stR (stR (stR (stR (stR (stR (stR (stR (stR B 26 dc 0) 25 dc (nI (at0 + 1))) 24 dc (nI v51)) 27 dc (-1)) 28 dc (-1)) 29 dc 0) 27 dc (nI lz)) 22 lz (nI at233)) 23 lz (-1)) 2 K)) _ := hP
              have hD : va_D A (mW G h0 a (upd (upd (upd (upd (upd (upd (upd (upd (upd (upd (upd (upd (upd (upd (upd F 15 (nI fa384)) 16 pl385) 27 (nI nd)) 31 (nI wr)) 34 (nI (lz + 1))) 35 (nI (dc + 1))) 44 (nI fd)) 49 (nI md)) 59 (nI bk)) 60 (nI pr)) 64 (nI at568)) 65 ne0) 66 (nI lk)) 67 (nI mf)) 68 (nI mm)) (updA (stR (stR (stR (stR (stR (stR (stR (stR (stR B 26 dc 0) 25 dc (nI (at0 + 1))) 24 dc (nI v51)) 27 dc (-1)) 28 dc (-1)) 29 dc 0) 27 dc (nI lz)) 22 lz (nI at233)) 23 lz (-1)) 2 K)) := hD
              refine W.widen (k := 0) (n := 0) (Nat.le_of_ble_eq_true rfl) (Nat.le_of_ble_eq_true rfl) ?_
              refine W.eq (g2 := F0 m 224 ls [.int (nI r569)]) rfl ?_
              obtain rfl : at383 = at568 := (by omega)
              refine lv_if_eq (tgt := 237) hx hb dX12_declaration_224 (by decide) (fun c576 => ?_) (fun c576 => (by have n577 : ¬ (r569 = 0) := fun h9 => c576 ((nI_eq (a := r569) (b := 0) (by omega) (by omega)).mpr h9); omega))
              refine lv_aload_n hx hb dX12_declaration_237 rfl (lv_at hl 2 rfl) ?_
              refine lv_bipush (v := 123) hx hb dX12_declaration_238 (by decide) ?_
              have hP : va_P G.1 pCl (mW G h0 a (upd (upd (upd (upd (upd (upd (upd (upd (upd (upd (upd (upd (upd (upd (upd (upd (upd F 15 (nI fa384)) 16 pl385) 27 (nI nd)) 31 (nI wr)) 34 (nI (lz + 1))) 35 (nI (dc + 1))) 44 (nI fd)) 49 (nI md)) 59 (nI bk)) 60 (nI pr)) 64 (nI at383)) 65 ne0) 66 (nI lk)) 67 (nI mf)) 68 (nI mm)) 15 (nI fa384)) 64 (nI at383)) (updA (updA (stR (stR (stR (stR (stR (stR (stR (stR (stR B 26 dc 0) 25 dc (nI (at0 + 1))) 24 dc (nI v51)) 27 dc (-1)) 28 dc (-1)) 29 dc 0) 27 dc (nI lz)) 22 lz (nI at233)) 23 lz (-1)) 2 K) 2 K)) _ := hP
              have hD : va_D A (mW G h0 a (upd (upd (upd (upd (upd (upd (upd (upd (upd (upd (upd (upd (upd (upd (upd (upd (upd F 15 (nI fa384)) 16 pl385) 27 (nI nd)) 31 (nI wr)) 34 (nI (lz + 1))) 35 (nI (dc + 1))) 44 (nI fd)) 49 (nI md)) 59 (nI bk)) 60 (nI pr)) 64 (nI at383)) 65 ne0) 66 (nI lk)) 67 (nI mf)) 68 (nI mm)) 15 (nI fa384)) 64 (nI at383)) (updA (updA (stR (stR (stR (stR (stR (stR (stR (stR (stR B 26 dc 0) 25 dc (nI (at0 + 1))) 24 dc (nI v51)) 27 dc (-1)) 28 dc (-1)) 29 dc 0) 27 dc (nI lz)) 22 lz (nI at233)) 23 lz (-1)) 2 K) 2 K)) := hD
              refine pc_V0 (G := G) (As := [.int 123]) (rest := []) hx hb hml hown hq hE hX pX0_al hP hD hS hA hl.1 (R_take l G h0 a (upd (upd (upd (upd (upd (upd (upd (upd (upd (upd (upd (upd (upd (upd (upd F 15 (nI fa384)) 16 pl385) 27 (nI nd)) 31 (nI wr)) 34 (nI (lz + 1))) 35 (nI (dc + 1))) 44 (nI fd)) 49 (nI md)) 59 (nI bk)) 60 (nI pr)) 64 (nI at383)) 65 ne0) 66 (nI lk)) 67 (nI mf)) 68 (nI mm)) (updA (stR (stR (stR (stR (stR (stR (stR (stR (stR B 26 dc 0) 25 dc (nI (at0 + 1))) 24 dc (nI v51)) 27 dc (-1)) 28 dc (-1)) 29 dc 0) 27 dc (nI lz)) 22 lz (nI at233)) 23 lz (-1)) 2 K) at383 T fa384 K 123 (by omega) (by omega) hK (by omega) (by decide) (by decide)) (gV pw_1614 pw_1615 pw_1616 pw_1523 pw_1601) hV_X12_take 0 9 rfl rfl rfl rfl (Nat.le_of_ble_eq_true rfl) dX12_declaration_240 ⟨Nat.le_of_ble_eq_true rfl, Nat.le_of_ble_eq_true rfl⟩ ⟨Nat.le_of_ble_eq_true rfl, Nat.le_of_ble_eq_true rfl⟩ (fun v580 u578 H locs hw579 hP hD hS => ?_)
              obtain ⟨at581, fa582, pl583⟩ := u578
              obtain ⟨hw579, h584, h585, h586, h587, h588, h589, h590, h591⟩ := hw579
              replace h584 : at383 ≤ at581 := h584
              replace h585 : at581 ≤ T := h585
              replace h586 : fa384 ≤ fa582 := h586
              replace h587 : fa582 ≤ 100 := h587
              replace h588 : If (0 < fa384) (at581 = at383 ∧ fa582 = fa384) := h588
              replace h589 : at581 ≤ at383 + 1 := h589
              replace h590 : at383 + 1 ≤ at581 + fa582 := h590
              replace h591 : If (fa582 = 0) (K at383 = 123) := h591
              obtain rfl : v580 = none := hw579
              have hP : va_P G.1 pCl (mW G h0 a (upd (upd (upd (upd (upd (upd (upd (upd (upd (upd (upd (upd (upd (upd (upd F 15 (nI fa582)) 16 pl583) 27 (nI nd)) 31 (nI wr)) 34 (nI (lz + 1))) 35 (nI (dc + 1))) 44 (nI fd)) 49 (nI md)) 59 (nI bk)) 60 (nI pr)) 64 (nI at581)) 65 ne0) 66 (nI lk)) 67 (nI mf)) 68 (nI mm)) (updA (stR (stR (stR (stR (stR (stR (stR (stR (stR B 26 dc 0) 25 dc (nI (at0 + 1))) 24 dc (nI v51)) 27 dc (-1)) 28 dc (-1)) 29 dc 0) 27 dc (nI lz)) 22 lz (nI at233)) 23 lz (-1)) 2 K)) _ := hP
              have hD : va_D A (mW G h0 a (upd (upd (upd (upd (upd (upd (upd (upd (upd (upd (upd (upd (upd (upd (upd F 15 (nI fa582)) 16 pl583) 27 (nI nd)) 31 (nI wr)) 34 (nI (lz + 1))) 35 (nI (dc + 1))) 44 (nI fd)) 49 (nI md)) 59 (nI bk)) 60 (nI pr)) 64 (nI at581)) 65 ne0) 66 (nI lk)) 67 (nI mf)) 68 (nI mm)) (updA (stR (stR (stR (stR (stR (stR (stR (stR (stR B 26 dc 0) 25 dc (nI (at0 + 1))) 24 dc (nI v51)) 27 dc (-1)) 28 dc (-1)) 29 dc 0) 27 dc (nI lz)) 22 lz (nI at233)) 23 lz (-1)) 2 K)) := hD
              refine W.widen (k := 0) (n := 0) (Nat.le_of_ble_eq_true rfl) (Nat.le_of_ble_eq_true rfl) ?_
              refine W.eq (g2 := F0 m 243 ls []) rfl ?_
              obtain ⟨n593, n592⟩ := h588 e394
              replace n593 := n593.symm
              subst n593
              replace n592 := n592.symm
              subst n592
              refine lv_aload_n hx hb dX12_declaration_243 rfl (lv_at hl 2 rfl) ?_
              refine lv_iconst (v := 0) hx hb dX12_declaration_244 (by decide) ?_
              refine r_put (v := 0) (ty := .int) hx hb hown hq hE hP hD hS 67 390 tFX12_67 (by decide) pw_1726 (by decide) rfl rfl (ms_67 a _ _) dX12_declaration_245 (fun H locs hP hD hS => ?_)
              refine lv_aload_n hx hb dX12_declaration_248 rfl (lv_at hl 2 rfl) ?_
              refine lv_iconst (v := 0) hx hb dX12_declaration_249 (by decide) ?_
              refine r_put (v := 0) (ty := .int) hx hb hown hq hE hP hD hS 68 393 tFX12_68 (by decide) pw_1722 (by decide) rfl rfl (ms_68 a _ _) dX12_declaration_250 (fun H locs hP hD hS => ?_)
              refine lv_aload_n hx hb dX12_declaration_253 rfl (lv_at hl 2 rfl) ?_
              refine r_get (v := .int (nI fa384)) hx hb hown hq hE hP 15 350 tFX12_15 (by decide) pw_1594 rfl dX12_declaration_254 ?_
              refine lv_if_ne (tgt := 277) hx hb dX12_declaration_257 (by decide) (fun c594 => ?_) (fun c594 => (by have n595 : fa384 = 0 := (nI_eq (a := fa384) (b := 0) (by omega) (by omega)).mp c594; omega))
              refine lv_aload_n hx hb dX12_declaration_277 rfl (lv_at hl 2 rfl) ?_
              refine lv_bipush (v := 125) hx hb dX12_declaration_278 (by decide) ?_
              have hP : va_P G.1 pCl (mW G h0 a (upd (upd (upd (upd (upd (upd (upd (upd (upd (upd (upd (upd (upd (upd (upd (upd (upd F 15 (nI fa384)) 16 pl583) 27 (nI nd)) 31 (nI wr)) 34 (nI (lz + 1))) 35 (nI (dc + 1))) 44 (nI fd)) 49 (nI md)) 59 (nI bk)) 60 (nI pr)) 64 (nI at383)) 65 ne0) 66 (nI lk)) 67 0) 68 0) 15 (nI fa384)) 64 (nI at383)) (updA (updA (stR (stR (stR (stR (stR (stR (stR (stR (stR B 26 dc 0) 25 dc (nI (at0 + 1))) 24 dc (nI v51)) 27 dc (-1)) 28 dc (-1)) 29 dc 0) 27 dc (nI lz)) 22 lz (nI at233)) 23 lz (-1)) 2 K) 2 K)) _ := hP
              have hD : va_D A (mW G h0 a (upd (upd (upd (upd (upd (upd (upd (upd (upd (upd (upd (upd (upd (upd (upd (upd (upd F 15 (nI fa384)) 16 pl583) 27 (nI nd)) 31 (nI wr)) 34 (nI (lz + 1))) 35 (nI (dc + 1))) 44 (nI fd)) 49 (nI md)) 59 (nI bk)) 60 (nI pr)) 64 (nI at383)) 65 ne0) 66 (nI lk)) 67 0) 68 0) 15 (nI fa384)) 64 (nI at383)) (updA (updA (stR (stR (stR (stR (stR (stR (stR (stR (stR B 26 dc 0) 25 dc (nI (at0 + 1))) 24 dc (nI v51)) 27 dc (-1)) 28 dc (-1)) 29 dc 0) 27 dc (nI lz)) 22 lz (nI at233)) 23 lz (-1)) 2 K) 2 K)) := hD
              refine pc_V0 (G := G) (As := [.int 125]) (rest := []) hx hb hml hown hq hE hX pX0_al hP hD hS hA hl.1 (R_take l G h0 a (upd (upd (upd (upd (upd (upd (upd (upd (upd (upd (upd (upd (upd (upd (upd F 15 (nI fa384)) 16 pl583) 27 (nI nd)) 31 (nI wr)) 34 (nI (lz + 1))) 35 (nI (dc + 1))) 44 (nI fd)) 49 (nI md)) 59 (nI bk)) 60 (nI pr)) 64 (nI at383)) 65 ne0) 66 (nI lk)) 67 0) 68 0) (updA (stR (stR (stR (stR (stR (stR (stR (stR (stR B 26 dc 0) 25 dc (nI (at0 + 1))) 24 dc (nI v51)) 27 dc (-1)) 28 dc (-1)) 29 dc 0) 27 dc (nI lz)) 22 lz (nI at233)) 23 lz (-1)) 2 K) at383 T fa384 K 125 (by omega) (by omega) hK (by omega) (by decide) (by decide)) (gV pw_1614 pw_1615 pw_1616 pw_1523 pw_1601) hV_X12_take 0 9 rfl rfl rfl rfl (Nat.le_of_ble_eq_true rfl) dX12_declaration_280 ⟨Nat.le_of_ble_eq_true rfl, Nat.le_of_ble_eq_true rfl⟩ ⟨Nat.le_of_ble_eq_true rfl, Nat.le_of_ble_eq_true rfl⟩ (fun v598 u596 H locs hw597 hP hD hS => ?_)
              obtain ⟨at599, fa600, pl601⟩ := u596
              obtain ⟨hw597, h602, h603, h604, h605, h606, h607, h608, h609⟩ := hw597
              replace h602 : at383 ≤ at599 := h602
              replace h603 : at599 ≤ T := h603
              replace h604 : fa384 ≤ fa600 := h604
              replace h605 : fa600 ≤ 100 := h605
              replace h606 : If (0 < fa384) (at599 = at383 ∧ fa600 = fa384) := h606
              replace h607 : at599 ≤ at383 + 1 := h607
              replace h608 : at383 + 1 ≤ at599 + fa600 := h608
              replace h609 : If (fa600 = 0) (K at383 = 125) := h609
              obtain rfl : v598 = none := hw597
              have hP : va_P G.1 pCl (mW G h0 a (upd (upd (upd (upd (upd (upd (upd (upd (upd (upd (upd (upd (upd (upd (upd F 15 (nI fa600)) 16 pl601) 27 (nI nd)) 31 (nI wr)) 34 (nI (lz + 1))) 35 (nI (dc + 1))) 44 (nI fd)) 49 (nI md)) 59 (nI bk)) 60 (nI pr)) 64 (nI at599)) 65 ne0) 66 (nI lk)) 67 0) 68 0) (updA (stR (stR (stR (stR (stR (stR (stR (stR (stR B 26 dc 0) 25 dc (nI (at0 + 1))) 24 dc (nI v51)) 27 dc (-1)) 28 dc (-1)) 29 dc 0) 27 dc (nI lz)) 22 lz (nI at233)) 23 lz (-1)) 2 K)) _ := hP
              have hD : va_D A (mW G h0 a (upd (upd (upd (upd (upd (upd (upd (upd (upd (upd (upd (upd (upd (upd (upd F 15 (nI fa600)) 16 pl601) 27 (nI nd)) 31 (nI wr)) 34 (nI (lz + 1))) 35 (nI (dc + 1))) 44 (nI fd)) 49 (nI md)) 59 (nI bk)) 60 (nI pr)) 64 (nI at599)) 65 ne0) 66 (nI lk)) 67 0) 68 0) (updA (stR (stR (stR (stR (stR (stR (stR (stR (stR B 26 dc 0) 25 dc (nI (at0 + 1))) 24 dc (nI v51)) 27 dc (-1)) 28 dc (-1)) 29 dc 0) 27 dc (nI lz)) 22 lz (nI at233)) 23 lz (-1)) 2 K)) := hD
              refine W.widen (k := 0) (n := 0) (Nat.le_of_ble_eq_true rfl) (Nat.le_of_ble_eq_true rfl) ?_
              refine W.eq (g2 := F0 m 283 ls []) rfl ?_
              obtain ⟨n611, n610⟩ := h606 e394
              replace n611 := n611.symm
              subst n611
              replace n610 := n610.symm
              subst n610
              have hz612 : at0 ≤ at383 := (by omega)
              have hz613 : at383 ≤ T := (by omega)
              have hz614 : fa384 ≤ 100 := (by omega)
              have hz615 : at0 + 1 ≤ at383 + fa384 := (by omega)
              have hz616 : Kq 1 B (stR (stR (stR (stR (stR (stR (stR (stR (stR B 26 dc 0) 25 dc (nI (at0 + 1))) 24 dc (nI v51)) 27 dc (-1)) 28 dc (-1)) 29 dc 0) 27 dc (nI lz)) 22 lz (nI at233)) 23 lz (-1)) := hkq555
              have hz617 : If (fa384 = 0) ((nd ≤ 2 * at383 ∧ wr ≤ at383 ∧ (lz + 1) ≤ at383 ∧ pr ≤ at383 ∧ (dc + 1) ≤ 37 ∧ dc ≤ (dc + 1) ∧ bk ≤ md ∧ wr ≤ wr ∧ lz ≤ (lz + 1)) ∧ (md + 210 ≤ 30 * (dc + 1) ∧ fd + 140 ≤ 20 * (dc + 1) ∧ (dc + 1) ≤ 37 ∧ 7 ≤ (dc + 1) ∧ (dc + 1) ≤ dc + 1) ∧ PS T nm wr (lz + 1) (dc + 1) fd md pr bk (stR (stR (stR (stR (stR (stR (stR (stR (stR B 26 dc 0) 25 dc (nI (at0 + 1))) 24 dc (nI v51)) 27 dc (-1)) 28 dc (-1)) 29 dc 0) 27 dc (nI lz)) 22 lz (nI at233)) 23 lz (-1)) ∧ FrM K T wr (stR (stR (stR (stR (stR (stR (stR (stR (stR B 26 dc 0) 25 dc (nI (at0 + 1))) 24 dc (nI v51)) 27 dc (-1)) 28 dc (-1)) 29 dc 0) 27 dc (nI lz)) 22 lz (nI at233)) 23 lz (-1)) nd md ∧ tkRow ((stR (stR (stR (stR (stR (stR (stR (stR (stR B 26 dc 0) 25 dc (nI (at0 + 1))) 24 dc (nI v51)) 27 dc (-1)) 28 dc (-1)) 29 dc 0) 27 dc (nI lz)) 22 lz (nI at233)) 23 lz (-1)) 19) wr T ∧ lsRow ((stR (stR (stR (stR (stR (stR (stR (stR (stR B 26 dc 0) 25 dc (nI (at0 + 1))) 24 dc (nI v51)) 27 dc (-1)) 28 dc (-1)) 29 dc 0) 27 dc (nI lz)) 22 lz (nI at233)) 23 lz (-1)) 22) ((stR (stR (stR (stR (stR (stR (stR (stR (stR B 26 dc 0) 25 dc (nI (at0 + 1))) 24 dc (nI v51)) 27 dc (-1)) 28 dc (-1)) 29 dc 0) 27 dc (nI lz)) 22 lz (nI at233)) 23 lz (-1)) 23) (lz + 1) T) := (fun e => absurd e (by omega))
              have hz618 : If (fa384 = 0) (Sng (stR (stR (stR (stR (stR (stR (stR (stR (stR B 26 dc 0) 25 dc (nI (at0 + 1))) 24 dc (nI v51)) 27 dc (-1)) 28 dc (-1)) 29 dc 0) 27 dc (nI lz)) 22 lz (nI at233)) 23 lz (-1)) (dc + 1) (lz + 1)) := (fun e => absurd e (by omega))
              have hP : va_P G.1 pCl (mW G h0 a (upd (upd (upd (upd (upd (upd (upd (upd (upd (upd (upd (upd (upd (upd (upd F 15 (nI fa384)) 16 pl601) 27 (nI nd)) 31 (nI wr)) 34 (nI (lz + 1))) 35 (nI (dc + 1))) 44 (nI fd)) 49 (nI md)) 59 (nI bk)) 60 (nI pr)) 64 (nI at383)) 65 ne0) 66 (nI lk)) 67 (nI 0)) 68 (nI 0)) (updA (stR (stR (stR (stR (stR (stR (stR (stR (stR B 26 dc 0) 25 dc (nI (at0 + 1))) 24 dc (nI v51)) 27 dc (-1)) 28 dc (-1)) 29 dc 0) 27 dc (nI lz)) 22 lz (nI at233)) 23 lz (-1)) 2 K)) _ := hP
              have hD : va_D A (mW G h0 a (upd (upd (upd (upd (upd (upd (upd (upd (upd (upd (upd (upd (upd (upd (upd F 15 (nI fa384)) 16 pl601) 27 (nI nd)) 31 (nI wr)) 34 (nI (lz + 1))) 35 (nI (dc + 1))) 44 (nI fd)) 49 (nI md)) 59 (nI bk)) 60 (nI pr)) 64 (nI at383)) 65 ne0) 66 (nI lk)) 67 (nI 0)) 68 (nI 0)) (updA (stR (stR (stR (stR (stR (stR (stR (stR (stR B 26 dc 0) 25 dc (nI (at0 + 1))) 24 dc (nI v51)) 27 dc (-1)) 28 dc (-1)) 29 dc 0) 27 dc (nI lz)) 22 lz (nI at233)) 23 lz (-1)) 2 K)) := hD
              exact W.vret hx hb hr (fun t9 ht9 hW9 => ⟨⟨_, (at383, fa384, pl601, nd, wr, (lz + 1), (dc + 1), fd, md, pr, bk, 0, 0, ne0, (stR (stR (stR (stR (stR (stR (stR (stR (stR B 26 dc 0) 25 dc (nI (at0 + 1))) 24 dc (nI v51)) 27 dc (-1)) 28 dc (-1)) 29 dc 0) 27 dc (nI lz)) 22 lz (nI at233)) 23 lz (-1))), rfl, ⟨rfl, hz612, hz613, hz614, hz615, hz616, hz617, hz618⟩, by rw [ht9]; exact hP, hD⟩, hS.F ht9⟩) hS.2.2 dX12_declaration_283
        · have e37 := e37
          refine r_sti (f := ((stR B 26 dc 0) 25)) (j := dc) hx hb hE hP hD hS 25 (ma_25 G a _) rfl (mas_25 G a _) (by omega) (by decide) dX12_declaration_82 (fun H locs hP hD hS => ?_)
          have hP : va_P G.1 pCl (mW G h0 a (upd (upd (upd (upd (upd (upd (upd (upd (upd (upd (upd (upd (upd (upd (upd F 15 (nI fa27)) 16 pl28) 27 (nI nd)) 31 (nI wr)) 34 (nI lz)) 35 (nI dc)) 44 (nI fd)) 49 (nI md)) 59 (nI bk)) 60 (nI pr)) 64 (nI at26)) 65 ne0) 66 (nI lk)) 67 (nI mf)) 68 (nI mm)) (updA (stR (stR B 26 dc 0) 25 dc (nI (at0 + 1))) 2 K)) _ := hP
          have hD : va_D A (mW G h0 a (upd (upd (upd (upd (upd (upd (upd (upd (upd (upd (upd (upd (upd (upd (upd F 15 (nI fa27)) 16 pl28) 27 (nI nd)) 31 (nI wr)) 34 (nI lz)) 35 (nI dc)) 44 (nI fd)) 49 (nI md)) 59 (nI bk)) 60 (nI pr)) 64 (nI at26)) 65 ne0) 66 (nI lk)) 67 (nI mf)) 68 (nI mm)) (updA (stR (stR B 26 dc 0) 25 dc (nI (at0 + 1))) 2 K)) := hD
          have hkq619 : Kq 1 B (stR (stR B 26 dc 0) 25 dc (nI (at0 + 1))) := (Kq.st hkq16 (by omega))
          have hce620 : (stR (stR B 26 dc 0) 25 dc (nI (at0 + 1))) 26 dc = 0 := ((st_ne (by omega)).trans hce22)
          have hty621 : tkRow ((stR (stR B 26 dc 0) 25 dc (nI (at0 + 1))) 19) wr T := hty17
          have hce622 : (stR (stR B 26 dc 0) 25 dc (nI (at0 + 1))) 25 dc = (nI (at0 + 1)) := st_eq
          refine lv_aload_n hx hb dX12_declaration_83 rfl (lv_at hl 2 rfl) ?_
          refine r_get (v := .int (nI fa27)) hx hb hown hq hE hP 15 350 tFX12_15 (by decide) pw_1594 rfl dX12_declaration_84 ?_
          refine lv_if_le (tgt := 91) hx hb dX12_declaration_87 (by decide) (fun c623 => (by have n624 : fa27 ≤ 0 := (nI_leI (a := fa27) (b := 0) (by omega) (by omega)).mp c623; omega)) (fun c623 => ?_)
          have hz625 : at0 ≤ at26 := (by omega)
          have hz626 : at26 ≤ T := (by omega)
          have hz627 : fa27 ≤ 100 := (by omega)
          have hz628 : at0 + 1 ≤ at26 + fa27 := (by omega)
          have hz629 : Kq 1 B (stR (stR B 26 dc 0) 25 dc (nI (at0 + 1))) := hkq619
          have hz630 : If (fa27 = 0) ((nd ≤ 2 * at26 ∧ wr ≤ at26 ∧ lz ≤ at26 ∧ pr ≤ at26 ∧ dc ≤ 37 ∧ dc ≤ dc ∧ bk ≤ md ∧ wr ≤ wr ∧ lz ≤ lz) ∧ (md + 210 ≤ 30 * dc ∧ fd + 140 ≤ 20 * dc ∧ dc ≤ 37 ∧ 7 ≤ dc ∧ dc ≤ dc + 1) ∧ PS T nm wr lz dc fd md pr bk (stR (stR B 26 dc 0) 25 dc (nI (at0 + 1))) ∧ FrM K T wr (stR (stR B 26 dc 0) 25 dc (nI (at0 + 1))) nd md ∧ tkRow ((stR (stR B 26 dc 0) 25 dc (nI (at0 + 1))) 19) wr T ∧ lsRow ((stR (stR B 26 dc 0) 25 dc (nI (at0 + 1))) 22) ((stR (stR B 26 dc 0) 25 dc (nI (at0 + 1))) 23) lz T) := (fun e => absurd e (by omega))
          have hz631 : If (fa27 = 0) (Sng (stR (stR B 26 dc 0) 25 dc (nI (at0 + 1))) dc lz) := (fun e => absurd e (by omega))
          have hP : va_P G.1 pCl (mW G h0 a (upd (upd (upd (upd (upd (upd (upd (upd (upd (upd (upd (upd (upd (upd (upd F 15 (nI fa27)) 16 pl28) 27 (nI nd)) 31 (nI wr)) 34 (nI lz)) 35 (nI dc)) 44 (nI fd)) 49 (nI md)) 59 (nI bk)) 60 (nI pr)) 64 (nI at26)) 65 ne0) 66 (nI lk)) 67 (nI mf)) 68 (nI mm)) (updA (stR (stR B 26 dc 0) 25 dc (nI (at0 + 1))) 2 K)) _ := hP
          have hD : va_D A (mW G h0 a (upd (upd (upd (upd (upd (upd (upd (upd (upd (upd (upd (upd (upd (upd (upd F 15 (nI fa27)) 16 pl28) 27 (nI nd)) 31 (nI wr)) 34 (nI lz)) 35 (nI dc)) 44 (nI fd)) 49 (nI md)) 59 (nI bk)) 60 (nI pr)) 64 (nI at26)) 65 ne0) 66 (nI lk)) 67 (nI mf)) 68 (nI mm)) (updA (stR (stR B 26 dc 0) 25 dc (nI (at0 + 1))) 2 K)) := hD
          exact W.vret hx hb hr (fun t9 ht9 hW9 => ⟨⟨_, (at26, fa27, pl28, nd, wr, lz, dc, fd, md, pr, bk, mf, mm, ne0, (stR (stR B 26 dc 0) 25 dc (nI (at0 + 1)))), rfl, ⟨rfl, hz625, hz626, hz627, hz628, hz629, hz630, hz631⟩, by rw [ht9]; exact hP, hD⟩, hS.F ht9⟩) hS.2.2 dX12_declaration_90
      · have n632 : dc = 37 := (nI_eq (a := dc) (b := 37) (by omega) (by omega)).mp c12
        refine lv_aload_n hx hb dX12_declaration_45 rfl (lv_at hl 1 rfl) ?_
        refine lv_iconst (v := 2) hx hb dX12_declaration_46 (by decide) ?_
        have hP : va_P G.1 pCl (mW G h0 a (upd (upd (upd (upd (upd (upd (upd (upd (upd (upd (upd (upd (upd (upd (upd (upd F 15 0) 27 (nI nd)) 31 (nI wr)) 34 (nI lz)) 35 (nI dc)) 44 (nI fd)) 49 (nI md)) 59 (nI bk)) 60 (nI pr)) 64 (nI at0)) 65 ne0) 66 (nI lk)) 67 (nI mf)) 68 (nI mm)) 15 (nI 0)) 64 (nI at0)) (updA (updA B 2 K) 2 K)) _ := hP
        have hD : va_D A (mW G h0 a (upd (upd (upd (upd (upd (upd (upd (upd (upd (upd (upd (upd (upd (upd (upd (upd F 15 0) 27 (nI nd)) 31 (nI wr)) 34 (nI lz)) 35 (nI dc)) 44 (nI fd)) 49 (nI md)) 59 (nI bk)) 60 (nI pr)) 64 (nI at0)) 65 ne0) 66 (nI lk)) 67 (nI mf)) 68 (nI mm)) 15 (nI 0)) 64 (nI at0)) (updA (updA B 2 K) 2 K)) := hD
        refine pc_V0 (G := G) (As := [.int (nI 2)]) (rest := []) hx hb hml hown hq hE hX pX0_al hP hD hS hA hl.1 (R_bad l G h0 a (upd (upd (upd (upd (upd (upd (upd (upd (upd (upd (upd (upd (upd (upd F 15 0) 27 (nI nd)) 31 (nI wr)) 34 (nI lz)) 35 (nI dc)) 44 (nI fd)) 49 (nI md)) 59 (nI bk)) 60 (nI pr)) 64 (nI at0)) 65 ne0) 66 (nI lk)) 67 (nI mf)) 68 (nI mm)) (updA B 2 K) at0 T 0 K 2 (by omega) (by omega) hK (by omega) (by omega) (by omega)) (gV pw_1602 pw_1603 pw_1604 pw_1523 pw_1596) hV_X12_bad 0 9 rfl rfl rfl rfl (Nat.le_of_ble_eq_true rfl) dX12_declaration_47 ⟨Nat.le_of_ble_eq_true rfl, Nat.le_of_ble_eq_true rfl⟩ ⟨Nat.le_of_ble_eq_true rfl, Nat.le_of_ble_eq_true rfl⟩ (fun v635 u633 H locs hw634 hP hD hS => ?_)
        obtain ⟨fa636, pl637⟩ := u633
        obtain ⟨hw634, h638, h639, h640, h641⟩ := hw634
        replace h638 : 0 ≤ fa636 := h638
        replace h639 : fa636 ≤ 0 + 2 := h639
        replace h640 : 0 < fa636 := h640
        replace h641 : If (0 < 0) (fa636 = 0) := h641
        obtain rfl : v635 = none := hw634
        have hP : va_P G.1 pCl (mW G h0 a (upd (upd (upd (upd (upd (upd (upd (upd (upd (upd (upd (upd (upd (upd (upd F 15 (nI fa636)) 16 pl637) 27 (nI nd)) 31 (nI wr)) 34 (nI lz)) 35 (nI dc)) 44 (nI fd)) 49 (nI md)) 59 (nI bk)) 60 (nI pr)) 64 (nI at0)) 65 ne0) 66 (nI lk)) 67 (nI mf)) 68 (nI mm)) (updA B 2 K)) _ := hP
        have hD : va_D A (mW G h0 a (upd (upd (upd (upd (upd (upd (upd (upd (upd (upd (upd (upd (upd (upd (upd F 15 (nI fa636)) 16 pl637) 27 (nI nd)) 31 (nI wr)) 34 (nI lz)) 35 (nI dc)) 44 (nI fd)) 49 (nI md)) 59 (nI bk)) 60 (nI pr)) 64 (nI at0)) 65 ne0) 66 (nI lk)) 67 (nI mf)) 68 (nI mm)) (updA B 2 K)) := hD
        refine W.widen (k := 0) (n := 0) (Nat.le_of_ble_eq_true rfl) (Nat.le_of_ble_eq_true rfl) ?_
        refine W.eq (g2 := F0 m 50 ls []) rfl ?_
        have hz642 : at0 ≤ at0 := (by omega)
        have hz643 : at0 ≤ T := (by omega)
        have hz644 : fa636 ≤ 100 := (by omega)
        have hz645 : at0 + 1 ≤ at0 + fa636 := (by omega)
        have hz646 : Kq 1 B B := hkq1
        have hz647 : If (fa636 = 0) ((nd ≤ 2 * at0 ∧ wr ≤ at0 ∧ lz ≤ at0 ∧ pr ≤ at0 ∧ dc ≤ 37 ∧ dc ≤ dc ∧ bk ≤ md ∧ wr ≤ wr ∧ lz ≤ lz) ∧ (md + 210 ≤ 30 * dc ∧ fd + 140 ≤ 20 * dc ∧ dc ≤ 37 ∧ 7 ≤ dc ∧ dc ≤ dc + 1) ∧ PS T nm wr lz dc fd md pr bk B ∧ FrM K T wr B nd md ∧ tkRow (B 19) wr T ∧ lsRow (B 22) (B 23) lz T) := (fun e => absurd e (by omega))
        have hz648 : If (fa636 = 0) (Sng B dc lz) := (fun e => absurd e (by omega))
        have hP : va_P G.1 pCl (mW G h0 a (upd (upd (upd (upd (upd (upd (upd (upd (upd (upd (upd (upd (upd (upd (upd F 15 (nI fa636)) 16 pl637) 27 (nI nd)) 31 (nI wr)) 34 (nI lz)) 35 (nI dc)) 44 (nI fd)) 49 (nI md)) 59 (nI bk)) 60 (nI pr)) 64 (nI at0)) 65 ne0) 66 (nI lk)) 67 (nI mf)) 68 (nI mm)) (updA B 2 K)) _ := hP
        have hD : va_D A (mW G h0 a (upd (upd (upd (upd (upd (upd (upd (upd (upd (upd (upd (upd (upd (upd (upd F 15 (nI fa636)) 16 pl637) 27 (nI nd)) 31 (nI wr)) 34 (nI lz)) 35 (nI dc)) 44 (nI fd)) 49 (nI md)) 59 (nI bk)) 60 (nI pr)) 64 (nI at0)) 65 ne0) 66 (nI lk)) 67 (nI mf)) 68 (nI mm)) (updA B 2 K)) := hD
        exact W.vret hx hb hr (fun t9 ht9 hW9 => ⟨⟨_, (at0, fa636, pl637, nd, wr, lz, dc, fd, md, pr, bk, mf, mm, ne0, B), rfl, ⟨rfl, hz642, hz643, hz644, hz645, hz646, hz647, hz648⟩, by rw [ht9]; exact hP, hD⟩, hS.F ht9⟩) hS.2.2 dX12_declaration_50
    · refine lv_aload_n hx hb dX12_declaration_30 rfl (lv_at hl 1 rfl) ?_
      refine lv_iconst (v := 1) hx hb dX12_declaration_31 (by decide) ?_
      have hP : va_P G.1 pCl (mW G h0 a (upd (upd (upd (upd (upd (upd (upd (upd (upd (upd (upd (upd (upd (upd (upd (upd F 15 0) 27 (nI nd)) 31 (nI wr)) 34 (nI lz)) 35 (nI dc)) 44 (nI fd)) 49 (nI md)) 59 (nI bk)) 60 (nI pr)) 64 (nI at0)) 65 ne0) 66 (nI lk)) 67 (nI mf)) 68 (nI mm)) 15 (nI 0)) 64 (nI at0)) (updA (updA B 2 K) 2 K)) _ := hP
      have hD : va_D A (mW G h0 a (upd (upd (upd (upd (upd (upd (upd (upd (upd (upd (upd (upd (upd (upd (upd (upd F 15 0) 27 (nI nd)) 31 (nI wr)) 34 (nI lz)) 35 (nI dc)) 44 (nI fd)) 49 (nI md)) 59 (nI bk)) 60 (nI pr)) 64 (nI at0)) 65 ne0) 66 (nI lk)) 67 (nI mf)) 68 (nI mm)) 15 (nI 0)) 64 (nI at0)) (updA (updA B 2 K) 2 K)) := hD
      refine pc_V0 (G := G) (As := [.int (nI 1)]) (rest := []) hx hb hml hown hq hE hX pX0_al hP hD hS hA hl.1 (R_bad l G h0 a (upd (upd (upd (upd (upd (upd (upd (upd (upd (upd (upd (upd (upd (upd F 15 0) 27 (nI nd)) 31 (nI wr)) 34 (nI lz)) 35 (nI dc)) 44 (nI fd)) 49 (nI md)) 59 (nI bk)) 60 (nI pr)) 64 (nI at0)) 65 ne0) 66 (nI lk)) 67 (nI mf)) 68 (nI mm)) (updA B 2 K) at0 T 0 K 1 (by omega) (by omega) hK (by omega) (by omega) (by omega)) (gV pw_1602 pw_1603 pw_1604 pw_1523 pw_1596) hV_X12_bad 0 9 rfl rfl rfl rfl (Nat.le_of_ble_eq_true rfl) dX12_declaration_32 ⟨Nat.le_of_ble_eq_true rfl, Nat.le_of_ble_eq_true rfl⟩ ⟨Nat.le_of_ble_eq_true rfl, Nat.le_of_ble_eq_true rfl⟩ (fun v651 u649 H locs hw650 hP hD hS => ?_)
      obtain ⟨fa652, pl653⟩ := u649
      obtain ⟨hw650, h654, h655, h656, h657⟩ := hw650
      replace h654 : 0 ≤ fa652 := h654
      replace h655 : fa652 ≤ 0 + 1 := h655
      replace h656 : 0 < fa652 := h656
      replace h657 : If (0 < 0) (fa652 = 0) := h657
      obtain rfl : v651 = none := hw650
      have hP : va_P G.1 pCl (mW G h0 a (upd (upd (upd (upd (upd (upd (upd (upd (upd (upd (upd (upd (upd (upd (upd F 15 (nI fa652)) 16 pl653) 27 (nI nd)) 31 (nI wr)) 34 (nI lz)) 35 (nI dc)) 44 (nI fd)) 49 (nI md)) 59 (nI bk)) 60 (nI pr)) 64 (nI at0)) 65 ne0) 66 (nI lk)) 67 (nI mf)) 68 (nI mm)) (updA B 2 K)) _ := hP
      have hD : va_D A (mW G h0 a (upd (upd (upd (upd (upd (upd (upd (upd (upd (upd (upd (upd (upd (upd (upd F 15 (nI fa652)) 16 pl653) 27 (nI nd)) 31 (nI wr)) 34 (nI lz)) 35 (nI dc)) 44 (nI fd)) 49 (nI md)) 59 (nI bk)) 60 (nI pr)) 64 (nI at0)) 65 ne0) 66 (nI lk)) 67 (nI mf)) 68 (nI mm)) (updA B 2 K)) := hD
      refine W.widen (k := 0) (n := 0) (Nat.le_of_ble_eq_true rfl) (Nat.le_of_ble_eq_true rfl) ?_
      refine W.eq (g2 := F0 m 35 ls []) rfl ?_
      have hz658 : at0 ≤ at0 := (by omega)
      have hz659 : at0 ≤ T := (by omega)
      have hz660 : fa652 ≤ 100 := (by omega)
      have hz661 : at0 + 1 ≤ at0 + fa652 := (by omega)
      have hz662 : Kq 1 B B := hkq1
      have hz663 : If (fa652 = 0) ((nd ≤ 2 * at0 ∧ wr ≤ at0 ∧ lz ≤ at0 ∧ pr ≤ at0 ∧ dc ≤ 37 ∧ dc ≤ dc ∧ bk ≤ md ∧ wr ≤ wr ∧ lz ≤ lz) ∧ (md + 210 ≤ 30 * dc ∧ fd + 140 ≤ 20 * dc ∧ dc ≤ 37 ∧ 7 ≤ dc ∧ dc ≤ dc + 1) ∧ PS T nm wr lz dc fd md pr bk B ∧ FrM K T wr B nd md ∧ tkRow (B 19) wr T ∧ lsRow (B 22) (B 23) lz T) := (fun e => absurd e (by omega))
      have hz664 : If (fa652 = 0) (Sng B dc lz) := (fun e => absurd e (by omega))
      have hP : va_P G.1 pCl (mW G h0 a (upd (upd (upd (upd (upd (upd (upd (upd (upd (upd (upd (upd (upd (upd (upd F 15 (nI fa652)) 16 pl653) 27 (nI nd)) 31 (nI wr)) 34 (nI lz)) 35 (nI dc)) 44 (nI fd)) 49 (nI md)) 59 (nI bk)) 60 (nI pr)) 64 (nI at0)) 65 ne0) 66 (nI lk)) 67 (nI mf)) 68 (nI mm)) (updA B 2 K)) _ := hP
      have hD : va_D A (mW G h0 a (upd (upd (upd (upd (upd (upd (upd (upd (upd (upd (upd (upd (upd (upd (upd F 15 (nI fa652)) 16 pl653) 27 (nI nd)) 31 (nI wr)) 34 (nI lz)) 35 (nI dc)) 44 (nI fd)) 49 (nI md)) 59 (nI bk)) 60 (nI pr)) 64 (nI at0)) 65 ne0) 66 (nI lk)) 67 (nI mf)) 68 (nI mm)) (updA B 2 K)) := hD
      exact W.vret hx hb hr (fun t9 ht9 hW9 => ⟨⟨_, (at0, fa652, pl653, nd, wr, lz, dc, fd, md, pr, bk, mf, mm, ne0, B), rfl, ⟨rfl, hz658, hz659, hz660, hz661, hz662, hz663, hz664⟩, by rw [ht9]; exact hP, hD⟩, hS.F ht9⟩) hS.2.2 dX12_declaration_35
  · have n665 : at0 < T := tk_lt hat hK c5 (by decide) (by decide)
    refine lv_iconst (v := 1) hx hb dX12_declaration_10 (by decide) ?_
    refine lv_goto (tgt := 15) hx hb dX12_declaration_11 (by decide) ?_
    refine lv_istore_n (lv' := [(1, .int 1), (0, .ref h0)]) hx hb dX12_declaration_15 rfl hl (by decide) rfl (fun ls hl => ?_)
    refine lv_iload_n hx hb dX12_declaration_16 rfl (lv_at hl 0 rfl) ?_
    refine lv_if_ne (tgt := 36) hx hb dX12_declaration_17 (by decide) (fun c666 => ?_) (fun c666 => absurd c666 (by decide))
    refine lv_aload_n hx hb dX12_declaration_36 rfl (lv_at hl 1 rfl) ?_
    refine r_get (v := .int (nI dc)) hx hb hown hq hE hP 35 384 tFX12_35 (by decide) pw_1732 rfl dX12_declaration_37 ?_
    refine lv_bipush (v := 37) hx hb dX12_declaration_40 (by decide) ?_
    refine lv_icmp_ne (tgt := 51) hx hb dX12_declaration_42 (by decide) (fun c667 => ?_) (fun c667 => ?_)
    · have n668 : ¬ (dc = 37) := fun h9 => c667 ((nI_eq (a := dc) (b := 37) (by omega) (by omega)).mpr h9)
      refine lv_aload_n hx hb dX12_declaration_51 rfl (lv_at hl 1 rfl) ?_
      refine lv_dup hx hb dX12_declaration_52 rfl ?_
      refine r_get (v := .int (nI at0)) hx hb hown hq hE hP 64 343 tFX12_64 (by decide) pw_1592 rfl dX12_declaration_53 ?_
      refine lv_iconst (v := 1) hx hb dX12_declaration_56 (by decide) ?_
      refine lv_iadd hx hb dX12_declaration_57 ?_
      refine lv_topi (fun x669 e670 => ?_)
      obtain rfl : x669 = nI (at0 + 1) := e670.trans (nI_add (at0) (1))
      refine r_put (v := (nI (at0 + 1))) (ty := .int) hx hb hown hq hE hP hD hS 64 343 tFX12_64 (by decide) pw_1592 (by decide) rfl rfl (ms_64 a _ _) dX12_declaration_58 (fun H locs hP hD hS => ?_)
      refine lv_aload_n hx hb dX12_declaration_61 rfl (lv_at hl 1 rfl) ?_
      refine r_get (v := .int (nI dc)) hx hb hown hq hE hP 35 384 tFX12_35 (by decide) pw_1732 rfl dX12_declaration_62 ?_
      refine lv_istore_n (lv' := [(2, .int (nI dc)), (1, .int 1), (0, .ref h0)]) hx hb dX12_declaration_65 rfl hl (by decide) rfl (fun ls hl => ?_)
      refine lv_aload_n hx hb dX12_declaration_66 rfl (lv_at hl 2 rfl) ?_
      refine r_get (v := .ref (a 26)) hx hb hown hq hE hP 38 90 tFX12_38 (by decide) pw_1457 rfl dX12_declaration_67 ?_
      refine lv_iload_n hx hb dX12_declaration_70 rfl (lv_at hl 0 rfl) ?_
      refine lv_iload_n hx hb dX12_declaration_71 rfl (lv_at hl 1 rfl) ?_
      refine r_stz (f := (B 26)) (j := dc) hx hb hE hP hD hS 26 (ma_26 G a _) rfl (mas_26 G a _) (by omega) (by decide) dX12_declaration_72 (fun H locs hP hD hS => ?_)
      have hP : va_P G.1 pCl (mW G h0 a (upd (upd (upd (upd (upd (upd (upd (upd (upd (upd (upd (upd (upd (upd F 15 0) 27 (nI nd)) 31 (nI wr)) 34 (nI lz)) 35 (nI dc)) 44 (nI fd)) 49 (nI md)) 59 (nI bk)) 60 (nI pr)) 64 (nI (at0 + 1))) 65 ne0) 66 (nI lk)) 67 (nI mf)) 68 (nI mm)) (updA (stR B 26 dc 1) 2 K)) _ := hP
      have hD : va_D A (mW G h0 a (upd (upd (upd (upd (upd (upd (upd (upd (upd (upd (upd (upd (upd (upd F 15 0) 27 (nI nd)) 31 (nI wr)) 34 (nI lz)) 35 (nI dc)) 44 (nI fd)) 49 (nI md)) 59 (nI bk)) 60 (nI pr)) 64 (nI (at0 + 1))) 65 ne0) 66 (nI lk)) 67 (nI mf)) 68 (nI mm)) (updA (stR B 26 dc 1) 2 K)) := hD
      have hkq671 : Kq 1 B (stR B 26 dc 1) := (Kq.st hkq1 (by omega))
      have hty672 : tkRow ((stR B 26 dc 1) 19) wr T := hy
      have hps673 : PS T nm wr lz dc fd md pr bk (stR B 26 dc 1) := (PS.same hps (by omega) (by omega) (fun r i q1 q2 q3 => st_ne (fun e => by rw [e.1, e.2] at q3; exact absurd (show dc < dc from q3) (by omega))))
      have hfm674 : FrM K T wr (stR B 26 dc 1) nd md := (FrM.same hfm (by omega) (fun j i q1 q2 q3 => st_ne (by omega)) (fun i q => st_ne (by omega)))
      have hsn675 : Sng (stR B 26 dc 1) dc lz := (Sng.same hsn (by omega) (fun i q => st_ne (by omega)) (fun i q => st_ne (by omega)) (fun i q => st_ne (by omega)))
      have hlr676 : lsRow ((stR B 26 dc 1) 22) ((stR B 26 dc 1) 23) lz T := hlr
      have hce677 : (stR B 26 dc 1) 26 dc = 1 := st_eq
      refine lv_aload_n hx hb dX12_declaration_73 rfl (lv_at hl 2 rfl) ?_
      refine r_get (v := .ref (a 25)) hx hb hown hq hE hP 37 87 tFX12_37 (by decide) pw_1456 rfl dX12_declaration_74 ?_
      refine lv_iload_n hx hb dX12_declaration_77 rfl (lv_at hl 0 rfl) ?_
      refine lv_aload_n hx hb dX12_declaration_78 rfl (lv_at hl 2 rfl) ?_
      have hP : va_P G.1 pCl (mW G h0 a (upd (upd (upd (upd (upd (upd (upd (upd (upd (upd (upd (upd (upd (upd (upd (upd F 15 0) 27 (nI nd)) 31 (nI wr)) 34 (nI lz)) 35 (nI dc)) 44 (nI fd)) 49 (nI md)) 59 (nI bk)) 60 (nI pr)) 64 (nI (at0 + 1))) 65 ne0) 66 (nI lk)) 67 (nI mf)) 68 (nI mm)) 15 (nI 0)) 64 (nI (at0 + 1))) (updA (updA (stR B 26 dc 1) 2 K) 2 K)) _ := hP
      have hD : va_D A (mW G h0 a (upd (upd (upd (upd (upd (upd (upd (upd (upd (upd (upd (upd (upd (upd (upd (upd F 15 0) 27 (nI nd)) 31 (nI wr)) 34 (nI lz)) 35 (nI dc)) 44 (nI fd)) 49 (nI md)) 59 (nI bk)) 60 (nI pr)) 64 (nI (at0 + 1))) 65 ne0) 66 (nI lk)) 67 (nI mf)) 68 (nI mm)) 15 (nI 0)) 64 (nI (at0 + 1))) (updA (updA (stR B 26 dc 1) 2 K) 2 K)) := hD
      refine pc_V0 (G := G) (As := []) (rest := [.int (nI dc), .ref (a 25)]) hx hb hml hown hq hE hX pX0_al hP hD hS hA hl.1 (R_name l G h0 a (upd (upd (upd (upd (upd (upd (upd (upd (upd (upd (upd (upd (upd (upd F 15 0) 27 (nI nd)) 31 (nI wr)) 34 (nI lz)) 35 (nI dc)) 44 (nI fd)) 49 (nI md)) 59 (nI bk)) 60 (nI pr)) 64 (nI (at0 + 1))) 65 ne0) 66 (nI lk)) 67 (nI mf)) 68 (nI mm)) (updA (stR B 26 dc 1) 2 K) (at0 + 1) T 0 K (by omega) (by omega) hK (by omega)) (gV pw_1618 pw_1619 pw_1620 pw_1523 pw_1613) hV_X12_name 0 9 rfl rfl rfl rfl (Nat.le_of_ble_eq_true rfl) dX12_declaration_79 ⟨Nat.le_of_ble_eq_true rfl, Nat.le_of_ble_eq_true rfl⟩ ⟨Nat.le_of_ble_eq_true rfl, Nat.le_of_ble_eq_true rfl⟩ (fun v680 u678 H locs hw679 hP hD hS => ?_)
      obtain ⟨at681, fa682, pl683⟩ := u678
      obtain ⟨hw679, h684, h685, h686, h687, h688, h689, h690, h691⟩ := hw679
      replace h684 : (at0 + 1) ≤ at681 := h684
      replace h685 : at681 ≤ T := h685
      replace h686 : 0 ≤ fa682 := h686
      replace h687 : fa682 ≤ 100 := h687
      replace h688 : If (0 < 0) (at681 = (at0 + 1) ∧ fa682 = 0) := h688
      replace h689 : at681 ≤ (at0 + 1) + 1 := h689
      replace h690 : (at0 + 1) + 1 ≤ at681 + fa682 := h690
      replace h691 : If (fa682 = 0) (K (at0 + 1) = 1) := h691
      obtain rfl : v680 = some (.int (nI (at0 + 1))) := hw679
      have hP : va_P G.1 pCl (mW G h0 a (upd (upd (upd (upd (upd (upd (upd (upd (upd (upd (upd (upd (upd (upd (upd F 15 (nI fa682)) 16 pl683) 27 (nI nd)) 31 (nI wr)) 34 (nI lz)) 35 (nI dc)) 44 (nI fd)) 49 (nI md)) 59 (nI bk)) 60 (nI pr)) 64 (nI at681)) 65 ne0) 66 (nI lk)) 67 (nI mf)) 68 (nI mm)) (updA (stR B 26 dc 1) 2 K)) _ := hP
      have hD : va_D A (mW G h0 a (upd (upd (upd (upd (upd (upd (upd (upd (upd (upd (upd (upd (upd (upd (upd F 15 (nI fa682)) 16 pl683) 27 (nI nd)) 31 (nI wr)) 34 (nI lz)) 35 (nI dc)) 44 (nI fd)) 49 (nI md)) 59 (nI bk)) 60 (nI pr)) 64 (nI at681)) 65 ne0) 66 (nI lk)) 67 (nI mf)) 68 (nI mm)) (updA (stR B 26 dc 1) 2 K)) := hD
      refine W.widen (k := 0) (n := 0) (Nat.le_of_ble_eq_true rfl) (Nat.le_of_ble_eq_true rfl) ?_
      refine W.eq (g2 := F0 m 82 ls [.int (nI (at0 + 1)), .int (nI dc), .ref (a 25)]) rfl ?_
      rcases Nat.eq_zero_or_pos fa682 with e692 | e692
      · subst e692
        have hP : va_P G.1 pCl (mW G h0 a (upd (upd (upd (upd (upd (upd (upd (upd (upd (upd (upd (upd (upd (upd (upd F 15 0) 16 pl683) 27 (nI nd)) 31 (nI wr)) 34 (nI lz)) 35 (nI dc)) 44 (nI fd)) 49 (nI md)) 59 (nI bk)) 60 (nI pr)) 64 (nI at681)) 65 ne0) 66 (nI lk)) 67 (nI mf)) 68 (nI mm)) (updA (stR B 26 dc 1) 2 K)) _ := hP
        have hD : va_D A (mW G h0 a (upd (upd (upd (upd (upd (upd (upd (upd (upd (upd (upd (upd (upd (upd (upd F 15 0) 16 pl683) 27 (nI nd)) 31 (nI wr)) 34 (nI lz)) 35 (nI dc)) 44 (nI fd)) 49 (nI md)) 59 (nI bk)) 60 (nI pr)) 64 (nI at681)) 65 ne0) 66 (nI lk)) 67 (nI mf)) 68 (nI mm)) (updA (stR B 26 dc 1) 2 K)) := hD
        refine r_sti (f := ((stR B 26 dc 1) 25)) (j := dc) hx hb hE hP hD hS 25 (ma_25 G a _) rfl (mas_25 G a _) (by omega) (by decide) dX12_declaration_82 (fun H locs hP hD hS => ?_)
        have hP : va_P G.1 pCl (mW G h0 a (upd (upd (upd (upd (upd (upd (upd (upd (upd (upd (upd (upd (upd (upd (upd F 15 0) 16 pl683) 27 (nI nd)) 31 (nI wr)) 34 (nI lz)) 35 (nI dc)) 44 (nI fd)) 49 (nI md)) 59 (nI bk)) 60 (nI pr)) 64 (nI at681)) 65 ne0) 66 (nI lk)) 67 (nI mf)) 68 (nI mm)) (updA (stR (stR B 26 dc 1) 25 dc (nI (at0 + 1))) 2 K)) _ := hP
        have hD : va_D A (mW G h0 a (upd (upd (upd (upd (upd (upd (upd (upd (upd (upd (upd (upd (upd (upd (upd F 15 0) 16 pl683) 27 (nI nd)) 31 (nI wr)) 34 (nI lz)) 35 (nI dc)) 44 (nI fd)) 49 (nI md)) 59 (nI bk)) 60 (nI pr)) 64 (nI at681)) 65 ne0) 66 (nI lk)) 67 (nI mf)) 68 (nI mm)) (updA (stR (stR B 26 dc 1) 25 dc (nI (at0 + 1))) 2 K)) := hD
        have hkq693 : Kq 1 B (stR (stR B 26 dc 1) 25 dc (nI (at0 + 1))) := (Kq.st hkq671 (by omega))
        have hce694 : (stR (stR B 26 dc 1) 25 dc (nI (at0 + 1))) 26 dc = 1 := ((st_ne (by omega)).trans hce677)
        have hty695 : tkRow ((stR (stR B 26 dc 1) 25 dc (nI (at0 + 1))) 19) wr T := hty672
        have hps696 : PS T nm wr lz dc fd md pr bk (stR (stR B 26 dc 1) 25 dc (nI (at0 + 1))) := (PS.same hps673 (by omega) (by omega) (fun r i q1 q2 q3 => st_ne (fun e => by rw [e.1, e.2] at q3; exact absurd (show dc < dc from q3) (by omega))))
        have hfm697 : FrM K T wr (stR (stR B 26 dc 1) 25 dc (nI (at0 + 1))) nd md := (FrM.same hfm674 (by omega) (fun j i q1 q2 q3 => st_ne (by omega)) (fun i q => st_ne (by omega)))
        have hsn698 : Sng (stR (stR B 26 dc 1) 25 dc (nI (at0 + 1))) dc lz := (Sng.same hsn675 (by omega) (fun i q => st_ne (by omega)) (fun i q => st_ne (by omega)) (fun i q => st_ne (by omega)))
        have hlr699 : lsRow ((stR (stR B 26 dc 1) 25 dc (nI (at0 + 1))) 22) ((stR (stR B 26 dc 1) 25 dc (nI (at0 + 1))) 23) lz T := hlr676
        have hce700 : (stR (stR B 26 dc 1) 25 dc (nI (at0 + 1))) 25 dc = (nI (at0 + 1)) := st_eq
        refine lv_aload_n hx hb dX12_declaration_83 rfl (lv_at hl 2 rfl) ?_
        refine r_get (v := .int 0) hx hb hown hq hE hP 15 350 tFX12_15 (by decide) pw_1594 rfl dX12_declaration_84 ?_
        refine lv_if_le (tgt := 91) hx hb dX12_declaration_87 (by decide) (fun c701 => ?_) (fun c701 => absurd c701 (by decide))
        refine lv_aload_n hx hb dX12_declaration_91 rfl (lv_at hl 2 rfl) ?_
        refine r_get (v := .ref (a 24)) hx hb hown hq hE hP 36 84 tFX12_36 (by decide) pw_1455 rfl dX12_declaration_92 ?_
        refine lv_iload_n hx hb dX12_declaration_95 rfl (lv_at hl 0 rfl) ?_
        refine lv_aload_n hx hb dX12_declaration_96 rfl (lv_at hl 2 rfl) ?_
        refine r_get (v := .ref (a 5)) hx hb hown hq hE hP 8 25 tFX12_8 (by decide) pw_1435 rfl dX12_declaration_97 ?_
        refine lv_aload_n hx hb dX12_declaration_100 rfl (lv_at hl 2 rfl) ?_
        refine r_get (v := .ref (a 25)) hx hb hown hq hE hP 37 87 tFX12_37 (by decide) pw_1456 rfl dX12_declaration_101 ?_
        refine lv_iload_n hx hb dX12_declaration_104 rfl (lv_at hl 0 rfl) ?_
        refine r_ldi (f := ((stR (stR B 26 dc 1) 25 dc (nI (at0 + 1))) 25)) (j := dc) hx hb hE hP 25 (ma_25 G a _) rfl (by omega) (by decide) dX12_declaration_105 ?_
        refine lv_topi (fun x702 e703 => ?_)
        obtain rfl : x702 = (nI (at0 + 1)) := e703.trans hce700
        refine r_ldi (f := ((stR (stR B 26 dc 1) 25 dc (nI (at0 + 1))) 5)) (j := (at0 + 1)) hx hb hE hP 5 (ma_5 G a _) rfl (by omega) (by decide) dX12_declaration_106 ?_
        obtain ⟨v706, h707, e708⟩ := hV (at0 + 1) (by omega) (h691 rfl)
        refine lv_topi (fun x704 e705 => ?_)
        obtain rfl : x704 = nI v706 := e705.trans ((congrFun (hkq693 5 (by omega)) (at0 + 1)).trans e708)
        refine r_sti (f := ((stR (stR B 26 dc 1) 25 dc (nI (at0 + 1))) 24)) (j := dc) hx hb hE hP hD hS 24 (ma_24 G a _) rfl (mas_24 G a _) (by omega) (by decide) dX12_declaration_107 (fun H locs hP hD hS => ?_)
        have hP : va_P G.1 pCl (mW G h0 a (upd (upd (upd (upd (upd (upd (upd (upd (upd (upd (upd (upd (upd (upd (upd F 15 0) 16 pl683) 27 (nI nd)) 31 (nI wr)) 34 (nI lz)) 35 (nI dc)) 44 (nI fd)) 49 (nI md)) 59 (nI bk)) 60 (nI pr)) 64 (nI at681)) 65 ne0) 66 (nI lk)) 67 (nI mf)) 68 (nI mm)) (updA (stR (stR (stR B 26 dc 1) 25 dc (nI (at0 + 1))) 24 dc (nI v706)) 2 K)) _ := hP
        have hD : va_D A (mW G h0 a (upd (upd (upd (upd (upd (upd (upd (upd (upd (upd (upd (upd (upd (upd (upd F 15 0) 16 pl683) 27 (nI nd)) 31 (nI wr)) 34 (nI lz)) 35 (nI dc)) 44 (nI fd)) 49 (nI md)) 59 (nI bk)) 60 (nI pr)) 64 (nI at681)) 65 ne0) 66 (nI lk)) 67 (nI mf)) 68 (nI mm)) (updA (stR (stR (stR B 26 dc 1) 25 dc (nI (at0 + 1))) 24 dc (nI v706)) 2 K)) := hD
        have hkq709 : Kq 1 B (stR (stR (stR B 26 dc 1) 25 dc (nI (at0 + 1))) 24 dc (nI v706)) := (Kq.st hkq693 (by omega))
        have hce710 : (stR (stR (stR B 26 dc 1) 25 dc (nI (at0 + 1))) 24 dc (nI v706)) 26 dc = 1 := ((st_ne (by omega)).trans hce694)
        have hce711 : (stR (stR (stR B 26 dc 1) 25 dc (nI (at0 + 1))) 24 dc (nI v706)) 25 dc = (nI (at0 + 1)) := ((st_ne (by omega)).trans hce700)
        have hty712 : tkRow ((stR (stR (stR B 26 dc 1) 25 dc (nI (at0 + 1))) 24 dc (nI v706)) 19) wr T := hty695
        have hps713 : PS T nm wr lz dc fd md pr bk (stR (stR (stR B 26 dc 1) 25 dc (nI (at0 + 1))) 24 dc (nI v706)) := (PS.same hps696 (by omega) (by omega) (fun r i q1 q2 q3 => st_ne (fun e => by rw [e.1, e.2] at q3; exact absurd (show dc < dc from q3) (by omega))))
        have hfm714 : FrM K T wr (stR (stR (stR B 26 dc 1) 25 dc (nI (at0 + 1))) 24 dc (nI v706)) nd md := (FrM.same hfm697 (by omega) (fun j i q1 q2 q3 => st_ne (by omega)) (fun i q => st_ne (by omega)))
        have hsn715 : Sng (stR (stR (stR B 26 dc 1) 25 dc (nI (at0 + 1))) 24 dc (nI v706)) dc lz := (Sng.same hsn698 (by omega) (fun i q => st_ne (by omega)) (fun i q => st_ne (by omega)) (fun i q => st_ne (by omega)))
        have hlr716 : lsRow ((stR (stR (stR B 26 dc 1) 25 dc (nI (at0 + 1))) 24 dc (nI v706)) 22) ((stR (stR (stR B 26 dc 1) 25 dc (nI (at0 + 1))) 24 dc (nI v706)) 23) lz T := hlr699
        have hce717 : (stR (stR (stR B 26 dc 1) 25 dc (nI (at0 + 1))) 24 dc (nI v706)) 24 dc = (nI v706) := st_eq
        refine lv_aload_n hx hb dX12_declaration_108 rfl (lv_at hl 2 rfl) ?_
        refine r_get (v := .ref (a 27)) hx hb hown hq hE hP 39 93 tFX12_39 (by decide) pw_1458 rfl dX12_declaration_109 ?_
        refine lv_iload_n hx hb dX12_declaration_112 rfl (lv_at hl 0 rfl) ?_
        refine lv_iconst (v := (-1)) hx hb dX12_declaration_113 (by decide) ?_
        refine r_sti (f := ((stR (stR (stR B 26 dc 1) 25 dc (nI (at0 + 1))) 24 dc (nI v706)) 27)) (j := dc) hx hb hE hP hD hS 27 (ma_27 G a _) rfl (mas_27 G a _) (by omega) (by decide) dX12_declaration_114 (fun H locs hP hD hS => ?_)
        have hP : va_P G.1 pCl (mW G h0 a (upd (upd (upd (upd (upd (upd (upd (upd (upd (upd (upd (upd (upd (upd (upd F 15 0) 16 pl683) 27 (nI nd)) 31 (nI wr)) 34 (nI lz)) 35 (nI dc)) 44 (nI fd)) 49 (nI md)) 59 (nI bk)) 60 (nI pr)) 64 (nI at681)) 65 ne0) 66 (nI lk)) 67 (nI mf)) 68 (nI mm)) (updA (stR (stR (stR (stR B 26 dc 1) 25 dc (nI (at0 + 1))) 24 dc (nI v706)) 27 dc (-1)) 2 K)) _ := hP
        have hD : va_D A (mW G h0 a (upd (upd (upd (upd (upd (upd (upd (upd (upd (upd (upd (upd (upd (upd (upd F 15 0) 16 pl683) 27 (nI nd)) 31 (nI wr)) 34 (nI lz)) 35 (nI dc)) 44 (nI fd)) 49 (nI md)) 59 (nI bk)) 60 (nI pr)) 64 (nI at681)) 65 ne0) 66 (nI lk)) 67 (nI mf)) 68 (nI mm)) (updA (stR (stR (stR (stR B 26 dc 1) 25 dc (nI (at0 + 1))) 24 dc (nI v706)) 27 dc (-1)) 2 K)) := hD
        have hkq718 : Kq 1 B (stR (stR (stR (stR B 26 dc 1) 25 dc (nI (at0 + 1))) 24 dc (nI v706)) 27 dc (-1)) := (Kq.st hkq709 (by omega))
        have hce719 : (stR (stR (stR (stR B 26 dc 1) 25 dc (nI (at0 + 1))) 24 dc (nI v706)) 27 dc (-1)) 26 dc = 1 := ((st_ne (by omega)).trans hce710)
        have hce720 : (stR (stR (stR (stR B 26 dc 1) 25 dc (nI (at0 + 1))) 24 dc (nI v706)) 27 dc (-1)) 25 dc = (nI (at0 + 1)) := ((st_ne (by omega)).trans hce711)
        have hce721 : (stR (stR (stR (stR B 26 dc 1) 25 dc (nI (at0 + 1))) 24 dc (nI v706)) 27 dc (-1)) 24 dc = (nI v706) := ((st_ne (by omega)).trans hce717)
        have hty722 : tkRow ((stR (stR (stR (stR B 26 dc 1) 25 dc (nI (at0 + 1))) 24 dc (nI v706)) 27 dc (-1)) 19) wr T := hty712
        have hps723 : PS T nm wr lz dc fd md pr bk (stR (stR (stR (stR B 26 dc 1) 25 dc (nI (at0 + 1))) 24 dc (nI v706)) 27 dc (-1)) := (PS.same hps713 (by omega) (by omega) (fun r i q1 q2 q3 => st_ne (fun e => by rw [e.1, e.2] at q3; exact absurd (show dc < dc from q3) (by omega))))
        have hfm724 : FrM K T wr (stR (stR (stR (stR B 26 dc 1) 25 dc (nI (at0 + 1))) 24 dc (nI v706)) 27 dc (-1)) nd md := (FrM.same hfm714 (by omega) (fun j i q1 q2 q3 => st_ne (by omega)) (fun i q => st_ne (by omega)))
        have hsn725 : Sng (stR (stR (stR (stR B 26 dc 1) 25 dc (nI (at0 + 1))) 24 dc (nI v706)) 27 dc (-1)) dc lz := (Sng.same hsn715 (by omega) (fun i q => st_ne (by omega)) (fun i q => st_ne (by omega)) (fun i q => st_ne (by omega)))
        have hlr726 : lsRow ((stR (stR (stR (stR B 26 dc 1) 25 dc (nI (at0 + 1))) 24 dc (nI v706)) 27 dc (-1)) 22) ((stR (stR (stR (stR B 26 dc 1) 25 dc (nI (at0 + 1))) 24 dc (nI v706)) 27 dc (-1)) 23) lz T := hlr716
        have hce727 : (stR (stR (stR (stR B 26 dc 1) 25 dc (nI (at0 + 1))) 24 dc (nI v706)) 27 dc (-1)) 27 dc = (-1) := st_eq
        refine lv_aload_n hx hb dX12_declaration_115 rfl (lv_at hl 2 rfl) ?_
        refine r_get (v := .ref (a 28)) hx hb hown hq hE hP 40 96 tFX12_40 (by decide) pw_1459 rfl dX12_declaration_116 ?_
        refine lv_iload_n hx hb dX12_declaration_119 rfl (lv_at hl 0 rfl) ?_
        refine lv_iconst (v := (-1)) hx hb dX12_declaration_120 (by decide) ?_
        refine r_sti (f := ((stR (stR (stR (stR B 26 dc 1) 25 dc (nI (at0 + 1))) 24 dc (nI v706)) 27 dc (-1)) 28)) (j := dc) hx hb hE hP hD hS 28 (ma_28 G a _) rfl (mas_28 G a _) (by omega) (by decide) dX12_declaration_121 (fun H locs hP hD hS => ?_)
        have hP : va_P G.1 pCl (mW G h0 a (upd (upd (upd (upd (upd (upd (upd (upd (upd (upd (upd (upd (upd (upd (upd F 15 0) 16 pl683) 27 (nI nd)) 31 (nI wr)) 34 (nI lz)) 35 (nI dc)) 44 (nI fd)) 49 (nI md)) 59 (nI bk)) 60 (nI pr)) 64 (nI at681)) 65 ne0) 66 (nI lk)) 67 (nI mf)) 68 (nI mm)) (updA (stR (stR (stR (stR (stR B 26 dc 1) 25 dc (nI (at0 + 1))) 24 dc (nI v706)) 27 dc (-1)) 28 dc (-1)) 2 K)) _ := hP
        have hD : va_D A (mW G h0 a (upd (upd (upd (upd (upd (upd (upd (upd (upd (upd (upd (upd (upd (upd (upd F 15 0) 16 pl683) 27 (nI nd)) 31 (nI wr)) 34 (nI lz)) 35 (nI dc)) 44 (nI fd)) 49 (nI md)) 59 (nI bk)) 60 (nI pr)) 64 (nI at681)) 65 ne0) 66 (nI lk)) 67 (nI mf)) 68 (nI mm)) (updA (stR (stR (stR (stR (stR B 26 dc 1) 25 dc (nI (at0 + 1))) 24 dc (nI v706)) 27 dc (-1)) 28 dc (-1)) 2 K)) := hD
        have hkq728 : Kq 1 B (stR (stR (stR (stR (stR B 26 dc 1) 25 dc (nI (at0 + 1))) 24 dc (nI v706)) 27 dc (-1)) 28 dc (-1)) := (Kq.st hkq718 (by omega))
        have hce729 : (stR (stR (stR (stR (stR B 26 dc 1) 25 dc (nI (at0 + 1))) 24 dc (nI v706)) 27 dc (-1)) 28 dc (-1)) 26 dc = 1 := ((st_ne (by omega)).trans hce719)
        have hce730 : (stR (stR (stR (stR (stR B 26 dc 1) 25 dc (nI (at0 + 1))) 24 dc (nI v706)) 27 dc (-1)) 28 dc (-1)) 25 dc = (nI (at0 + 1)) := ((st_ne (by omega)).trans hce720)
        have hce731 : (stR (stR (stR (stR (stR B 26 dc 1) 25 dc (nI (at0 + 1))) 24 dc (nI v706)) 27 dc (-1)) 28 dc (-1)) 24 dc = (nI v706) := ((st_ne (by omega)).trans hce721)
        have hce732 : (stR (stR (stR (stR (stR B 26 dc 1) 25 dc (nI (at0 + 1))) 24 dc (nI v706)) 27 dc (-1)) 28 dc (-1)) 27 dc = (-1) := ((st_ne (by omega)).trans hce727)
        have hty733 : tkRow ((stR (stR (stR (stR (stR B 26 dc 1) 25 dc (nI (at0 + 1))) 24 dc (nI v706)) 27 dc (-1)) 28 dc (-1)) 19) wr T := hty722
        have hps734 : PS T nm wr lz dc fd md pr bk (stR (stR (stR (stR (stR B 26 dc 1) 25 dc (nI (at0 + 1))) 24 dc (nI v706)) 27 dc (-1)) 28 dc (-1)) := (PS.same hps723 (by omega) (by omega) (fun r i q1 q2 q3 => st_ne (fun e => by rw [e.1, e.2] at q3; exact absurd (show dc < dc from q3) (by omega))))
        have hfm735 : FrM K T wr (stR (stR (stR (stR (stR B 26 dc 1) 25 dc (nI (at0 + 1))) 24 dc (nI v706)) 27 dc (-1)) 28 dc (-1)) nd md := (FrM.same hfm724 (by omega) (fun j i q1 q2 q3 => st_ne (by omega)) (fun i q => st_ne (by omega)))
        have hsn736 : Sng (stR (stR (stR (stR (stR B 26 dc 1) 25 dc (nI (at0 + 1))) 24 dc (nI v706)) 27 dc (-1)) 28 dc (-1)) dc lz := (Sng.same hsn725 (by omega) (fun i q => st_ne (by omega)) (fun i q => st_ne (by omega)) (fun i q => st_ne (by omega)))
        have hlr737 : lsRow ((stR (stR (stR (stR (stR B 26 dc 1) 25 dc (nI (at0 + 1))) 24 dc (nI v706)) 27 dc (-1)) 28 dc (-1)) 22) ((stR (stR (stR (stR (stR B 26 dc 1) 25 dc (nI (at0 + 1))) 24 dc (nI v706)) 27 dc (-1)) 28 dc (-1)) 23) lz T := hlr726
        have hce738 : (stR (stR (stR (stR (stR B 26 dc 1) 25 dc (nI (at0 + 1))) 24 dc (nI v706)) 27 dc (-1)) 28 dc (-1)) 28 dc = (-1) := st_eq
        refine lv_aload_n hx hb dX12_declaration_122 rfl (lv_at hl 2 rfl) ?_
        refine r_get (v := .ref (a 29)) hx hb hown hq hE hP 41 99 tFX12_41 (by decide) pw_1460 rfl dX12_declaration_123 ?_
        refine lv_iload_n hx hb dX12_declaration_126 rfl (lv_at hl 0 rfl) ?_
        refine lv_iconst (v := 0) hx hb dX12_declaration_127 (by decide) ?_
        refine r_sti (f := ((stR (stR (stR (stR (stR B 26 dc 1) 25 dc (nI (at0 + 1))) 24 dc (nI v706)) 27 dc (-1)) 28 dc (-1)) 29)) (j := dc) hx hb hE hP hD hS 29 (ma_29 G a _) rfl (mas_29 G a _) (by omega) (by decide) dX12_declaration_128 (fun H locs hP hD hS => ?_)
        have hP : va_P G.1 pCl (mW G h0 a (upd (upd (upd (upd (upd (upd (upd (upd (upd (upd (upd (upd (upd (upd (upd F 15 0) 16 pl683) 27 (nI nd)) 31 (nI wr)) 34 (nI lz)) 35 (nI dc)) 44 (nI fd)) 49 (nI md)) 59 (nI bk)) 60 (nI pr)) 64 (nI at681)) 65 ne0) 66 (nI lk)) 67 (nI mf)) 68 (nI mm)) (updA (stR (stR (stR (stR (stR (stR B 26 dc 1) 25 dc (nI (at0 + 1))) 24 dc (nI v706)) 27 dc (-1)) 28 dc (-1)) 29 dc 0) 2 K)) _ := hP
        have hD : va_D A (mW G h0 a (upd (upd (upd (upd (upd (upd (upd (upd (upd (upd (upd (upd (upd (upd (upd F 15 0) 16 pl683) 27 (nI nd)) 31 (nI wr)) 34 (nI lz)) 35 (nI dc)) 44 (nI fd)) 49 (nI md)) 59 (nI bk)) 60 (nI pr)) 64 (nI at681)) 65 ne0) 66 (nI lk)) 67 (nI mf)) 68 (nI mm)) (updA (stR (stR (stR (stR (stR (stR B 26 dc 1) 25 dc (nI (at0 + 1))) 24 dc (nI v706)) 27 dc (-1)) 28 dc (-1)) 29 dc 0) 2 K)) := hD
        have hkq739 : Kq 1 B (stR (stR (stR (stR (stR (stR B 26 dc 1) 25 dc (nI (at0 + 1))) 24 dc (nI v706)) 27 dc (-1)) 28 dc (-1)) 29 dc 0) := (Kq.st hkq728 (by omega))
        have hce740 : (stR (stR (stR (stR (stR (stR B 26 dc 1) 25 dc (nI (at0 + 1))) 24 dc (nI v706)) 27 dc (-1)) 28 dc (-1)) 29 dc 0) 26 dc = 1 := ((st_ne (by omega)).trans hce729)
        have hce741 : (stR (stR (stR (stR (stR (stR B 26 dc 1) 25 dc (nI (at0 + 1))) 24 dc (nI v706)) 27 dc (-1)) 28 dc (-1)) 29 dc 0) 25 dc = (nI (at0 + 1)) := ((st_ne (by omega)).trans hce730)
        have hce742 : (stR (stR (stR (stR (stR (stR B 26 dc 1) 25 dc (nI (at0 + 1))) 24 dc (nI v706)) 27 dc (-1)) 28 dc (-1)) 29 dc 0) 24 dc = (nI v706) := ((st_ne (by omega)).trans hce731)
        have hce743 : (stR (stR (stR (stR (stR (stR B 26 dc 1) 25 dc (nI (at0 + 1))) 24 dc (nI v706)) 27 dc (-1)) 28 dc (-1)) 29 dc 0) 27 dc = (-1) := ((st_ne (by omega)).trans hce732)
        have hce744 : (stR (stR (stR (stR (stR (stR B 26 dc 1) 25 dc (nI (at0 + 1))) 24 dc (nI v706)) 27 dc (-1)) 28 dc (-1)) 29 dc 0) 28 dc = (-1) := ((st_ne (by omega)).trans hce738)
        have hty745 : tkRow ((stR (stR (stR (stR (stR (stR B 26 dc 1) 25 dc (nI (at0 + 1))) 24 dc (nI v706)) 27 dc (-1)) 28 dc (-1)) 29 dc 0) 19) wr T := hty733
        have hps746 : PS T nm wr lz dc fd md pr bk (stR (stR (stR (stR (stR (stR B 26 dc 1) 25 dc (nI (at0 + 1))) 24 dc (nI v706)) 27 dc (-1)) 28 dc (-1)) 29 dc 0) := (PS.same hps734 (by omega) (by omega) (fun r i q1 q2 q3 => st_ne (fun e => by rw [e.1, e.2] at q3; exact absurd (show dc < dc from q3) (by omega))))
        have hfm747 : FrM K T wr (stR (stR (stR (stR (stR (stR B 26 dc 1) 25 dc (nI (at0 + 1))) 24 dc (nI v706)) 27 dc (-1)) 28 dc (-1)) 29 dc 0) nd md := (FrM.same hfm735 (by omega) (fun j i q1 q2 q3 => st_ne (by omega)) (fun i q => st_ne (by omega)))
        have hsn748 : Sng (stR (stR (stR (stR (stR (stR B 26 dc 1) 25 dc (nI (at0 + 1))) 24 dc (nI v706)) 27 dc (-1)) 28 dc (-1)) 29 dc 0) dc lz := (Sng.same hsn736 (by omega) (fun i q => st_ne (by omega)) (fun i q => st_ne (by omega)) (fun i q => st_ne (by omega)))
        have hlr749 : lsRow ((stR (stR (stR (stR (stR (stR B 26 dc 1) 25 dc (nI (at0 + 1))) 24 dc (nI v706)) 27 dc (-1)) 28 dc (-1)) 29 dc 0) 22) ((stR (stR (stR (stR (stR (stR B 26 dc 1) 25 dc (nI (at0 + 1))) 24 dc (nI v706)) 27 dc (-1)) 28 dc (-1)) 29 dc 0) 23) lz T := hlr737
        have hce750 : (stR (stR (stR (stR (stR (stR B 26 dc 1) 25 dc (nI (at0 + 1))) 24 dc (nI v706)) 27 dc (-1)) 28 dc (-1)) 29 dc 0) 29 dc = 0 := st_eq
        refine lv_aload_n hx hb dX12_declaration_129 rfl (lv_at hl 2 rfl) ?_
        refine lv_dup hx hb dX12_declaration_130 rfl ?_
        refine r_get (v := .int (nI dc)) hx hb hown hq hE hP 35 384 tFX12_35 (by decide) pw_1732 rfl dX12_declaration_131 ?_
        refine lv_iconst (v := 1) hx hb dX12_declaration_134 (by decide) ?_
        refine lv_iadd hx hb dX12_declaration_135 ?_
        refine lv_topi (fun x751 e752 => ?_)
        obtain rfl : x751 = nI (dc + 1) := e752.trans (nI_add (dc) (1))
        refine r_put (v := (nI (dc + 1))) (ty := .int) hx hb hown hq hE hP hD hS 35 384 tFX12_35 (by decide) pw_1732 (by decide) rfl rfl (ms_35 a _ _) dX12_declaration_136 (fun H locs hP hD hS => ?_)
        have cut_j : ∀ (at2 : Nat) (lz2 : Nat) (pl2 : Int32) (X2 : Nat → Nat → Int32) (H : Heap) (locs : List Loc) (ls : Array Slot), (at0 + 2 ≤ at2) → (at2 ≤ T) → (lz ≤ lz2 ∧ lz2 ≤ at2) → (Kq 1 B X2) → (PS T nm wr lz2 (dc + 1) fd md pr bk X2) → (FrM K T wr X2 nd md) → (tkRow (X2 19) wr T) → (lsRow (X2 22) (X2 23) lz2 T) → (Sng X2 (dc + 1) lz2) → va_P G.1 pCl (mW G h0 a (upd (upd (upd (upd (upd (upd (upd (upd (upd (upd (upd (upd (upd (upd (upd F 15 0) 16 pl2) 27 (nI nd)) 31 (nI wr)) 34 (nI lz2)) 35 (nI (dc + 1))) 44 (nI fd)) 49 (nI md)) 59 (nI bk)) 60 (nI pr)) 64 (nI at2)) 65 ne0) 66 (nI lk)) 67 (nI mf)) 68 (nI mm)) (updA X2 2 K)) H → va_D A (mW G h0 a (upd (upd (upd (upd (upd (upd (upd (upd (upd (upd (upd (upd (upd (upd (upd F 15 0) 16 pl2) 27 (nI nd)) 31 (nI wr)) 34 (nI lz2)) 35 (nI (dc + 1))) 44 (nI fd)) 49 (nI md)) 59 (nI bk)) 60 (nI pr)) 64 (nI at2)) 65 ne0) 66 (nI lk)) 67 (nI mf)) 68 (nI mm)) (updA X2 2 K)) → va_S A s.heap H locs → lv_has ls 3 [(2, .int (nI dc)), (0, .ref h0)] → W p l e (headSpec (Cond.code yX12_declaration cX12_declaration 3 none :: pw) ({ frames := 644, cells := 0, slots := 0, locals := 50200 } : Room)).room s m ([.ref h0] : List Value).toArray below meth c H locs 0 0 (MQ below (pQ G A (fun (v : Option Value) (u : Nat × Nat × Int32 × Nat × Nat × Nat × Nat × Nat × Nat × Nat × Nat × Nat × Nat × Int32 × (Nat → Nat → Int32)) => v = none ∧ (at0 ≤ u.1) ∧ (u.1 ≤ T) ∧ (u.2.1 ≤ 100) ∧ (at0 + 1 ≤ u.1 + u.2.1) ∧ (Kq 1 B u.2.2.2.2.2.2.2.2.2.2.2.2.2.2) ∧ (If (u.2.1 = 0) ((u.2.2.2.1 ≤ 2 * u.1 ∧ u.2.2.2.2.1 ≤ u.1 ∧ u.2.2.2.2.2.1 ≤ u.1 ∧ u.2.2.2.2.2.2.2.2.2.1 ≤ u.1 ∧ u.2.2.2.2.2.2.1 ≤ 37 ∧ dc ≤ u.2.2.2.2.2.2.1 ∧ u.2.2.2.2.2.2.2.2.2.2.1 ≤ u.2.2.2.2.2.2.2.2.1 ∧ wr ≤ u.2.2.2.2.1 ∧ lz ≤ u.2.2.2.2.2.1) ∧ (u.2.2.2.2.2.2.2.2.1 + 210 ≤ 30 * u.2.2.2.2.2.2.1 ∧ u.2.2.2.2.2.2.2.1 + 140 ≤ 20 * u.2.2.2.2.2.2.1 ∧ u.2.2.2.2.2.2.1 ≤ 37 ∧ 7 ≤ u.2.2.2.2.2.2.1 ∧ u.2.2.2.2.2.2.1 ≤ dc + 1) ∧ PS T nm u.2.2.2.2.1 u.2.2.2.2.2.1 u.2.2.2.2.2.2.1 u.2.2.2.2.2.2.2.1 u.2.2.2.2.2.2.2.2.1 u.2.2.2.2.2.2.2.2.2.1 u.2.2.2.2.2.2.2.2.2.2.1 u.2.2.2.2.2.2.2.2.2.2.2.2.2.2 ∧ FrM K T u.2.2.2.2.1 u.2.2.2.2.2.2.2.2.2.2.2.2.2.2 u.2.2.2.1 u.2.2.2.2.2.2.2.2.1 ∧ tkRow (u.2.2.2.2.2.2.2.2.2.2.2.2.2.2 19) u.2.2.2.2.1 T ∧ lsRow (u.2.2.2.2.2.2.2.2.2.2.2.2.2.2 22) (u.2.2.2.2.2.2.2.2.2.2.2.2.2.2 23) u.2.2.2.2.2.1 T)) ∧ (If (u.2.1 = 0) (Sng u.2.2.2.2.2.2.2.2.2.2.2.2.2.2 u.2.2.2.2.2.2.1 u.2.2.2.2.2.1))) (fun u => (mW G h0 a (upd (upd (upd (upd (upd (upd (upd (upd (upd (upd (upd (upd (upd (upd (upd F 15 (nI u.2.1)) 16 u.2.2.1) 27 (nI u.2.2.2.1)) 31 (nI u.2.2.2.2.1)) 34 (nI u.2.2.2.2.2.1)) 35 (nI u.2.2.2.2.2.2.1)) 44 (nI u.2.2.2.2.2.2.2.1)) 49 (nI u.2.2.2.2.2.2.2.2.1)) 59 (nI u.2.2.2.2.2.2.2.2.2.2.1)) 60 (nI u.2.2.2.2.2.2.2.2.2.1)) 64 (nI u.1)) 65 u.2.2.2.2.2.2.2.2.2.2.2.2.2.1) 66 (nI lk)) 67 (nI u.2.2.2.2.2.2.2.2.2.2.2.1)) 68 (nI u.2.2.2.2.2.2.2.2.2.2.2.2.1)) (updA u.2.2.2.2.2.2.2.2.2.2.2.2.2.2 2 K)))) ([.ref h0] : List Value).toArray s ({ frames := 644, cells := 0, slots := 0, locals := 50200 } : Room).cells ({ frames := 644, cells := 0, slots := 0, locals := 50200 } : Room).slots A) (F0 m 237 ls []) := by
          intro at2 lz2 pl2 X2 H locs ls hl1 hl0 hl2 hkq2 hps2 hfm2 hy2 hlr2 hsn2 hP hD hS hl
          refine lv_aload_n hx hb dX12_declaration_237 rfl (lv_at hl 1 rfl) ?_
          refine lv_bipush (v := 123) hx hb dX12_declaration_238 (by decide) ?_
          have hP : va_P G.1 pCl (mW G h0 a (upd (upd (upd (upd (upd (upd (upd (upd (upd (upd (upd (upd (upd (upd (upd (upd (upd F 15 0) 16 pl2) 27 (nI nd)) 31 (nI wr)) 34 (nI lz2)) 35 (nI (dc + 1))) 44 (nI fd)) 49 (nI md)) 59 (nI bk)) 60 (nI pr)) 64 (nI at2)) 65 ne0) 66 (nI lk)) 67 (nI mf)) 68 (nI mm)) 15 (nI 0)) 64 (nI at2)) (updA (updA X2 2 K) 2 K)) _ := hP
          have hD : va_D A (mW G h0 a (upd (upd (upd (upd (upd (upd (upd (upd (upd (upd (upd (upd (upd (upd (upd (upd (upd F 15 0) 16 pl2) 27 (nI nd)) 31 (nI wr)) 34 (nI lz2)) 35 (nI (dc + 1))) 44 (nI fd)) 49 (nI md)) 59 (nI bk)) 60 (nI pr)) 64 (nI at2)) 65 ne0) 66 (nI lk)) 67 (nI mf)) 68 (nI mm)) 15 (nI 0)) 64 (nI at2)) (updA (updA X2 2 K) 2 K)) := hD
          refine pc_V0 (G := G) (As := [.int 123]) (rest := []) hx hb hml hown hq hE hX pX0_al hP hD hS hA hl.1 (R_take l G h0 a (upd (upd (upd (upd (upd (upd (upd (upd (upd (upd (upd (upd (upd (upd (upd F 15 0) 16 pl2) 27 (nI nd)) 31 (nI wr)) 34 (nI lz2)) 35 (nI (dc + 1))) 44 (nI fd)) 49 (nI md)) 59 (nI bk)) 60 (nI pr)) 64 (nI at2)) 65 ne0) 66 (nI lk)) 67 (nI mf)) 68 (nI mm)) (updA X2 2 K) at2 T 0 K 123 (by omega) (by omega) hK (by omega) (by decide) (by decide)) (gV pw_1614 pw_1615 pw_1616 pw_1523 pw_1601) hV_X12_take 0 9 rfl rfl rfl rfl (Nat.le_of_ble_eq_true rfl) dX12_declaration_240 ⟨Nat.le_of_ble_eq_true rfl, Nat.le_of_ble_eq_true rfl⟩ ⟨Nat.le_of_ble_eq_true rfl, Nat.le_of_ble_eq_true rfl⟩ (fun v755 u753 H locs hw754 hP hD hS => ?_)
          obtain ⟨at756, fa757, pl758⟩ := u753
          obtain ⟨hw754, h759, h760, h761, h762, h763, h764, h765, h766⟩ := hw754
          replace h759 : at2 ≤ at756 := h759
          replace h760 : at756 ≤ T := h760
          replace h761 : 0 ≤ fa757 := h761
          replace h762 : fa757 ≤ 100 := h762
          replace h763 : If (0 < 0) (at756 = at2 ∧ fa757 = 0) := h763
          replace h764 : at756 ≤ at2 + 1 := h764
          replace h765 : at2 + 1 ≤ at756 + fa757 := h765
          replace h766 : If (fa757 = 0) (K at2 = 123) := h766
          obtain rfl : v755 = none := hw754
          have hP : va_P G.1 pCl (mW G h0 a (upd (upd (upd (upd (upd (upd (upd (upd (upd (upd (upd (upd (upd (upd (upd F 15 (nI fa757)) 16 pl758) 27 (nI nd)) 31 (nI wr)) 34 (nI lz2)) 35 (nI (dc + 1))) 44 (nI fd)) 49 (nI md)) 59 (nI bk)) 60 (nI pr)) 64 (nI at756)) 65 ne0) 66 (nI lk)) 67 (nI mf)) 68 (nI mm)) (updA X2 2 K)) _ := hP
          have hD : va_D A (mW G h0 a (upd (upd (upd (upd (upd (upd (upd (upd (upd (upd (upd (upd (upd (upd (upd F 15 (nI fa757)) 16 pl758) 27 (nI nd)) 31 (nI wr)) 34 (nI lz2)) 35 (nI (dc + 1))) 44 (nI fd)) 49 (nI md)) 59 (nI bk)) 60 (nI pr)) 64 (nI at756)) 65 ne0) 66 (nI lk)) 67 (nI mf)) 68 (nI mm)) (updA X2 2 K)) := hD
          refine W.widen (k := 0) (n := 0) (Nat.le_of_ble_eq_true rfl) (Nat.le_of_ble_eq_true rfl) ?_
          refine W.eq (g2 := F0 m 243 ls []) rfl ?_
          rcases Nat.eq_zero_or_pos fa757 with e767 | e767
          · subst e767
            have hP : va_P G.1 pCl (mW G h0 a (upd (upd (upd (upd (upd (upd (upd (upd (upd (upd (upd (upd (upd (upd (upd F 15 0) 16 pl758) 27 (nI nd)) 31 (nI wr)) 34 (nI lz2)) 35 (nI (dc + 1))) 44 (nI fd)) 49 (nI md)) 59 (nI bk)) 60 (nI pr)) 64 (nI at756)) 65 ne0) 66 (nI lk)) 67 (nI mf)) 68 (nI mm)) (updA X2 2 K)) _ := hP
            have hD : va_D A (mW G h0 a (upd (upd (upd (upd (upd (upd (upd (upd (upd (upd (upd (upd (upd (upd (upd F 15 0) 16 pl758) 27 (nI nd)) 31 (nI wr)) 34 (nI lz2)) 35 (nI (dc + 1))) 44 (nI fd)) 49 (nI md)) 59 (nI bk)) 60 (nI pr)) 64 (nI at756)) 65 ne0) 66 (nI lk)) 67 (nI mf)) 68 (nI mm)) (updA X2 2 K)) := hD
            refine lv_aload_n hx hb dX12_declaration_243 rfl (lv_at hl 1 rfl) ?_
            refine lv_iconst (v := 0) hx hb dX12_declaration_244 (by decide) ?_
            refine r_put (v := 0) (ty := .int) hx hb hown hq hE hP hD hS 67 390 tFX12_67 (by decide) pw_1726 (by decide) rfl rfl (ms_67 a _ _) dX12_declaration_245 (fun H locs hP hD hS => ?_)
            refine lv_aload_n hx hb dX12_declaration_248 rfl (lv_at hl 1 rfl) ?_
            refine lv_iconst (v := 0) hx hb dX12_declaration_249 (by decide) ?_
            refine r_put (v := 0) (ty := .int) hx hb hown hq hE hP hD hS 68 393 tFX12_68 (by decide) pw_1722 (by decide) rfl rfl (ms_68 a _ _) dX12_declaration_250 (fun H locs hP hD hS => ?_)
            have loop_o : ∀ (n_o : Nat) (at3 : Nat) (nd3 : Nat) (wr3 : Nat) (lz3 : Nat) (fd3 : Nat) (md3 : Nat) (pr3 : Nat) (bk3 : Nat) (mf3 : Nat) (mm3 : Nat) (pl3 : Int32) (ne3 : Int32) (X3 : Nat → Nat → Int32) (H : Heap) (locs : List Loc) (ls : Array Slot), at3 ≤ T → T + 1 ≤ at3 + n_o → (at0 + 3 ≤ at3) → (nd3 ≤ 2 * at3 ∧ wr3 ≤ at3 ∧ lz3 ≤ at3 ∧ pr3 ≤ at3 ∧ bk3 ≤ md3 ∧ wr ≤ wr3 ∧ lz ≤ lz3) → (md3 + 240 ≤ 30 * (dc + 1) + mm3 ∧ fd3 + 160 ≤ 20 * (dc + 1) + mf3 ∧ mf3 ≤ 20 ∧ mm3 ≤ 30) → (dc + 1 ≤ 37) → (Kq 1 B X3) → (PS T nm wr3 lz3 (dc + 1) fd3 md3 pr3 bk3 X3) → (FrM K T wr3 X3 nd3 md3) → (tkRow (X3 19) wr3 T) → (lsRow (X3 22) (X3 23) lz3 T) → (Sng X3 (dc + 1) lz3) → va_P G.1 pCl (mW G h0 a (upd (upd (upd (upd (upd (upd (upd (upd (upd (upd (upd (upd (upd (upd (upd F 15 0) 16 pl3) 27 (nI nd3)) 31 (nI wr3)) 34 (nI lz3)) 35 (nI (dc + 1))) 44 (nI fd3)) 49 (nI md3)) 59 (nI bk3)) 60 (nI pr3)) 64 (nI at3)) 65 ne3) 66 (nI lk)) 67 (nI mf3)) 68 (nI mm3)) (updA X3 2 K)) H → va_D A (mW G h0 a (upd (upd (upd (upd (upd (upd (upd (upd (upd (upd (upd (upd (upd (upd (upd F 15 0) 16 pl3) 27 (nI nd3)) 31 (nI wr3)) 34 (nI lz3)) 35 (nI (dc + 1))) 44 (nI fd3)) 49 (nI md3)) 59 (nI bk3)) 60 (nI pr3)) 64 (nI at3)) 65 ne3) 66 (nI lk)) 67 (nI mf3)) 68 (nI mm3)) (updA X3 2 K)) → va_S A s.heap H locs → lv_has ls 3 [(2, .int (nI dc)), (0, .ref h0)] → W p l e (headSpec (Cond.code yX12_declaration cX12_declaration 3 none :: pw) ({ frames := 644, cells := 0, slots := 0, locals := 50200 } : Room)).room s m ([.ref h0] : List Value).toArray below meth c H locs 0 0 (MQ below (pQ G A (fun (v : Option Value) (u : Nat × Nat × Int32 × Nat × Nat × Nat × Nat × Nat × Nat × Nat × Nat × Nat × Nat × Int32 × (Nat → Nat → Int32)) => v = none ∧ (at0 ≤ u.1) ∧ (u.1 ≤ T) ∧ (u.2.1 ≤ 100) ∧ (at0 + 1 ≤ u.1 + u.2.1) ∧ (Kq 1 B u.2.2.2.2.2.2.2.2.2.2.2.2.2.2) ∧ (If (u.2.1 = 0) ((u.2.2.2.1 ≤ 2 * u.1 ∧ u.2.2.2.2.1 ≤ u.1 ∧ u.2.2.2.2.2.1 ≤ u.1 ∧ u.2.2.2.2.2.2.2.2.2.1 ≤ u.1 ∧ u.2.2.2.2.2.2.1 ≤ 37 ∧ dc ≤ u.2.2.2.2.2.2.1 ∧ u.2.2.2.2.2.2.2.2.2.2.1 ≤ u.2.2.2.2.2.2.2.2.1 ∧ wr ≤ u.2.2.2.2.1 ∧ lz ≤ u.2.2.2.2.2.1) ∧ (u.2.2.2.2.2.2.2.2.1 + 210 ≤ 30 * u.2.2.2.2.2.2.1 ∧ u.2.2.2.2.2.2.2.1 + 140 ≤ 20 * u.2.2.2.2.2.2.1 ∧ u.2.2.2.2.2.2.1 ≤ 37 ∧ 7 ≤ u.2.2.2.2.2.2.1 ∧ u.2.2.2.2.2.2.1 ≤ dc + 1) ∧ PS T nm u.2.2.2.2.1 u.2.2.2.2.2.1 u.2.2.2.2.2.2.1 u.2.2.2.2.2.2.2.1 u.2.2.2.2.2.2.2.2.1 u.2.2.2.2.2.2.2.2.2.1 u.2.2.2.2.2.2.2.2.2.2.1 u.2.2.2.2.2.2.2.2.2.2.2.2.2.2 ∧ FrM K T u.2.2.2.2.1 u.2.2.2.2.2.2.2.2.2.2.2.2.2.2 u.2.2.2.1 u.2.2.2.2.2.2.2.2.1 ∧ tkRow (u.2.2.2.2.2.2.2.2.2.2.2.2.2.2 19) u.2.2.2.2.1 T ∧ lsRow (u.2.2.2.2.2.2.2.2.2.2.2.2.2.2 22) (u.2.2.2.2.2.2.2.2.2.2.2.2.2.2 23) u.2.2.2.2.2.1 T)) ∧ (If (u.2.1 = 0) (Sng u.2.2.2.2.2.2.2.2.2.2.2.2.2.2 u.2.2.2.2.2.2.1 u.2.2.2.2.2.1))) (fun u => (mW G h0 a (upd (upd (upd (upd (upd (upd (upd (upd (upd (upd (upd (upd (upd (upd (upd F 15 (nI u.2.1)) 16 u.2.2.1) 27 (nI u.2.2.2.1)) 31 (nI u.2.2.2.2.1)) 34 (nI u.2.2.2.2.2.1)) 35 (nI u.2.2.2.2.2.2.1)) 44 (nI u.2.2.2.2.2.2.2.1)) 49 (nI u.2.2.2.2.2.2.2.2.1)) 59 (nI u.2.2.2.2.2.2.2.2.2.2.1)) 60 (nI u.2.2.2.2.2.2.2.2.2.1)) 64 (nI u.1)) 65 u.2.2.2.2.2.2.2.2.2.2.2.2.2.1) 66 (nI lk)) 67 (nI u.2.2.2.2.2.2.2.2.2.2.2.1)) 68 (nI u.2.2.2.2.2.2.2.2.2.2.2.2.1)) (updA u.2.2.2.2.2.2.2.2.2.2.2.2.2.2 2 K)))) ([.ref h0] : List Value).toArray s ({ frames := 644, cells := 0, slots := 0, locals := 50200 } : Room).cells ({ frames := 644, cells := 0, slots := 0, locals := 50200 } : Room).slots A) (F0 m 253 ls []) := by
              intro n_o
              induction n_o with
              | zero => intro at3 nd3 wr3 lz3 fd3 md3 pr3 bk3 mf3 mm3 pl3 ne3 X3 H locs ls hk_o hn_o; omega
              | succ n_o ih_o =>
                intro at3 nd3 wr3 lz3 fd3 md3 pr3 bk3 mf3 mm3 pl3 ne3 X3 H locs ls hk_o hn_o hm1 hm2 hm3 hm4 hkq3 hps3 hfm3 hy3 hlr3 hsn3 hP hD hS hl
                refine lv_aload_n hx hb dX12_declaration_253 rfl (lv_at hl 1 rfl) ?_
                refine r_get (v := .int 0) hx hb hown hq hE hP 15 350 tFX12_15 (by decide) pw_1594 rfl dX12_declaration_254 ?_
                refine lv_if_ne (tgt := 277) hx hb dX12_declaration_257 (by decide) (fun c768 => absurd c768 (by decide)) (fun c768 => ?_)
                refine lv_aload_n hx hb dX12_declaration_260 rfl (lv_at hl 1 rfl) ?_
                have hP : va_P G.1 pCl (mW G h0 a (upd (upd (upd (upd (upd (upd (upd (upd (upd (upd (upd (upd (upd (upd (upd (upd (upd F 15 0) 16 pl3) 27 (nI nd3)) 31 (nI wr3)) 34 (nI lz3)) 35 (nI (dc + 1))) 44 (nI fd3)) 49 (nI md3)) 59 (nI bk3)) 60 (nI pr3)) 64 (nI at3)) 65 ne3) 66 (nI lk)) 67 (nI mf3)) 68 (nI mm3)) 15 (nI 0)) 64 (nI at3)) (updA (updA X3 2 K) 2 K)) _ := hP
                have hD : va_D A (mW G h0 a (upd (upd (upd (upd (upd (upd (upd (upd (upd (upd (upd (upd (upd (upd (upd (upd (upd F 15 0) 16 pl3) 27 (nI nd3)) 31 (nI wr3)) 34 (nI lz3)) 35 (nI (dc + 1))) 44 (nI fd3)) 49 (nI md3)) 59 (nI bk3)) 60 (nI pr3)) 64 (nI at3)) 65 ne3) 66 (nI lk)) 67 (nI mf3)) 68 (nI mm3)) 15 (nI 0)) 64 (nI at3)) (updA (updA X3 2 K) 2 K)) := hD
                refine pc_V0 (G := G) (As := []) (rest := []) hx hb hml hown hq hE hX pX0_al hP hD hS hA hl.1 (R_kind l G h0 a (upd (upd (upd (upd (upd (upd (upd (upd (upd (upd (upd (upd (upd (upd (upd F 15 0) 16 pl3) 27 (nI nd3)) 31 (nI wr3)) 34 (nI lz3)) 35 (nI (dc + 1))) 44 (nI fd3)) 49 (nI md3)) 59 (nI bk3)) 60 (nI pr3)) 64 (nI at3)) 65 ne3) 66 (nI lk)) 67 (nI mf3)) 68 (nI mm3)) (updA X3 2 K) at3 T 0 K (by omega) (by omega) hK (by omega)) (gV pw_1626 pw_1627 pw_1628 pw_1523 pw_1591) hV_X12_kind 0 9 rfl rfl rfl rfl (Nat.le_of_ble_eq_true rfl) dX12_declaration_261 ⟨Nat.le_of_ble_eq_true rfl, Nat.le_of_ble_eq_true rfl⟩ ⟨Nat.le_of_ble_eq_true rfl, Nat.le_of_ble_eq_true rfl⟩ (fun v771 u769 H locs hw770 hP hD hS => ?_)
                obtain rfl : v771 = some (.int (K at3)) := hw770
                have hP : va_P G.1 pCl (mW G h0 a (upd (upd (upd (upd (upd (upd (upd (upd (upd (upd (upd (upd (upd (upd (upd F 15 0) 16 pl3) 27 (nI nd3)) 31 (nI wr3)) 34 (nI lz3)) 35 (nI (dc + 1))) 44 (nI fd3)) 49 (nI md3)) 59 (nI bk3)) 60 (nI pr3)) 64 (nI at3)) 65 ne3) 66 (nI lk)) 67 (nI mf3)) 68 (nI mm3)) (updA X3 2 K)) _ := hP
                have hD : va_D A (mW G h0 a (upd (upd (upd (upd (upd (upd (upd (upd (upd (upd (upd (upd (upd (upd (upd F 15 0) 16 pl3) 27 (nI nd3)) 31 (nI wr3)) 34 (nI lz3)) 35 (nI (dc + 1))) 44 (nI fd3)) 49 (nI md3)) 59 (nI bk3)) 60 (nI pr3)) 64 (nI at3)) 65 ne3) 66 (nI lk)) 67 (nI mf3)) 68 (nI mm3)) (updA X3 2 K)) := hD
                refine W.widen (k := 0) (n := 0) (Nat.le_of_ble_eq_true rfl) (Nat.le_of_ble_eq_true rfl) ?_
                refine W.eq (g2 := F0 m 264 ls [.int (K at3)]) rfl ?_
                refine lv_bipush (v := 125) hx hb dX12_declaration_264 (by decide) ?_
                refine lv_icmp_eq (tgt := 277) hx hb dX12_declaration_266 (by decide) (fun c772 => ?_) (fun c772 => ?_)
                · refine lv_aload_n hx hb dX12_declaration_277 rfl (lv_at hl 1 rfl) ?_
                  refine lv_bipush (v := 125) hx hb dX12_declaration_278 (by decide) ?_
                  have hP : va_P G.1 pCl (mW G h0 a (upd (upd (upd (upd (upd (upd (upd (upd (upd (upd (upd (upd (upd (upd (upd (upd (upd F 15 0) 16 pl3) 27 (nI nd3)) 31 (nI wr3)) 34 (nI lz3)) 35 (nI (dc + 1))) 44 (nI fd3)) 49 (nI md3)) 59 (nI bk3)) 60 (nI pr3)) 64 (nI at3)) 65 ne3) 66 (nI lk)) 67 (nI mf3)) 68 (nI mm3)) 15 (nI 0)) 64 (nI at3)) (updA (updA X3 2 K) 2 K)) _ := hP
                  have hD : va_D A (mW G h0 a (upd (upd (upd (upd (upd (upd (upd (upd (upd (upd (upd (upd (upd (upd (upd (upd (upd F 15 0) 16 pl3) 27 (nI nd3)) 31 (nI wr3)) 34 (nI lz3)) 35 (nI (dc + 1))) 44 (nI fd3)) 49 (nI md3)) 59 (nI bk3)) 60 (nI pr3)) 64 (nI at3)) 65 ne3) 66 (nI lk)) 67 (nI mf3)) 68 (nI mm3)) 15 (nI 0)) 64 (nI at3)) (updA (updA X3 2 K) 2 K)) := hD
                  refine pc_V0 (G := G) (As := [.int 125]) (rest := []) hx hb hml hown hq hE hX pX0_al hP hD hS hA hl.1 (R_take l G h0 a (upd (upd (upd (upd (upd (upd (upd (upd (upd (upd (upd (upd (upd (upd (upd F 15 0) 16 pl3) 27 (nI nd3)) 31 (nI wr3)) 34 (nI lz3)) 35 (nI (dc + 1))) 44 (nI fd3)) 49 (nI md3)) 59 (nI bk3)) 60 (nI pr3)) 64 (nI at3)) 65 ne3) 66 (nI lk)) 67 (nI mf3)) 68 (nI mm3)) (updA X3 2 K) at3 T 0 K 125 (by omega) (by omega) hK (by omega) (by decide) (by decide)) (gV pw_1614 pw_1615 pw_1616 pw_1523 pw_1601) hV_X12_take 0 9 rfl rfl rfl rfl (Nat.le_of_ble_eq_true rfl) dX12_declaration_280 ⟨Nat.le_of_ble_eq_true rfl, Nat.le_of_ble_eq_true rfl⟩ ⟨Nat.le_of_ble_eq_true rfl, Nat.le_of_ble_eq_true rfl⟩ (fun v775 u773 H locs hw774 hP hD hS => ?_)
                  obtain ⟨at776, fa777, pl778⟩ := u773
                  obtain ⟨hw774, h779, h780, h781, h782, h783, h784, h785, h786⟩ := hw774
                  replace h779 : at3 ≤ at776 := h779
                  replace h780 : at776 ≤ T := h780
                  replace h781 : 0 ≤ fa777 := h781
                  replace h782 : fa777 ≤ 100 := h782
                  replace h783 : If (0 < 0) (at776 = at3 ∧ fa777 = 0) := h783
                  replace h784 : at776 ≤ at3 + 1 := h784
                  replace h785 : at3 + 1 ≤ at776 + fa777 := h785
                  replace h786 : If (fa777 = 0) (K at3 = 125) := h786
                  obtain rfl : v775 = none := hw774
                  have hP : va_P G.1 pCl (mW G h0 a (upd (upd (upd (upd (upd (upd (upd (upd (upd (upd (upd (upd (upd (upd (upd F 15 (nI fa777)) 16 pl778) 27 (nI nd3)) 31 (nI wr3)) 34 (nI lz3)) 35 (nI (dc + 1))) 44 (nI fd3)) 49 (nI md3)) 59 (nI bk3)) 60 (nI pr3)) 64 (nI at776)) 65 ne3) 66 (nI lk)) 67 (nI mf3)) 68 (nI mm3)) (updA X3 2 K)) _ := hP
                  have hD : va_D A (mW G h0 a (upd (upd (upd (upd (upd (upd (upd (upd (upd (upd (upd (upd (upd (upd (upd F 15 (nI fa777)) 16 pl778) 27 (nI nd3)) 31 (nI wr3)) 34 (nI lz3)) 35 (nI (dc + 1))) 44 (nI fd3)) 49 (nI md3)) 59 (nI bk3)) 60 (nI pr3)) 64 (nI at776)) 65 ne3) 66 (nI lk)) 67 (nI mf3)) 68 (nI mm3)) (updA X3 2 K)) := hD
                  refine W.widen (k := 0) (n := 0) (Nat.le_of_ble_eq_true rfl) (Nat.le_of_ble_eq_true rfl) ?_
                  refine W.eq (g2 := F0 m 283 ls []) rfl ?_
                  rcases Nat.eq_zero_or_pos fa777 with e787 | e787
                  · subst e787
                    have hP : va_P G.1 pCl (mW G h0 a (upd (upd (upd (upd (upd (upd (upd (upd (upd (upd (upd (upd (upd (upd (upd F 15 0) 16 pl778) 27 (nI nd3)) 31 (nI wr3)) 34 (nI lz3)) 35 (nI (dc + 1))) 44 (nI fd3)) 49 (nI md3)) 59 (nI bk3)) 60 (nI pr3)) 64 (nI at776)) 65 ne3) 66 (nI lk)) 67 (nI mf3)) 68 (nI mm3)) (updA X3 2 K)) _ := hP
                    have hD : va_D A (mW G h0 a (upd (upd (upd (upd (upd (upd (upd (upd (upd (upd (upd (upd (upd (upd (upd F 15 0) 16 pl778) 27 (nI nd3)) 31 (nI wr3)) 34 (nI lz3)) 35 (nI (dc + 1))) 44 (nI fd3)) 49 (nI md3)) 59 (nI bk3)) 60 (nI pr3)) 64 (nI at776)) 65 ne3) 66 (nI lk)) 67 (nI mf3)) 68 (nI mm3)) (updA X3 2 K)) := hD
                    have hz788 : at0 ≤ at776 := (by omega)
                    have hz789 : at776 ≤ T := (by omega)
                    have hz790 : 0 ≤ 100 := (by omega)
                    have hz791 : at0 + 1 ≤ at776 + 0 := (by omega)
                    have hz792 : Kq 1 B X3 := hkq3
                    have hz793 : If (0 = 0) ((nd3 ≤ 2 * at776 ∧ wr3 ≤ at776 ∧ lz3 ≤ at776 ∧ pr3 ≤ at776 ∧ (dc + 1) ≤ 37 ∧ dc ≤ (dc + 1) ∧ bk3 ≤ md3 ∧ wr ≤ wr3 ∧ lz ≤ lz3) ∧ (md3 + 210 ≤ 30 * (dc + 1) ∧ fd3 + 140 ≤ 20 * (dc + 1) ∧ (dc + 1) ≤ 37 ∧ 7 ≤ (dc + 1) ∧ (dc + 1) ≤ dc + 1) ∧ PS T nm wr3 lz3 (dc + 1) fd3 md3 pr3 bk3 X3 ∧ FrM K T wr3 X3 nd3 md3 ∧ tkRow (X3 19) wr3 T ∧ lsRow (X3 22) (X3 23) lz3 T) := (fun _ => ⟨by omega, by omega, hps3, hfm3, hy3, hlr3⟩)
                    have hz794 : If (0 = 0) (Sng X3 (dc + 1) lz3) := (fun _ => hsn3)
                    have hP : va_P G.1 pCl (mW G h0 a (upd (upd (upd (upd (upd (upd (upd (upd (upd (upd (upd (upd (upd (upd (upd F 15 (nI 0)) 16 pl778) 27 (nI nd3)) 31 (nI wr3)) 34 (nI lz3)) 35 (nI (dc + 1))) 44 (nI fd3)) 49 (nI md3)) 59 (nI bk3)) 60 (nI pr3)) 64 (nI at776)) 65 ne3) 66 (nI lk)) 67 (nI mf3)) 68 (nI mm3)) (updA X3 2 K)) _ := hP
                    have hD : va_D A (mW G h0 a (upd (upd (upd (upd (upd (upd (upd (upd (upd (upd (upd (upd (upd (upd (upd F 15 (nI 0)) 16 pl778) 27 (nI nd3)) 31 (nI wr3)) 34 (nI lz3)) 35 (nI (dc + 1))) 44 (nI fd3)) 49 (nI md3)) 59 (nI bk3)) 60 (nI pr3)) 64 (nI at776)) 65 ne3) 66 (nI lk)) 67 (nI mf3)) 68 (nI mm3)) (updA X3 2 K)) := hD
                    exact W.vret hx hb hr (fun t9 ht9 hW9 => ⟨⟨_, (at776, 0, pl778, nd3, wr3, lz3, (dc + 1), fd3, md3, pr3, bk3, mf3, mm3, ne3, X3), rfl, ⟨rfl, hz788, hz789, hz790, hz791, hz792, hz793, hz794⟩, by rw [ht9]; exact hP, hD⟩, hS.F ht9⟩) hS.2.2 dX12_declaration_283
                  · have e787 := e787
                    have hz795 : at0 ≤ at776 := (by omega)
                    have hz796 : at776 ≤ T := (by omega)
                    have hz797 : fa777 ≤ 100 := (by omega)
                    have hz798 : at0 + 1 ≤ at776 + fa777 := (by omega)
                    have hz799 : Kq 1 B X3 := hkq3
                    have hz800 : If (fa777 = 0) ((nd3 ≤ 2 * at776 ∧ wr3 ≤ at776 ∧ lz3 ≤ at776 ∧ pr3 ≤ at776 ∧ (dc + 1) ≤ 37 ∧ dc ≤ (dc + 1) ∧ bk3 ≤ md3 ∧ wr ≤ wr3 ∧ lz ≤ lz3) ∧ (md3 + 210 ≤ 30 * (dc + 1) ∧ fd3 + 140 ≤ 20 * (dc + 1) ∧ (dc + 1) ≤ 37 ∧ 7 ≤ (dc + 1) ∧ (dc + 1) ≤ dc + 1) ∧ PS T nm wr3 lz3 (dc + 1) fd3 md3 pr3 bk3 X3 ∧ FrM K T wr3 X3 nd3 md3 ∧ tkRow (X3 19) wr3 T ∧ lsRow (X3 22) (X3 23) lz3 T) := (fun e => absurd e (by omega))
                    have hz801 : If (fa777 = 0) (Sng X3 (dc + 1) lz3) := (fun e => absurd e (by omega))
                    have hP : va_P G.1 pCl (mW G h0 a (upd (upd (upd (upd (upd (upd (upd (upd (upd (upd (upd (upd (upd (upd (upd F 15 (nI fa777)) 16 pl778) 27 (nI nd3)) 31 (nI wr3)) 34 (nI lz3)) 35 (nI (dc + 1))) 44 (nI fd3)) 49 (nI md3)) 59 (nI bk3)) 60 (nI pr3)) 64 (nI at776)) 65 ne3) 66 (nI lk)) 67 (nI mf3)) 68 (nI mm3)) (updA X3 2 K)) _ := hP
                    have hD : va_D A (mW G h0 a (upd (upd (upd (upd (upd (upd (upd (upd (upd (upd (upd (upd (upd (upd (upd F 15 (nI fa777)) 16 pl778) 27 (nI nd3)) 31 (nI wr3)) 34 (nI lz3)) 35 (nI (dc + 1))) 44 (nI fd3)) 49 (nI md3)) 59 (nI bk3)) 60 (nI pr3)) 64 (nI at776)) 65 ne3) 66 (nI lk)) 67 (nI mf3)) 68 (nI mm3)) (updA X3 2 K)) := hD
                    exact W.vret hx hb hr (fun t9 ht9 hW9 => ⟨⟨_, (at776, fa777, pl778, nd3, wr3, lz3, (dc + 1), fd3, md3, pr3, bk3, mf3, mm3, ne3, X3), rfl, ⟨rfl, hz795, hz796, hz797, hz798, hz799, hz800, hz801⟩, by rw [ht9]; exact hP, hD⟩, hS.F ht9⟩) hS.2.2 dX12_declaration_283
                · refine lv_aload_n hx hb dX12_declaration_269 rfl (lv_at hl 1 rfl) ?_
                  refine lv_iload_n hx hb dX12_declaration_270 rfl (lv_at hl 0 rfl) ?_
                  have hP : va_P G.1 pCl (mW G h0 a (upd (upd (upd (upd (upd (upd (upd (upd (upd (upd (upd (upd (upd (upd (upd (upd (upd (upd (upd (upd (upd (upd (upd (upd (upd (upd (upd (upd (upd F 15 0) 16 pl3) 27 (nI nd3)) 31 (nI wr3)) 34 (nI lz3)) 35 (nI (dc + 1))) 44 (nI fd3)) 49 (nI md3)) 59 (nI bk3)) 60 (nI pr3)) 64 (nI at3)) 65 ne3) 66 (nI lk)) 67 (nI mf3)) 68 (nI mm3)) 15 0) 27 (nI nd3)) 31 (nI wr3)) 34 (nI lz3)) 35 (nI (dc + 1))) 44 (nI fd3)) 49 (nI md3)) 59 (nI bk3)) 60 (nI pr3)) 64 (nI at3)) 65 ne3) 66 (nI lk)) 67 (nI mf3)) 68 (nI mm3)) (updA X3 2 K)) _ := hP
                  have hD : va_D A (mW G h0 a (upd (upd (upd (upd (upd (upd (upd (upd (upd (upd (upd (upd (upd (upd (upd (upd (upd (upd (upd (upd (upd (upd (upd (upd (upd (upd (upd (upd (upd F 15 0) 16 pl3) 27 (nI nd3)) 31 (nI wr3)) 34 (nI lz3)) 35 (nI (dc + 1))) 44 (nI fd3)) 49 (nI md3)) 59 (nI bk3)) 60 (nI pr3)) 64 (nI at3)) 65 ne3) 66 (nI lk)) 67 (nI mf3)) 68 (nI mm3)) 15 0) 27 (nI nd3)) 31 (nI wr3)) 34 (nI lz3)) 35 (nI (dc + 1))) 44 (nI fd3)) 49 (nI md3)) 59 (nI bk3)) 60 (nI pr3)) 64 (nI at3)) 65 ne3) 66 (nI lk)) 67 (nI mf3)) 68 (nI mm3)) (updA X3 2 K)) := hD
                  refine pc_V0 (G := G) (As := [.int (nI dc)]) (rest := []) hx hb hml hown hq hE hX pX0_al hP hD hS hA hl.1 (RM_member l G h0 a (upd (upd (upd (upd (upd (upd (upd (upd (upd (upd (upd (upd (upd (upd (upd F 15 0) 16 pl3) 27 (nI nd3)) 31 (nI wr3)) 34 (nI lz3)) 35 (nI (dc + 1))) 44 (nI fd3)) 49 (nI md3)) 59 (nI bk3)) 60 (nI pr3)) 64 (nI at3)) 65 ne3) 66 (nI lk)) 67 (nI mf3)) 68 (nI mm3)) X3 at3 T nm nd3 wr3 lz3 (dc + 1) fd3 md3 pr3 bk3 mf3 mm3 lk ne3 K dc (by omega) (by omega) hK (by rw [hkq3 5 (by omega)]; exact hV) (by omega) (by omega) (by omega) (by omega) (by omega) (by omega) (by omega) (by omega) (by omega) (by omega) (by omega) (by omega) hps3 hfm3 hy3 hlr3) (gV pw_1736 pw_1737 pw_1738 pw_1523 pw_1731) hV_X12_member 0 9 rfl rfl rfl rfl (Nat.le_of_ble_eq_true rfl) dX12_declaration_271 ⟨Nat.le_of_ble_eq_true rfl, Nat.le_of_ble_eq_true rfl⟩ ⟨Nat.le_of_ble_eq_true rfl, Nat.le_of_ble_eq_true rfl⟩ (fun v804 u802 H locs hw803 hP hD hS => ?_)
                  obtain ⟨at805, fa806, pl807, nd808, wr809, lz810, dc811, fd812, md813, pr814, bk815, mf816, mm817, ne818, X819⟩ := u802
                  obtain ⟨hw803, h820, h821, h822, h823, h824, h825⟩ := hw803
                  replace h820 : at3 ≤ at805 := h820
                  replace h821 : at805 ≤ T := h821
                  replace h822 : fa806 ≤ 100 := h822
                  replace h823 : at3 + 1 ≤ at805 + fa806 := h823
                  replace h824 : Kq 0 X3 X819 := h824
                  replace h825 : If (fa806 = 0) ((nd808 ≤ 2 * at805 ∧ wr809 ≤ at805 ∧ lz810 ≤ at805 ∧ pr814 ≤ at805 ∧ dc811 ≤ 37 ∧ (dc + 1) ≤ dc811 ∧ bk815 ≤ md813 ∧ wr3 ≤ wr809 ∧ lz3 ≤ lz810) ∧ (md813 + 240 ≤ 30 * dc811 + mm817 ∧ fd812 + 160 ≤ 20 * dc811 + mf816 ∧ mf816 ≤ 20 ∧ mm817 ≤ 30 ∧ dc811 = (dc + 1)) ∧ PS T nm wr809 lz810 dc811 fd812 md813 pr814 bk815 X819 ∧ FrM K T wr809 X819 nd808 md813 ∧ tkRow (X819 19) wr809 T ∧ lsRow (X819 22) (X819 23) lz810 T) := h825
                  obtain rfl : v804 = none := hw803
                  have hP : va_P G.1 pCl (mW G h0 a (upd (upd (upd (upd (upd (upd (upd (upd (upd (upd (upd (upd (upd (upd (upd F 15 (nI fa806)) 16 pl807) 27 (nI nd808)) 31 (nI wr809)) 34 (nI lz810)) 35 (nI dc811)) 44 (nI fd812)) 49 (nI md813)) 59 (nI bk815)) 60 (nI pr814)) 64 (nI at805)) 65 ne818) 66 (nI lk)) 67 (nI mf816)) 68 (nI mm817)) (updA X819 2 K)) _ := hP
                  have hD : va_D A (mW G h0 a (upd (upd (upd (upd (upd (upd (upd (upd (upd (upd (upd (upd (upd (upd (upd F 15 (nI fa806)) 16 pl807) 27 (nI nd808)) 31 (nI wr809)) 34 (nI lz810)) 35 (nI dc811)) 44 (nI fd812)) 49 (nI md813)) 59 (nI bk815)) 60 (nI pr814)) 64 (nI at805)) 65 ne818) 66 (nI lk)) 67 (nI mf816)) 68 (nI mm817)) (updA X819 2 K)) := hD
                  refine W.widen (k := 0) (n := 0) (Nat.le_of_ble_eq_true rfl) (Nat.le_of_ble_eq_true rfl) ?_
                  refine W.eq (g2 := F0 m 274 ls []) rfl ?_
                  have hkq826 : Kq 1 B X819 := (Kq.trans hkq3 h824 (by omega))
                  rcases Nat.eq_zero_or_pos fa806 with e827 | e827
                  · subst e827
                    have hP : va_P G.1 pCl (mW G h0 a (upd (upd (upd (upd (upd (upd (upd (upd (upd (upd (upd (upd (upd (upd (upd F 15 0) 16 pl807) 27 (nI nd808)) 31 (nI wr809)) 34 (nI lz810)) 35 (nI dc811)) 44 (nI fd812)) 49 (nI md813)) 59 (nI bk815)) 60 (nI pr814)) 64 (nI at805)) 65 ne818) 66 (nI lk)) 67 (nI mf816)) 68 (nI mm817)) (updA X819 2 K)) _ := hP
                    have hD : va_D A (mW G h0 a (upd (upd (upd (upd (upd (upd (upd (upd (upd (upd (upd (upd (upd (upd (upd F 15 0) 16 pl807) 27 (nI nd808)) 31 (nI wr809)) 34 (nI lz810)) 35 (nI dc811)) 44 (nI fd812)) 49 (nI md813)) 59 (nI bk815)) 60 (nI pr814)) 64 (nI at805)) 65 ne818) 66 (nI lk)) 67 (nI mf816)) 68 (nI mm817)) (updA X819 2 K)) := hD
                    obtain ⟨hq828, hq829, hq830, hq831, hq832, hq833⟩ := h825 rfl
                    obtain rfl : (dc + 1) = dc811 := (by omega)
                    have hsn834 : Sng X819 (dc + 1) lz810 := (Sng.same hsn3 (by omega) (fun i q => congrFun (h824 26 (by omega)) i) (fun i q => congrFun (h824 27 (by omega)) i) (fun i q => congrFun (h824 23 (by omega)) i))
                    refine lv_goto (tgt := 253) hx hb dX12_declaration_274 (by decide) ?_
                    have hP : va_P G.1 pCl (mW G h0 a (upd (upd (upd (upd (upd (upd (upd (upd (upd (upd (upd (upd (upd (upd (upd F 15 0) 16 pl807) 27 (nI nd808)) 31 (nI wr809)) 34 (nI lz810)) 35 (nI (dc + 1))) 44 (nI fd812)) 49 (nI md813)) 59 (nI bk815)) 60 (nI pr814)) 64 (nI at805)) 65 ne818) 66 (nI lk)) 67 (nI mf816)) 68 (nI mm817)) (updA X819 2 K)) _ := hP
                    have hD : va_D A (mW G h0 a (upd (upd (upd (upd (upd (upd (upd (upd (upd (upd (upd (upd (upd (upd (upd F 15 0) 16 pl807) 27 (nI nd808)) 31 (nI wr809)) 34 (nI lz810)) 35 (nI (dc + 1))) 44 (nI fd812)) 49 (nI md813)) 59 (nI bk815)) 60 (nI pr814)) 64 (nI at805)) 65 ne818) 66 (nI lk)) 67 (nI mf816)) 68 (nI mm817)) (updA X819 2 K)) := hD
                    exact ih_o at805 nd808 wr809 lz810 fd812 md813 pr814 bk815 mf816 mm817 pl807 ne818 X819 _ _ _ (by omega) (by omega) (by omega) (by omega) (by omega) (by omega) hkq826 hq830 hq831 hq832 hq833 hsn834 hP hD hS (lv_sub hl [0, 1] rfl)
                  · have e827 := e827
                    refine lv_goto (tgt := 253) hx hb dX12_declaration_274 (by decide) ?_
                    refine lv_aload_n hx hb dX12_declaration_253 rfl (lv_at hl 1 rfl) ?_
                    refine r_get (v := .int (nI fa806)) hx hb hown hq hE hP 15 350 tFX12_15 (by decide) pw_1594 rfl dX12_declaration_254 ?_
                    refine lv_if_ne (tgt := 277) hx hb dX12_declaration_257 (by decide) (fun c835 => ?_) (fun c835 => (by have n836 : fa806 = 0 := (nI_eq (a := fa806) (b := 0) (by omega) (by omega)).mp c835; omega))
                    refine lv_aload_n hx hb dX12_declaration_277 rfl (lv_at hl 1 rfl) ?_
                    refine lv_bipush (v := 125) hx hb dX12_declaration_278 (by decide) ?_
                    have hP : va_P G.1 pCl (mW G h0 a (upd (upd (upd (upd (upd (upd (upd (upd (upd (upd (upd (upd (upd (upd (upd (upd (upd F 15 (nI fa806)) 16 pl807) 27 (nI nd808)) 31 (nI wr809)) 34 (nI lz810)) 35 (nI dc811)) 44 (nI fd812)) 49 (nI md813)) 59 (nI bk815)) 60 (nI pr814)) 64 (nI at805)) 65 ne818) 66 (nI lk)) 67 (nI mf816)) 68 (nI mm817)) 15 (nI fa806)) 64 (nI at805)) (updA (updA X819 2 K) 2 K)) _ := hP
                    have hD : va_D A (mW G h0 a (upd (upd (upd (upd (upd (upd (upd (upd (upd (upd (upd (upd (upd (upd (upd (upd (upd F 15 (nI fa806)) 16 pl807) 27 (nI nd808)) 31 (nI wr809)) 34 (nI lz810)) 35 (nI dc811)) 44 (nI fd812)) 49 (nI md813)) 59 (nI bk815)) 60 (nI pr814)) 64 (nI at805)) 65 ne818) 66 (nI lk)) 67 (nI mf816)) 68 (nI mm817)) 15 (nI fa806)) 64 (nI at805)) (updA (updA X819 2 K) 2 K)) := hD
                    refine pc_V0 (G := G) (As := [.int 125]) (rest := []) hx hb hml hown hq hE hX pX0_al hP hD hS hA hl.1 (R_take l G h0 a (upd (upd (upd (upd (upd (upd (upd (upd (upd (upd (upd (upd (upd (upd (upd F 15 (nI fa806)) 16 pl807) 27 (nI nd808)) 31 (nI wr809)) 34 (nI lz810)) 35 (nI dc811)) 44 (nI fd812)) 49 (nI md813)) 59 (nI bk815)) 60 (nI pr814)) 64 (nI at805)) 65 ne818) 66 (nI lk)) 67 (nI mf816)) 68 (nI mm817)) (updA X819 2 K) at805 T fa806 K 125 (by omega) (by omega) hK (by omega) (by decide) (by decide)) (gV pw_1614 pw_1615 pw_1616 pw_1523 pw_1601) hV_X12_take 0 9 rfl rfl rfl rfl (Nat.le_of_ble_eq_true rfl) dX12_declaration_280 ⟨Nat.le_of_ble_eq_true rfl, Nat.le_of_ble_eq_true rfl⟩ ⟨Nat.le_of_ble_eq_true rfl, Nat.le_of_ble_eq_true rfl⟩ (fun v839 u837 H locs hw838 hP hD hS => ?_)
                    obtain ⟨at840, fa841, pl842⟩ := u837
                    obtain ⟨hw838, h843, h844, h845, h846, h847, h848, h849, h850⟩ := hw838
                    replace h843 : at805 ≤ at840 := h843
                    replace h844 : at840 ≤ T := h844
                    replace h845 : fa806 ≤ fa841 := h845
                    replace h846 : fa841 ≤ 100 := h846
                    replace h847 : If (0 < fa806) (at840 = at805 ∧ fa841 = fa806) := h847
                    replace h848 : at840 ≤ at805 + 1 := h848
                    replace h849 : at805 + 1 ≤ at840 + fa841 := h849
                    replace h850 : If (fa841 = 0) (K at805 = 125) := h850
                    obtain rfl : v839 = none := hw838
                    have hP : va_P G.1 pCl (mW G h0 a (upd (upd (upd (upd (upd (upd (upd (upd (upd (upd (upd (upd (upd (upd (upd F 15 (nI fa841)) 16 pl842) 27 (nI nd808)) 31 (nI wr809)) 34 (nI lz810)) 35 (nI dc811)) 44 (nI fd812)) 49 (nI md813)) 59 (nI bk815)) 60 (nI pr814)) 64 (nI at840)) 65 ne818) 66 (nI lk)) 67 (nI mf816)) 68 (nI mm817)) (updA X819 2 K)) _ := hP
                    have hD : va_D A (mW G h0 a (upd (upd (upd (upd (upd (upd (upd (upd (upd (upd (upd (upd (upd (upd (upd F 15 (nI fa841)) 16 pl842) 27 (nI nd808)) 31 (nI wr809)) 34 (nI lz810)) 35 (nI dc811)) 44 (nI fd812)) 49 (nI md813)) 59 (nI bk815)) 60 (nI pr814)) 64 (nI at840)) 65 ne818) 66 (nI lk)) 67 (nI mf816)) 68 (nI mm817)) (updA X819 2 K)) := hD
                    refine W.widen (k := 0) (n := 0) (Nat.le_of_ble_eq_true rfl) (Nat.le_of_ble_eq_true rfl) ?_
                    refine W.eq (g2 := F0 m 283 ls []) rfl ?_
                    obtain ⟨n852, n851⟩ := h847 e827
                    replace n852 := n852.symm
                    subst n852
                    replace n851 := n851.symm
                    subst n851
                    have hz853 : at0 ≤ at805 := (by omega)
                    have hz854 : at805 ≤ T := (by omega)
                    have hz855 : fa806 ≤ 100 := (by omega)
                    have hz856 : at0 + 1 ≤ at805 + fa806 := (by omega)
                    have hz857 : Kq 1 B X819 := hkq826
                    have hz858 : If (fa806 = 0) ((nd808 ≤ 2 * at805 ∧ wr809 ≤ at805 ∧ lz810 ≤ at805 ∧ pr814 ≤ at805 ∧ dc811 ≤ 37 ∧ dc ≤ dc811 ∧ bk815 ≤ md813 ∧ wr ≤ wr809 ∧ lz ≤ lz810) ∧ (md813 + 210 ≤ 30 * dc811 ∧ fd812 + 140 ≤ 20 * dc811 ∧ dc811 ≤ 37 ∧ 7 ≤ dc811 ∧ dc811 ≤ dc + 1) ∧ PS T nm wr809 lz810 dc811 fd812 md813 pr814 bk815 X819 ∧ FrM K T wr809 X819 nd808 md813 ∧ tkRow (X819 19) wr809 T ∧ lsRow (X819 22) (X819 23) lz810 T) := (fun e => absurd e (by omega))
                    have hz859 : If (fa806 = 0) (Sng X819 dc811 lz810) := (fun e => absurd e (by omega))
                    have hP : va_P G.1 pCl (mW G h0 a (upd (upd (upd (upd (upd (upd (upd (upd (upd (upd (upd (upd (upd (upd (upd F 15 (nI fa806)) 16 pl842) 27 (nI nd808)) 31 (nI wr809)) 34 (nI lz810)) 35 (nI dc811)) 44 (nI fd812)) 49 (nI md813)) 59 (nI bk815)) 60 (nI pr814)) 64 (nI at805)) 65 ne818) 66 (nI lk)) 67 (nI mf816)) 68 (nI mm817)) (updA X819 2 K)) _ := hP
                    have hD : va_D A (mW G h0 a (upd (upd (upd (upd (upd (upd (upd (upd (upd (upd (upd (upd (upd (upd (upd F 15 (nI fa806)) 16 pl842) 27 (nI nd808)) 31 (nI wr809)) 34 (nI lz810)) 35 (nI dc811)) 44 (nI fd812)) 49 (nI md813)) 59 (nI bk815)) 60 (nI pr814)) 64 (nI at805)) 65 ne818) 66 (nI lk)) 67 (nI mf816)) 68 (nI mm817)) (updA X819 2 K)) := hD
                    exact W.vret hx hb hr (fun t9 ht9 hW9 => ⟨⟨_, (at805, fa806, pl842, nd808, wr809, lz810, dc811, fd812, md813, pr814, bk815, mf816, mm817, ne818, X819), rfl, ⟨rfl, hz853, hz854, hz855, hz856, hz857, hz858, hz859⟩, by rw [ht9]; exact hP, hD⟩, hS.F ht9⟩) hS.2.2 dX12_declaration_283
            have hP : va_P G.1 pCl (mW G h0 a (upd (upd (upd (upd (upd (upd (upd (upd (upd (upd (upd (upd (upd (upd (upd F 15 0) 16 pl758) 27 (nI nd)) 31 (nI wr)) 34 (nI lz2)) 35 (nI (dc + 1))) 44 (nI fd)) 49 (nI md)) 59 (nI bk)) 60 (nI pr)) 64 (nI at756)) 65 ne0) 66 (nI lk)) 67 (nI 0)) 68 (nI 0)) (updA X2 2 K)) _ := hP
            have hD : va_D A (mW G h0 a (upd (upd (upd (upd (upd (upd (upd (upd (upd (upd (upd (upd (upd (upd (upd F 15 0) 16 pl758) 27 (nI nd)) 31 (nI wr)) 34 (nI lz2)) 35 (nI (dc + 1))) 44 (nI fd)) 49 (nI md)) 59 (nI bk)) 60 (nI pr)) 64 (nI at756)) 65 ne0) 66 (nI lk)) 67 (nI 0)) 68 (nI 0)) (updA X2 2 K)) := hD
            exact loop_o (T + 1) at756 nd wr lz2 fd md pr bk 0 0 pl758 ne0 X2 _ _ _ (by omega) (by omega) (by omega) (by omega) (by omega) (by omega) hkq2 hps2 hfm2 hy2 hlr2 hsn2 hP hD hS (lv_sub hl [0, 1] rfl)
          · have e767 := e767
            refine lv_aload_n hx hb dX12_declaration_243 rfl (lv_at hl 1 rfl) ?_
            refine lv_iconst (v := 0) hx hb dX12_declaration_244 (by decide) ?_
            refine r_put (v := 0) (ty := .int) hx hb hown hq hE hP hD hS 67 390 tFX12_67 (by decide) pw_1726 (by decide) rfl rfl (ms_67 a _ _) dX12_declaration_245 (fun H locs hP hD hS => ?_)
            refine lv_aload_n hx hb dX12_declaration_248 rfl (lv_at hl 1 rfl) ?_
            refine lv_iconst (v := 0) hx hb dX12_declaration_249 (by decide) ?_
            refine r_put (v := 0) (ty := .int) hx hb hown hq hE hP hD hS 68 393 tFX12_68 (by decide) pw_1722 (by decide) rfl rfl (ms_68 a _ _) dX12_declaration_250 (fun H locs hP hD hS => ?_)
            refine lv_aload_n hx hb dX12_declaration_253 rfl (lv_at hl 1 rfl) ?_
            refine r_get (v := .int (nI fa757)) hx hb hown hq hE hP 15 350 tFX12_15 (by decide) pw_1594 rfl dX12_declaration_254 ?_
            refine lv_if_ne (tgt := 277) hx hb dX12_declaration_257 (by decide) (fun c860 => ?_) (fun c860 => (by have n861 : fa757 = 0 := (nI_eq (a := fa757) (b := 0) (by omega) (by omega)).mp c860; omega))
            refine lv_aload_n hx hb dX12_declaration_277 rfl (lv_at hl 1 rfl) ?_
            refine lv_bipush (v := 125) hx hb dX12_declaration_278 (by decide) ?_
            have hP : va_P G.1 pCl (mW G h0 a (upd (upd (upd (upd (upd (upd (upd (upd (upd (upd (upd (upd (upd (upd (upd (upd (upd F 15 (nI fa757)) 16 pl758) 27 (nI nd)) 31 (nI wr)) 34 (nI lz2)) 35 (nI (dc + 1))) 44 (nI fd)) 49 (nI md)) 59 (nI bk)) 60 (nI pr)) 64 (nI at756)) 65 ne0) 66 (nI lk)) 67 0) 68 0) 15 (nI fa757)) 64 (nI at756)) (updA (updA X2 2 K) 2 K)) _ := hP
            have hD : va_D A (mW G h0 a (upd (upd (upd (upd (upd (upd (upd (upd (upd (upd (upd (upd (upd (upd (upd (upd (upd F 15 (nI fa757)) 16 pl758) 27 (nI nd)) 31 (nI wr)) 34 (nI lz2)) 35 (nI (dc + 1))) 44 (nI fd)) 49 (nI md)) 59 (nI bk)) 60 (nI pr)) 64 (nI at756)) 65 ne0) 66 (nI lk)) 67 0) 68 0) 15 (nI fa757)) 64 (nI at756)) (updA (updA X2 2 K) 2 K)) := hD
            refine pc_V0 (G := G) (As := [.int 125]) (rest := []) hx hb hml hown hq hE hX pX0_al hP hD hS hA hl.1 (R_take l G h0 a (upd (upd (upd (upd (upd (upd (upd (upd (upd (upd (upd (upd (upd (upd (upd F 15 (nI fa757)) 16 pl758) 27 (nI nd)) 31 (nI wr)) 34 (nI lz2)) 35 (nI (dc + 1))) 44 (nI fd)) 49 (nI md)) 59 (nI bk)) 60 (nI pr)) 64 (nI at756)) 65 ne0) 66 (nI lk)) 67 0) 68 0) (updA X2 2 K) at756 T fa757 K 125 (by omega) (by omega) hK (by omega) (by decide) (by decide)) (gV pw_1614 pw_1615 pw_1616 pw_1523 pw_1601) hV_X12_take 0 9 rfl rfl rfl rfl (Nat.le_of_ble_eq_true rfl) dX12_declaration_280 ⟨Nat.le_of_ble_eq_true rfl, Nat.le_of_ble_eq_true rfl⟩ ⟨Nat.le_of_ble_eq_true rfl, Nat.le_of_ble_eq_true rfl⟩ (fun v864 u862 H locs hw863 hP hD hS => ?_)
            obtain ⟨at865, fa866, pl867⟩ := u862
            obtain ⟨hw863, h868, h869, h870, h871, h872, h873, h874, h875⟩ := hw863
            replace h868 : at756 ≤ at865 := h868
            replace h869 : at865 ≤ T := h869
            replace h870 : fa757 ≤ fa866 := h870
            replace h871 : fa866 ≤ 100 := h871
            replace h872 : If (0 < fa757) (at865 = at756 ∧ fa866 = fa757) := h872
            replace h873 : at865 ≤ at756 + 1 := h873
            replace h874 : at756 + 1 ≤ at865 + fa866 := h874
            replace h875 : If (fa866 = 0) (K at756 = 125) := h875
            obtain rfl : v864 = none := hw863
            have hP : va_P G.1 pCl (mW G h0 a (upd (upd (upd (upd (upd (upd (upd (upd (upd (upd (upd (upd (upd (upd (upd F 15 (nI fa866)) 16 pl867) 27 (nI nd)) 31 (nI wr)) 34 (nI lz2)) 35 (nI (dc + 1))) 44 (nI fd)) 49 (nI md)) 59 (nI bk)) 60 (nI pr)) 64 (nI at865)) 65 ne0) 66 (nI lk)) 67 0) 68 0) (updA X2 2 K)) _ := hP
            have hD : va_D A (mW G h0 a (upd (upd (upd (upd (upd (upd (upd (upd (upd (upd (upd (upd (upd (upd (upd F 15 (nI fa866)) 16 pl867) 27 (nI nd)) 31 (nI wr)) 34 (nI lz2)) 35 (nI (dc + 1))) 44 (nI fd)) 49 (nI md)) 59 (nI bk)) 60 (nI pr)) 64 (nI at865)) 65 ne0) 66 (nI lk)) 67 0) 68 0) (updA X2 2 K)) := hD
            refine W.widen (k := 0) (n := 0) (Nat.le_of_ble_eq_true rfl) (Nat.le_of_ble_eq_true rfl) ?_
            refine W.eq (g2 := F0 m 283 ls []) rfl ?_
            obtain ⟨n877, n876⟩ := h872 e767
            replace n877 := n877.symm
            subst n877
            replace n876 := n876.symm
            subst n876
            have hz878 : at0 ≤ at756 := (by omega)
            have hz879 : at756 ≤ T := (by omega)
            have hz880 : fa757 ≤ 100 := (by omega)
            have hz881 : at0 + 1 ≤ at756 + fa757 := (by omega)
            have hz882 : Kq 1 B X2 := hkq2
            have hz883 : If (fa757 = 0) ((nd ≤ 2 * at756 ∧ wr ≤ at756 ∧ lz2 ≤ at756 ∧ pr ≤ at756 ∧ (dc + 1) ≤ 37 ∧ dc ≤ (dc + 1) ∧ bk ≤ md ∧ wr ≤ wr ∧ lz ≤ lz2) ∧ (md + 210 ≤ 30 * (dc + 1) ∧ fd + 140 ≤ 20 * (dc + 1) ∧ (dc + 1) ≤ 37 ∧ 7 ≤ (dc + 1) ∧ (dc + 1) ≤ dc + 1) ∧ PS T nm wr lz2 (dc + 1) fd md pr bk X2 ∧ FrM K T wr X2 nd md ∧ tkRow (X2 19) wr T ∧ lsRow (X2 22) (X2 23) lz2 T) := (fun e => absurd e (by omega))
            have hz884 : If (fa757 = 0) (Sng X2 (dc + 1) lz2) := (fun e => absurd e (by omega))
            have hP : va_P G.1 pCl (mW G h0 a (upd (upd (upd (upd (upd (upd (upd (upd (upd (upd (upd (upd (upd (upd (upd F 15 (nI fa757)) 16 pl867) 27 (nI nd)) 31 (nI wr)) 34 (nI lz2)) 35 (nI (dc + 1))) 44 (nI fd)) 49 (nI md)) 59 (nI bk)) 60 (nI pr)) 64 (nI at756)) 65 ne0) 66 (nI lk)) 67 (nI 0)) 68 (nI 0)) (updA X2 2 K)) _ := hP
            have hD : va_D A (mW G h0 a (upd (upd (upd (upd (upd (upd (upd (upd (upd (upd (upd (upd (upd (upd (upd F 15 (nI fa757)) 16 pl867) 27 (nI nd)) 31 (nI wr)) 34 (nI lz2)) 35 (nI (dc + 1))) 44 (nI fd)) 49 (nI md)) 59 (nI bk)) 60 (nI pr)) 64 (nI at756)) 65 ne0) 66 (nI lk)) 67 (nI 0)) 68 (nI 0)) (updA X2 2 K)) := hD
            exact W.vret hx hb hr (fun t9 ht9 hW9 => ⟨⟨_, (at756, fa757, pl867, nd, wr, lz2, (dc + 1), fd, md, pr, bk, 0, 0, ne0, X2), rfl, ⟨rfl, hz878, hz879, hz880, hz881, hz882, hz883, hz884⟩, by rw [ht9]; exact hP, hD⟩, hS.F ht9⟩) hS.2.2 dX12_declaration_283
        refine lv_aload_n hx hb dX12_declaration_139 rfl (lv_at hl 2 rfl) ?_
        refine lv_sipush (v := 317) hx hb dX12_declaration_140 (by decide) ?_
        have hP : va_P G.1 pCl (mW G h0 a (upd (upd (upd (upd (upd (upd (upd (upd (upd (upd (upd (upd (upd (upd (upd (upd (upd F 15 0) 16 pl683) 27 (nI nd)) 31 (nI wr)) 34 (nI lz)) 35 (nI (dc + 1))) 44 (nI fd)) 49 (nI md)) 59 (nI bk)) 60 (nI pr)) 64 (nI at681)) 65 ne0) 66 (nI lk)) 67 (nI mf)) 68 (nI mm)) 15 (nI 0)) 64 (nI at681)) (updA (updA (stR (stR (stR (stR (stR (stR B 26 dc 1) 25 dc (nI (at0 + 1))) 24 dc (nI v706)) 27 dc (-1)) 28 dc (-1)) 29 dc 0) 2 K) 2 K)) _ := hP
        have hD : va_D A (mW G h0 a (upd (upd (upd (upd (upd (upd (upd (upd (upd (upd (upd (upd (upd (upd (upd (upd (upd F 15 0) 16 pl683) 27 (nI nd)) 31 (nI wr)) 34 (nI lz)) 35 (nI (dc + 1))) 44 (nI fd)) 49 (nI md)) 59 (nI bk)) 60 (nI pr)) 64 (nI at681)) 65 ne0) 66 (nI lk)) 67 (nI mf)) 68 (nI mm)) 15 (nI 0)) 64 (nI at681)) (updA (updA (stR (stR (stR (stR (stR (stR B 26 dc 1) 25 dc (nI (at0 + 1))) 24 dc (nI v706)) 27 dc (-1)) 28 dc (-1)) 29 dc 0) 2 K) 2 K)) := hD
        refine pc_V0 (G := G) (As := [.int 317]) (rest := []) hx hb hml hown hq hE hX pX0_al hP hD hS hA hl.1 (R_may l G h0 a (upd (upd (upd (upd (upd (upd (upd (upd (upd (upd (upd (upd (upd (upd (upd F 15 0) 16 pl683) 27 (nI nd)) 31 (nI wr)) 34 (nI lz)) 35 (nI (dc + 1))) 44 (nI fd)) 49 (nI md)) 59 (nI bk)) 60 (nI pr)) 64 (nI at681)) 65 ne0) 66 (nI lk)) 67 (nI mf)) 68 (nI mm)) (updA (stR (stR (stR (stR (stR (stR B 26 dc 1) 25 dc (nI (at0 + 1))) 24 dc (nI v706)) 27 dc (-1)) 28 dc (-1)) 29 dc 0) 2 K) at681 T 0 K 317 (by omega) (by omega) hK (by omega) (by decide) (by decide)) (gV pw_1621 pw_1622 pw_1623 pw_1523 pw_1605) hV_X12_may 0 9 rfl rfl rfl rfl (Nat.le_of_ble_eq_true rfl) dX12_declaration_143 ⟨Nat.le_of_ble_eq_true rfl, Nat.le_of_ble_eq_true rfl⟩ ⟨Nat.le_of_ble_eq_true rfl, Nat.le_of_ble_eq_true rfl⟩ (fun v887 u885 H locs hw886 hP hD hS => ?_)
        obtain ⟨at888, r889⟩ := u885
        obtain ⟨hw886, h890, h891, h892, h893, h894, h895⟩ := hw886
        replace h890 : r889 ≤ 1 := h890
        replace h891 : 0 + 100 * r889 ≤ 100 := h891
        replace h892 : at888 = at681 + r889 := h892
        replace h893 : at888 ≤ T := h893
        replace h894 : If (r889 = 1) (K at681 = 317) := h894
        replace h895 : If (r889 = 0) (0 = 0 → ¬ K at681 = 317) := h895
        obtain rfl : v887 = some (.int (nI r889)) := hw886
        have hP : va_P G.1 pCl (mW G h0 a (upd (upd (upd (upd (upd (upd (upd (upd (upd (upd (upd (upd (upd (upd (upd F 15 0) 16 pl683) 27 (nI nd)) 31 (nI wr)) 34 (nI lz)) 35 (nI (dc + 1))) 44 (nI fd)) 49 (nI md)) 59 (nI bk)) 60 (nI pr)) 64 (nI at888)) 65 ne0) 66 (nI lk)) 67 (nI mf)) 68 (nI mm)) (updA (stR (stR (stR (stR (stR (stR B 26 dc 1) 25 dc (nI (at0 + 1))) 24 dc (nI v706)) 27 dc (-1)) 28 dc (-1)) 29 dc 0) 2 K)) _ := hP
        have hD : va_D A (mW G h0 a (upd (upd (upd (upd (upd (upd (upd (upd (upd (upd (upd (upd (upd (upd (upd F 15 0) 16 pl683) 27 (nI nd)) 31 (nI wr)) 34 (nI lz)) 35 (nI (dc + 1))) 44 (nI fd)) 49 (nI md)) 59 (nI bk)) 60 (nI pr)) 64 (nI at888)) 65 ne0) 66 (nI lk)) 67 (nI mf)) 68 (nI mm)) (updA (stR (stR (stR (stR (stR (stR B 26 dc 1) 25 dc (nI (at0 + 1))) 24 dc (nI v706)) 27 dc (-1)) 28 dc (-1)) 29 dc 0) 2 K)) := hD
        refine W.widen (k := 0) (n := 0) (Nat.le_of_ble_eq_true rfl) (Nat.le_of_ble_eq_true rfl) ?_
        refine W.eq (g2 := F0 m 146 ls [.int (nI r889)]) rfl ?_
        refine lv_if_eq (tgt := 213) hx hb dX12_declaration_146 (by decide) (fun c896 => ?_) (fun c896 => ?_)
        · have n897 : r889 = 0 := (nI_eq (a := r889) (b := 0) (by omega) (by omega)).mp c896
          refine lv_iload_n hx hb dX12_declaration_213 rfl (lv_at hl 1 rfl) ?_
          refine lv_if_ne (tgt := 237) hx hb dX12_declaration_214 (by decide) (fun c898 => ?_) (fun c898 => absurd c898 (by decide))
          have hP : va_P G.1 pCl (mW G h0 a (upd (upd (upd (upd (upd (upd (upd (upd (upd (upd (upd (upd (upd (upd (upd F 15 0) 16 pl683) 27 (nI nd)) 31 (nI wr)) 34 (nI lz)) 35 (nI (dc + 1))) 44 (nI fd)) 49 (nI md)) 59 (nI bk)) 60 (nI pr)) 64 (nI at888)) 65 ne0) 66 (nI lk)) 67 (nI mf)) 68 (nI mm)) (updA (stR (stR (stR (stR (stR (stR B 26 dc 1) 25 dc (nI (at0 + 1))) 24 dc (nI v706)) 27 dc (-1)) 28 dc (-1)) 29 dc 0) 2 K)) _ := hP
          have hD : va_D A (mW G h0 a (upd (upd (upd (upd (upd (upd (upd (upd (upd (upd (upd (upd (upd (upd (upd F 15 0) 16 pl683) 27 (nI nd)) 31 (nI wr)) 34 (nI lz)) 35 (nI (dc + 1))) 44 (nI fd)) 49 (nI md)) 59 (nI bk)) 60 (nI pr)) 64 (nI at888)) 65 ne0) 66 (nI lk)) 67 (nI mf)) 68 (nI mm)) (updA (stR (stR (stR (stR (stR (stR B 26 dc 1) 25 dc (nI (at0 + 1))) 24 dc (nI v706)) 27 dc (-1)) 28 dc (-1)) 29 dc 0) 2 K)) := hD
          exact cut_j at888 lz pl683 (stR (stR (stR (stR (stR (stR B 26 dc 1) 25 dc (nI (at0 + 1))) 24 dc (nI v706)) 27 dc (-1)) 28 dc (-1)) 29 dc 0) _ _ _ (by omega) (by omega) (by omega) hkq739 (PS.dec hps746 (by omega) hce741 (by omega) hce742 (by omega) hce740 (Or.inr rfl) hce743 (Or.inl rfl) hce744 (Or.inl rfl)) hfm747 hty745 hlr749 (Sng.dec (Sng.same hsn748 (ls' := lz) (by omega) (fun i q => rfl) (fun i q => rfl) (fun i q => rfl)) hce740 hce743 (fun e => absurd e (by decide))) hP hD hS (lv_sub hl [0, 2] rfl)
        · have n899 : ¬ (r889 = 0) := fun h9 => c896 ((nI_eq (a := r889) (b := 0) (by omega) (by omega)).mpr h9)
          refine lv_iload_n hx hb dX12_declaration_149 rfl (lv_at hl 1 rfl) ?_
          refine lv_if_eq (tgt := 166) hx hb dX12_declaration_150 (by decide) (fun c900 => absurd c900 (by decide)) (fun c900 => ?_)
          refine lv_aload_n hx hb dX12_declaration_153 rfl (lv_at hl 2 rfl) ?_
          refine r_get (v := .ref (a 27)) hx hb hown hq hE hP 39 93 tFX12_39 (by decide) pw_1458 rfl dX12_declaration_154 ?_
          refine lv_iload_n hx hb dX12_declaration_157 rfl (lv_at hl 0 rfl) ?_
          refine lv_aload_n hx hb dX12_declaration_158 rfl (lv_at hl 2 rfl) ?_
          have hP : va_P G.1 pCl (mW G h0 a (upd (upd (upd (upd (upd (upd (upd (upd (upd (upd (upd (upd (upd (upd (upd (upd (upd (upd F 15 0) 16 pl683) 27 (nI nd)) 31 (nI wr)) 34 (nI lz)) 35 (nI (dc + 1))) 44 (nI fd)) 49 (nI md)) 59 (nI bk)) 60 (nI pr)) 64 (nI at888)) 65 ne0) 66 (nI lk)) 67 (nI mf)) 68 (nI mm)) 15 (nI 0)) 34 (nI lz)) 64 (nI at888)) (updA (updA (updA (updA (stR (stR (stR (stR (stR (stR B 26 dc 1) 25 dc (nI (at0 + 1))) 24 dc (nI v706)) 27 dc (-1)) 28 dc (-1)) 29 dc 0) 2 K) 2 K) 22 ((stR (stR (stR (stR (stR (stR B 26 dc 1) 25 dc (nI (at0 + 1))) 24 dc (nI v706)) 27 dc (-1)) 28 dc (-1)) 29 dc 0) 22)) 23 ((stR (stR (stR (stR (stR (stR B 26 dc 1) 25 dc (nI (at0 + 1))) 24 dc (nI v706)) 27 dc (-1)) 28 dc (-1)) 29 dc 0) 23))) _ := hP
          have hD : va_D A (mW G h0 a (upd (upd (upd (upd (upd (upd (upd (upd (upd (upd (upd (upd (upd (upd (upd (upd (upd (upd F 15 0) 16 pl683) 27 (nI nd)) 31 (nI wr)) 34 (nI lz)) 35 (nI (dc + 1))) 44 (nI fd)) 49 (nI md)) 59 (nI bk)) 60 (nI pr)) 64 (nI at888)) 65 ne0) 66 (nI lk)) 67 (nI mf)) 68 (nI mm)) 15 (nI 0)) 34 (nI lz)) 64 (nI at888)) (updA (updA (updA (updA (stR (stR (stR (stR (stR (stR B 26 dc 1) 25 dc (nI (at0 + 1))) 24 dc (nI v706)) 27 dc (-1)) 28 dc (-1)) 29 dc 0) 2 K) 2 K) 22 ((stR (stR (stR (stR (stR (stR B 26 dc 1) 25 dc (nI (at0 + 1))) 24 dc (nI v706)) 27 dc (-1)) 28 dc (-1)) 29 dc 0) 22)) 23 ((stR (stR (stR (stR (stR (stR B 26 dc 1) 25 dc (nI (at0 + 1))) 24 dc (nI v706)) 27 dc (-1)) 28 dc (-1)) 29 dc 0) 23))) := hD
          refine pc_V0 (G := G) (As := []) (rest := [.int (nI dc), .ref (a 27)]) hx hb hml hown hq hE hX pX0_al hP hD hS hA hl.1 (R_listOfNamesN l G h0 a (upd (upd (upd (upd (upd (upd (upd (upd (upd (upd (upd (upd (upd (upd (upd F 15 0) 16 pl683) 27 (nI nd)) 31 (nI wr)) 34 (nI lz)) 35 (nI (dc + 1))) 44 (nI fd)) 49 (nI md)) 59 (nI bk)) 60 (nI pr)) 64 (nI at888)) 65 ne0) 66 (nI lk)) 67 (nI mf)) 68 (nI mm)) (updA (stR (stR (stR (stR (stR (stR B 26 dc 1) 25 dc (nI (at0 + 1))) 24 dc (nI v706)) 27 dc (-1)) 28 dc (-1)) 29 dc 0) 2 K) at888 T 0 K lz ((stR (stR (stR (stR (stR (stR B 26 dc 1) 25 dc (nI (at0 + 1))) 24 dc (nI v706)) 27 dc (-1)) 28 dc (-1)) 29 dc 0) 22) ((stR (stR (stR (stR (stR (stR B 26 dc 1) 25 dc (nI (at0 + 1))) 24 dc (nI v706)) 27 dc (-1)) 28 dc (-1)) 29 dc 0) 23) (by omega) (by omega) hK (by omega) (by omega) hlr749) (gV pw_1733 pw_1734 pw_1735 pw_1523 pw_1624) hV_X12_listOfNames 0 9 rfl rfl rfl rfl (Nat.le_of_ble_eq_true rfl) dX12_declaration_159 ⟨Nat.le_of_ble_eq_true rfl, Nat.le_of_ble_eq_true rfl⟩ ⟨Nat.le_of_ble_eq_true rfl, Nat.le_of_ble_eq_true rfl⟩ (fun v903 u901 H locs hw902 hP hD hS => ?_)
          obtain ⟨at904, fa905, pl906, ls907, lt908, ln909, r910⟩ := u901
          obtain ⟨hw902, h911, h912, h913, h914, h915, h916, h917, h918, h919, h920, h921, h922⟩ := hw902
          replace h911 : at888 ≤ at904 := h911
          replace h912 : at904 ≤ T := h912
          replace h913 : 0 ≤ fa905 := h913
          replace h914 : fa905 ≤ 100 := h914
          replace h915 : If (0 < 0) (at904 = at888 ∧ fa905 = 0) := h915
          replace h916 : lz ≤ ls907 := h916
          replace h917 : ls907 + at888 ≤ lz + at904 + fa905 := h917
          replace h918 : ls907 + at888 ≤ lz + at904 + 1 := h918
          replace h919 : lsRow lt908 ln909 ls907 T := h919
          replace h920 : r910 = -1 ∨ ∃ p : Nat, p < ls907 ∧ r910 = nI p := h920
          replace h921 : If (0 < 0) (ls907 = lz) := h921
          replace h922 : ∀ i : Nat, i < lz → ln909 i = ((stR (stR (stR (stR (stR (stR B 26 dc 1) 25 dc (nI (at0 + 1))) 24 dc (nI v706)) 27 dc (-1)) 28 dc (-1)) 29 dc 0) 23) i := h922
          obtain rfl : v903 = some (.int r910) := hw902
          have hP : va_P G.1 pCl (mW G h0 a (upd (upd (upd (upd (upd (upd (upd (upd (upd (upd (upd (upd (upd (upd (upd F 15 (nI fa905)) 16 pl906) 27 (nI nd)) 31 (nI wr)) 34 (nI ls907)) 35 (nI (dc + 1))) 44 (nI fd)) 49 (nI md)) 59 (nI bk)) 60 (nI pr)) 64 (nI at904)) 65 ne0) 66 (nI lk)) 67 (nI mf)) 68 (nI mm)) (updA (updA (updA (stR (stR (stR (stR (stR (stR B 26 dc 1) 25 dc (nI (at0 + 1))) 24 dc (nI v706)) 27 dc (-1)) 28 dc (-1)) 29 dc 0) 2 K) 22 lt908) 23 ln909)) _ := hP
          have hD : va_D A (mW G h0 a (upd (upd (upd (upd (upd (upd (upd (upd (upd (upd (upd (upd (upd (upd (upd F 15 (nI fa905)) 16 pl906) 27 (nI nd)) 31 (nI wr)) 34 (nI ls907)) 35 (nI (dc + 1))) 44 (nI fd)) 49 (nI md)) 59 (nI bk)) 60 (nI pr)) 64 (nI at904)) 65 ne0) 66 (nI lk)) 67 (nI mf)) 68 (nI mm)) (updA (updA (updA (stR (stR (stR (stR (stR (stR B 26 dc 1) 25 dc (nI (at0 + 1))) 24 dc (nI v706)) 27 dc (-1)) 28 dc (-1)) 29 dc 0) 2 K) 22 lt908) 23 ln909)) := hD
          refine W.widen (k := 0) (n := 0) (Nat.le_of_ble_eq_true rfl) (Nat.le_of_ble_eq_true rfl) ?_
          refine W.eq (g2 := F0 m 162 ls [.int r910, .int (nI dc), .ref (a 27)]) rfl ?_
          have hP : va_P G.1 pCl (mW G h0 a (upd (upd (upd (upd (upd (upd (upd (upd (upd (upd (upd (upd (upd (upd (upd F 15 (nI fa905)) 16 pl906) 27 (nI nd)) 31 (nI wr)) 34 (nI ls907)) 35 (nI (dc + 1))) 44 (nI fd)) 49 (nI md)) 59 (nI bk)) 60 (nI pr)) 64 (nI at904)) 65 ne0) 66 (nI lk)) 67 (nI mf)) 68 (nI mm)) (updA (updA (updA (stR (stR (stR (stR (stR (stR B 26 dc 1) 25 dc (nI (at0 + 1))) 24 dc (nI v706)) 27 dc (-1)) 28 dc (-1)) 29 dc 0) 22 lt908) 23 ln909) 2 K)) _ := hP
          have hD : va_D A (mW G h0 a (upd (upd (upd (upd (upd (upd (upd (upd (upd (upd (upd (upd (upd (upd (upd F 15 (nI fa905)) 16 pl906) 27 (nI nd)) 31 (nI wr)) 34 (nI ls907)) 35 (nI (dc + 1))) 44 (nI fd)) 49 (nI md)) 59 (nI bk)) 60 (nI pr)) 64 (nI at904)) 65 ne0) 66 (nI lk)) 67 (nI mf)) 68 (nI mm)) (updA (updA (updA (stR (stR (stR (stR (stR (stR B 26 dc 1) 25 dc (nI (at0 + 1))) 24 dc (nI v706)) 27 dc (-1)) 28 dc (-1)) 29 dc 0) 22 lt908) 23 ln909) 2 K)) := hD
          rcases Nat.eq_zero_or_pos fa905 with e923 | e923
          · subst e923
            have hP : va_P G.1 pCl (mW G h0 a (upd (upd (upd (upd (upd (upd (upd (upd (upd (upd (upd (upd (upd (upd (upd F 15 0) 16 pl906) 27 (nI nd)) 31 (nI wr)) 34 (nI ls907)) 35 (nI (dc + 1))) 44 (nI fd)) 49 (nI md)) 59 (nI bk)) 60 (nI pr)) 64 (nI at904)) 65 ne0) 66 (nI lk)) 67 (nI mf)) 68 (nI mm)) (updA (updA (updA (stR (stR (stR (stR (stR (stR B 26 dc 1) 25 dc (nI (at0 + 1))) 24 dc (nI v706)) 27 dc (-1)) 28 dc (-1)) 29 dc 0) 22 lt908) 23 ln909) 2 K)) _ := hP
            have hD : va_D A (mW G h0 a (upd (upd (upd (upd (upd (upd (upd (upd (upd (upd (upd (upd (upd (upd (upd F 15 0) 16 pl906) 27 (nI nd)) 31 (nI wr)) 34 (nI ls907)) 35 (nI (dc + 1))) 44 (nI fd)) 49 (nI md)) 59 (nI bk)) 60 (nI pr)) 64 (nI at904)) 65 ne0) 66 (nI lk)) 67 (nI mf)) 68 (nI mm)) (updA (updA (updA (stR (stR (stR (stR (stR (stR B 26 dc 1) 25 dc (nI (at0 + 1))) 24 dc (nI v706)) 27 dc (-1)) 28 dc (-1)) 29 dc 0) 22 lt908) 23 ln909) 2 K)) := hD
            have hkq924 : Kq 1 B (updA (updA (stR (stR (stR (stR (stR (stR B 26 dc 1) 25 dc (nI (at0 + 1))) 24 dc (nI v706)) 27 dc (-1)) 28 dc (-1)) 29 dc 0) 22 lt908) 23 ln909) := (Kq.row (Kq.row hkq739 (by omega)) (by omega))
            have hce925 : (updA (updA (stR (stR (stR (stR (stR (stR B 26 dc 1) 25 dc (nI (at0 + 1))) 24 dc (nI v706)) 27 dc (-1)) 28 dc (-1)) 29 dc 0) 22 lt908) 23 ln909) 26 dc = 1 := hce740
            have hce926 : (updA (updA (stR (stR (stR (stR (stR (stR B 26 dc 1) 25 dc (nI (at0 + 1))) 24 dc (nI v706)) 27 dc (-1)) 28 dc (-1)) 29 dc 0) 22 lt908) 23 ln909) 25 dc = (nI (at0 + 1)) := hce741
            have hce927 : (updA (updA (stR (stR (stR (stR (stR (stR B 26 dc 1) 25 dc (nI (at0 + 1))) 24 dc (nI v706)) 27 dc (-1)) 28 dc (-1)) 29 dc 0) 22 lt908) 23 ln909) 24 dc = (nI v706) := hce742
            have hce928 : (updA (updA (stR (stR (stR (stR (stR (stR B 26 dc 1) 25 dc (nI (at0 + 1))) 24 dc (nI v706)) 27 dc (-1)) 28 dc (-1)) 29 dc 0) 22 lt908) 23 ln909) 27 dc = (-1) := hce743
            have hce929 : (updA (updA (stR (stR (stR (stR (stR (stR B 26 dc 1) 25 dc (nI (at0 + 1))) 24 dc (nI v706)) 27 dc (-1)) 28 dc (-1)) 29 dc 0) 22 lt908) 23 ln909) 28 dc = (-1) := hce744
            have hce930 : (updA (updA (stR (stR (stR (stR (stR (stR B 26 dc 1) 25 dc (nI (at0 + 1))) 24 dc (nI v706)) 27 dc (-1)) 28 dc (-1)) 29 dc 0) 22 lt908) 23 ln909) 29 dc = 0 := hce750
            have hty931 : tkRow ((updA (updA (stR (stR (stR (stR (stR (stR B 26 dc 1) 25 dc (nI (at0 + 1))) 24 dc (nI v706)) 27 dc (-1)) 28 dc (-1)) 29 dc 0) 22 lt908) 23 ln909) 19) wr T := hty745
            have hps932 : PS T nm wr ls907 dc fd md pr bk (updA (updA (stR (stR (stR (stR (stR (stR B 26 dc 1) 25 dc (nI (at0 + 1))) 24 dc (nI v706)) 27 dc (-1)) 28 dc (-1)) 29 dc 0) 22 lt908) 23 ln909) := (PS.same hps746 (by omega) (by omega) (fun r i q1 q2 q3 => by unfold updA; rw [if_neg (by omega), if_neg (by omega)]))
            have hfm933 : FrM K T wr (updA (updA (stR (stR (stR (stR (stR (stR B 26 dc 1) 25 dc (nI (at0 + 1))) 24 dc (nI v706)) 27 dc (-1)) 28 dc (-1)) 29 dc 0) 22 lt908) 23 ln909) nd md := (FrM.same hfm747 (by omega) (fun j i q1 q2 q3 => by unfold updA; rw [if_neg (by omega), if_neg (by omega)]) (fun i q => rfl))
            have hsn934 : Sng (updA (updA (stR (stR (stR (stR (stR (stR B 26 dc 1) 25 dc (nI (at0 + 1))) 24 dc (nI v706)) 27 dc (-1)) 28 dc (-1)) 29 dc 0) 22 lt908) 23 ln909) dc lz := (Sng.same hsn748 (by omega) (fun i q => rfl) (fun i q => rfl) (fun i q => h922 i (by omega)))
            have hlr935 : lsRow ((updA (updA (stR (stR (stR (stR (stR (stR B 26 dc 1) 25 dc (nI (at0 + 1))) 24 dc (nI v706)) 27 dc (-1)) 28 dc (-1)) 29 dc 0) 22 lt908) 23 ln909) 22) ((updA (updA (stR (stR (stR (stR (stR (stR B 26 dc 1) 25 dc (nI (at0 + 1))) 24 dc (nI v706)) 27 dc (-1)) 28 dc (-1)) 29 dc 0) 22 lt908) 23 ln909) 23) ls907 T := h919
            refine r_sti (f := ((updA (updA (stR (stR (stR (stR (stR (stR B 26 dc 1) 25 dc (nI (at0 + 1))) 24 dc (nI v706)) 27 dc (-1)) 28 dc (-1)) 29 dc 0) 22 lt908) 23 ln909) 27)) (j := dc) hx hb hE hP hD hS 27 (ma_27 G a _) rfl (mas_27 G a _) (by omega) (by decide) dX12_declaration_162 (fun H locs hP hD hS => ?_)
            have hP : va_P G.1 pCl (mW G h0 a (upd (upd (upd (upd (upd (upd (upd (upd (upd (upd (upd (upd (upd (upd (upd F 15 0) 16 pl906) 27 (nI nd)) 31 (nI wr)) 34 (nI ls907)) 35 (nI (dc + 1))) 44 (nI fd)) 49 (nI md)) 59 (nI bk)) 60 (nI pr)) 64 (nI at904)) 65 ne0) 66 (nI lk)) 67 (nI mf)) 68 (nI mm)) (updA (stR (updA (updA (stR (stR (stR (stR (stR (stR B 26 dc 1) 25 dc (nI (at0 + 1))) 24 dc (nI v706)) 27 dc (-1)) 28 dc (-1)) 29 dc 0) 22 lt908) 23 ln909) 27 dc r910) 2 K)) _ := hP
            have hD : va_D A (mW G h0 a (upd (upd (upd (upd (upd (upd (upd (upd (upd (upd (upd (upd (upd (upd (upd F 15 0) 16 pl906) 27 (nI nd)) 31 (nI wr)) 34 (nI ls907)) 35 (nI (dc + 1))) 44 (nI fd)) 49 (nI md)) 59 (nI bk)) 60 (nI pr)) 64 (nI at904)) 65 ne0) 66 (nI lk)) 67 (nI mf)) 68 (nI mm)) (updA (stR (updA (updA (stR (stR (stR (stR (stR (stR B 26 dc 1) 25 dc (nI (at0 + 1))) 24 dc (nI v706)) 27 dc (-1)) 28 dc (-1)) 29 dc 0) 22 lt908) 23 ln909) 27 dc r910) 2 K)) := hD
            have hkq936 : Kq 1 B (stR (updA (updA (stR (stR (stR (stR (stR (stR B 26 dc 1) 25 dc (nI (at0 + 1))) 24 dc (nI v706)) 27 dc (-1)) 28 dc (-1)) 29 dc 0) 22 lt908) 23 ln909) 27 dc r910) := (Kq.st hkq924 (by omega))
            have hce937 : (stR (updA (updA (stR (stR (stR (stR (stR (stR B 26 dc 1) 25 dc (nI (at0 + 1))) 24 dc (nI v706)) 27 dc (-1)) 28 dc (-1)) 29 dc 0) 22 lt908) 23 ln909) 27 dc r910) 26 dc = 1 := ((st_ne (by omega)).trans hce925)
            have hce938 : (stR (updA (updA (stR (stR (stR (stR (stR (stR B 26 dc 1) 25 dc (nI (at0 + 1))) 24 dc (nI v706)) 27 dc (-1)) 28 dc (-1)) 29 dc 0) 22 lt908) 23 ln909) 27 dc r910) 25 dc = (nI (at0 + 1)) := ((st_ne (by omega)).trans hce926)
            have hce939 : (stR (updA (updA (stR (stR (stR (stR (stR (stR B 26 dc 1) 25 dc (nI (at0 + 1))) 24 dc (nI v706)) 27 dc (-1)) 28 dc (-1)) 29 dc 0) 22 lt908) 23 ln909) 27 dc r910) 24 dc = (nI v706) := ((st_ne (by omega)).trans hce927)
            have hce940 : (stR (updA (updA (stR (stR (stR (stR (stR (stR B 26 dc 1) 25 dc (nI (at0 + 1))) 24 dc (nI v706)) 27 dc (-1)) 28 dc (-1)) 29 dc 0) 22 lt908) 23 ln909) 27 dc r910) 27 dc = r910 := st_eq
            have hce941 : (stR (updA (updA (stR (stR (stR (stR (stR (stR B 26 dc 1) 25 dc (nI (at0 + 1))) 24 dc (nI v706)) 27 dc (-1)) 28 dc (-1)) 29 dc 0) 22 lt908) 23 ln909) 27 dc r910) 28 dc = (-1) := ((st_ne (by omega)).trans hce929)
            have hce942 : (stR (updA (updA (stR (stR (stR (stR (stR (stR B 26 dc 1) 25 dc (nI (at0 + 1))) 24 dc (nI v706)) 27 dc (-1)) 28 dc (-1)) 29 dc 0) 22 lt908) 23 ln909) 27 dc r910) 29 dc = 0 := ((st_ne (by omega)).trans hce930)
            have hty943 : tkRow ((stR (updA (updA (stR (stR (stR (stR (stR (stR B 26 dc 1) 25 dc (nI (at0 + 1))) 24 dc (nI v706)) 27 dc (-1)) 28 dc (-1)) 29 dc 0) 22 lt908) 23 ln909) 27 dc r910) 19) wr T := hty931
            have hps944 : PS T nm wr ls907 dc fd md pr bk (stR (updA (updA (stR (stR (stR (stR (stR (stR B 26 dc 1) 25 dc (nI (at0 + 1))) 24 dc (nI v706)) 27 dc (-1)) 28 dc (-1)) 29 dc 0) 22 lt908) 23 ln909) 27 dc r910) := (PS.same hps932 (by omega) (by omega) (fun r i q1 q2 q3 => st_ne (fun e => by rw [e.1, e.2] at q3; exact absurd (show dc < dc from q3) (by omega))))
            have hfm945 : FrM K T wr (stR (updA (updA (stR (stR (stR (stR (stR (stR B 26 dc 1) 25 dc (nI (at0 + 1))) 24 dc (nI v706)) 27 dc (-1)) 28 dc (-1)) 29 dc 0) 22 lt908) 23 ln909) 27 dc r910) nd md := (FrM.same hfm933 (by omega) (fun j i q1 q2 q3 => st_ne (by omega)) (fun i q => st_ne (by omega)))
            have hsn946 : Sng (stR (updA (updA (stR (stR (stR (stR (stR (stR B 26 dc 1) 25 dc (nI (at0 + 1))) 24 dc (nI v706)) 27 dc (-1)) 28 dc (-1)) 29 dc 0) 22 lt908) 23 ln909) 27 dc r910) dc lz := (Sng.same hsn934 (by omega) (fun i q => st_ne (by omega)) (fun i q => st_ne (by omega)) (fun i q => st_ne (by omega)))
            have hlr947 : lsRow ((stR (updA (updA (stR (stR (stR (stR (stR (stR B 26 dc 1) 25 dc (nI (at0 + 1))) 24 dc (nI v706)) 27 dc (-1)) 28 dc (-1)) 29 dc 0) 22 lt908) 23 ln909) 27 dc r910) 22) ((stR (updA (updA (stR (stR (stR (stR (stR (stR B 26 dc 1) 25 dc (nI (at0 + 1))) 24 dc (nI v706)) 27 dc (-1)) 28 dc (-1)) 29 dc 0) 22 lt908) 23 ln909) 27 dc r910) 23) ls907 T := hlr935
            refine lv_goto (tgt := 213) hx hb dX12_declaration_163 (by decide) ?_
            refine lv_iload_n hx hb dX12_declaration_213 rfl (lv_at hl 1 rfl) ?_
            refine lv_if_ne (tgt := 237) hx hb dX12_declaration_214 (by decide) (fun c948 => ?_) (fun c948 => absurd c948 (by decide))
            have hP : va_P G.1 pCl (mW G h0 a (upd (upd (upd (upd (upd (upd (upd (upd (upd (upd (upd (upd (upd (upd (upd F 15 0) 16 pl906) 27 (nI nd)) 31 (nI wr)) 34 (nI ls907)) 35 (nI (dc + 1))) 44 (nI fd)) 49 (nI md)) 59 (nI bk)) 60 (nI pr)) 64 (nI at904)) 65 ne0) 66 (nI lk)) 67 (nI mf)) 68 (nI mm)) (updA (stR (updA (updA (stR (stR (stR (stR (stR (stR B 26 dc 1) 25 dc (nI (at0 + 1))) 24 dc (nI v706)) 27 dc (-1)) 28 dc (-1)) 29 dc 0) 22 lt908) 23 ln909) 27 dc r910) 2 K)) _ := hP
            have hD : va_D A (mW G h0 a (upd (upd (upd (upd (upd (upd (upd (upd (upd (upd (upd (upd (upd (upd (upd F 15 0) 16 pl906) 27 (nI nd)) 31 (nI wr)) 34 (nI ls907)) 35 (nI (dc + 1))) 44 (nI fd)) 49 (nI md)) 59 (nI bk)) 60 (nI pr)) 64 (nI at904)) 65 ne0) 66 (nI lk)) 67 (nI mf)) 68 (nI mm)) (updA (stR (updA (updA (stR (stR (stR (stR (stR (stR B 26 dc 1) 25 dc (nI (at0 + 1))) 24 dc (nI v706)) 27 dc (-1)) 28 dc (-1)) 29 dc 0) 22 lt908) 23 ln909) 27 dc r910) 2 K)) := hD
            exact cut_j at904 ls907 pl906 (stR (updA (updA (stR (stR (stR (stR (stR (stR B 26 dc 1) 25 dc (nI (at0 + 1))) 24 dc (nI v706)) 27 dc (-1)) 28 dc (-1)) 29 dc 0) 22 lt908) 23 ln909) 27 dc r910) _ _ _ (by omega) (by omega) (by omega) hkq936 (PS.dec hps944 (by omega) hce938 (by omega) hce939 (by omega) hce937 (Or.inr rfl) hce940 (OrY.mono (wr := ls907) (h920.imp id (fun ⟨p, a, b⟩ => ⟨p, b, a⟩)) (by omega)) hce941 (Or.inl rfl)) hfm945 hty943 hlr947 (Sng.dec (Sng.same hsn946 (ls' := ls907) (by omega) (fun i q => rfl) (fun i q => rfl) (fun i q => rfl)) hce937 hce940 (fun e => absurd e (by decide))) hP hD hS (lv_sub hl [0, 2] rfl)
          · have e923 := e923
            have hkq949 : Kq 1 B (updA (updA (stR (stR (stR (stR (stR (stR B 26 dc 1) 25 dc (nI (at0 + 1))) 24 dc (nI v706)) 27 dc (-1)) 28 dc (-1)) 29 dc 0) 22 lt908) 23 ln909) := (Kq.row (Kq.row hkq739 (by omega)) (by omega))
            have hce950 : (updA (updA (stR (stR (stR (stR (stR (stR B 26 dc 1) 25 dc (nI (at0 + 1))) 24 dc (nI v706)) 27 dc (-1)) 28 dc (-1)) 29 dc 0) 22 lt908) 23 ln909) 26 dc = 1 := hce740
            have hce951 : (updA (updA (stR (stR (stR (stR (stR (stR B 26 dc 1) 25 dc (nI (at0 + 1))) 24 dc (nI v706)) 27 dc (-1)) 28 dc (-1)) 29 dc 0) 22 lt908) 23 ln909) 25 dc = (nI (at0 + 1)) := hce741
            have hce952 : (updA (updA (stR (stR (stR (stR (stR (stR B 26 dc 1) 25 dc (nI (at0 + 1))) 24 dc (nI v706)) 27 dc (-1)) 28 dc (-1)) 29 dc 0) 22 lt908) 23 ln909) 24 dc = (nI v706) := hce742
            have hce953 : (updA (updA (stR (stR (stR (stR (stR (stR B 26 dc 1) 25 dc (nI (at0 + 1))) 24 dc (nI v706)) 27 dc (-1)) 28 dc (-1)) 29 dc 0) 22 lt908) 23 ln909) 27 dc = (-1) := hce743
            have hce954 : (updA (updA (stR (stR (stR (stR (stR (stR B 26 dc 1) 25 dc (nI (at0 + 1))) 24 dc (nI v706)) 27 dc (-1)) 28 dc (-1)) 29 dc 0) 22 lt908) 23 ln909) 28 dc = (-1) := hce744
            have hce955 : (updA (updA (stR (stR (stR (stR (stR (stR B 26 dc 1) 25 dc (nI (at0 + 1))) 24 dc (nI v706)) 27 dc (-1)) 28 dc (-1)) 29 dc 0) 22 lt908) 23 ln909) 29 dc = 0 := hce750
            have hty956 : tkRow ((updA (updA (stR (stR (stR (stR (stR (stR B 26 dc 1) 25 dc (nI (at0 + 1))) 24 dc (nI v706)) 27 dc (-1)) 28 dc (-1)) 29 dc 0) 22 lt908) 23 ln909) 19) wr T := hty745
            refine r_sti (f := ((updA (updA (stR (stR (stR (stR (stR (stR B 26 dc 1) 25 dc (nI (at0 + 1))) 24 dc (nI v706)) 27 dc (-1)) 28 dc (-1)) 29 dc 0) 22 lt908) 23 ln909) 27)) (j := dc) hx hb hE hP hD hS 27 (ma_27 G a _) rfl (mas_27 G a _) (by omega) (by decide) dX12_declaration_162 (fun H locs hP hD hS => ?_)
            have hP : va_P G.1 pCl (mW G h0 a (upd (upd (upd (upd (upd (upd (upd (upd (upd (upd (upd (upd (upd (upd (upd F 15 (nI fa905)) 16 pl906) 27 (nI nd)) 31 (nI wr)) 34 (nI ls907)) 35 (nI (dc + 1))) 44 (nI fd)) 49 (nI md)) 59 (nI bk)) 60 (nI pr)) 64 (nI at904)) 65 ne0) 66 (nI lk)) 67 (nI mf)) 68 (nI mm)) (updA (stR (updA (updA (stR (stR (stR (stR (stR (stR B 26 dc 1) 25 dc (nI (at0 + 1))) 24 dc (nI v706)) 27 dc (-1)) 28 dc (-1)) 29 dc 0) 22 lt908) 23 ln909) 27 dc r910) 2 K)) _ := hP
            have hD : va_D A (mW G h0 a (upd (upd (upd (upd (upd (upd (upd (upd (upd (upd (upd (upd (upd (upd (upd F 15 (nI fa905)) 16 pl906) 27 (nI nd)) 31 (nI wr)) 34 (nI ls907)) 35 (nI (dc + 1))) 44 (nI fd)) 49 (nI md)) 59 (nI bk)) 60 (nI pr)) 64 (nI at904)) 65 ne0) 66 (nI lk)) 67 (nI mf)) 68 (nI mm)) (updA (stR (updA (updA (stR (stR (stR (stR (stR (stR B 26 dc 1) 25 dc (nI (at0 + 1))) 24 dc (nI v706)) 27 dc (-1)) 28 dc (-1)) 29 dc 0) 22 lt908) 23 ln909) 27 dc r910) 2 K)) := hD
            have hkq957 : Kq 1 B (stR (updA (updA (stR (stR (stR (stR (stR (stR B 26 dc 1) 25 dc (nI (at0 + 1))) 24 dc (nI v706)) 27 dc (-1)) 28 dc (-1)) 29 dc 0) 22 lt908) 23 ln909) 27 dc r910) := (Kq.st hkq949 (by omega))
            have hce958 : (stR (updA (updA (stR (stR (stR (stR (stR (stR B 26 dc 1) 25 dc (nI (at0 + 1))) 24 dc (nI v706)) 27 dc (-1)) 28 dc (-1)) 29 dc 0) 22 lt908) 23 ln909) 27 dc r910) 26 dc = 1 := ((st_ne (by omega)).trans hce950)
            have hce959 : (stR (updA (updA (stR (stR (stR (stR (stR (stR B 26 dc 1) 25 dc (nI (at0 + 1))) 24 dc (nI v706)) 27 dc (-1)) 28 dc (-1)) 29 dc 0) 22 lt908) 23 ln909) 27 dc r910) 25 dc = (nI (at0 + 1)) := ((st_ne (by omega)).trans hce951)
            have hce960 : (stR (updA (updA (stR (stR (stR (stR (stR (stR B 26 dc 1) 25 dc (nI (at0 + 1))) 24 dc (nI v706)) 27 dc (-1)) 28 dc (-1)) 29 dc 0) 22 lt908) 23 ln909) 27 dc r910) 24 dc = (nI v706) := ((st_ne (by omega)).trans hce952)
            have hce961 : (stR (updA (updA (stR (stR (stR (stR (stR (stR B 26 dc 1) 25 dc (nI (at0 + 1))) 24 dc (nI v706)) 27 dc (-1)) 28 dc (-1)) 29 dc 0) 22 lt908) 23 ln909) 27 dc r910) 27 dc = r910 := st_eq
            have hce962 : (stR (updA (updA (stR (stR (stR (stR (stR (stR B 26 dc 1) 25 dc (nI (at0 + 1))) 24 dc (nI v706)) 27 dc (-1)) 28 dc (-1)) 29 dc 0) 22 lt908) 23 ln909) 27 dc r910) 28 dc = (-1) := ((st_ne (by omega)).trans hce954)
            have hce963 : (stR (updA (updA (stR (stR (stR (stR (stR (stR B 26 dc 1) 25 dc (nI (at0 + 1))) 24 dc (nI v706)) 27 dc (-1)) 28 dc (-1)) 29 dc 0) 22 lt908) 23 ln909) 27 dc r910) 29 dc = 0 := ((st_ne (by omega)).trans hce955)
            have hty964 : tkRow ((stR (updA (updA (stR (stR (stR (stR (stR (stR B 26 dc 1) 25 dc (nI (at0 + 1))) 24 dc (nI v706)) 27 dc (-1)) 28 dc (-1)) 29 dc 0) 22 lt908) 23 ln909) 27 dc r910) 19) wr T := hty956
            refine lv_goto (tgt := 213) hx hb dX12_declaration_163 (by decide) ?_
            refine lv_iload_n hx hb dX12_declaration_213 rfl (lv_at hl 1 rfl) ?_
            refine lv_if_ne (tgt := 237) hx hb dX12_declaration_214 (by decide) (fun c965 => ?_) (fun c965 => absurd c965 (by decide))
            refine lv_aload_n hx hb dX12_declaration_237 rfl (lv_at hl 2 rfl) ?_
            refine lv_bipush (v := 123) hx hb dX12_declaration_238 (by decide) ?_
            have hP : va_P G.1 pCl (mW G h0 a (upd (upd (upd (upd (upd (upd (upd (upd (upd (upd (upd (upd (upd (upd (upd (upd (upd F 15 (nI fa905)) 16 pl906) 27 (nI nd)) 31 (nI wr)) 34 (nI ls907)) 35 (nI (dc + 1))) 44 (nI fd)) 49 (nI md)) 59 (nI bk)) 60 (nI pr)) 64 (nI at904)) 65 ne0) 66 (nI lk)) 67 (nI mf)) 68 (nI mm)) 15 (nI fa905)) 64 (nI at904)) (updA (updA (stR (updA (updA (stR (stR (stR (stR (stR (stR B 26 dc 1) 25 dc (nI (at0 + 1))) 24 dc (nI v706)) 27 dc (-1)) 28 dc (-1)) 29 dc 0) 22 lt908) 23 ln909) 27 dc r910) 2 K) 2 K)) _ := hP
            have hD : va_D A (mW G h0 a (upd (upd (upd (upd (upd (upd (upd (upd (upd (upd (upd (upd (upd (upd (upd (upd (upd F 15 (nI fa905)) 16 pl906) 27 (nI nd)) 31 (nI wr)) 34 (nI ls907)) 35 (nI (dc + 1))) 44 (nI fd)) 49 (nI md)) 59 (nI bk)) 60 (nI pr)) 64 (nI at904)) 65 ne0) 66 (nI lk)) 67 (nI mf)) 68 (nI mm)) 15 (nI fa905)) 64 (nI at904)) (updA (updA (stR (updA (updA (stR (stR (stR (stR (stR (stR B 26 dc 1) 25 dc (nI (at0 + 1))) 24 dc (nI v706)) 27 dc (-1)) 28 dc (-1)) 29 dc 0) 22 lt908) 23 ln909) 27 dc r910) 2 K) 2 K)) := hD
            refine pc_V0 (G := G) (As := [.int 123]) (rest := []) hx hb hml hown hq hE hX pX0_al hP hD hS hA hl.1 (R_take l G h0 a (upd (upd (upd (upd (upd (upd (upd (upd (upd (upd (upd (upd (upd (upd (upd F 15 (nI fa905)) 16 pl906) 27 (nI nd)) 31 (nI wr)) 34 (nI ls907)) 35 (nI (dc + 1))) 44 (nI fd)) 49 (nI md)) 59 (nI bk)) 60 (nI pr)) 64 (nI at904)) 65 ne0) 66 (nI lk)) 67 (nI mf)) 68 (nI mm)) (updA (stR (updA (updA (stR (stR (stR (stR (stR (stR B 26 dc 1) 25 dc (nI (at0 + 1))) 24 dc (nI v706)) 27 dc (-1)) 28 dc (-1)) 29 dc 0) 22 lt908) 23 ln909) 27 dc r910) 2 K) at904 T fa905 K 123 (by omega) (by omega) hK (by omega) (by decide) (by decide)) (gV pw_1614 pw_1615 pw_1616 pw_1523 pw_1601) hV_X12_take 0 9 rfl rfl rfl rfl (Nat.le_of_ble_eq_true rfl) dX12_declaration_240 ⟨Nat.le_of_ble_eq_true rfl, Nat.le_of_ble_eq_true rfl⟩ ⟨Nat.le_of_ble_eq_true rfl, Nat.le_of_ble_eq_true rfl⟩ (fun v968 u966 H locs hw967 hP hD hS => ?_)
            obtain ⟨at969, fa970, pl971⟩ := u966
            obtain ⟨hw967, h972, h973, h974, h975, h976, h977, h978, h979⟩ := hw967
            replace h972 : at904 ≤ at969 := h972
            replace h973 : at969 ≤ T := h973
            replace h974 : fa905 ≤ fa970 := h974
            replace h975 : fa970 ≤ 100 := h975
            replace h976 : If (0 < fa905) (at969 = at904 ∧ fa970 = fa905) := h976
            replace h977 : at969 ≤ at904 + 1 := h977
            replace h978 : at904 + 1 ≤ at969 + fa970 := h978
            replace h979 : If (fa970 = 0) (K at904 = 123) := h979
            obtain rfl : v968 = none := hw967
            have hP : va_P G.1 pCl (mW G h0 a (upd (upd (upd (upd (upd (upd (upd (upd (upd (upd (upd (upd (upd (upd (upd F 15 (nI fa970)) 16 pl971) 27 (nI nd)) 31 (nI wr)) 34 (nI ls907)) 35 (nI (dc + 1))) 44 (nI fd)) 49 (nI md)) 59 (nI bk)) 60 (nI pr)) 64 (nI at969)) 65 ne0) 66 (nI lk)) 67 (nI mf)) 68 (nI mm)) (updA (stR (updA (updA (stR (stR (stR (stR (stR (stR B 26 dc 1) 25 dc (nI (at0 + 1))) 24 dc (nI v706)) 27 dc (-1)) 28 dc (-1)) 29 dc 0) 22 lt908) 23 ln909) 27 dc r910) 2 K)) _ := hP
            have hD : va_D A (mW G h0 a (upd (upd (upd (upd (upd (upd (upd (upd (upd (upd (upd (upd (upd (upd (upd F 15 (nI fa970)) 16 pl971) 27 (nI nd)) 31 (nI wr)) 34 (nI ls907)) 35 (nI (dc + 1))) 44 (nI fd)) 49 (nI md)) 59 (nI bk)) 60 (nI pr)) 64 (nI at969)) 65 ne0) 66 (nI lk)) 67 (nI mf)) 68 (nI mm)) (updA (stR (updA (updA (stR (stR (stR (stR (stR (stR B 26 dc 1) 25 dc (nI (at0 + 1))) 24 dc (nI v706)) 27 dc (-1)) 28 dc (-1)) 29 dc 0) 22 lt908) 23 ln909) 27 dc r910) 2 K)) := hD
            refine W.widen (k := 0) (n := 0) (Nat.le_of_ble_eq_true rfl) (Nat.le_of_ble_eq_true rfl) ?_
            refine W.eq (g2 := F0 m 243 ls []) rfl ?_
            obtain ⟨n981, n980⟩ := h976 e923
            replace n981 := n981.symm
            subst n981
            replace n980 := n980.symm
            subst n980
            refine lv_aload_n hx hb dX12_declaration_243 rfl (lv_at hl 2 rfl) ?_
            refine lv_iconst (v := 0) hx hb dX12_declaration_244 (by decide) ?_
            refine r_put (v := 0) (ty := .int) hx hb hown hq hE hP hD hS 67 390 tFX12_67 (by decide) pw_1726 (by decide) rfl rfl (ms_67 a _ _) dX12_declaration_245 (fun H locs hP hD hS => ?_)
            refine lv_aload_n hx hb dX12_declaration_248 rfl (lv_at hl 2 rfl) ?_
            refine lv_iconst (v := 0) hx hb dX12_declaration_249 (by decide) ?_
            refine r_put (v := 0) (ty := .int) hx hb hown hq hE hP hD hS 68 393 tFX12_68 (by decide) pw_1722 (by decide) rfl rfl (ms_68 a _ _) dX12_declaration_250 (fun H locs hP hD hS => ?_)
            refine lv_aload_n hx hb dX12_declaration_253 rfl (lv_at hl 2 rfl) ?_
            refine r_get (v := .int (nI fa905)) hx hb hown hq hE hP 15 350 tFX12_15 (by decide) pw_1594 rfl dX12_declaration_254 ?_
            refine lv_if_ne (tgt := 277) hx hb dX12_declaration_257 (by decide) (fun c982 => ?_) (fun c982 => (by have n983 : fa905 = 0 := (nI_eq (a := fa905) (b := 0) (by omega) (by omega)).mp c982; omega))
            refine lv_aload_n hx hb dX12_declaration_277 rfl (lv_at hl 2 rfl) ?_
            refine lv_bipush (v := 125) hx hb dX12_declaration_278 (by decide) ?_
            have hP : va_P G.1 pCl (mW G h0 a (upd (upd (upd (upd (upd (upd (upd (upd (upd (upd (upd (upd (upd (upd (upd (upd (upd F 15 (nI fa905)) 16 pl971) 27 (nI nd)) 31 (nI wr)) 34 (nI ls907)) 35 (nI (dc + 1))) 44 (nI fd)) 49 (nI md)) 59 (nI bk)) 60 (nI pr)) 64 (nI at904)) 65 ne0) 66 (nI lk)) 67 0) 68 0) 15 (nI fa905)) 64 (nI at904)) (updA (updA (stR (updA (updA (stR (stR (stR (stR (stR (stR B 26 dc 1) 25 dc (nI (at0 + 1))) 24 dc (nI v706)) 27 dc (-1)) 28 dc (-1)) 29 dc 0) 22 lt908) 23 ln909) 27 dc r910) 2 K) 2 K)) _ := hP
            have hD : va_D A (mW G h0 a (upd (upd (upd (upd (upd (upd (upd (upd (upd (upd (upd (upd (upd (upd (upd (upd (upd F 15 (nI fa905)) 16 pl971) 27 (nI nd)) 31 (nI wr)) 34 (nI ls907)) 35 (nI (dc + 1))) 44 (nI fd)) 49 (nI md)) 59 (nI bk)) 60 (nI pr)) 64 (nI at904)) 65 ne0) 66 (nI lk)) 67 0) 68 0) 15 (nI fa905)) 64 (nI at904)) (updA (updA (stR (updA (updA (stR (stR (stR (stR (stR (stR B 26 dc 1) 25 dc (nI (at0 + 1))) 24 dc (nI v706)) 27 dc (-1)) 28 dc (-1)) 29 dc 0) 22 lt908) 23 ln909) 27 dc r910) 2 K) 2 K)) := hD
            refine pc_V0 (G := G) (As := [.int 125]) (rest := []) hx hb hml hown hq hE hX pX0_al hP hD hS hA hl.1 (R_take l G h0 a (upd (upd (upd (upd (upd (upd (upd (upd (upd (upd (upd (upd (upd (upd (upd F 15 (nI fa905)) 16 pl971) 27 (nI nd)) 31 (nI wr)) 34 (nI ls907)) 35 (nI (dc + 1))) 44 (nI fd)) 49 (nI md)) 59 (nI bk)) 60 (nI pr)) 64 (nI at904)) 65 ne0) 66 (nI lk)) 67 0) 68 0) (updA (stR (updA (updA (stR (stR (stR (stR (stR (stR B 26 dc 1) 25 dc (nI (at0 + 1))) 24 dc (nI v706)) 27 dc (-1)) 28 dc (-1)) 29 dc 0) 22 lt908) 23 ln909) 27 dc r910) 2 K) at904 T fa905 K 125 (by omega) (by omega) hK (by omega) (by decide) (by decide)) (gV pw_1614 pw_1615 pw_1616 pw_1523 pw_1601) hV_X12_take 0 9 rfl rfl rfl rfl (Nat.le_of_ble_eq_true rfl) dX12_declaration_280 ⟨Nat.le_of_ble_eq_true rfl, Nat.le_of_ble_eq_true rfl⟩ ⟨Nat.le_of_ble_eq_true rfl, Nat.le_of_ble_eq_true rfl⟩ (fun v986 u984 H locs hw985 hP hD hS => ?_)
            obtain ⟨at987, fa988, pl989⟩ := u984
            obtain ⟨hw985, h990, h991, h992, h993, h994, h995, h996, h997⟩ := hw985
            replace h990 : at904 ≤ at987 := h990
            replace h991 : at987 ≤ T := h991
            replace h992 : fa905 ≤ fa988 := h992
            replace h993 : fa988 ≤ 100 := h993
            replace h994 : If (0 < fa905) (at987 = at904 ∧ fa988 = fa905) := h994
            replace h995 : at987 ≤ at904 + 1 := h995
            replace h996 : at904 + 1 ≤ at987 + fa988 := h996
            replace h997 : If (fa988 = 0) (K at904 = 125) := h997
            obtain rfl : v986 = none := hw985
            have hP : va_P G.1 pCl (mW G h0 a (upd (upd (upd (upd (upd (upd (upd (upd (upd (upd (upd (upd (upd (upd (upd F 15 (nI fa988)) 16 pl989) 27 (nI nd)) 31 (nI wr)) 34 (nI ls907)) 35 (nI (dc + 1))) 44 (nI fd)) 49 (nI md)) 59 (nI bk)) 60 (nI pr)) 64 (nI at987)) 65 ne0) 66 (nI lk)) 67 0) 68 0) (updA (stR (updA (updA (stR (stR (stR (stR (stR (stR B 26 dc 1) 25 dc (nI (at0 + 1))) 24 dc (nI v706)) 27 dc (-1)) 28 dc (-1)) 29 dc 0) 22 lt908) 23 ln909) 27 dc r910) 2 K)) _ := hP
            have hD : va_D A (mW G h0 a (upd (upd (upd (upd (upd (upd (upd (upd (upd (upd (upd (upd (upd (upd (upd F 15 (nI fa988)) 16 pl989) 27 (nI nd)) 31 (nI wr)) 34 (nI ls907)) 35 (nI (dc + 1))) 44 (nI fd)) 49 (nI md)) 59 (nI bk)) 60 (nI pr)) 64 (nI at987)) 65 ne0) 66 (nI lk)) 67 0) 68 0) (updA (stR (updA (updA (stR (stR (stR (stR (stR (stR B 26 dc 1) 25 dc (nI (at0 + 1))) 24 dc (nI v706)) 27 dc (-1)) 28 dc (-1)) 29 dc 0) 22 lt908) 23 ln909) 27 dc r910) 2 K)) := hD
            refine W.widen (k := 0) (n := 0) (Nat.le_of_ble_eq_true rfl) (Nat.le_of_ble_eq_true rfl) ?_
            refine W.eq (g2 := F0 m 283 ls []) rfl ?_
            obtain ⟨n999, n998⟩ := h994 e923
            replace n999 := n999.symm
            subst n999
            replace n998 := n998.symm
            subst n998
            have hz1000 : at0 ≤ at904 := (by omega)
            have hz1001 : at904 ≤ T := (by omega)
            have hz1002 : fa905 ≤ 100 := (by omega)
            have hz1003 : at0 + 1 ≤ at904 + fa905 := (by omega)
            have hz1004 : Kq 1 B (stR (updA (updA (stR (stR (stR (stR (stR (stR B 26 dc 1) 25 dc (nI (at0 + 1))) 24 dc (nI v706)) 27 dc (-1)) 28 dc (-1)) 29 dc 0) 22 lt908) 23 ln909) 27 dc r910) := hkq957
            have hz1005 : If (fa905 = 0) ((nd ≤ 2 * at904 ∧ wr ≤ at904 ∧ ls907 ≤ at904 ∧ pr ≤ at904 ∧ (dc + 1) ≤ 37 ∧ dc ≤ (dc + 1) ∧ bk ≤ md ∧ wr ≤ wr ∧ lz ≤ ls907) ∧ (md + 210 ≤ 30 * (dc + 1) ∧ fd + 140 ≤ 20 * (dc + 1) ∧ (dc + 1) ≤ 37 ∧ 7 ≤ (dc + 1) ∧ (dc + 1) ≤ dc + 1) ∧ PS T nm wr ls907 (dc + 1) fd md pr bk (stR (updA (updA (stR (stR (stR (stR (stR (stR B 26 dc 1) 25 dc (nI (at0 + 1))) 24 dc (nI v706)) 27 dc (-1)) 28 dc (-1)) 29 dc 0) 22 lt908) 23 ln909) 27 dc r910) ∧ FrM K T wr (stR (updA (updA (stR (stR (stR (stR (stR (stR B 26 dc 1) 25 dc (nI (at0 + 1))) 24 dc (nI v706)) 27 dc (-1)) 28 dc (-1)) 29 dc 0) 22 lt908) 23 ln909) 27 dc r910) nd md ∧ tkRow ((stR (updA (updA (stR (stR (stR (stR (stR (stR B 26 dc 1) 25 dc (nI (at0 + 1))) 24 dc (nI v706)) 27 dc (-1)) 28 dc (-1)) 29 dc 0) 22 lt908) 23 ln909) 27 dc r910) 19) wr T ∧ lsRow ((stR (updA (updA (stR (stR (stR (stR (stR (stR B 26 dc 1) 25 dc (nI (at0 + 1))) 24 dc (nI v706)) 27 dc (-1)) 28 dc (-1)) 29 dc 0) 22 lt908) 23 ln909) 27 dc r910) 22) ((stR (updA (updA (stR (stR (stR (stR (stR (stR B 26 dc 1) 25 dc (nI (at0 + 1))) 24 dc (nI v706)) 27 dc (-1)) 28 dc (-1)) 29 dc 0) 22 lt908) 23 ln909) 27 dc r910) 23) ls907 T) := (fun e => absurd e (by omega))
            have hz1006 : If (fa905 = 0) (Sng (stR (updA (updA (stR (stR (stR (stR (stR (stR B 26 dc 1) 25 dc (nI (at0 + 1))) 24 dc (nI v706)) 27 dc (-1)) 28 dc (-1)) 29 dc 0) 22 lt908) 23 ln909) 27 dc r910) (dc + 1) ls907) := (fun e => absurd e (by omega))
            have hP : va_P G.1 pCl (mW G h0 a (upd (upd (upd (upd (upd (upd (upd (upd (upd (upd (upd (upd (upd (upd (upd F 15 (nI fa905)) 16 pl989) 27 (nI nd)) 31 (nI wr)) 34 (nI ls907)) 35 (nI (dc + 1))) 44 (nI fd)) 49 (nI md)) 59 (nI bk)) 60 (nI pr)) 64 (nI at904)) 65 ne0) 66 (nI lk)) 67 (nI 0)) 68 (nI 0)) (updA (stR (updA (updA (stR (stR (stR (stR (stR (stR B 26 dc 1) 25 dc (nI (at0 + 1))) 24 dc (nI v706)) 27 dc (-1)) 28 dc (-1)) 29 dc 0) 22 lt908) 23 ln909) 27 dc r910) 2 K)) _ := hP
            have hD : va_D A (mW G h0 a (upd (upd (upd (upd (upd (upd (upd (upd (upd (upd (upd (upd (upd (upd (upd F 15 (nI fa905)) 16 pl989) 27 (nI nd)) 31 (nI wr)) 34 (nI ls907)) 35 (nI (dc + 1))) 44 (nI fd)) 49 (nI md)) 59 (nI bk)) 60 (nI pr)) 64 (nI at904)) 65 ne0) 66 (nI lk)) 67 (nI 0)) 68 (nI 0)) (updA (stR (updA (updA (stR (stR (stR (stR (stR (stR B 26 dc 1) 25 dc (nI (at0 + 1))) 24 dc (nI v706)) 27 dc (-1)) 28 dc (-1)) 29 dc 0) 22 lt908) 23 ln909) 27 dc r910) 2 K)) := hD
            exact W.vret hx hb hr (fun t9 ht9 hW9 => ⟨⟨_, (at904, fa905, pl989, nd, wr, ls907, (dc + 1), fd, md, pr, bk, 0, 0, ne0, (stR (updA (updA (stR (stR (stR (stR (stR (stR B 26 dc 1) 25 dc (nI (at0 + 1))) 24 dc (nI v706)) 27 dc (-1)) 28 dc (-1)) 29 dc 0) 22 lt908) 23 ln909) 27 dc r910)), rfl, ⟨rfl, hz1000, hz1001, hz1002, hz1003, hz1004, hz1005, hz1006⟩, by rw [ht9]; exact hP, hD⟩, hS.F ht9⟩) hS.2.2 dX12_declaration_283
      · have e692 := e692
        refine r_sti (f := ((stR B 26 dc 1) 25)) (j := dc) hx hb hE hP hD hS 25 (ma_25 G a _) rfl (mas_25 G a _) (by omega) (by decide) dX12_declaration_82 (fun H locs hP hD hS => ?_)
        have hP : va_P G.1 pCl (mW G h0 a (upd (upd (upd (upd (upd (upd (upd (upd (upd (upd (upd (upd (upd (upd (upd F 15 (nI fa682)) 16 pl683) 27 (nI nd)) 31 (nI wr)) 34 (nI lz)) 35 (nI dc)) 44 (nI fd)) 49 (nI md)) 59 (nI bk)) 60 (nI pr)) 64 (nI at681)) 65 ne0) 66 (nI lk)) 67 (nI mf)) 68 (nI mm)) (updA (stR (stR B 26 dc 1) 25 dc (nI (at0 + 1))) 2 K)) _ := hP
        have hD : va_D A (mW G h0 a (upd (upd (upd (upd (upd (upd (upd (upd (upd (upd (upd (upd (upd (upd (upd F 15 (nI fa682)) 16 pl683) 27 (nI nd)) 31 (nI wr)) 34 (nI lz)) 35 (nI dc)) 44 (nI fd)) 49 (nI md)) 59 (nI bk)) 60 (nI pr)) 64 (nI at681)) 65 ne0) 66 (nI lk)) 67 (nI mf)) 68 (nI mm)) (updA (stR (stR B 26 dc 1) 25 dc (nI (at0 + 1))) 2 K)) := hD
        have hkq1007 : Kq 1 B (stR (stR B 26 dc 1) 25 dc (nI (at0 + 1))) := (Kq.st hkq671 (by omega))
        have hce1008 : (stR (stR B 26 dc 1) 25 dc (nI (at0 + 1))) 26 dc = 1 := ((st_ne (by omega)).trans hce677)
        have hty1009 : tkRow ((stR (stR B 26 dc 1) 25 dc (nI (at0 + 1))) 19) wr T := hty672
        have hce1010 : (stR (stR B 26 dc 1) 25 dc (nI (at0 + 1))) 25 dc = (nI (at0 + 1)) := st_eq
        refine lv_aload_n hx hb dX12_declaration_83 rfl (lv_at hl 2 rfl) ?_
        refine r_get (v := .int (nI fa682)) hx hb hown hq hE hP 15 350 tFX12_15 (by decide) pw_1594 rfl dX12_declaration_84 ?_
        refine lv_if_le (tgt := 91) hx hb dX12_declaration_87 (by decide) (fun c1011 => (by have n1012 : fa682 ≤ 0 := (nI_leI (a := fa682) (b := 0) (by omega) (by omega)).mp c1011; omega)) (fun c1011 => ?_)
        have hz1013 : at0 ≤ at681 := (by omega)
        have hz1014 : at681 ≤ T := (by omega)
        have hz1015 : fa682 ≤ 100 := (by omega)
        have hz1016 : at0 + 1 ≤ at681 + fa682 := (by omega)
        have hz1017 : Kq 1 B (stR (stR B 26 dc 1) 25 dc (nI (at0 + 1))) := hkq1007
        have hz1018 : If (fa682 = 0) ((nd ≤ 2 * at681 ∧ wr ≤ at681 ∧ lz ≤ at681 ∧ pr ≤ at681 ∧ dc ≤ 37 ∧ dc ≤ dc ∧ bk ≤ md ∧ wr ≤ wr ∧ lz ≤ lz) ∧ (md + 210 ≤ 30 * dc ∧ fd + 140 ≤ 20 * dc ∧ dc ≤ 37 ∧ 7 ≤ dc ∧ dc ≤ dc + 1) ∧ PS T nm wr lz dc fd md pr bk (stR (stR B 26 dc 1) 25 dc (nI (at0 + 1))) ∧ FrM K T wr (stR (stR B 26 dc 1) 25 dc (nI (at0 + 1))) nd md ∧ tkRow ((stR (stR B 26 dc 1) 25 dc (nI (at0 + 1))) 19) wr T ∧ lsRow ((stR (stR B 26 dc 1) 25 dc (nI (at0 + 1))) 22) ((stR (stR B 26 dc 1) 25 dc (nI (at0 + 1))) 23) lz T) := (fun e => absurd e (by omega))
        have hz1019 : If (fa682 = 0) (Sng (stR (stR B 26 dc 1) 25 dc (nI (at0 + 1))) dc lz) := (fun e => absurd e (by omega))
        have hP : va_P G.1 pCl (mW G h0 a (upd (upd (upd (upd (upd (upd (upd (upd (upd (upd (upd (upd (upd (upd (upd F 15 (nI fa682)) 16 pl683) 27 (nI nd)) 31 (nI wr)) 34 (nI lz)) 35 (nI dc)) 44 (nI fd)) 49 (nI md)) 59 (nI bk)) 60 (nI pr)) 64 (nI at681)) 65 ne0) 66 (nI lk)) 67 (nI mf)) 68 (nI mm)) (updA (stR (stR B 26 dc 1) 25 dc (nI (at0 + 1))) 2 K)) _ := hP
        have hD : va_D A (mW G h0 a (upd (upd (upd (upd (upd (upd (upd (upd (upd (upd (upd (upd (upd (upd (upd F 15 (nI fa682)) 16 pl683) 27 (nI nd)) 31 (nI wr)) 34 (nI lz)) 35 (nI dc)) 44 (nI fd)) 49 (nI md)) 59 (nI bk)) 60 (nI pr)) 64 (nI at681)) 65 ne0) 66 (nI lk)) 67 (nI mf)) 68 (nI mm)) (updA (stR (stR B 26 dc 1) 25 dc (nI (at0 + 1))) 2 K)) := hD
        exact W.vret hx hb hr (fun t9 ht9 hW9 => ⟨⟨_, (at681, fa682, pl683, nd, wr, lz, dc, fd, md, pr, bk, mf, mm, ne0, (stR (stR B 26 dc 1) 25 dc (nI (at0 + 1)))), rfl, ⟨rfl, hz1013, hz1014, hz1015, hz1016, hz1017, hz1018, hz1019⟩, by rw [ht9]; exact hP, hD⟩, hS.F ht9⟩) hS.2.2 dX12_declaration_90
    · have n1020 : dc = 37 := (nI_eq (a := dc) (b := 37) (by omega) (by omega)).mp c667
      refine lv_aload_n hx hb dX12_declaration_45 rfl (lv_at hl 1 rfl) ?_
      refine lv_iconst (v := 2) hx hb dX12_declaration_46 (by decide) ?_
      have hP : va_P G.1 pCl (mW G h0 a (upd (upd (upd (upd (upd (upd (upd (upd (upd (upd (upd (upd (upd (upd (upd (upd F 15 0) 27 (nI nd)) 31 (nI wr)) 34 (nI lz)) 35 (nI dc)) 44 (nI fd)) 49 (nI md)) 59 (nI bk)) 60 (nI pr)) 64 (nI at0)) 65 ne0) 66 (nI lk)) 67 (nI mf)) 68 (nI mm)) 15 (nI 0)) 64 (nI at0)) (updA (updA B 2 K) 2 K)) _ := hP
      have hD : va_D A (mW G h0 a (upd (upd (upd (upd (upd (upd (upd (upd (upd (upd (upd (upd (upd (upd (upd (upd F 15 0) 27 (nI nd)) 31 (nI wr)) 34 (nI lz)) 35 (nI dc)) 44 (nI fd)) 49 (nI md)) 59 (nI bk)) 60 (nI pr)) 64 (nI at0)) 65 ne0) 66 (nI lk)) 67 (nI mf)) 68 (nI mm)) 15 (nI 0)) 64 (nI at0)) (updA (updA B 2 K) 2 K)) := hD
      refine pc_V0 (G := G) (As := [.int (nI 2)]) (rest := []) hx hb hml hown hq hE hX pX0_al hP hD hS hA hl.1 (R_bad l G h0 a (upd (upd (upd (upd (upd (upd (upd (upd (upd (upd (upd (upd (upd (upd F 15 0) 27 (nI nd)) 31 (nI wr)) 34 (nI lz)) 35 (nI dc)) 44 (nI fd)) 49 (nI md)) 59 (nI bk)) 60 (nI pr)) 64 (nI at0)) 65 ne0) 66 (nI lk)) 67 (nI mf)) 68 (nI mm)) (updA B 2 K) at0 T 0 K 2 (by omega) (by omega) hK (by omega) (by omega) (by omega)) (gV pw_1602 pw_1603 pw_1604 pw_1523 pw_1596) hV_X12_bad 0 9 rfl rfl rfl rfl (Nat.le_of_ble_eq_true rfl) dX12_declaration_47 ⟨Nat.le_of_ble_eq_true rfl, Nat.le_of_ble_eq_true rfl⟩ ⟨Nat.le_of_ble_eq_true rfl, Nat.le_of_ble_eq_true rfl⟩ (fun v1023 u1021 H locs hw1022 hP hD hS => ?_)
      obtain ⟨fa1024, pl1025⟩ := u1021
      obtain ⟨hw1022, h1026, h1027, h1028, h1029⟩ := hw1022
      replace h1026 : 0 ≤ fa1024 := h1026
      replace h1027 : fa1024 ≤ 0 + 2 := h1027
      replace h1028 : 0 < fa1024 := h1028
      replace h1029 : If (0 < 0) (fa1024 = 0) := h1029
      obtain rfl : v1023 = none := hw1022
      have hP : va_P G.1 pCl (mW G h0 a (upd (upd (upd (upd (upd (upd (upd (upd (upd (upd (upd (upd (upd (upd (upd F 15 (nI fa1024)) 16 pl1025) 27 (nI nd)) 31 (nI wr)) 34 (nI lz)) 35 (nI dc)) 44 (nI fd)) 49 (nI md)) 59 (nI bk)) 60 (nI pr)) 64 (nI at0)) 65 ne0) 66 (nI lk)) 67 (nI mf)) 68 (nI mm)) (updA B 2 K)) _ := hP
      have hD : va_D A (mW G h0 a (upd (upd (upd (upd (upd (upd (upd (upd (upd (upd (upd (upd (upd (upd (upd F 15 (nI fa1024)) 16 pl1025) 27 (nI nd)) 31 (nI wr)) 34 (nI lz)) 35 (nI dc)) 44 (nI fd)) 49 (nI md)) 59 (nI bk)) 60 (nI pr)) 64 (nI at0)) 65 ne0) 66 (nI lk)) 67 (nI mf)) 68 (nI mm)) (updA B 2 K)) := hD
      refine W.widen (k := 0) (n := 0) (Nat.le_of_ble_eq_true rfl) (Nat.le_of_ble_eq_true rfl) ?_
      refine W.eq (g2 := F0 m 50 ls []) rfl ?_
      have hz1030 : at0 ≤ at0 := (by omega)
      have hz1031 : at0 ≤ T := (by omega)
      have hz1032 : fa1024 ≤ 100 := (by omega)
      have hz1033 : at0 + 1 ≤ at0 + fa1024 := (by omega)
      have hz1034 : Kq 1 B B := hkq1
      have hz1035 : If (fa1024 = 0) ((nd ≤ 2 * at0 ∧ wr ≤ at0 ∧ lz ≤ at0 ∧ pr ≤ at0 ∧ dc ≤ 37 ∧ dc ≤ dc ∧ bk ≤ md ∧ wr ≤ wr ∧ lz ≤ lz) ∧ (md + 210 ≤ 30 * dc ∧ fd + 140 ≤ 20 * dc ∧ dc ≤ 37 ∧ 7 ≤ dc ∧ dc ≤ dc + 1) ∧ PS T nm wr lz dc fd md pr bk B ∧ FrM K T wr B nd md ∧ tkRow (B 19) wr T ∧ lsRow (B 22) (B 23) lz T) := (fun e => absurd e (by omega))
      have hz1036 : If (fa1024 = 0) (Sng B dc lz) := (fun e => absurd e (by omega))
      have hP : va_P G.1 pCl (mW G h0 a (upd (upd (upd (upd (upd (upd (upd (upd (upd (upd (upd (upd (upd (upd (upd F 15 (nI fa1024)) 16 pl1025) 27 (nI nd)) 31 (nI wr)) 34 (nI lz)) 35 (nI dc)) 44 (nI fd)) 49 (nI md)) 59 (nI bk)) 60 (nI pr)) 64 (nI at0)) 65 ne0) 66 (nI lk)) 67 (nI mf)) 68 (nI mm)) (updA B 2 K)) _ := hP
      have hD : va_D A (mW G h0 a (upd (upd (upd (upd (upd (upd (upd (upd (upd (upd (upd (upd (upd (upd (upd F 15 (nI fa1024)) 16 pl1025) 27 (nI nd)) 31 (nI wr)) 34 (nI lz)) 35 (nI dc)) 44 (nI fd)) 49 (nI md)) 59 (nI bk)) 60 (nI pr)) 64 (nI at0)) 65 ne0) 66 (nI lk)) 67 (nI mf)) 68 (nI mm)) (updA B 2 K)) := hD
      exact W.vret hx hb hr (fun t9 ht9 hW9 => ⟨⟨_, (at0, fa1024, pl1025, nd, wr, lz, dc, fd, md, pr, bk, mf, mm, ne0, B), rfl, ⟨rfl, hz1030, hz1031, hz1032, hz1033, hz1034, hz1035, hz1036⟩, by rw [ht9]; exact hP, hD⟩, hS.F ht9⟩) hS.2.2 dX12_declaration_50
