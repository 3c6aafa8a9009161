theorem dX12_declaration_0 : decode cX12_declaration 0 = .ok (.aload_n 0, 1) := by decide +kernel
theorem dX12_declaration_1 : decode cX12_declaration 1 = .ok (.invokevirtual 381, 3) := by decide +kernel
theorem dX12_declaration_4 : decode cX12_declaration 4 = .ok (.sipush 324, 3) := by decide +kernel
theorem dX12_declaration_7 : decode cX12_declaration 7 = .ok (.if_icmp .ne 7, 3) := by decide +kernel
theorem dX12_declaration_14 : decode cX12_declaration 14 = .ok (.iconst 0, 1) := by decide +kernel
theorem dX12_declaration_15 : decode cX12_declaration 15 = .ok (.istore_n 1, 1) := by decide +kernel
theorem dX12_declaration_16 : decode cX12_declaration 16 = .ok (.iload_n 1, 1) := by decide +kernel
theorem dX12_declaration_17 : decode cX12_declaration 17 = .ok (.ifCond .ne 19, 3) := by decide +kernel
theorem dX12_declaration_20 : decode cX12_declaration 20 = .ok (.aload_n 0, 1) := by decide +kernel
theorem dX12_declaration_21 : decode cX12_declaration 21 = .ok (.invokevirtual 381, 3) := by decide +kernel
theorem dX12_declaration_24 : decode cX12_declaration 24 = .ok (.sipush 314, 3) := by decide +kernel
theorem dX12_declaration_27 : decode cX12_declaration 27 = .ok (.if_icmp .eq 9, 3) := by decide +kernel
theorem dX12_declaration_36 : decode cX12_declaration 36 = .ok (.aload_n 0, 1) := by decide +kernel
theorem dX12_declaration_37 : decode cX12_declaration 37 = .ok (.getfield 384, 3) := by decide +kernel
theorem dX12_declaration_40 : decode cX12_declaration 40 = .ok (.bipush 37, 2) := by decide +kernel
theorem dX12_declaration_42 : decode cX12_declaration 42 = .ok (.if_icmp .ne 9, 3) := by decide +kernel
theorem dX12_declaration_51 : decode cX12_declaration 51 = .ok (.aload_n 0, 1) := by decide +kernel
theorem dX12_declaration_52 : decode cX12_declaration 52 = .ok (.dup, 1) := by decide +kernel
theorem dX12_declaration_53 : decode cX12_declaration 53 = .ok (.getfield 343, 3) := by decide +kernel
theorem dX12_declaration_56 : decode cX12_declaration 56 = .ok (.iconst 1, 1) := by decide +kernel
theorem dX12_declaration_57 : decode cX12_declaration 57 = .ok (.iadd, 1) := by decide +kernel
theorem dX12_declaration_58 : decode cX12_declaration 58 = .ok (.putfield 343, 3) := by decide +kernel
theorem dX12_declaration_61 : decode cX12_declaration 61 = .ok (.aload_n 0, 1) := by decide +kernel
theorem dX12_declaration_62 : decode cX12_declaration 62 = .ok (.getfield 384, 3) := by decide +kernel
theorem dX12_declaration_65 : decode cX12_declaration 65 = .ok (.istore_n 2, 1) := by decide +kernel
theorem dX12_declaration_66 : decode cX12_declaration 66 = .ok (.aload_n 0, 1) := by decide +kernel
theorem dX12_declaration_67 : decode cX12_declaration 67 = .ok (.getfield 90, 3) := by decide +kernel
theorem dX12_declaration_70 : decode cX12_declaration 70 = .ok (.iload_n 2, 1) := by decide +kernel
theorem dX12_declaration_71 : decode cX12_declaration 71 = .ok (.iload_n 1, 1) := by decide +kernel
theorem dX12_declaration_72 : decode cX12_declaration 72 = .ok (.bastore, 1) := by decide +kernel
theorem dX12_declaration_73 : decode cX12_declaration 73 = .ok (.aload_n 0, 1) := by decide +kernel
theorem dX12_declaration_74 : decode cX12_declaration 74 = .ok (.getfield 87, 3) := by decide +kernel
theorem dX12_declaration_77 : decode cX12_declaration 77 = .ok (.iload_n 2, 1) := by decide +kernel
theorem dX12_declaration_78 : decode cX12_declaration 78 = .ok (.aload_n 0, 1) := by decide +kernel
theorem dX12_declaration_79 : decode cX12_declaration 79 = .ok (.invokevirtual 375, 3) := by decide +kernel
theorem dX12_declaration_82 : decode cX12_declaration 82 = .ok (.iastore, 1) := by decide +kernel
theorem dX12_declaration_83 : decode cX12_declaration 83 = .ok (.aload_n 0, 1) := by decide +kernel
theorem dX12_declaration_84 : decode cX12_declaration 84 = .ok (.getfield 350, 3) := by decide +kernel
theorem dX12_declaration_87 : decode cX12_declaration 87 = .ok (.ifCond .le 4, 3) := by decide +kernel
theorem dX12_declaration_91 : decode cX12_declaration 91 = .ok (.aload_n 0, 1) := by decide +kernel
theorem dX12_declaration_92 : decode cX12_declaration 92 = .ok (.getfield 84, 3) := by decide +kernel
theorem dX12_declaration_95 : decode cX12_declaration 95 = .ok (.iload_n 2, 1) := by decide +kernel
theorem dX12_declaration_96 : decode cX12_declaration 96 = .ok (.aload_n 0, 1) := by decide +kernel
theorem dX12_declaration_97 : decode cX12_declaration 97 = .ok (.getfield 25, 3) := by decide +kernel
theorem dX12_declaration_100 : decode cX12_declaration 100 = .ok (.aload_n 0, 1) := by decide +kernel
theorem dX12_declaration_101 : decode cX12_declaration 101 = .ok (.getfield 87, 3) := by decide +kernel
theorem dX12_declaration_104 : decode cX12_declaration 104 = .ok (.iload_n 2, 1) := by decide +kernel
theorem dX12_declaration_105 : decode cX12_declaration 105 = .ok (.iaload, 1) := by decide +kernel
theorem dX12_declaration_106 : decode cX12_declaration 106 = .ok (.iaload, 1) := by decide +kernel
theorem dX12_declaration_107 : decode cX12_declaration 107 = .ok (.iastore, 1) := by decide +kernel
theorem dX12_declaration_108 : decode cX12_declaration 108 = .ok (.aload_n 0, 1) := by decide +kernel
theorem dX12_declaration_109 : decode cX12_declaration 109 = .ok (.getfield 93, 3) := by decide +kernel
theorem dX12_declaration_112 : decode cX12_declaration 112 = .ok (.iload_n 2, 1) := by decide +kernel
theorem dX12_declaration_113 : decode cX12_declaration 113 = .ok (.iconst (-1), 1) := by decide +kernel
theorem dX12_declaration_114 : decode cX12_declaration 114 = .ok (.iastore, 1) := by decide +kernel
theorem dX12_declaration_115 : decode cX12_declaration 115 = .ok (.aload_n 0, 1) := by decide +kernel
theorem dX12_declaration_116 : decode cX12_declaration 116 = .ok (.getfield 96, 3) := by decide +kernel
theorem dX12_declaration_119 : decode cX12_declaration 119 = .ok (.iload_n 2, 1) := by decide +kernel
theorem dX12_declaration_120 : decode cX12_declaration 120 = .ok (.iconst (-1), 1) := by decide +kernel
theorem dX12_declaration_121 : decode cX12_declaration 121 = .ok (.iastore, 1) := by decide +kernel
theorem dX12_declaration_122 : decode cX12_declaration 122 = .ok (.aload_n 0, 1) := by decide +kernel
theorem dX12_declaration_123 : decode cX12_declaration 123 = .ok (.getfield 99, 3) := by decide +kernel
theorem dX12_declaration_126 : decode cX12_declaration 126 = .ok (.iload_n 2, 1) := by decide +kernel
theorem dX12_declaration_127 : decode cX12_declaration 127 = .ok (.iconst 0, 1) := by decide +kernel
theorem dX12_declaration_128 : decode cX12_declaration 128 = .ok (.iastore, 1) := by decide +kernel
theorem dX12_declaration_129 : decode cX12_declaration 129 = .ok (.aload_n 0, 1) := by decide +kernel
theorem dX12_declaration_130 : decode cX12_declaration 130 = .ok (.dup, 1) := by decide +kernel
theorem dX12_declaration_131 : decode cX12_declaration 131 = .ok (.getfield 384, 3) := by decide +kernel
theorem dX12_declaration_134 : decode cX12_declaration 134 = .ok (.iconst 1, 1) := by decide +kernel
theorem dX12_declaration_135 : decode cX12_declaration 135 = .ok (.iadd, 1) := by decide +kernel
theorem dX12_declaration_136 : decode cX12_declaration 136 = .ok (.putfield 384, 3) := by decide +kernel
theorem dX12_declaration_237 : decode cX12_declaration 237 = .ok (.aload_n 0, 1) := by decide +kernel
theorem dX12_declaration_238 : decode cX12_declaration 238 = .ok (.bipush 123, 2) := by decide +kernel
theorem dX12_declaration_240 : decode cX12_declaration 240 = .ok (.invokevirtual 369, 3) := by decide +kernel
theorem dX12_declaration_243 : decode cX12_declaration 243 = .ok (.aload_n 0, 1) := by decide +kernel
theorem dX12_declaration_244 : decode cX12_declaration 244 = .ok (.iconst 0, 1) := by decide +kernel
theorem dX12_declaration_245 : decode cX12_declaration 245 = .ok (.putfield 390, 3) := by decide +kernel
theorem dX12_declaration_248 : decode cX12_declaration 248 = .ok (.aload_n 0, 1) := by decide +kernel
theorem dX12_declaration_249 : decode cX12_declaration 249 = .ok (.iconst 0, 1) := by decide +kernel
theorem dX12_declaration_250 : decode cX12_declaration 250 = .ok (.putfield 393, 3) := by decide +kernel
theorem dX12_declaration_253 : decode cX12_declaration 253 = .ok (.aload_n 0, 1) := by decide +kernel
theorem dX12_declaration_254 : decode cX12_declaration 254 = .ok (.getfield 350, 3) := by decide +kernel
theorem dX12_declaration_257 : decode cX12_declaration 257 = .ok (.ifCond .ne 20, 3) := by decide +kernel
theorem dX12_declaration_260 : decode cX12_declaration 260 = .ok (.aload_n 0, 1) := by decide +kernel
theorem dX12_declaration_261 : decode cX12_declaration 261 = .ok (.invokevirtual 381, 3) := by decide +kernel
theorem dX12_declaration_264 : decode cX12_declaration 264 = .ok (.bipush 125, 2) := by decide +kernel
theorem dX12_declaration_266 : decode cX12_declaration 266 = .ok (.if_icmp .eq 11, 3) := by decide +kernel
theorem dX12_declaration_277 : decode cX12_declaration 277 = .ok (.aload_n 0, 1) := by decide +kernel
theorem dX12_declaration_278 : decode cX12_declaration 278 = .ok (.bipush 125, 2) := by decide +kernel
theorem dX12_declaration_280 : decode cX12_declaration 280 = .ok (.invokevirtual 369, 3) := by decide +kernel
theorem dX12_declaration_283 : decode cX12_declaration 283 = .ok (.return_, 1) := by decide +kernel
theorem dX12_declaration_269 : decode cX12_declaration 269 = .ok (.aload_n 0, 1) := by decide +kernel
theorem dX12_declaration_270 : decode cX12_declaration 270 = .ok (.iload_n 2, 1) := by decide +kernel
theorem dX12_declaration_271 : decode cX12_declaration 271 = .ok (.invokevirtual 396, 3) := by decide +kernel
theorem dX12_declaration_274 : decode cX12_declaration 274 = .ok (.goto (-21), 3) := by decide +kernel
theorem dX12_declaration_139 : decode cX12_declaration 139 = .ok (.aload_n 0, 1) := by decide +kernel
theorem dX12_declaration_140 : decode cX12_declaration 140 = .ok (.sipush 317, 3) := by decide +kernel
theorem dX12_declaration_143 : decode cX12_declaration 143 = .ok (.invokevirtual 378, 3) := by decide +kernel
theorem dX12_declaration_146 : decode cX12_declaration 146 = .ok (.ifCond .eq 67, 3) := by decide +kernel
theorem dX12_declaration_213 : decode cX12_declaration 213 = .ok (.iload_n 1, 1) := by decide +kernel
theorem dX12_declaration_214 : decode cX12_declaration 214 = .ok (.ifCond .ne 23, 3) := by decide +kernel
theorem dX12_declaration_217 : decode cX12_declaration 217 = .ok (.aload_n 0, 1) := by decide +kernel
theorem dX12_declaration_218 : decode cX12_declaration 218 = .ok (.sipush 322, 3) := by decide +kernel
theorem dX12_declaration_221 : decode cX12_declaration 221 = .ok (.invokevirtual 378, 3) := by decide +kernel
theorem dX12_declaration_224 : decode cX12_declaration 224 = .ok (.ifCond .eq 13, 3) := by decide +kernel
theorem dX12_declaration_227 : decode cX12_declaration 227 = .ok (.aload_n 0, 1) := by decide +kernel
theorem dX12_declaration_228 : decode cX12_declaration 228 = .ok (.getfield 96, 3) := by decide +kernel
theorem dX12_declaration_231 : decode cX12_declaration 231 = .ok (.iload_n 2, 1) := by decide +kernel
theorem dX12_declaration_232 : decode cX12_declaration 232 = .ok (.aload_n 0, 1) := by decide +kernel
theorem dX12_declaration_233 : decode cX12_declaration 233 = .ok (.invokevirtual 387, 3) := by decide +kernel
theorem dX12_declaration_236 : decode cX12_declaration 236 = .ok (.iastore, 1) := by decide +kernel
theorem dX12_declaration_149 : decode cX12_declaration 149 = .ok (.iload_n 1, 1) := by decide +kernel
theorem dX12_declaration_150 : decode cX12_declaration 150 = .ok (.ifCond .eq 16, 3) := by decide +kernel
theorem dX12_declaration_166 : decode cX12_declaration 166 = .ok (.aload_n 0, 1) := by decide +kernel
theorem dX12_declaration_167 : decode cX12_declaration 167 = .ok (.getfield 93, 3) := by decide +kernel
theorem dX12_declaration_170 : decode cX12_declaration 170 = .ok (.iload_n 2, 1) := by decide +kernel
theorem dX12_declaration_171 : decode cX12_declaration 171 = .ok (.aload_n 0, 1) := by decide +kernel
theorem dX12_declaration_172 : decode cX12_declaration 172 = .ok (.getfield 372, 3) := by decide +kernel
theorem dX12_declaration_175 : decode cX12_declaration 175 = .ok (.iastore, 1) := by decide +kernel
theorem dX12_declaration_176 : decode cX12_declaration 176 = .ok (.aload_n 0, 1) := by decide +kernel
theorem dX12_declaration_177 : decode cX12_declaration 177 = .ok (.dup, 1) := by decide +kernel
theorem dX12_declaration_178 : decode cX12_declaration 178 = .ok (.getfield 372, 3) := by decide +kernel
theorem dX12_declaration_181 : decode cX12_declaration 181 = .ok (.iconst 1, 1) := by decide +kernel
theorem dX12_declaration_182 : decode cX12_declaration 182 = .ok (.iadd, 1) := by decide +kernel
theorem dX12_declaration_183 : decode cX12_declaration 183 = .ok (.putfield 372, 3) := by decide +kernel
theorem dX12_declaration_186 : decode cX12_declaration 186 = .ok (.aload_n 0, 1) := by decide +kernel
theorem dX12_declaration_187 : decode cX12_declaration 187 = .ok (.getfield 78, 3) := by decide +kernel
theorem dX12_declaration_190 : decode cX12_declaration 190 = .ok (.aload_n 0, 1) := by decide +kernel
theorem dX12_declaration_191 : decode cX12_declaration 191 = .ok (.getfield 93, 3) := by decide +kernel
theorem dX12_declaration_194 : decode cX12_declaration 194 = .ok (.iload_n 2, 1) := by decide +kernel
theorem dX12_declaration_195 : decode cX12_declaration 195 = .ok (.iaload, 1) := by decide +kernel
theorem dX12_declaration_196 : decode cX12_declaration 196 = .ok (.aload_n 0, 1) := by decide +kernel
theorem dX12_declaration_197 : decode cX12_declaration 197 = .ok (.invokevirtual 375, 3) := by decide +kernel
theorem dX12_declaration_200 : decode cX12_declaration 200 = .ok (.iastore, 1) := by decide +kernel
theorem dX12_declaration_201 : decode cX12_declaration 201 = .ok (.aload_n 0, 1) := by decide +kernel
theorem dX12_declaration_202 : decode cX12_declaration 202 = .ok (.getfield 81, 3) := by decide +kernel
theorem dX12_declaration_205 : decode cX12_declaration 205 = .ok (.aload_n 0, 1) := by decide +kernel
theorem dX12_declaration_206 : decode cX12_declaration 206 = .ok (.getfield 93, 3) := by decide +kernel
theorem dX12_declaration_209 : decode cX12_declaration 209 = .ok (.iload_n 2, 1) := by decide +kernel
theorem dX12_declaration_210 : decode cX12_declaration 210 = .ok (.iaload, 1) := by decide +kernel
theorem dX12_declaration_211 : decode cX12_declaration 211 = .ok (.iconst (-1), 1) := by decide +kernel
theorem dX12_declaration_212 : decode cX12_declaration 212 = .ok (.iastore, 1) := by decide +kernel
theorem dX12_declaration_90 : decode cX12_declaration 90 = .ok (.return_, 1) := by decide +kernel
theorem dX12_declaration_45 : decode cX12_declaration 45 = .ok (.aload_n 0, 1) := by decide +kernel
theorem dX12_declaration_46 : decode cX12_declaration 46 = .ok (.iconst 2, 1) := by decide +kernel
theorem dX12_declaration_47 : decode cX12_declaration 47 = .ok (.invokevirtual 356, 3) := by decide +kernel
theorem dX12_declaration_50 : decode cX12_declaration 50 = .ok (.return_, 1) := by decide +kernel
theorem dX12_declaration_30 : decode cX12_declaration 30 = .ok (.aload_n 0, 1) := by decide +kernel
theorem dX12_declaration_31 : decode cX12_declaration 31 = .ok (.iconst 1, 1) := by decide +kernel
theorem dX12_declaration_32 : decode cX12_declaration 32 = .ok (.invokevirtual 356, 3) := by decide +kernel
theorem dX12_declaration_35 : decode cX12_declaration 35 = .ok (.return_, 1) := by decide +kernel
theorem dX12_declaration_10 : decode cX12_declaration 10 = .ok (.iconst 1, 1) := by decide +kernel
theorem dX12_declaration_11 : decode cX12_declaration 11 = .ok (.goto 4, 3) := by decide +kernel
theorem dX12_declaration_153 : decode cX12_declaration 153 = .ok (.aload_n 0, 1) := by decide +kernel
theorem dX12_declaration_154 : decode cX12_declaration 154 = .ok (.getfield 93, 3) := by decide +kernel
theorem dX12_declaration_157 : decode cX12_declaration 157 = .ok (.iload_n 2, 1) := by decide +kernel
theorem dX12_declaration_158 : decode cX12_declaration 158 = .ok (.aload_n 0, 1) := by decide +kernel
theorem dX12_declaration_159 : decode cX12_declaration 159 = .ok (.invokevirtual 387, 3) := by decide +kernel
theorem dX12_declaration_162 : decode cX12_declaration 162 = .ok (.iastore, 1) := by decide +kernel
theorem dX12_declaration_163 : decode cX12_declaration 163 = .ok (.goto 50, 3) := by decide +kernel
theorem hV_X12_member : yX12_member.cls = RX12 ∧ yX12_member.cls ≠ "java/lang/invoke/MethodHandle" ∧ yX12_member.cls ≠ "java/lang/invoke/VarHandle" ∧ (parseMethodDescriptor yX12_member.desc).map (fun d => d.parameters.length) = some 1 := by decide +kernel
theorem hV_X12_listOfNames : yX12_listOfNames.cls = RX12 ∧ yX12_listOfNames.cls ≠ "java/lang/invoke/MethodHandle" ∧ yX12_listOfNames.cls ≠ "java/lang/invoke/VarHandle" ∧ (parseMethodDescriptor yX12_listOfNames.desc).map (fun d => d.parameters.length) = some 0 := by decide +kernel
set_option maxHeartbeats 2000000 in
set_option maxRecDepth 100000 in
/-- declaration(), no fault ahead -/
theorem RM_declaration (l : Launch) (G : pT) (h0 : Nat) (a : Nat → Nat) (F : Nat → Int32) (B : Nat → Nat → Int32) (at0 : Nat) (T : Nat) (nm : Nat) (nd : Nat) (wr : Nat) (lz : Nat) (dc : Nat) (fd : Nat) (md : Nat) (pr : Nat) (bk : Nat) (mf : Nat) (mm : Nat) (lk : Nat) (ne0 : Int32) (K : Nat → Int32) (hat : at0 ≤ T) (hT : T ≤ 5000) (hK : K T = 0 ∨ K T = 3) (hV : NamOK K (B 5) T nm) (hnd : nd ≤ 2 * at0) (hwr : wr ≤ at0) (hls : lz ≤ at0) (hpr : pr ≤ at0) (hlk : lk ≤ 60) (hdc : 7 ≤ dc ∧ dc ≤ 37) (hbk : bk ≤ md) (hmd : md + 210 ≤ 30 * dc) (hfd : fd + 140 ≤ 20 * dc) (hps : PS T nm wr lz dc fd md pr bk B) (hfm : FrM K T wr B nd md) (hy : tkRow (B 19) wr T) (hlr : lsRow (B 22) (B 23) lz T) : PM l G pX0 yX12_declaration cX12_declaration 3 none ({ frames := 644, cells := 0, slots := 0, locals := 50200 }) [.ref h0] (mW G h0 a (upd (upd (upd (upd (upd (upd (upd (upd (upd (upd (upd (upd (upd (upd F 15 0) 27 (nI nd)) 31 (nI wr)) 34 (nI lz)) 35 (nI dc)) 44 (nI fd)) 49 (nI md)) 59 (nI bk)) 60 (nI pr)) 64 (nI at0)) 65 ne0) 66 (nI lk)) 67 (nI mf)) 68 (nI mm)) (updA B 2 K)) (fun (v : Option Value) (u : Nat × Nat × Int32 × Nat × Nat × Nat × Nat × Nat × Nat × Nat × Nat × Nat × Nat × Int32 × (Nat → Nat → Int32)) => v = none ∧ (at0 ≤ u.1) ∧ (u.1 ≤ T) ∧ (u.2.1 ≤ 100) ∧ (at0 + 1 ≤ u.1 + u.2.1) ∧ (Kq B u.2.2.2.2.2.2.2.2.2.2.2.2.2.2) ∧ (If (u.2.1 = 0) ((u.2.2.2.1 ≤ 2 * u.1 ∧ u.2.2.2.2.1 ≤ u.1 ∧ u.2.2.2.2.2.1 ≤ u.1 ∧ u.2.2.2.2.2.2.2.2.2.1 ≤ u.1 ∧ u.2.2.2.2.2.2.1 ≤ 37 ∧ dc ≤ u.2.2.2.2.2.2.1 ∧ u.2.2.2.2.2.2.2.2.2.2.1 ≤ u.2.2.2.2.2.2.2.2.1 ∧ wr ≤ u.2.2.2.2.1 ∧ lz ≤ u.2.2.2.2.2.1) ∧ (u.2.2.2.2.2.2.2.2.1 + 210 ≤ 30 * u.2.2.2.2.2.2.1 ∧ u.2.2.2.2.2.2.2.1 + 140 ≤ 20 * u.2.2.2.2.2.2.1 ∧ u.2.2.2.2.2.2.1 ≤ 37 ∧ 7 ≤ u.2.2.2.2.2.2.1 ∧ u.2.2.2.2.2.2.1 ≤ dc + 1) ∧ PS T nm u.2.2.2.2.1 u.2.2.2.2.2.1 u.2.2.2.2.2.2.1 u.2.2.2.2.2.2.2.1 u.2.2.2.2.2.2.2.2.1 u.2.2.2.2.2.2.2.2.2.1 u.2.2.2.2.2.2.2.2.2.2.1 u.2.2.2.2.2.2.2.2.2.2.2.2.2.2 ∧ FrM K T u.2.2.2.2.1 u.2.2.2.2.2.2.2.2.2.2.2.2.2.2 u.2.2.2.1 u.2.2.2.2.2.2.2.2.1 ∧ tkRow (u.2.2.2.2.2.2.2.2.2.2.2.2.2.2 19) u.2.2.2.2.1 T ∧ lsRow (u.2.2.2.2.2.2.2.2.2.2.2.2.2.2 22) (u.2.2.2.2.2.2.2.2.2.2.2.2.2.2 23) u.2.2.2.2.2.1 T))) (fun u => (mW G h0 a (upd (upd (upd (upd (upd (upd (upd (upd (upd (upd (upd (upd (upd (upd (upd F 15 (nI u.2.1)) 16 u.2.2.1) 27 (nI u.2.2.2.1)) 31 (nI u.2.2.2.2.1)) 34 (nI u.2.2.2.2.2.1)) 35 (nI u.2.2.2.2.2.2.1)) 44 (nI u.2.2.2.2.2.2.2.1)) 49 (nI u.2.2.2.2.2.2.2.2.1)) 59 (nI u.2.2.2.2.2.2.2.2.2.2.1)) 60 (nI u.2.2.2.2.2.2.2.2.2.1)) 64 (nI u.1)) 65 u.2.2.2.2.2.2.2.2.2.2.2.2.2.1) 66 (nI lk)) 67 (nI u.2.2.2.2.2.2.2.2.2.2.2.1)) 68 (nI u.2.2.2.2.2.2.2.2.2.2.2.2.1)) (updA u.2.2.2.2.2.2.2.2.2.2.2.2.2.2 2 K))) := by
  intro sz
  refine Met.ofW (cc := cX12_declaration) (maxL := 3) (ret := none) (by decide) rfl ?_
  intro p e s m args below meth c s₁ B9 hml hv
  obtain ⟨rfl, hsz, hP, hD0, hE, hX⟩ := hv
  have hx := B9.exec
  have hb := B9.bytes
  have hr := B9.returns
  have hts := atoms_spec (ws := Cond.code yX12_declaration cX12_declaration 3 none :: pw) B9.pre
  have hq : ∀ w ∈ pw, w.before _ s = true := fun w h => hts w (List.mem_cons_of_mem _ h)
  have hown : s.vm.findClass RX12 = some m.cls := findClass_of_methodNamed B9.named
  have hlocks := B9.notSynchronized
  subst hsz
  have hD := hD0.self (sz := s.heap.size)
  have hA : ∀ q : Nat, s.heap.size ≤ q → va_A (mW G h0 a (upd (upd (upd (upd (upd (upd (upd (upd (upd (upd (upd (upd (upd (upd F 15 0) 27 (nI nd)) 31 (nI wr)) 34 (nI lz)) 35 (nI dc)) 44 (nI fd)) 49 (nI md)) 59 (nI bk)) 60 (nI pr)) 64 (nI at0)) 65 ne0) 66 (nI lk)) 67 (nI mf)) 68 (nI mm)) (updA B 2 K)) s.heap.size q := fun q h => Or.inr h
  have hP : va_P G.1 pCl (mW G h0 a (upd (upd (upd (upd (upd (upd (upd (upd (upd (upd (upd (upd (upd (upd F 15 0) 27 (nI nd)) 31 (nI wr)) 34 (nI lz)) 35 (nI dc)) 44 (nI fd)) 49 (nI md)) 59 (nI bk)) 60 (nI pr)) 64 (nI at0)) 65 ne0) 66 (nI lk)) 67 (nI mf)) 68 (nI mm)) (updA B 2 K)) s.heap := hP
  generalize va_A (mW G h0 a (upd (upd (upd (upd (upd (upd (upd (upd (upd (upd (upd (upd (upd (upd F 15 0) 27 (nI nd)) 31 (nI wr)) 34 (nI lz)) 35 (nI dc)) 44 (nI fd)) 49 (nI md)) 59 (nI bk)) 60 (nI pr)) 64 (nI at0)) 65 ne0) 66 (nI lk)) 67 (nI mf)) 68 (nI mm)) (updA B 2 K)) s.heap.size = A at hD hE hA ⊢
  have hS : va_S A s.heap s.heap [] := va_S.rf
  have hl := lv_entry ([.ref h0]) (n := 3) (Nat.le_of_ble_eq_true rfl)
  rw [lg_entry_eq]
  generalize (lg_sl ([.ref h0]) ++ List.replicate (3 - (lg_sl ([.ref h0])).length) Slot.unset).toArray = ls at hl ⊢
  have hl : lv_has ls 3 [(0, .ref h0)] := hl
  have hkq1 : Kq B B := Kq.rfl
  refine lv_aload_n hx hb dX12_declaration_0 rfl (lv_at hl 0 rfl) ?_
  have hP : va_P G.1 pCl (mW G h0 a (upd (upd (upd (upd (upd (upd (upd (upd (upd (upd (upd (upd (upd (upd (upd (upd F 15 0) 27 (nI nd)) 31 (nI wr)) 34 (nI lz)) 35 (nI dc)) 44 (nI fd)) 49 (nI md)) 59 (nI bk)) 60 (nI pr)) 64 (nI at0)) 65 ne0) 66 (nI lk)) 67 (nI mf)) 68 (nI mm)) 15 (nI 0)) 64 (nI at0)) (updA (updA B 2 K) 2 K)) _ := hP
  have hD : va_D A (mW G h0 a (upd (upd (upd (upd (upd (upd (upd (upd (upd (upd (upd (upd (upd (upd (upd (upd F 15 0) 27 (nI nd)) 31 (nI wr)) 34 (nI lz)) 35 (nI dc)) 44 (nI fd)) 49 (nI md)) 59 (nI bk)) 60 (nI pr)) 64 (nI at0)) 65 ne0) 66 (nI lk)) 67 (nI mf)) 68 (nI mm)) 15 (nI 0)) 64 (nI at0)) (updA (updA B 2 K) 2 K)) := hD
  refine pc_V0 (G := G) (As := []) (rest := []) hx hb hml hown hq hE hX pX0_al hP hD hS hA hl.1 (R_kind l G h0 a (upd (upd (upd (upd (upd (upd (upd (upd (upd (upd (upd (upd (upd (upd F 15 0) 27 (nI nd)) 31 (nI wr)) 34 (nI lz)) 35 (nI dc)) 44 (nI fd)) 49 (nI md)) 59 (nI bk)) 60 (nI pr)) 64 (nI at0)) 65 ne0) 66 (nI lk)) 67 (nI mf)) 68 (nI mm)) (updA B 2 K) at0 T 0 K (by omega) (by omega) hK (by omega)) (gV pw_1626 pw_1627 pw_1628 pw_1523 pw_1591) hV_X12_kind 0 9 rfl rfl rfl rfl (Nat.le_of_ble_eq_true rfl) dX12_declaration_1 ⟨Nat.le_of_ble_eq_true rfl, Nat.le_of_ble_eq_true rfl⟩ ⟨Nat.le_of_ble_eq_true rfl, Nat.le_of_ble_eq_true rfl⟩ (fun v4 u2 H locs hw3 hP hD hS => ?_)
  obtain rfl : v4 = some (.int (K at0)) := hw3
  have hP : va_P G.1 pCl (mW G h0 a (upd (upd (upd (upd (upd (upd (upd (upd (upd (upd (upd (upd (upd (upd F 15 0) 27 (nI nd)) 31 (nI wr)) 34 (nI lz)) 35 (nI dc)) 44 (nI fd)) 49 (nI md)) 59 (nI bk)) 60 (nI pr)) 64 (nI at0)) 65 ne0) 66 (nI lk)) 67 (nI mf)) 68 (nI mm)) (updA B 2 K)) _ := hP
  have hD : va_D A (mW G h0 a (upd (upd (upd (upd (upd (upd (upd (upd (upd (upd (upd (upd (upd (upd F 15 0) 27 (nI nd)) 31 (nI wr)) 34 (nI lz)) 35 (nI dc)) 44 (nI fd)) 49 (nI md)) 59 (nI bk)) 60 (nI pr)) 64 (nI at0)) 65 ne0) 66 (nI lk)) 67 (nI mf)) 68 (nI mm)) (updA B 2 K)) := hD
  refine W.widen (k := 0) (n := 0) (Nat.le_of_ble_eq_true rfl) (Nat.le_of_ble_eq_true rfl) ?_
  refine W.eq (g2 := F0 m 4 ls [.int (K at0)]) rfl ?_
  refine lv_sipush (v := 324) hx hb dX12_declaration_4 (by decide) ?_
  refine lv_icmp_ne (tgt := 14) hx hb dX12_declaration_7 (by decide) (fun c5 => ?_) (fun c5 => ?_)
  · refine lv_iconst (v := 0) hx hb dX12_declaration_14 (by decide) ?_
    refine lv_istore_n (lv' := [(1, .int 0), (0, .ref h0)]) hx hb dX12_declaration_15 rfl hl (by decide) rfl (fun ls hl => ?_)
    refine lv_iload_n hx hb dX12_declaration_16 rfl (lv_at hl 0 rfl) ?_
    refine lv_if_ne (tgt := 36) hx hb dX12_declaration_17 (by decide) (fun c6 => absurd c6 (by decide)) (fun c6 => ?_)
    refine lv_aload_n hx hb dX12_declaration_20 rfl (lv_at hl 1 rfl) ?_
    have hP : va_P G.1 pCl (mW G h0 a (upd (upd (upd (upd (upd (upd (upd (upd (upd (upd (upd (upd (upd (upd (upd (upd F 15 0) 27 (nI nd)) 31 (nI wr)) 34 (nI lz)) 35 (nI dc)) 44 (nI fd)) 49 (nI md)) 59 (nI bk)) 60 (nI pr)) 64 (nI at0)) 65 ne0) 66 (nI lk)) 67 (nI mf)) 68 (nI mm)) 15 (nI 0)) 64 (nI at0)) (updA (updA B 2 K) 2 K)) _ := hP
    have hD : va_D A (mW G h0 a (upd (upd (upd (upd (upd (upd (upd (upd (upd (upd (upd (upd (upd (upd (upd (upd F 15 0) 27 (nI nd)) 31 (nI wr)) 34 (nI lz)) 35 (nI dc)) 44 (nI fd)) 49 (nI md)) 59 (nI bk)) 60 (nI pr)) 64 (nI at0)) 65 ne0) 66 (nI lk)) 67 (nI mf)) 68 (nI mm)) 15 (nI 0)) 64 (nI at0)) (updA (updA B 2 K) 2 K)) := hD
    refine pc_V0 (G := G) (As := []) (rest := []) hx hb hml hown hq hE hX pX0_al hP hD hS hA hl.1 (R_kind l G h0 a (upd (upd (upd (upd (upd (upd (upd (upd (upd (upd (upd (upd (upd (upd F 15 0) 27 (nI nd)) 31 (nI wr)) 34 (nI lz)) 35 (nI dc)) 44 (nI fd)) 49 (nI md)) 59 (nI bk)) 60 (nI pr)) 64 (nI at0)) 65 ne0) 66 (nI lk)) 67 (nI mf)) 68 (nI mm)) (updA B 2 K) at0 T 0 K (by omega) (by omega) hK (by omega)) (gV pw_1626 pw_1627 pw_1628 pw_1523 pw_1591) hV_X12_kind 0 9 rfl rfl rfl rfl (Nat.le_of_ble_eq_true rfl) dX12_declaration_21 ⟨Nat.le_of_ble_eq_true rfl, Nat.le_of_ble_eq_true rfl⟩ ⟨Nat.le_of_ble_eq_true rfl, Nat.le_of_ble_eq_true rfl⟩ (fun v9 u7 H locs hw8 hP hD hS => ?_)
    obtain rfl : v9 = some (.int (K at0)) := hw8
    have hP : va_P G.1 pCl (mW G h0 a (upd (upd (upd (upd (upd (upd (upd (upd (upd (upd (upd (upd (upd (upd F 15 0) 27 (nI nd)) 31 (nI wr)) 34 (nI lz)) 35 (nI dc)) 44 (nI fd)) 49 (nI md)) 59 (nI bk)) 60 (nI pr)) 64 (nI at0)) 65 ne0) 66 (nI lk)) 67 (nI mf)) 68 (nI mm)) (updA B 2 K)) _ := hP
    have hD : va_D A (mW G h0 a (upd (upd (upd (upd (upd (upd (upd (upd (upd (upd (upd (upd (upd (upd F 15 0) 27 (nI nd)) 31 (nI wr)) 34 (nI lz)) 35 (nI dc)) 44 (nI fd)) 49 (nI md)) 59 (nI bk)) 60 (nI pr)) 64 (nI at0)) 65 ne0) 66 (nI lk)) 67 (nI mf)) 68 (nI mm)) (updA B 2 K)) := hD
    refine W.widen (k := 0) (n := 0) (Nat.le_of_ble_eq_true rfl) (Nat.le_of_ble_eq_true rfl) ?_
    refine W.eq (g2 := F0 m 24 ls [.int (K at0)]) rfl ?_
    refine lv_sipush (v := 314) hx hb dX12_declaration_24 (by decide) ?_
    refine lv_icmp_eq (tgt := 36) hx hb dX12_declaration_27 (by decide) (fun c10 => ?_) (fun c10 => ?_)
    · have n11 : at0 < T := tk_lt hat hK c10 (by decide) (by decide)
      refine lv_aload_n hx hb dX12_declaration_36 rfl (lv_at hl 1 rfl) ?_
      refine r_get (v := .int (nI dc)) hx hb hown hq hE hP 35 384 tFX12_35 (by decide) pw_1732 rfl dX12_declaration_37 ?_
      refine lv_bipush (v := 37) hx hb dX12_declaration_40 (by decide) ?_
      refine lv_icmp_ne (tgt := 51) hx hb dX12_declaration_42 (by decide) (fun c12 => ?_) (fun c12 => ?_)
      · have n13 : ¬ (dc = 37) := fun h9 => c12 ((nI_eq (a := dc) (b := 37) (by omega) (by omega)).mpr h9)
        refine lv_aload_n hx hb dX12_declaration_51 rfl (lv_at hl 1 rfl) ?_
        refine lv_dup hx hb dX12_declaration_52 rfl ?_
        refine r_get (v := .int (nI at0)) hx hb hown hq hE hP 64 343 tFX12_64 (by decide) pw_1592 rfl dX12_declaration_53 ?_
        refine lv_iconst (v := 1) hx hb dX12_declaration_56 (by decide) ?_
        refine lv_iadd hx hb dX12_declaration_57 ?_
        refine lv_topi (fun x14 e15 => ?_)
        obtain rfl : x14 = nI (at0 + 1) := e15.trans (nI_add (at0) (1))
        refine r_put (v := (nI (at0 + 1))) (ty := .int) hx hb hown hq hE hP hD hS 64 343 tFX12_64 (by decide) pw_1592 (by decide) rfl rfl (ms_64 a _ _) dX12_declaration_58 (fun H locs hP hD hS => ?_)
        refine lv_aload_n hx hb dX12_declaration_61 rfl (lv_at hl 1 rfl) ?_
        refine r_get (v := .int (nI dc)) hx hb hown hq hE hP 35 384 tFX12_35 (by decide) pw_1732 rfl dX12_declaration_62 ?_
        refine lv_istore_n (lv' := [(2, .int (nI dc)), (1, .int 0), (0, .ref h0)]) hx hb dX12_declaration_65 rfl hl (by decide) rfl (fun ls hl => ?_)
        refine lv_aload_n hx hb dX12_declaration_66 rfl (lv_at hl 2 rfl) ?_
        refine r_get (v := .ref (a 26)) hx hb hown hq hE hP 38 90 tFX12_38 (by decide) pw_1457 rfl dX12_declaration_67 ?_
        refine lv_iload_n hx hb dX12_declaration_70 rfl (lv_at hl 0 rfl) ?_
        refine lv_iload_n hx hb dX12_declaration_71 rfl (lv_at hl 1 rfl) ?_
        refine r_stz (f := (B 26)) (j := dc) hx hb hE hP hD hS 26 (ma_26 G a _) rfl (mas_26 G a _) (by omega) (by decide) dX12_declaration_72 (fun H locs hP hD hS => ?_)
        have hP : va_P G.1 pCl (mW G h0 a (upd (upd (upd (upd (upd (upd (upd (upd (upd (upd (upd (upd (upd (upd F 15 0) 27 (nI nd)) 31 (nI wr)) 34 (nI lz)) 35 (nI dc)) 44 (nI fd)) 49 (nI md)) 59 (nI bk)) 60 (nI pr)) 64 (nI (at0 + 1))) 65 ne0) 66 (nI lk)) 67 (nI mf)) 68 (nI mm)) (updA (stR B 26 dc 0) 2 K)) _ := hP
        have hD : va_D A (mW G h0 a (upd (upd (upd (upd (upd (upd (upd (upd (upd (upd (upd (upd (upd (upd F 15 0) 27 (nI nd)) 31 (nI wr)) 34 (nI lz)) 35 (nI dc)) 44 (nI fd)) 49 (nI md)) 59 (nI bk)) 60 (nI pr)) 64 (nI (at0 + 1))) 65 ne0) 66 (nI lk)) 67 (nI mf)) 68 (nI mm)) (updA (stR B 26 dc 0) 2 K)) := hD
        have hkq16 : Kq B (stR B 26 dc 0) := (Kq.st hkq1 (by omega))
        have hty17 : tkRow ((stR B 26 dc 0) 19) wr T := hy
        have hps18 : PS T nm wr lz dc fd md pr bk (stR B 26 dc 0) := (PS.same hps (by omega) (by omega) (fun r i q1 q2 q3 => st_ne (fun e => by rw [e.1, e.2] at q3; exact absurd (show dc < dc from q3) (by omega))))
        have hfm19 : FrM K T wr (stR B 26 dc 0) nd md := (FrM.same hfm (by omega) (fun j i q1 q2 q3 => st_ne (by omega)) (fun i q => st_ne (by omega)))
        have hlr20 : lsRow ((stR B 26 dc 0) 22) ((stR B 26 dc 0) 23) lz T := hlr
        have hce21 : (stR B 26 dc 0) 26 dc = 0 := st_eq
        refine lv_aload_n hx hb dX12_declaration_73 rfl (lv_at hl 2 rfl) ?_
        refine r_get (v := .ref (a 25)) hx hb hown hq hE hP 37 87 tFX12_37 (by decide) pw_1456 rfl dX12_declaration_74 ?_
        refine lv_iload_n hx hb dX12_declaration_77 rfl (lv_at hl 0 rfl) ?_
        refine lv_aload_n hx hb dX12_declaration_78 rfl (lv_at hl 2 rfl) ?_
        have hP : va_P G.1 pCl (mW G h0 a (upd (upd (upd (upd (upd (upd (upd (upd (upd (upd (upd (upd (upd (upd (upd (upd F 15 0) 27 (nI nd)) 31 (nI wr)) 34 (nI lz)) 35 (nI dc)) 44 (nI fd)) 49 (nI md)) 59 (nI bk)) 60 (nI pr)) 64 (nI (at0 + 1))) 65 ne0) 66 (nI lk)) 67 (nI mf)) 68 (nI mm)) 15 (nI 0)) 64 (nI (at0 + 1))) (updA (updA (stR B 26 dc 0) 2 K) 2 K)) _ := hP
        have hD : va_D A (mW G h0 a (upd (upd (upd (upd (upd (upd (upd (upd (upd (upd (upd (upd (upd (upd (upd (upd F 15 0) 27 (nI nd)) 31 (nI wr)) 34 (nI lz)) 35 (nI dc)) 44 (nI fd)) 49 (nI md)) 59 (nI bk)) 60 (nI pr)) 64 (nI (at0 + 1))) 65 ne0) 66 (nI lk)) 67 (nI mf)) 68 (nI mm)) 15 (nI 0)) 64 (nI (at0 + 1))) (updA (updA (stR B 26 dc 0) 2 K) 2 K)) := hD
        refine pc_V0 (G := G) (As := []) (rest := [.int (nI dc), .ref (a 25)]) hx hb hml hown hq hE hX pX0_al hP hD hS hA hl.1 (R_name l G h0 a (upd (upd (upd (upd (upd (upd (upd (upd (upd (upd (upd (upd (upd (upd F 15 0) 27 (nI nd)) 31 (nI wr)) 34 (nI lz)) 35 (nI dc)) 44 (nI fd)) 49 (nI md)) 59 (nI bk)) 60 (nI pr)) 64 (nI (at0 + 1))) 65 ne0) 66 (nI lk)) 67 (nI mf)) 68 (nI mm)) (updA (stR B 26 dc 0) 2 K) (at0 + 1) T 0 K (by omega) (by omega) hK (by omega)) (gV pw_1618 pw_1619 pw_1620 pw_1523 pw_1613) hV_X12_name 0 9 rfl rfl rfl rfl (Nat.le_of_ble_eq_true rfl) dX12_declaration_79 ⟨Nat.le_of_ble_eq_true rfl, Nat.le_of_ble_eq_true rfl⟩ ⟨Nat.le_of_ble_eq_true rfl, Nat.le_of_ble_eq_true rfl⟩ (fun v24 u22 H locs hw23 hP hD hS => ?_)
        obtain ⟨at25, fa26, pl27⟩ := u22
        obtain ⟨hw23, h28, h29, h30, h31, h32, h33, h34, h35⟩ := hw23
        replace h28 : (at0 + 1) ≤ at25 := h28
        replace h29 : at25 ≤ T := h29
        replace h30 : 0 ≤ fa26 := h30
        replace h31 : fa26 ≤ 100 := h31
        replace h32 : If (0 < 0) (at25 = (at0 + 1) ∧ fa26 = 0) := h32
        replace h33 : at25 ≤ (at0 + 1) + 1 := h33
        replace h34 : (at0 + 1) + 1 ≤ at25 + fa26 := h34
        replace h35 : If (fa26 = 0) (K (at0 + 1) = 1) := h35
        obtain rfl : v24 = some (.int (nI (at0 + 1))) := hw23
        have hP : va_P G.1 pCl (mW G h0 a (upd (upd (upd (upd (upd (upd (upd (upd (upd (upd (upd (upd (upd (upd (upd F 15 (nI fa26)) 16 pl27) 27 (nI nd)) 31 (nI wr)) 34 (nI lz)) 35 (nI dc)) 44 (nI fd)) 49 (nI md)) 59 (nI bk)) 60 (nI pr)) 64 (nI at25)) 65 ne0) 66 (nI lk)) 67 (nI mf)) 68 (nI mm)) (updA (stR B 26 dc 0) 2 K)) _ := hP
        have hD : va_D A (mW G h0 a (upd (upd (upd (upd (upd (upd (upd (upd (upd (upd (upd (upd (upd (upd (upd F 15 (nI fa26)) 16 pl27) 27 (nI nd)) 31 (nI wr)) 34 (nI lz)) 35 (nI dc)) 44 (nI fd)) 49 (nI md)) 59 (nI bk)) 60 (nI pr)) 64 (nI at25)) 65 ne0) 66 (nI lk)) 67 (nI mf)) 68 (nI mm)) (updA (stR B 26 dc 0) 2 K)) := hD
        refine W.widen (k := 0) (n := 0) (Nat.le_of_ble_eq_true rfl) (Nat.le_of_ble_eq_true rfl) ?_
        refine W.eq (g2 := F0 m 82 ls [.int (nI (at0 + 1)), .int (nI dc), .ref (a 25)]) rfl ?_
        rcases Nat.eq_zero_or_pos fa26 with e36 | e36
        · subst e36
          have hP : va_P G.1 pCl (mW G h0 a (upd (upd (upd (upd (upd (upd (upd (upd (upd (upd (upd (upd (upd (upd (upd F 15 0) 16 pl27) 27 (nI nd)) 31 (nI wr)) 34 (nI lz)) 35 (nI dc)) 44 (nI fd)) 49 (nI md)) 59 (nI bk)) 60 (nI pr)) 64 (nI at25)) 65 ne0) 66 (nI lk)) 67 (nI mf)) 68 (nI mm)) (updA (stR B 26 dc 0) 2 K)) _ := hP
          have hD : va_D A (mW G h0 a (upd (upd (upd (upd (upd (upd (upd (upd (upd (upd (upd (upd (upd (upd (upd F 15 0) 16 pl27) 27 (nI nd)) 31 (nI wr)) 34 (nI lz)) 35 (nI dc)) 44 (nI fd)) 49 (nI md)) 59 (nI bk)) 60 (nI pr)) 64 (nI at25)) 65 ne0) 66 (nI lk)) 67 (nI mf)) 68 (nI mm)) (updA (stR B 26 dc 0) 2 K)) := hD
          refine r_sti (f := ((stR B 26 dc 0) 25)) (j := dc) hx hb hE hP hD hS 25 (ma_25 G a _) rfl (mas_25 G a _) (by omega) (by decide) dX12_declaration_82 (fun H locs hP hD hS => ?_)
          have hP : va_P G.1 pCl (mW G h0 a (upd (upd (upd (upd (upd (upd (upd (upd (upd (upd (upd (upd (upd (upd (upd F 15 0) 16 pl27) 27 (nI nd)) 31 (nI wr)) 34 (nI lz)) 35 (nI dc)) 44 (nI fd)) 49 (nI md)) 59 (nI bk)) 60 (nI pr)) 64 (nI at25)) 65 ne0) 66 (nI lk)) 67 (nI mf)) 68 (nI mm)) (updA (stR (stR B 26 dc 0) 25 dc (nI (at0 + 1))) 2 K)) _ := hP
          have hD : va_D A (mW G h0 a (upd (upd (upd (upd (upd (upd (upd (upd (upd (upd (upd (upd (upd (upd (upd F 15 0) 16 pl27) 27 (nI nd)) 31 (nI wr)) 34 (nI lz)) 35 (nI dc)) 44 (nI fd)) 49 (nI md)) 59 (nI bk)) 60 (nI pr)) 64 (nI at25)) 65 ne0) 66 (nI lk)) 67 (nI mf)) 68 (nI mm)) (updA (stR (stR B 26 dc 0) 25 dc (nI (at0 + 1))) 2 K)) := hD
          have hkq37 : Kq B (stR (stR B 26 dc 0) 25 dc (nI (at0 + 1))) := (Kq.st hkq16 (by omega))
          have hce38 : (stR (stR B 26 dc 0) 25 dc (nI (at0 + 1))) 26 dc = 0 := ((st_ne (by omega)).trans hce21)
          have hty39 : tkRow ((stR (stR B 26 dc 0) 25 dc (nI (at0 + 1))) 19) wr T := hty17
          have hps40 : PS T nm wr lz dc fd md pr bk (stR (stR B 26 dc 0) 25 dc (nI (at0 + 1))) := (PS.same hps18 (by omega) (by omega) (fun r i q1 q2 q3 => st_ne (fun e => by rw [e.1, e.2] at q3; exact absurd (show dc < dc from q3) (by omega))))
          have hfm41 : FrM K T wr (stR (stR B 26 dc 0) 25 dc (nI (at0 + 1))) nd md := (FrM.same hfm19 (by omega) (fun j i q1 q2 q3 => st_ne (by omega)) (fun i q => st_ne (by omega)))
          have hlr42 : lsRow ((stR (stR B 26 dc 0) 25 dc (nI (at0 + 1))) 22) ((stR (stR B 26 dc 0) 25 dc (nI (at0 + 1))) 23) lz T := hlr20
          have hce43 : (stR (stR B 26 dc 0) 25 dc (nI (at0 + 1))) 25 dc = (nI (at0 + 1)) := st_eq
          refine lv_aload_n hx hb dX12_declaration_83 rfl (lv_at hl 2 rfl) ?_
          refine r_get (v := .int 0) hx hb hown hq hE hP 15 350 tFX12_15 (by decide) pw_1594 rfl dX12_declaration_84 ?_
          refine lv_if_le (tgt := 91) hx hb dX12_declaration_87 (by decide) (fun c44 => ?_) (fun c44 => absurd c44 (by decide))
          refine lv_aload_n hx hb dX12_declaration_91 rfl (lv_at hl 2 rfl) ?_
          refine r_get (v := .ref (a 24)) hx hb hown hq hE hP 36 84 tFX12_36 (by decide) pw_1455 rfl dX12_declaration_92 ?_
          refine lv_iload_n hx hb dX12_declaration_95 rfl (lv_at hl 0 rfl) ?_
          refine lv_aload_n hx hb dX12_declaration_96 rfl (lv_at hl 2 rfl) ?_
          refine r_get (v := .ref (a 5)) hx hb hown hq hE hP 8 25 tFX12_8 (by decide) pw_1435 rfl dX12_declaration_97 ?_
          refine lv_aload_n hx hb dX12_declaration_100 rfl (lv_at hl 2 rfl) ?_
          refine r_get (v := .ref (a 25)) hx hb hown hq hE hP 37 87 tFX12_37 (by decide) pw_1456 rfl dX12_declaration_101 ?_
          refine lv_iload_n hx hb dX12_declaration_104 rfl (lv_at hl 0 rfl) ?_
          refine r_ldi (f := ((stR (stR B 26 dc 0) 25 dc (nI (at0 + 1))) 25)) (j := dc) hx hb hE hP 25 (ma_25 G a _) rfl (by omega) (by decide) dX12_declaration_105 ?_
          refine lv_topi (fun x45 e46 => ?_)
          obtain rfl : x45 = (nI (at0 + 1)) := e46.trans hce43
          refine r_ldi (f := ((stR (stR B 26 dc 0) 25 dc (nI (at0 + 1))) 5)) (j := (at0 + 1)) hx hb hE hP 5 (ma_5 G a _) rfl (by omega) (by decide) dX12_declaration_106 ?_
          obtain ⟨v49, h50, e51⟩ := hV (at0 + 1) (by omega) (h35 rfl)
          refine lv_topi (fun x47 e48 => ?_)
          obtain rfl : x47 = nI v49 := e48.trans ((congrFun (hkq37 5 (by omega)) (at0 + 1)).trans e51)
          refine r_sti (f := ((stR (stR B 26 dc 0) 25 dc (nI (at0 + 1))) 24)) (j := dc) hx hb hE hP hD hS 24 (ma_24 G a _) rfl (mas_24 G a _) (by omega) (by decide) dX12_declaration_107 (fun H locs hP hD hS => ?_)
          have hP : va_P G.1 pCl (mW G h0 a (upd (upd (upd (upd (upd (upd (upd (upd (upd (upd (upd (upd (upd (upd (upd F 15 0) 16 pl27) 27 (nI nd)) 31 (nI wr)) 34 (nI lz)) 35 (nI dc)) 44 (nI fd)) 49 (nI md)) 59 (nI bk)) 60 (nI pr)) 64 (nI at25)) 65 ne0) 66 (nI lk)) 67 (nI mf)) 68 (nI mm)) (updA (stR (stR (stR B 26 dc 0) 25 dc (nI (at0 + 1))) 24 dc (nI v49)) 2 K)) _ := hP
          have hD : va_D A (mW G h0 a (upd (upd (upd (upd (upd (upd (upd (upd (upd (upd (upd (upd (upd (upd (upd F 15 0) 16 pl27) 27 (nI nd)) 31 (nI wr)) 34 (nI lz)) 35 (nI dc)) 44 (nI fd)) 49 (nI md)) 59 (nI bk)) 60 (nI pr)) 64 (nI at25)) 65 ne0) 66 (nI lk)) 67 (nI mf)) 68 (nI mm)) (updA (stR (stR (stR B 26 dc 0) 25 dc (nI (at0 + 1))) 24 dc (nI v49)) 2 K)) := hD
          have hkq52 : Kq B (stR (stR (stR B 26 dc 0) 25 dc (nI (at0 + 1))) 24 dc (nI v49)) := (Kq.st hkq37 (by omega))
          have hce53 : (stR (stR (stR B 26 dc 0) 25 dc (nI (at0 + 1))) 24 dc (nI v49)) 26 dc = 0 := ((st_ne (by omega)).trans hce38)
          have hce54 : (stR (stR (stR B 26 dc 0) 25 dc (nI (at0 + 1))) 24 dc (nI v49)) 25 dc = (nI (at0 + 1)) := ((st_ne (by omega)).trans hce43)
          have hty55 : tkRow ((stR (stR (stR B 26 dc 0) 25 dc (nI (at0 + 1))) 24 dc (nI v49)) 19) wr T := hty39
          have hps56 : PS T nm wr lz dc fd md pr bk (stR (stR (stR B 26 dc 0) 25 dc (nI (at0 + 1))) 24 dc (nI v49)) := (PS.same hps40 (by omega) (by omega) (fun r i q1 q2 q3 => st_ne (fun e => by rw [e.1, e.2] at q3; exact absurd (show dc < dc from q3) (by omega))))
          have hfm57 : FrM K T wr (stR (stR (stR B 26 dc 0) 25 dc (nI (at0 + 1))) 24 dc (nI v49)) nd md := (FrM.same hfm41 (by omega) (fun j i q1 q2 q3 => st_ne (by omega)) (fun i q => st_ne (by omega)))
          have hlr58 : lsRow ((stR (stR (stR B 26 dc 0) 25 dc (nI (at0 + 1))) 24 dc (nI v49)) 22) ((stR (stR (stR B 26 dc 0) 25 dc (nI (at0 + 1))) 24 dc (nI v49)) 23) lz T := hlr42
          have hce59 : (stR (stR (stR B 26 dc 0) 25 dc (nI (at0 + 1))) 24 dc (nI v49)) 24 dc = (nI v49) := st_eq
          refine lv_aload_n hx hb dX12_declaration_108 rfl (lv_at hl 2 rfl) ?_
          refine r_get (v := .ref (a 27)) hx hb hown hq hE hP 39 93 tFX12_39 (by decide) pw_1458 rfl dX12_declaration_109 ?_
          refine lv_iload_n hx hb dX12_declaration_112 rfl (lv_at hl 0 rfl) ?_
          refine lv_iconst (v := (-1)) hx hb dX12_declaration_113 (by decide) ?_
          refine r_sti (f := ((stR (stR (stR B 26 dc 0) 25 dc (nI (at0 + 1))) 24 dc (nI v49)) 27)) (j := dc) hx hb hE hP hD hS 27 (ma_27 G a _) rfl (mas_27 G a _) (by omega) (by decide) dX12_declaration_114 (fun H locs hP hD hS => ?_)
          have hP : va_P G.1 pCl (mW G h0 a (upd (upd (upd (upd (upd (upd (upd (upd (upd (upd (upd (upd (upd (upd (upd F 15 0) 16 pl27) 27 (nI nd)) 31 (nI wr)) 34 (nI lz)) 35 (nI dc)) 44 (nI fd)) 49 (nI md)) 59 (nI bk)) 60 (nI pr)) 64 (nI at25)) 65 ne0) 66 (nI lk)) 67 (nI mf)) 68 (nI mm)) (updA (stR (stR (stR (stR B 26 dc 0) 25 dc (nI (at0 + 1))) 24 dc (nI v49)) 27 dc (-1)) 2 K)) _ := hP
          have hD : va_D A (mW G h0 a (upd (upd (upd (upd (upd (upd (upd (upd (upd (upd (upd (upd (upd (upd (upd F 15 0) 16 pl27) 27 (nI nd)) 31 (nI wr)) 34 (nI lz)) 35 (nI dc)) 44 (nI fd)) 49 (nI md)) 59 (nI bk)) 60 (nI pr)) 64 (nI at25)) 65 ne0) 66 (nI lk)) 67 (nI mf)) 68 (nI mm)) (updA (stR (stR (stR (stR B 26 dc 0) 25 dc (nI (at0 + 1))) 24 dc (nI v49)) 27 dc (-1)) 2 K)) := hD
          have hkq60 : Kq B (stR (stR (stR (stR B 26 dc 0) 25 dc (nI (at0 + 1))) 24 dc (nI v49)) 27 dc (-1)) := (Kq.st hkq52 (by omega))
          have hce61 : (stR (stR (stR (stR B 26 dc 0) 25 dc (nI (at0 + 1))) 24 dc (nI v49)) 27 dc (-1)) 26 dc = 0 := ((st_ne (by omega)).trans hce53)
          have hce62 : (stR (stR (stR (stR B 26 dc 0) 25 dc (nI (at0 + 1))) 24 dc (nI v49)) 27 dc (-1)) 25 dc = (nI (at0 + 1)) := ((st_ne (by omega)).trans hce54)
          have hce63 : (stR (stR (stR (stR B 26 dc 0) 25 dc (nI (at0 + 1))) 24 dc (nI v49)) 27 dc (-1)) 24 dc = (nI v49) := ((st_ne (by omega)).trans hce59)
          have hty64 : tkRow ((stR (stR (stR (stR B 26 dc 0) 25 dc (nI (at0 + 1))) 24 dc (nI v49)) 27 dc (-1)) 19) wr T := hty55
          have hps65 : PS T nm wr lz dc fd md pr bk (stR (stR (stR (stR B 26 dc 0) 25 dc (nI (at0 + 1))) 24 dc (nI v49)) 27 dc (-1)) := (PS.same hps56 (by omega) (by omega) (fun r i q1 q2 q3 => st_ne (fun e => by rw [e.1, e.2] at q3; exact absurd (show dc < dc from q3) (by omega))))
          have hfm66 : FrM K T wr (stR (stR (stR (stR B 26 dc 0) 25 dc (nI (at0 + 1))) 24 dc (nI v49)) 27 dc (-1)) nd md := (FrM.same hfm57 (by omega) (fun j i q1 q2 q3 => st_ne (by omega)) (fun i q => st_ne (by omega)))
          have hlr67 : lsRow ((stR (stR (stR (stR B 26 dc 0) 25 dc (nI (at0 + 1))) 24 dc (nI v49)) 27 dc (-1)) 22) ((stR (stR (stR (stR B 26 dc 0) 25 dc (nI (at0 + 1))) 24 dc (nI v49)) 27 dc (-1)) 23) lz T := hlr58
          have hce68 : (stR (stR (stR (stR B 26 dc 0) 25 dc (nI (at0 + 1))) 24 dc (nI v49)) 27 dc (-1)) 27 dc = (-1) := st_eq
          refine lv_aload_n hx hb dX12_declaration_115 rfl (lv_at hl 2 rfl) ?_
          refine r_get (v := .ref (a 28)) hx hb hown hq hE hP 40 96 tFX12_40 (by decide) pw_1459 rfl dX12_declaration_116 ?_
          refine lv_iload_n hx hb dX12_declaration_119 rfl (lv_at hl 0 rfl) ?_
          refine lv_iconst (v := (-1)) hx hb dX12_declaration_120 (by decide) ?_
          refine r_sti (f := ((stR (stR (stR (stR B 26 dc 0) 25 dc (nI (at0 + 1))) 24 dc (nI v49)) 27 dc (-1)) 28)) (j := dc) hx hb hE hP hD hS 28 (ma_28 G a _) rfl (mas_28 G a _) (by omega) (by decide) dX12_declaration_121 (fun H locs hP hD hS => ?_)
          have hP : va_P G.1 pCl (mW G h0 a (upd (upd (upd (upd (upd (upd (upd (upd (upd (upd (upd (upd (upd (upd (upd F 15 0) 16 pl27) 27 (nI nd)) 31 (nI wr)) 34 (nI lz)) 35 (nI dc)) 44 (nI fd)) 49 (nI md)) 59 (nI bk)) 60 (nI pr)) 64 (nI at25)) 65 ne0) 66 (nI lk)) 67 (nI mf)) 68 (nI mm)) (updA (stR (stR (stR (stR (stR B 26 dc 0) 25 dc (nI (at0 + 1))) 24 dc (nI v49)) 27 dc (-1)) 28 dc (-1)) 2 K)) _ := hP
          have hD : va_D A (mW G h0 a (upd (upd (upd (upd (upd (upd (upd (upd (upd (upd (upd (upd (upd (upd (upd F 15 0) 16 pl27) 27 (nI nd)) 31 (nI wr)) 34 (nI lz)) 35 (nI dc)) 44 (nI fd)) 49 (nI md)) 59 (nI bk)) 60 (nI pr)) 64 (nI at25)) 65 ne0) 66 (nI lk)) 67 (nI mf)) 68 (nI mm)) (updA (stR (stR (stR (stR (stR B 26 dc 0) 25 dc (nI (at0 + 1))) 24 dc (nI v49)) 27 dc (-1)) 28 dc (-1)) 2 K)) := hD
          have hkq69 : Kq B (stR (stR (stR (stR (stR B 26 dc 0) 25 dc (nI (at0 + 1))) 24 dc (nI v49)) 27 dc (-1)) 28 dc (-1)) := (Kq.st hkq60 (by omega))
          have hce70 : (stR (stR (stR (stR (stR B 26 dc 0) 25 dc (nI (at0 + 1))) 24 dc (nI v49)) 27 dc (-1)) 28 dc (-1)) 26 dc = 0 := ((st_ne (by omega)).trans hce61)
          have hce71 : (stR (stR (stR (stR (stR B 26 dc 0) 25 dc (nI (at0 + 1))) 24 dc (nI v49)) 27 dc (-1)) 28 dc (-1)) 25 dc = (nI (at0 + 1)) := ((st_ne (by omega)).trans hce62)
          have hce72 : (stR (stR (stR (stR (stR B 26 dc 0) 25 dc (nI (at0 + 1))) 24 dc (nI v49)) 27 dc (-1)) 28 dc (-1)) 24 dc = (nI v49) := ((st_ne (by omega)).trans hce63)
          have hce73 : (stR (stR (stR (stR (stR B 26 dc 0) 25 dc (nI (at0 + 1))) 24 dc (nI v49)) 27 dc (-1)) 28 dc (-1)) 27 dc = (-1) := ((st_ne (by omega)).trans hce68)
          have hty74 : tkRow ((stR (stR (stR (stR (stR B 26 dc 0) 25 dc (nI (at0 + 1))) 24 dc (nI v49)) 27 dc (-1)) 28 dc (-1)) 19) wr T := hty64
          have hps75 : PS T nm wr lz dc fd md pr bk (stR (stR (stR (stR (stR B 26 dc 0) 25 dc (nI (at0 + 1))) 24 dc (nI v49)) 27 dc (-1)) 28 dc (-1)) := (PS.same hps65 (by omega) (by omega) (fun r i q1 q2 q3 => st_ne (fun e => by rw [e.1, e.2] at q3; exact absurd (show dc < dc from q3) (by omega))))
          have hfm76 : FrM K T wr (stR (stR (stR (stR (stR B 26 dc 0) 25 dc (nI (at0 + 1))) 24 dc (nI v49)) 27 dc (-1)) 28 dc (-1)) nd md := (FrM.same hfm66 (by omega) (fun j i q1 q2 q3 => st_ne (by omega)) (fun i q => st_ne (by omega)))
          have hlr77 : lsRow ((stR (stR (stR (stR (stR B 26 dc 0) 25 dc (nI (at0 + 1))) 24 dc (nI v49)) 27 dc (-1)) 28 dc (-1)) 22) ((stR (stR (stR (stR (stR B 26 dc 0) 25 dc (nI (at0 + 1))) 24 dc (nI v49)) 27 dc (-1)) 28 dc (-1)) 23) lz T := hlr67
          have hce78 : (stR (stR (stR (stR (stR B 26 dc 0) 25 dc (nI (at0 + 1))) 24 dc (nI v49)) 27 dc (-1)) 28 dc (-1)) 28 dc = (-1) := st_eq
          refine lv_aload_n hx hb dX12_declaration_122 rfl (lv_at hl 2 rfl) ?_
          refine r_get (v := .ref (a 29)) hx hb hown hq hE hP 41 99 tFX12_41 (by decide) pw_1460 rfl dX12_declaration_123 ?_
          refine lv_iload_n hx hb dX12_declaration_126 rfl (lv_at hl 0 rfl) ?_
          refine lv_iconst (v := 0) hx hb dX12_declaration_127 (by decide) ?_
          refine r_sti (f := ((stR (stR (stR (stR (stR B 26 dc 0) 25 dc (nI (at0 + 1))) 24 dc (nI v49)) 27 dc (-1)) 28 dc (-1)) 29)) (j := dc) hx hb hE hP hD hS 29 (ma_29 G a _) rfl (mas_29 G a _) (by omega) (by decide) dX12_declaration_128 (fun H locs hP hD hS => ?_)
          have hP : va_P G.1 pCl (mW G h0 a (upd (upd (upd (upd (upd (upd (upd (upd (upd (upd (upd (upd (upd (upd (upd F 15 0) 16 pl27) 27 (nI nd)) 31 (nI wr)) 34 (nI lz)) 35 (nI dc)) 44 (nI fd)) 49 (nI md)) 59 (nI bk)) 60 (nI pr)) 64 (nI at25)) 65 ne0) 66 (nI lk)) 67 (nI mf)) 68 (nI mm)) (updA (stR (stR (stR (stR (stR (stR B 26 dc 0) 25 dc (nI (at0 + 1))) 24 dc (nI v49)) 27 dc (-1)) 28 dc (-1)) 29 dc 0) 2 K)) _ := hP
          have hD : va_D A (mW G h0 a (upd (upd (upd (upd (upd (upd (upd (upd (upd (upd (upd (upd (upd (upd (upd F 15 0) 16 pl27) 27 (nI nd)) 31 (nI wr)) 34 (nI lz)) 35 (nI dc)) 44 (nI fd)) 49 (nI md)) 59 (nI bk)) 60 (nI pr)) 64 (nI at25)) 65 ne0) 66 (nI lk)) 67 (nI mf)) 68 (nI mm)) (updA (stR (stR (stR (stR (stR (stR B 26 dc 0) 25 dc (nI (at0 + 1))) 24 dc (nI v49)) 27 dc (-1)) 28 dc (-1)) 29 dc 0) 2 K)) := hD
          have hkq79 : Kq B (stR (stR (stR (stR (stR (stR B 26 dc 0) 25 dc (nI (at0 + 1))) 24 dc (nI v49)) 27 dc (-1)) 28 dc (-1)) 29 dc 0) := (Kq.st hkq69 (by omega))
          have hce80 : (stR (stR (stR (stR (stR (stR B 26 dc 0) 25 dc (nI (at0 + 1))) 24 dc (nI v49)) 27 dc (-1)) 28 dc (-1)) 29 dc 0) 26 dc = 0 := ((st_ne (by omega)).trans hce70)
          have hce81 : (stR (stR (stR (stR (stR (stR B 26 dc 0) 25 dc (nI (at0 + 1))) 24 dc (nI v49)) 27 dc (-1)) 28 dc (-1)) 29 dc 0) 25 dc = (nI (at0 + 1)) := ((st_ne (by omega)).trans hce71)
          have hce82 : (stR (stR (stR (stR (stR (stR B 26 dc 0) 25 dc (nI (at0 + 1))) 24 dc (nI v49)) 27 dc (-1)) 28 dc (-1)) 29 dc 0) 24 dc = (nI v49) := ((st_ne (by omega)).trans hce72)
          have hce83 : (stR (stR (stR (stR (stR (stR B 26 dc 0) 25 dc (nI (at0 + 1))) 24 dc (nI v49)) 27 dc (-1)) 28 dc (-1)) 29 dc 0) 27 dc = (-1) := ((st_ne (by omega)).trans hce73)
          have hce84 : (stR (stR (stR (stR (stR (stR B 26 dc 0) 25 dc (nI (at0 + 1))) 24 dc (nI v49)) 27 dc (-1)) 28 dc (-1)) 29 dc 0) 28 dc = (-1) := ((st_ne (by omega)).trans hce78)
          have hty85 : tkRow ((stR (stR (stR (stR (stR (stR B 26 dc 0) 25 dc (nI (at0 + 1))) 24 dc (nI v49)) 27 dc (-1)) 28 dc (-1)) 29 dc 0) 19) wr T := hty74
          have hps86 : PS T nm wr lz dc fd md pr bk (stR (stR (stR (stR (stR (stR B 26 dc 0) 25 dc (nI (at0 + 1))) 24 dc (nI v49)) 27 dc (-1)) 28 dc (-1)) 29 dc 0) := (PS.same hps75 (by omega) (by omega) (fun r i q1 q2 q3 => st_ne (fun e => by rw [e.1, e.2] at q3; exact absurd (show dc < dc from q3) (by omega))))
          have hfm87 : FrM K T wr (stR (stR (stR (stR (stR (stR B 26 dc 0) 25 dc (nI (at0 + 1))) 24 dc (nI v49)) 27 dc (-1)) 28 dc (-1)) 29 dc 0) nd md := (FrM.same hfm76 (by omega) (fun j i q1 q2 q3 => st_ne (by omega)) (fun i q => st_ne (by omega)))
          have hlr88 : lsRow ((stR (stR (stR (stR (stR (stR B 26 dc 0) 25 dc (nI (at0 + 1))) 24 dc (nI v49)) 27 dc (-1)) 28 dc (-1)) 29 dc 0) 22) ((stR (stR (stR (stR (stR (stR B 26 dc 0) 25 dc (nI (at0 + 1))) 24 dc (nI v49)) 27 dc (-1)) 28 dc (-1)) 29 dc 0) 23) lz T := hlr77
          have hce89 : (stR (stR (stR (stR (stR (stR B 26 dc 0) 25 dc (nI (at0 + 1))) 24 dc (nI v49)) 27 dc (-1)) 28 dc (-1)) 29 dc 0) 29 dc = 0 := st_eq
          refine lv_aload_n hx hb dX12_declaration_129 rfl (lv_at hl 2 rfl) ?_
          refine lv_dup hx hb dX12_declaration_130 rfl ?_
          refine r_get (v := .int (nI dc)) hx hb hown hq hE hP 35 384 tFX12_35 (by decide) pw_1732 rfl dX12_declaration_131 ?_
          refine lv_iconst (v := 1) hx hb dX12_declaration_134 (by decide) ?_
          refine lv_iadd hx hb dX12_declaration_135 ?_
          refine lv_topi (fun x90 e91 => ?_)
          obtain rfl : x90 = nI (dc + 1) := e91.trans (nI_add (dc) (1))
          refine r_put (v := (nI (dc + 1))) (ty := .int) hx hb hown hq hE hP hD hS 35 384 tFX12_35 (by decide) pw_1732 (by decide) rfl rfl (ms_35 a _ _) dX12_declaration_136 (fun H locs hP hD hS => ?_)
          have cut_j : ∀ (at2 : Nat) (lz2 : Nat) (pl2 : Int32) (X2 : Nat → Nat → Int32) (H : Heap) (locs : List Loc) (ls : Array Slot), (at0 + 2 ≤ at2) → (at2 ≤ T) → (lz ≤ lz2 ∧ lz2 ≤ at2) → (Kq B X2) → (PS T nm wr lz2 (dc + 1) fd md pr bk X2) → (FrM K T wr X2 nd md) → (tkRow (X2 19) wr T) → (lsRow (X2 22) (X2 23) lz2 T) → va_P G.1 pCl (mW G h0 a (upd (upd (upd (upd (upd (upd (upd (upd (upd (upd (upd (upd (upd (upd (upd F 15 0) 16 pl2) 27 (nI nd)) 31 (nI wr)) 34 (nI lz2)) 35 (nI (dc + 1))) 44 (nI fd)) 49 (nI md)) 59 (nI bk)) 60 (nI pr)) 64 (nI at2)) 65 ne0) 66 (nI lk)) 67 (nI mf)) 68 (nI mm)) (updA X2 2 K)) H → va_D A (mW G h0 a (upd (upd (upd (upd (upd (upd (upd (upd (upd (upd (upd (upd (upd (upd (upd F 15 0) 16 pl2) 27 (nI nd)) 31 (nI wr)) 34 (nI lz2)) 35 (nI (dc + 1))) 44 (nI fd)) 49 (nI md)) 59 (nI bk)) 60 (nI pr)) 64 (nI at2)) 65 ne0) 66 (nI lk)) 67 (nI mf)) 68 (nI mm)) (updA X2 2 K)) → va_S A s.heap H locs → lv_has ls 3 [(2, .int (nI dc)), (0, .ref h0)] → W p l e (headSpec (Cond.code yX12_declaration cX12_declaration 3 none :: pw) ({ frames := 644, cells := 0, slots := 0, locals := 50200 } : Room)).room s m ([.ref h0] : List Value).toArray below meth c H locs 0 0 (MQ below (pQ G A (fun (v : Option Value) (u : Nat × Nat × Int32 × Nat × Nat × Nat × Nat × Nat × Nat × Nat × Nat × Nat × Nat × Int32 × (Nat → Nat → Int32)) => v = none ∧ (at0 ≤ u.1) ∧ (u.1 ≤ T) ∧ (u.2.1 ≤ 100) ∧ (at0 + 1 ≤ u.1 + u.2.1) ∧ (Kq B u.2.2.2.2.2.2.2.2.2.2.2.2.2.2) ∧ (If (u.2.1 = 0) ((u.2.2.2.1 ≤ 2 * u.1 ∧ u.2.2.2.2.1 ≤ u.1 ∧ u.2.2.2.2.2.1 ≤ u.1 ∧ u.2.2.2.2.2.2.2.2.2.1 ≤ u.1 ∧ u.2.2.2.2.2.2.1 ≤ 37 ∧ dc ≤ u.2.2.2.2.2.2.1 ∧ u.2.2.2.2.2.2.2.2.2.2.1 ≤ u.2.2.2.2.2.2.2.2.1 ∧ wr ≤ u.2.2.2.2.1 ∧ lz ≤ u.2.2.2.2.2.1) ∧ (u.2.2.2.2.2.2.2.2.1 + 210 ≤ 30 * u.2.2.2.2.2.2.1 ∧ u.2.2.2.2.2.2.2.1 + 140 ≤ 20 * u.2.2.2.2.2.2.1 ∧ u.2.2.2.2.2.2.1 ≤ 37 ∧ 7 ≤ u.2.2.2.2.2.2.1 ∧ u.2.2.2.2.2.2.1 ≤ dc + 1) ∧ PS T nm u.2.2.2.2.1 u.2.2.2.2.2.1 u.2.2.2.2.2.2.1 u.2.2.2.2.2.2.2.1 u.2.2.2.2.2.2.2.2.1 u.2.2.2.2.2.2.2.2.2.1 u.2.2.2.2.2.2.2.2.2.2.1 u.2.2.2.2.2.2.2.2.2.2.2.2.2.2 ∧ FrM K T u.2.2.2.2.1 u.2.2.2.2.2.2.2.2.2.2.2.2.2.2 u.2.2.2.1 u.2.2.2.2.2.2.2.2.1 ∧ tkRow (u.2.2.2.2.2.2.2.2.2.2.2.2.2.2 19) u.2.2.2.2.1 T ∧ lsRow (u.2.2.2.2.2.2.2.2.2.2.2.2.2.2 22) (u.2.2.2.2.2.2.2.2.2.2.2.2.2.2 23) u.2.2.2.2.2.1 T))) (fun u => (mW G h0 a (upd (upd (upd (upd (upd (upd (upd (upd (upd (upd (upd (upd (upd (upd (upd F 15 (nI u.2.1)) 16 u.2.2.1) 27 (nI u.2.2.2.1)) 31 (nI u.2.2.2.2.1)) 34 (nI u.2.2.2.2.2.1)) 35 (nI u.2.2.2.2.2.2.1)) 44 (nI u.2.2.2.2.2.2.2.1)) 49 (nI u.2.2.2.2.2.2.2.2.1)) 59 (nI u.2.2.2.2.2.2.2.2.2.2.1)) 60 (nI u.2.2.2.2.2.2.2.2.2.1)) 64 (nI u.1)) 65 u.2.2.2.2.2.2.2.2.2.2.2.2.2.1) 66 (nI lk)) 67 (nI u.2.2.2.2.2.2.2.2.2.2.2.1)) 68 (nI u.2.2.2.2.2.2.2.2.2.2.2.2.1)) (updA u.2.2.2.2.2.2.2.2.2.2.2.2.2.2 2 K)))) ([.ref h0] : List Value).toArray s ({ frames := 644, cells := 0, slots := 0, locals := 50200 } : Room).cells ({ frames := 644, cells := 0, slots := 0, locals := 50200 } : Room).slots A) (F0 m 237 ls []) := by
            intro at2 lz2 pl2 X2 H locs ls hl1 hl0 hl2 hkq2 hps2 hfm2 hy2 hlr2 hP hD hS hl
            refine lv_aload_n hx hb dX12_declaration_237 rfl (lv_at hl 1 rfl) ?_
            refine lv_bipush (v := 123) hx hb dX12_declaration_238 (by decide) ?_
            have hP : va_P G.1 pCl (mW G h0 a (upd (upd (upd (upd (upd (upd (upd (upd (upd (upd (upd (upd (upd (upd (upd (upd (upd F 15 0) 16 pl2) 27 (nI nd)) 31 (nI wr)) 34 (nI lz2)) 35 (nI (dc + 1))) 44 (nI fd)) 49 (nI md)) 59 (nI bk)) 60 (nI pr)) 64 (nI at2)) 65 ne0) 66 (nI lk)) 67 (nI mf)) 68 (nI mm)) 15 (nI 0)) 64 (nI at2)) (updA (updA X2 2 K) 2 K)) _ := hP
            have hD : va_D A (mW G h0 a (upd (upd (upd (upd (upd (upd (upd (upd (upd (upd (upd (upd (upd (upd (upd (upd (upd F 15 0) 16 pl2) 27 (nI nd)) 31 (nI wr)) 34 (nI lz2)) 35 (nI (dc + 1))) 44 (nI fd)) 49 (nI md)) 59 (nI bk)) 60 (nI pr)) 64 (nI at2)) 65 ne0) 66 (nI lk)) 67 (nI mf)) 68 (nI mm)) 15 (nI 0)) 64 (nI at2)) (updA (updA X2 2 K) 2 K)) := hD
            refine pc_V0 (G := G) (As := [.int 123]) (rest := []) hx hb hml hown hq hE hX pX0_al hP hD hS hA hl.1 (R_take l G h0 a (upd (upd (upd (upd (upd (upd (upd (upd (upd (upd (upd (upd (upd (upd (upd F 15 0) 16 pl2) 27 (nI nd)) 31 (nI wr)) 34 (nI lz2)) 35 (nI (dc + 1))) 44 (nI fd)) 49 (nI md)) 59 (nI bk)) 60 (nI pr)) 64 (nI at2)) 65 ne0) 66 (nI lk)) 67 (nI mf)) 68 (nI mm)) (updA X2 2 K) at2 T 0 K 123 (by omega) (by omega) hK (by omega) (by decide) (by decide)) (gV pw_1614 pw_1615 pw_1616 pw_1523 pw_1601) hV_X12_take 0 9 rfl rfl rfl rfl (Nat.le_of_ble_eq_true rfl) dX12_declaration_240 ⟨Nat.le_of_ble_eq_true rfl, Nat.le_of_ble_eq_true rfl⟩ ⟨Nat.le_of_ble_eq_true rfl, Nat.le_of_ble_eq_true rfl⟩ (fun v94 u92 H locs hw93 hP hD hS => ?_)
            obtain ⟨at95, fa96, pl97⟩ := u92
            obtain ⟨hw93, h98, h99, h100, h101, h102, h103, h104, h105⟩ := hw93
            replace h98 : at2 ≤ at95 := h98
            replace h99 : at95 ≤ T := h99
            replace h100 : 0 ≤ fa96 := h100
            replace h101 : fa96 ≤ 100 := h101
            replace h102 : If (0 < 0) (at95 = at2 ∧ fa96 = 0) := h102
            replace h103 : at95 ≤ at2 + 1 := h103
            replace h104 : at2 + 1 ≤ at95 + fa96 := h104
            replace h105 : If (fa96 = 0) (K at2 = 123) := h105
            obtain rfl : v94 = none := hw93
            have hP : va_P G.1 pCl (mW G h0 a (upd (upd (upd (upd (upd (upd (upd (upd (upd (upd (upd (upd (upd (upd (upd F 15 (nI fa96)) 16 pl97) 27 (nI nd)) 31 (nI wr)) 34 (nI lz2)) 35 (nI (dc + 1))) 44 (nI fd)) 49 (nI md)) 59 (nI bk)) 60 (nI pr)) 64 (nI at95)) 65 ne0) 66 (nI lk)) 67 (nI mf)) 68 (nI mm)) (updA X2 2 K)) _ := hP
            have hD : va_D A (mW G h0 a (upd (upd (upd (upd (upd (upd (upd (upd (upd (upd (upd (upd (upd (upd (upd F 15 (nI fa96)) 16 pl97) 27 (nI nd)) 31 (nI wr)) 34 (nI lz2)) 35 (nI (dc + 1))) 44 (nI fd)) 49 (nI md)) 59 (nI bk)) 60 (nI pr)) 64 (nI at95)) 65 ne0) 66 (nI lk)) 67 (nI mf)) 68 (nI mm)) (updA X2 2 K)) := hD
            refine W.widen (k := 0) (n := 0) (Nat.le_of_ble_eq_true rfl) (Nat.le_of_ble_eq_true rfl) ?_
            refine W.eq (g2 := F0 m 243 ls []) rfl ?_
            rcases Nat.eq_zero_or_pos fa96 with e106 | e106
            · subst e106
              have hP : va_P G.1 pCl (mW G h0 a (upd (upd (upd (upd (upd (upd (upd (upd (upd (upd (upd (upd (upd (upd (upd F 15 0) 16 pl97) 27 (nI nd)) 31 (nI wr)) 34 (nI lz2)) 35 (nI (dc + 1))) 44 (nI fd)) 49 (nI md)) 59 (nI bk)) 60 (nI pr)) 64 (nI at95)) 65 ne0) 66 (nI lk)) 67 (nI mf)) 68 (nI mm)) (updA X2 2 K)) _ := hP
              have hD : va_D A (mW G h0 a (upd (upd (upd (upd (upd (upd (upd (upd (upd (upd (upd (upd (upd (upd (upd F 15 0) 16 pl97) 27 (nI nd)) 31 (nI wr)) 34 (nI lz2)) 35 (nI (dc + 1))) 44 (nI fd)) 49 (nI md)) 59 (nI bk)) 60 (nI pr)) 64 (nI at95)) 65 ne0) 66 (nI lk)) 67 (nI mf)) 68 (nI mm)) (updA X2 2 K)) := hD
              refine lv_aload_n hx hb dX12_declaration_243 rfl (lv_at hl 1 rfl) ?_
              refine lv_iconst (v := 0) hx hb dX12_declaration_244 (by decide) ?_
              refine r_put (v := 0) (ty := .int) hx hb hown hq hE hP hD hS 67 390 tFX12_67 (by decide) pw_1726 (by decide) rfl rfl (ms_67 a _ _) dX12_declaration_245 (fun H locs hP hD hS => ?_)
              refine lv_aload_n hx hb dX12_declaration_248 rfl (lv_at hl 1 rfl) ?_
              refine lv_iconst (v := 0) hx hb dX12_declaration_249 (by decide) ?_
              refine r_put (v := 0) (ty := .int) hx hb hown hq hE hP hD hS 68 393 tFX12_68 (by decide) pw_1722 (by decide) rfl rfl (ms_68 a _ _) dX12_declaration_250 (fun H locs hP hD hS => ?_)
              have loop_o : ∀ (n_o : Nat) (at3 : Nat) (nd3 : Nat) (wr3 : Nat) (lz3 : Nat) (fd3 : Nat) (md3 : Nat) (pr3 : Nat) (bk3 : Nat) (mf3 : Nat) (mm3 : Nat) (pl3 : Int32) (ne3 : Int32) (X3 : Nat → Nat → Int32) (H : Heap) (locs : List Loc) (ls : Array Slot), at3 ≤ T → T + 1 ≤ at3 + n_o → (at0 + 3 ≤ at3) → (nd3 ≤ 2 * at3 ∧ wr3 ≤ at3 ∧ lz3 ≤ at3 ∧ pr3 ≤ at3 ∧ bk3 ≤ md3 ∧ wr ≤ wr3 ∧ lz ≤ lz3) → (md3 + 240 ≤ 30 * (dc + 1) + mm3 ∧ fd3 + 160 ≤ 20 * (dc + 1) + mf3 ∧ mf3 ≤ 20 ∧ mm3 ≤ 30) → (dc + 1 ≤ 37) → (Kq B X3) → (PS T nm wr3 lz3 (dc + 1) fd3 md3 pr3 bk3 X3) → (FrM K T wr3 X3 nd3 md3) → (tkRow (X3 19) wr3 T) → (lsRow (X3 22) (X3 23) lz3 T) → va_P G.1 pCl (mW G h0 a (upd (upd (upd (upd (upd (upd (upd (upd (upd (upd (upd (upd (upd (upd (upd F 15 0) 16 pl3) 27 (nI nd3)) 31 (nI wr3)) 34 (nI lz3)) 35 (nI (dc + 1))) 44 (nI fd3)) 49 (nI md3)) 59 (nI bk3)) 60 (nI pr3)) 64 (nI at3)) 65 ne3) 66 (nI lk)) 67 (nI mf3)) 68 (nI mm3)) (updA X3 2 K)) H → va_D A (mW G h0 a (upd (upd (upd (upd (upd (upd (upd (upd (upd (upd (upd (upd (upd (upd (upd F 15 0) 16 pl3) 27 (nI nd3)) 31 (nI wr3)) 34 (nI lz3)) 35 (nI (dc + 1))) 44 (nI fd3)) 49 (nI md3)) 59 (nI bk3)) 60 (nI pr3)) 64 (nI at3)) 65 ne3) 66 (nI lk)) 67 (nI mf3)) 68 (nI mm3)) (updA X3 2 K)) → va_S A s.heap H locs → lv_has ls 3 [(2, .int (nI dc)), (0, .ref h0)] → W p l e (headSpec (Cond.code yX12_declaration cX12_declaration 3 none :: pw) ({ frames := 644, cells := 0, slots := 0, locals := 50200 } : Room)).room s m ([.ref h0] : List Value).toArray below meth c H locs 0 0 (MQ below (pQ G A (fun (v : Option Value) (u : Nat × Nat × Int32 × Nat × Nat × Nat × Nat × Nat × Nat × Nat × Nat × Nat × Nat × Int32 × (Nat → Nat → Int32)) => v = none ∧ (at0 ≤ u.1) ∧ (u.1 ≤ T) ∧ (u.2.1 ≤ 100) ∧ (at0 + 1 ≤ u.1 + u.2.1) ∧ (Kq B u.2.2.2.2.2.2.2.2.2.2.2.2.2.2) ∧ (If (u.2.1 = 0) ((u.2.2.2.1 ≤ 2 * u.1 ∧ u.2.2.2.2.1 ≤ u.1 ∧ u.2.2.2.2.2.1 ≤ u.1 ∧ u.2.2.2.2.2.2.2.2.2.1 ≤ u.1 ∧ u.2.2.2.2.2.2.1 ≤ 37 ∧ dc ≤ u.2.2.2.2.2.2.1 ∧ u.2.2.2.2.2.2.2.2.2.2.1 ≤ u.2.2.2.2.2.2.2.2.1 ∧ wr ≤ u.2.2.2.2.1 ∧ lz ≤ u.2.2.2.2.2.1) ∧ (u.2.2.2.2.2.2.2.2.1 + 210 ≤ 30 * u.2.2.2.2.2.2.1 ∧ u.2.2.2.2.2.2.2.1 + 140 ≤ 20 * u.2.2.2.2.2.2.1 ∧ u.2.2.2.2.2.2.1 ≤ 37 ∧ 7 ≤ u.2.2.2.2.2.2.1 ∧ u.2.2.2.2.2.2.1 ≤ dc + 1) ∧ PS T nm u.2.2.2.2.1 u.2.2.2.2.2.1 u.2.2.2.2.2.2.1 u.2.2.2.2.2.2.2.1 u.2.2.2.2.2.2.2.2.1 u.2.2.2.2.2.2.2.2.2.1 u.2.2.2.2.2.2.2.2.2.2.1 u.2.2.2.2.2.2.2.2.2.2.2.2.2.2 ∧ FrM K T u.2.2.2.2.1 u.2.2.2.2.2.2.2.2.2.2.2.2.2.2 u.2.2.2.1 u.2.2.2.2.2.2.2.2.1 ∧ tkRow (u.2.2.2.2.2.2.2.2.2.2.2.2.2.2 19) u.2.2.2.2.1 T ∧ lsRow (u.2.2.2.2.2.2.2.2.2.2.2.2.2.2 22) (u.2.2.2.2.2.2.2.2.2.2.2.2.2.2 23) u.2.2.2.2.2.1 T))) (fun u => (mW G h0 a (upd (upd (upd (upd (upd (upd (upd (upd (upd (upd (upd (upd (upd (upd (upd F 15 (nI u.2.1)) 16 u.2.2.1) 27 (nI u.2.2.2.1)) 31 (nI u.2.2.2.2.1)) 34 (nI u.2.2.2.2.2.1)) 35 (nI u.2.2.2.2.2.2.1)) 44 (nI u.2.2.2.2.2.2.2.1)) 49 (nI u.2.2.2.2.2.2.2.2.1)) 59 (nI u.2.2.2.2.2.2.2.2.2.2.1)) 60 (nI u.2.2.2.2.2.2.2.2.2.1)) 64 (nI u.1)) 65 u.2.2.2.2.2.2.2.2.2.2.2.2.2.1) 66 (nI lk)) 67 (nI u.2.2.2.2.2.2.2.2.2.2.2.1)) 68 (nI u.2.2.2.2.2.2.2.2.2.2.2.2.1)) (updA u.2.2.2.2.2.2.2.2.2.2.2.2.2.2 2 K)))) ([.ref h0] : List Value).toArray s ({ frames := 644, cells := 0, slots := 0, locals := 50200 } : Room).cells ({ frames := 644, cells := 0, slots := 0, locals := 50200 } : Room).slots A) (F0 m 253 ls []) := by
                intro n_o
                induction n_o with
                | zero => intro at3 nd3 wr3 lz3 fd3 md3 pr3 bk3 mf3 mm3 pl3 ne3 X3 H locs ls hk_o hn_o; omega
                | succ n_o ih_o =>
                  intro at3 nd3 wr3 lz3 fd3 md3 pr3 bk3 mf3 mm3 pl3 ne3 X3 H locs ls hk_o hn_o hm1 hm2 hm3 hm4 hkq3 hps3 hfm3 hy3 hlr3 hP hD hS hl
                  refine lv_aload_n hx hb dX12_declaration_253 rfl (lv_at hl 1 rfl) ?_
                  refine r_get (v := .int 0) hx hb hown hq hE hP 15 350 tFX12_15 (by decide) pw_1594 rfl dX12_declaration_254 ?_
                  refine lv_if_ne (tgt := 277) hx hb dX12_declaration_257 (by decide) (fun c107 => absurd c107 (by decide)) (fun c107 => ?_)
                  refine lv_aload_n hx hb dX12_declaration_260 rfl (lv_at hl 1 rfl) ?_
                  have hP : va_P G.1 pCl (mW G h0 a (upd (upd (upd (upd (upd (upd (upd (upd (upd (upd (upd (upd (upd (upd (upd (upd (upd F 15 0) 16 pl3) 27 (nI nd3)) 31 (nI wr3)) 34 (nI lz3)) 35 (nI (dc + 1))) 44 (nI fd3)) 49 (nI md3)) 59 (nI bk3)) 60 (nI pr3)) 64 (nI at3)) 65 ne3) 66 (nI lk)) 67 (nI mf3)) 68 (nI mm3)) 15 (nI 0)) 64 (nI at3)) (updA (updA X3 2 K) 2 K)) _ := hP
                  have hD : va_D A (mW G h0 a (upd (upd (upd (upd (upd (upd (upd (upd (upd (upd (upd (upd (upd (upd (upd (upd (upd F 15 0) 16 pl3) 27 (nI nd3)) 31 (nI wr3)) 34 (nI lz3)) 35 (nI (dc + 1))) 44 (nI fd3)) 49 (nI md3)) 59 (nI bk3)) 60 (nI pr3)) 64 (nI at3)) 65 ne3) 66 (nI lk)) 67 (nI mf3)) 68 (nI mm3)) 15 (nI 0)) 64 (nI at3)) (updA (updA X3 2 K) 2 K)) := hD
                  refine pc_V0 (G := G) (As := []) (rest := []) hx hb hml hown hq hE hX pX0_al hP hD hS hA hl.1 (R_kind l G h0 a (upd (upd (upd (upd (upd (upd (upd (upd (upd (upd (upd (upd (upd (upd (upd F 15 0) 16 pl3) 27 (nI nd3)) 31 (nI wr3)) 34 (nI lz3)) 35 (nI (dc + 1))) 44 (nI fd3)) 49 (nI md3)) 59 (nI bk3)) 60 (nI pr3)) 64 (nI at3)) 65 ne3) 66 (nI lk)) 67 (nI mf3)) 68 (nI mm3)) (updA X3 2 K) at3 T 0 K (by omega) (by omega) hK (by omega)) (gV pw_1626 pw_1627 pw_1628 pw_1523 pw_1591) hV_X12_kind 0 9 rfl rfl rfl rfl (Nat.le_of_ble_eq_true rfl) dX12_declaration_261 ⟨Nat.le_of_ble_eq_true rfl, Nat.le_of_ble_eq_true rfl⟩ ⟨Nat.le_of_ble_eq_true rfl, Nat.le_of_ble_eq_true rfl⟩ (fun v110 u108 H locs hw109 hP hD hS => ?_)
                  obtain rfl : v110 = some (.int (K at3)) := hw109
                  have hP : va_P G.1 pCl (mW G h0 a (upd (upd (upd (upd (upd (upd (upd (upd (upd (upd (upd (upd (upd (upd (upd F 15 0) 16 pl3) 27 (nI nd3)) 31 (nI wr3)) 34 (nI lz3)) 35 (nI (dc + 1))) 44 (nI fd3)) 49 (nI md3)) 59 (nI bk3)) 60 (nI pr3)) 64 (nI at3)) 65 ne3) 66 (nI lk)) 67 (nI mf3)) 68 (nI mm3)) (updA X3 2 K)) _ := hP
                  have hD : va_D A (mW G h0 a (upd (upd (upd (upd (upd (upd (upd (upd (upd (upd (upd (upd (upd (upd (upd F 15 0) 16 pl3) 27 (nI nd3)) 31 (nI wr3)) 34 (nI lz3)) 35 (nI (dc + 1))) 44 (nI fd3)) 49 (nI md3)) 59 (nI bk3)) 60 (nI pr3)) 64 (nI at3)) 65 ne3) 66 (nI lk)) 67 (nI mf3)) 68 (nI mm3)) (updA X3 2 K)) := hD
                  refine W.widen (k := 0) (n := 0) (Nat.le_of_ble_eq_true rfl) (Nat.le_of_ble_eq_true rfl) ?_
                  refine W.eq (g2 := F0 m 264 ls [.int (K at3)]) rfl ?_
                  refine lv_bipush (v := 125) hx hb dX12_declaration_264 (by decide) ?_
                  refine lv_icmp_eq (tgt := 277) hx hb dX12_declaration_266 (by decide) (fun c111 => ?_) (fun c111 => ?_)
                  · refine lv_aload_n hx hb dX12_declaration_277 rfl (lv_at hl 1 rfl) ?_
                    refine lv_bipush (v := 125) hx hb dX12_declaration_278 (by decide) ?_
                    have hP : va_P G.1 pCl (mW G h0 a (upd (upd (upd (upd (upd (upd (upd (upd (upd (upd (upd (upd (upd (upd (upd (upd (upd F 15 0) 16 pl3) 27 (nI nd3)) 31 (nI wr3)) 34 (nI lz3)) 35 (nI (dc + 1))) 44 (nI fd3)) 49 (nI md3)) 59 (nI bk3)) 60 (nI pr3)) 64 (nI at3)) 65 ne3) 66 (nI lk)) 67 (nI mf3)) 68 (nI mm3)) 15 (nI 0)) 64 (nI at3)) (updA (updA X3 2 K) 2 K)) _ := hP
                    have hD : va_D A (mW G h0 a (upd (upd (upd (upd (upd (upd (upd (upd (upd (upd (upd (upd (upd (upd (upd (upd (upd F 15 0) 16 pl3) 27 (nI nd3)) 31 (nI wr3)) 34 (nI lz3)) 35 (nI (dc + 1))) 44 (nI fd3)) 49 (nI md3)) 59 (nI bk3)) 60 (nI pr3)) 64 (nI at3)) 65 ne3) 66 (nI lk)) 67 (nI mf3)) 68 (nI mm3)) 15 (nI 0)) 64 (nI at3)) (updA (updA X3 2 K) 2 K)) := hD
                    refine pc_V0 (G := G) (As := [.int 125]) (rest := []) hx hb hml hown hq hE hX pX0_al hP hD hS hA hl.1 (R_take l G h0 a (upd (upd (upd (upd (upd (upd (upd (upd (upd (upd (upd (upd (upd (upd (upd F 15 0) 16 pl3) 27 (nI nd3)) 31 (nI wr3)) 34 (nI lz3)) 35 (nI (dc + 1))) 44 (nI fd3)) 49 (nI md3)) 59 (nI bk3)) 60 (nI pr3)) 64 (nI at3)) 65 ne3) 66 (nI lk)) 67 (nI mf3)) 68 (nI mm3)) (updA X3 2 K) at3 T 0 K 125 (by omega) (by omega) hK (by omega) (by decide) (by decide)) (gV pw_1614 pw_1615 pw_1616 pw_1523 pw_1601) hV_X12_take 0 9 rfl rfl rfl rfl (Nat.le_of_ble_eq_true rfl) dX12_declaration_280 ⟨Nat.le_of_ble_eq_true rfl, Nat.le_of_ble_eq_true rfl⟩ ⟨Nat.le_of_ble_eq_true rfl, Nat.le_of_ble_eq_true rfl⟩ (fun v114 u112 H locs hw113 hP hD hS => ?_)
                    obtain ⟨at115, fa116, pl117⟩ := u112
                    obtain ⟨hw113, h118, h119, h120, h121, h122, h123, h124, h125⟩ := hw113
                    replace h118 : at3 ≤ at115 := h118
                    replace h119 : at115 ≤ T := h119
                    replace h120 : 0 ≤ fa116 := h120
                    replace h121 : fa116 ≤ 100 := h121
                    replace h122 : If (0 < 0) (at115 = at3 ∧ fa116 = 0) := h122
                    replace h123 : at115 ≤ at3 + 1 := h123
                    replace h124 : at3 + 1 ≤ at115 + fa116 := h124
                    replace h125 : If (fa116 = 0) (K at3 = 125) := h125
                    obtain rfl : v114 = none := hw113
                    have hP : va_P G.1 pCl (mW G h0 a (upd (upd (upd (upd (upd (upd (upd (upd (upd (upd (upd (upd (upd (upd (upd F 15 (nI fa116)) 16 pl117) 27 (nI nd3)) 31 (nI wr3)) 34 (nI lz3)) 35 (nI (dc + 1))) 44 (nI fd3)) 49 (nI md3)) 59 (nI bk3)) 60 (nI pr3)) 64 (nI at115)) 65 ne3) 66 (nI lk)) 67 (nI mf3)) 68 (nI mm3)) (updA X3 2 K)) _ := hP
                    have hD : va_D A (mW G h0 a (upd (upd (upd (upd (upd (upd (upd (upd (upd (upd (upd (upd (upd (upd (upd F 15 (nI fa116)) 16 pl117) 27 (nI nd3)) 31 (nI wr3)) 34 (nI lz3)) 35 (nI (dc + 1))) 44 (nI fd3)) 49 (nI md3)) 59 (nI bk3)) 60 (nI pr3)) 64 (nI at115)) 65 ne3) 66 (nI lk)) 67 (nI mf3)) 68 (nI mm3)) (updA X3 2 K)) := hD
                    refine W.widen (k := 0) (n := 0) (Nat.le_of_ble_eq_true rfl) (Nat.le_of_ble_eq_true rfl) ?_
                    refine W.eq (g2 := F0 m 283 ls []) rfl ?_
                    rcases Nat.eq_zero_or_pos fa116 with e126 | e126
                    · subst e126
                      have hP : va_P G.1 pCl (mW G h0 a (upd (upd (upd (upd (upd (upd (upd (upd (upd (upd (upd (upd (upd (upd (upd F 15 0) 16 pl117) 27 (nI nd3)) 31 (nI wr3)) 34 (nI lz3)) 35 (nI (dc + 1))) 44 (nI fd3)) 49 (nI md3)) 59 (nI bk3)) 60 (nI pr3)) 64 (nI at115)) 65 ne3) 66 (nI lk)) 67 (nI mf3)) 68 (nI mm3)) (updA X3 2 K)) _ := hP
                      have hD : va_D A (mW G h0 a (upd (upd (upd (upd (upd (upd (upd (upd (upd (upd (upd (upd (upd (upd (upd F 15 0) 16 pl117) 27 (nI nd3)) 31 (nI wr3)) 34 (nI lz3)) 35 (nI (dc + 1))) 44 (nI fd3)) 49 (nI md3)) 59 (nI bk3)) 60 (nI pr3)) 64 (nI at115)) 65 ne3) 66 (nI lk)) 67 (nI mf3)) 68 (nI mm3)) (updA X3 2 K)) := hD
                      have hz127 : at0 ≤ at115 := (by omega)
                      have hz128 : at115 ≤ T := (by omega)
                      have hz129 : 0 ≤ 100 := (by omega)
                      have hz130 : at0 + 1 ≤ at115 + 0 := (by omega)
                      have hz131 : Kq B X3 := hkq3
                      have hz132 : If (0 = 0) ((nd3 ≤ 2 * at115 ∧ wr3 ≤ at115 ∧ lz3 ≤ at115 ∧ pr3 ≤ at115 ∧ (dc + 1) ≤ 37 ∧ dc ≤ (dc + 1) ∧ bk3 ≤ md3 ∧ wr ≤ wr3 ∧ lz ≤ lz3) ∧ (md3 + 210 ≤ 30 * (dc + 1) ∧ fd3 + 140 ≤ 20 * (dc + 1) ∧ (dc + 1) ≤ 37 ∧ 7 ≤ (dc + 1) ∧ (dc + 1) ≤ dc + 1) ∧ PS T nm wr3 lz3 (dc + 1) fd3 md3 pr3 bk3 X3 ∧ FrM K T wr3 X3 nd3 md3 ∧ tkRow (X3 19) wr3 T ∧ lsRow (X3 22) (X3 23) lz3 T) := (fun _ => ⟨by omega, by omega, hps3, hfm3, hy3, hlr3⟩)
                      have hP : va_P G.1 pCl (mW G h0 a (upd (upd (upd (upd (upd (upd (upd (upd (upd (upd (upd (upd (upd (upd (upd F 15 (nI 0)) 16 pl117) 27 (nI nd3)) 31 (nI wr3)) 34 (nI lz3)) 35 (nI (dc + 1))) 44 (nI fd3)) 49 (nI md3)) 59 (nI bk3)) 60 (nI pr3)) 64 (nI at115)) 65 ne3) 66 (nI lk)) 67 (nI mf3)) 68 (nI mm3)) (updA X3 2 K)) _ := hP
                      have hD : va_D A (mW G h0 a (upd (upd (upd (upd (upd (upd (upd (upd (upd (upd (upd (upd (upd (upd (upd F 15 (nI 0)) 16 pl117) 27 (nI nd3)) 31 (nI wr3)) 34 (nI lz3)) 35 (nI (dc + 1))) 44 (nI fd3)) 49 (nI md3)) 59 (nI bk3)) 60 (nI pr3)) 64 (nI at115)) 65 ne3) 66 (nI lk)) 67 (nI mf3)) 68 (nI mm3)) (updA X3 2 K)) := hD
                      exact W.vret hx hb hr (fun t9 ht9 hW9 => ⟨⟨_, (at115, 0, pl117, nd3, wr3, lz3, (dc + 1), fd3, md3, pr3, bk3, mf3, mm3, ne3, X3), rfl, ⟨rfl, hz127, hz128, hz129, hz130, hz131, hz132⟩, by rw [ht9]; exact hP, hD⟩, hS.F ht9⟩) hS.2.2 dX12_declaration_283
                    · have e126 := e126
                      have hz133 : at0 ≤ at115 := (by omega)
                      have hz134 : at115 ≤ T := (by omega)
                      have hz135 : fa116 ≤ 100 := (by omega)
                      have hz136 : at0 + 1 ≤ at115 + fa116 := (by omega)
                      have hz137 : Kq B X3 := hkq3
                      have hz138 : If (fa116 = 0) ((nd3 ≤ 2 * at115 ∧ wr3 ≤ at115 ∧ lz3 ≤ at115 ∧ pr3 ≤ at115 ∧ (dc + 1) ≤ 37 ∧ dc ≤ (dc + 1) ∧ bk3 ≤ md3 ∧ wr ≤ wr3 ∧ lz ≤ lz3) ∧ (md3 + 210 ≤ 30 * (dc + 1) ∧ fd3 + 140 ≤ 20 * (dc + 1) ∧ (dc + 1) ≤ 37 ∧ 7 ≤ (dc + 1) ∧ (dc + 1) ≤ dc + 1) ∧ PS T nm wr3 lz3 (dc + 1) fd3 md3 pr3 bk3 X3 ∧ FrM K T wr3 X3 nd3 md3 ∧ tkRow (X3 19) wr3 T ∧ lsRow (X3 22) (X3 23) lz3 T) := (fun e => absurd e (by omega))
                      have hP : va_P G.1 pCl (mW G h0 a (upd (upd (upd (upd (upd (upd (upd (upd (upd (upd (upd (upd (upd (upd (upd F 15 (nI fa116)) 16 pl117) 27 (nI nd3)) 31 (nI wr3)) 34 (nI lz3)) 35 (nI (dc + 1))) 44 (nI fd3)) 49 (nI md3)) 59 (nI bk3)) 60 (nI pr3)) 64 (nI at115)) 65 ne3) 66 (nI lk)) 67 (nI mf3)) 68 (nI mm3)) (updA X3 2 K)) _ := hP
                      have hD : va_D A (mW G h0 a (upd (upd (upd (upd (upd (upd (upd (upd (upd (upd (upd (upd (upd (upd (upd F 15 (nI fa116)) 16 pl117) 27 (nI nd3)) 31 (nI wr3)) 34 (nI lz3)) 35 (nI (dc + 1))) 44 (nI fd3)) 49 (nI md3)) 59 (nI bk3)) 60 (nI pr3)) 64 (nI at115)) 65 ne3) 66 (nI lk)) 67 (nI mf3)) 68 (nI mm3)) (updA X3 2 K)) := hD
                      exact W.vret hx hb hr (fun t9 ht9 hW9 => ⟨⟨_, (at115, fa116, pl117, nd3, wr3, lz3, (dc + 1), fd3, md3, pr3, bk3, mf3, mm3, ne3, X3), rfl, ⟨rfl, hz133, hz134, hz135, hz136, hz137, hz138⟩, by rw [ht9]; exact hP, hD⟩, hS.F ht9⟩) hS.2.2 dX12_declaration_283
                  · refine lv_aload_n hx hb dX12_declaration_269 rfl (lv_at hl 1 rfl) ?_
                    refine lv_iload_n hx hb dX12_declaration_270 rfl (lv_at hl 0 rfl) ?_
                    have hP : va_P G.1 pCl (mW G h0 a (upd (upd (upd (upd (upd (upd (upd (upd (upd (upd (upd (upd (upd (upd (upd (upd (upd (upd (upd (upd (upd (upd (upd (upd (upd (upd (upd (upd (upd F 15 0) 16 pl3) 27 (nI nd3)) 31 (nI wr3)) 34 (nI lz3)) 35 (nI (dc + 1))) 44 (nI fd3)) 49 (nI md3)) 59 (nI bk3)) 60 (nI pr3)) 64 (nI at3)) 65 ne3) 66 (nI lk)) 67 (nI mf3)) 68 (nI mm3)) 15 0) 27 (nI nd3)) 31 (nI wr3)) 34 (nI lz3)) 35 (nI (dc + 1))) 44 (nI fd3)) 49 (nI md3)) 59 (nI bk3)) 60 (nI pr3)) 64 (nI at3)) 65 ne3) 66 (nI lk)) 67 (nI mf3)) 68 (nI mm3)) (updA X3 2 K)) _ := hP
                    have hD : va_D A (mW G h0 a (upd (upd (upd (upd (upd (upd (upd (upd (upd (upd (upd (upd (upd (upd (upd (upd (upd (upd (upd (upd (upd (upd (upd (upd (upd (upd (upd (upd (upd F 15 0) 16 pl3) 27 (nI nd3)) 31 (nI wr3)) 34 (nI lz3)) 35 (nI (dc + 1))) 44 (nI fd3)) 49 (nI md3)) 59 (nI bk3)) 60 (nI pr3)) 64 (nI at3)) 65 ne3) 66 (nI lk)) 67 (nI mf3)) 68 (nI mm3)) 15 0) 27 (nI nd3)) 31 (nI wr3)) 34 (nI lz3)) 35 (nI (dc + 1))) 44 (nI fd3)) 49 (nI md3)) 59 (nI bk3)) 60 (nI pr3)) 64 (nI at3)) 65 ne3) 66 (nI lk)) 67 (nI mf3)) 68 (nI mm3)) (updA X3 2 K)) := hD
                    refine pc_V0 (G := G) (As := [.int (nI dc)]) (rest := []) hx hb hml hown hq hE hX pX0_al hP hD hS hA hl.1 (RM_member l G h0 a (upd (upd (upd (upd (upd (upd (upd (upd (upd (upd (upd (upd (upd (upd (upd F 15 0) 16 pl3) 27 (nI nd3)) 31 (nI wr3)) 34 (nI lz3)) 35 (nI (dc + 1))) 44 (nI fd3)) 49 (nI md3)) 59 (nI bk3)) 60 (nI pr3)) 64 (nI at3)) 65 ne3) 66 (nI lk)) 67 (nI mf3)) 68 (nI mm3)) X3 at3 T nm nd3 wr3 lz3 (dc + 1) fd3 md3 pr3 bk3 mf3 mm3 lk ne3 K dc (by omega) (by omega) hK (by rw [hkq3 5 (by omega)]; exact hV) (by omega) (by omega) (by omega) (by omega) (by omega) (by omega) (by omega) (by omega) (by omega) (by omega) (by omega) (by omega) hps3 hfm3 hy3 hlr3) (gV pw_1736 pw_1737 pw_1738 pw_1523 pw_1731) hV_X12_member 0 9 rfl rfl rfl rfl (Nat.le_of_ble_eq_true rfl) dX12_declaration_271 ⟨Nat.le_of_ble_eq_true rfl, Nat.le_of_ble_eq_true rfl⟩ ⟨Nat.le_of_ble_eq_true rfl, Nat.le_of_ble_eq_true rfl⟩ (fun v141 u139 H locs hw140 hP hD hS => ?_)
                    obtain ⟨at142, fa143, pl144, nd145, wr146, lz147, dc148, fd149, md150, pr151, bk152, mf153, mm154, ne155, X156⟩ := u139
                    obtain ⟨hw140, h157, h158, h159, h160, h161, h162⟩ := hw140
                    replace h157 : at3 ≤ at142 := h157
                    replace h158 : at142 ≤ T := h158
                    replace h159 : fa143 ≤ 100 := h159
                    replace h160 : at3 + 1 ≤ at142 + fa143 := h160
                    replace h161 : Kq X3 X156 := h161
                    replace h162 : If (fa143 = 0) ((nd145 ≤ 2 * at142 ∧ wr146 ≤ at142 ∧ lz147 ≤ at142 ∧ pr151 ≤ at142 ∧ dc148 ≤ 37 ∧ (dc + 1) ≤ dc148 ∧ bk152 ≤ md150 ∧ wr3 ≤ wr146 ∧ lz3 ≤ lz147) ∧ (md150 + 240 ≤ 30 * dc148 + mm154 ∧ fd149 + 160 ≤ 20 * dc148 + mf153 ∧ mf153 ≤ 20 ∧ mm154 ≤ 30 ∧ dc148 = (dc + 1)) ∧ PS T nm wr146 lz147 dc148 fd149 md150 pr151 bk152 X156 ∧ FrM K T wr146 X156 nd145 md150 ∧ tkRow (X156 19) wr146 T ∧ lsRow (X156 22) (X156 23) lz147 T) := h162
                    obtain rfl : v141 = none := hw140
                    have hP : va_P G.1 pCl (mW G h0 a (upd (upd (upd (upd (upd (upd (upd (upd (upd (upd (upd (upd (upd (upd (upd F 15 (nI fa143)) 16 pl144) 27 (nI nd145)) 31 (nI wr146)) 34 (nI lz147)) 35 (nI dc148)) 44 (nI fd149)) 49 (nI md150)) 59 (nI bk152)) 60 (nI pr151)) 64 (nI at142)) 65 ne155) 66 (nI lk)) 67 (nI mf153)) 68 (nI mm154)) (updA X156 2 K)) _ := hP
                    have hD : va_D A (mW G h0 a (upd (upd (upd (upd (upd (upd (upd (upd (upd (upd (upd (upd (upd (upd (upd F 15 (nI fa143)) 16 pl144) 27 (nI nd145)) 31 (nI wr146)) 34 (nI lz147)) 35 (nI dc148)) 44 (nI fd149)) 49 (nI md150)) 59 (nI bk152)) 60 (nI pr151)) 64 (nI at142)) 65 ne155) 66 (nI lk)) 67 (nI mf153)) 68 (nI mm154)) (updA X156 2 K)) := hD
                    refine W.widen (k := 0) (n := 0) (Nat.le_of_ble_eq_true rfl) (Nat.le_of_ble_eq_true rfl) ?_
                    refine W.eq (g2 := F0 m 274 ls []) rfl ?_
                    have hkq163 : Kq B X156 := (Kq.trans hkq3 h161)
                    rcases Nat.eq_zero_or_pos fa143 with e164 | e164
                    · subst e164
                      have hP : va_P G.1 pCl (mW G h0 a (upd (upd (upd (upd (upd (upd (upd (upd (upd (upd (upd (upd (upd (upd (upd F 15 0) 16 pl144) 27 (nI nd145)) 31 (nI wr146)) 34 (nI lz147)) 35 (nI dc148)) 44 (nI fd149)) 49 (nI md150)) 59 (nI bk152)) 60 (nI pr151)) 64 (nI at142)) 65 ne155) 66 (nI lk)) 67 (nI mf153)) 68 (nI mm154)) (updA X156 2 K)) _ := hP
                      have hD : va_D A (mW G h0 a (upd (upd (upd (upd (upd (upd (upd (upd (upd (upd (upd (upd (upd (upd (upd F 15 0) 16 pl144) 27 (nI nd145)) 31 (nI wr146)) 34 (nI lz147)) 35 (nI dc148)) 44 (nI fd149)) 49 (nI md150)) 59 (nI bk152)) 60 (nI pr151)) 64 (nI at142)) 65 ne155) 66 (nI lk)) 67 (nI mf153)) 68 (nI mm154)) (updA X156 2 K)) := hD
                      obtain ⟨hq165, hq166, hq167, hq168, hq169, hq170⟩ := h162 rfl
                      obtain rfl : (dc + 1) = dc148 := (by omega)
                      refine lv_goto (tgt := 253) hx hb dX12_declaration_274 (by decide) ?_
                      have hP : va_P G.1 pCl (mW G h0 a (upd (upd (upd (upd (upd (upd (upd (upd (upd (upd (upd (upd (upd (upd (upd F 15 0) 16 pl144) 27 (nI nd145)) 31 (nI wr146)) 34 (nI lz147)) 35 (nI (dc + 1))) 44 (nI fd149)) 49 (nI md150)) 59 (nI bk152)) 60 (nI pr151)) 64 (nI at142)) 65 ne155) 66 (nI lk)) 67 (nI mf153)) 68 (nI mm154)) (updA X156 2 K)) _ := hP
                      have hD : va_D A (mW G h0 a (upd (upd (upd (upd (upd (upd (upd (upd (upd (upd (upd (upd (upd (upd (upd F 15 0) 16 pl144) 27 (nI nd145)) 31 (nI wr146)) 34 (nI lz147)) 35 (nI (dc + 1))) 44 (nI fd149)) 49 (nI md150)) 59 (nI bk152)) 60 (nI pr151)) 64 (nI at142)) 65 ne155) 66 (nI lk)) 67 (nI mf153)) 68 (nI mm154)) (updA X156 2 K)) := hD
                      exact ih_o at142 nd145 wr146 lz147 fd149 md150 pr151 bk152 mf153 mm154 pl144 ne155 X156 _ _ _ (by omega) (by omega) (by omega) (by omega) (by omega) (by omega) hkq163 hq167 hq168 hq169 hq170 hP hD hS (lv_sub hl [0, 1] rfl)
                    · have e164 := e164
                      refine lv_goto (tgt := 253) hx hb dX12_declaration_274 (by decide) ?_
                      refine lv_aload_n hx hb dX12_declaration_253 rfl (lv_at hl 1 rfl) ?_
                      refine r_get (v := .int (nI fa143)) hx hb hown hq hE hP 15 350 tFX12_15 (by decide) pw_1594 rfl dX12_declaration_254 ?_
                      refine lv_if_ne (tgt := 277) hx hb dX12_declaration_257 (by decide) (fun c171 => ?_) (fun c171 => (by have n172 : fa143 = 0 := (nI_eq (a := fa143) (b := 0) (by omega) (by omega)).mp c171; omega))
                      refine lv_aload_n hx hb dX12_declaration_277 rfl (lv_at hl 1 rfl) ?_
                      refine lv_bipush (v := 125) hx hb dX12_declaration_278 (by decide) ?_
                      have hP : va_P G.1 pCl (mW G h0 a (upd (upd (upd (upd (upd (upd (upd (upd (upd (upd (upd (upd (upd (upd (upd (upd (upd F 15 (nI fa143)) 16 pl144) 27 (nI nd145)) 31 (nI wr146)) 34 (nI lz147)) 35 (nI dc148)) 44 (nI fd149)) 49 (nI md150)) 59 (nI bk152)) 60 (nI pr151)) 64 (nI at142)) 65 ne155) 66 (nI lk)) 67 (nI mf153)) 68 (nI mm154)) 15 (nI fa143)) 64 (nI at142)) (updA (updA X156 2 K) 2 K)) _ := hP
                      have hD : va_D A (mW G h0 a (upd (upd (upd (upd (upd (upd (upd (upd (upd (upd (upd (upd (upd (upd (upd (upd (upd F 15 (nI fa143)) 16 pl144) 27 (nI nd145)) 31 (nI wr146)) 34 (nI lz147)) 35 (nI dc148)) 44 (nI fd149)) 49 (nI md150)) 59 (nI bk152)) 60 (nI pr151)) 64 (nI at142)) 65 ne155) 66 (nI lk)) 67 (nI mf153)) 68 (nI mm154)) 15 (nI fa143)) 64 (nI at142)) (updA (updA X156 2 K) 2 K)) := hD
                      refine pc_V0 (G := G) (As := [.int 125]) (rest := []) hx hb hml hown hq hE hX pX0_al hP hD hS hA hl.1 (R_take l G h0 a (upd (upd (upd (upd (upd (upd (upd (upd (upd (upd (upd (upd (upd (upd (upd F 15 (nI fa143)) 16 pl144) 27 (nI nd145)) 31 (nI wr146)) 34 (nI lz147)) 35 (nI dc148)) 44 (nI fd149)) 49 (nI md150)) 59 (nI bk152)) 60 (nI pr151)) 64 (nI at142)) 65 ne155) 66 (nI lk)) 67 (nI mf153)) 68 (nI mm154)) (updA X156 2 K) at142 T fa143 K 125 (by omega) (by omega) hK (by omega) (by decide) (by decide)) (gV pw_1614 pw_1615 pw_1616 pw_1523 pw_1601) hV_X12_take 0 9 rfl rfl rfl rfl (Nat.le_of_ble_eq_true rfl) dX12_declaration_280 ⟨Nat.le_of_ble_eq_true rfl, Nat.le_of_ble_eq_true rfl⟩ ⟨Nat.le_of_ble_eq_true rfl, Nat.le_of_ble_eq_true rfl⟩ (fun v175 u173 H locs hw174 hP hD hS => ?_)
                      obtain ⟨at176, fa177, pl178⟩ := u173
                      obtain ⟨hw174, h179, h180, h181, h182, h183, h184, h185, h186⟩ := hw174
                      replace h179 : at142 ≤ at176 := h179
                      replace h180 : at176 ≤ T := h180
                      replace h181 : fa143 ≤ fa177 := h181
                      replace h182 : fa177 ≤ 100 := h182
                      replace h183 : If (0 < fa143) (at176 = at142 ∧ fa177 = fa143) := h183
                      replace h184 : at176 ≤ at142 + 1 := h184
                      replace h185 : at142 + 1 ≤ at176 + fa177 := h185
                      replace h186 : If (fa177 = 0) (K at142 = 125) := h186
                      obtain rfl : v175 = none := hw174
                      have hP : va_P G.1 pCl (mW G h0 a (upd (upd (upd (upd (upd (upd (upd (upd (upd (upd (upd (upd (upd (upd (upd F 15 (nI fa177)) 16 pl178) 27 (nI nd145)) 31 (nI wr146)) 34 (nI lz147)) 35 (nI dc148)) 44 (nI fd149)) 49 (nI md150)) 59 (nI bk152)) 60 (nI pr151)) 64 (nI at176)) 65 ne155) 66 (nI lk)) 67 (nI mf153)) 68 (nI mm154)) (updA X156 2 K)) _ := hP
                      have hD : va_D A (mW G h0 a (upd (upd (upd (upd (upd (upd (upd (upd (upd (upd (upd (upd (upd (upd (upd F 15 (nI fa177)) 16 pl178) 27 (nI nd145)) 31 (nI wr146)) 34 (nI lz147)) 35 (nI dc148)) 44 (nI fd149)) 49 (nI md150)) 59 (nI bk152)) 60 (nI pr151)) 64 (nI at176)) 65 ne155) 66 (nI lk)) 67 (nI mf153)) 68 (nI mm154)) (updA X156 2 K)) := hD
                      refine W.widen (k := 0) (n := 0) (Nat.le_of_ble_eq_true rfl) (Nat.le_of_ble_eq_true rfl) ?_
                      refine W.eq (g2 := F0 m 283 ls []) rfl ?_
                      obtain ⟨n188, n187⟩ := h183 e164
                      replace n188 := n188.symm
                      subst n188
                      replace n187 := n187.symm
                      subst n187
                      have hz189 : at0 ≤ at142 := (by omega)
                      have hz190 : at142 ≤ T := (by omega)
                      have hz191 : fa143 ≤ 100 := (by omega)
                      have hz192 : at0 + 1 ≤ at142 + fa143 := (by omega)
                      have hz193 : Kq B X156 := hkq163
                      have hz194 : If (fa143 = 0) ((nd145 ≤ 2 * at142 ∧ wr146 ≤ at142 ∧ lz147 ≤ at142 ∧ pr151 ≤ at142 ∧ dc148 ≤ 37 ∧ dc ≤ dc148 ∧ bk152 ≤ md150 ∧ wr ≤ wr146 ∧ lz ≤ lz147) ∧ (md150 + 210 ≤ 30 * dc148 ∧ fd149 + 140 ≤ 20 * dc148 ∧ dc148 ≤ 37 ∧ 7 ≤ dc148 ∧ dc148 ≤ dc + 1) ∧ PS T nm wr146 lz147 dc148 fd149 md150 pr151 bk152 X156 ∧ FrM K T wr146 X156 nd145 md150 ∧ tkRow (X156 19) wr146 T ∧ lsRow (X156 22) (X156 23) lz147 T) := (fun e => absurd e (by omega))
                      have hP : va_P G.1 pCl (mW G h0 a (upd (upd (upd (upd (upd (upd (upd (upd (upd (upd (upd (upd (upd (upd (upd F 15 (nI fa143)) 16 pl178) 27 (nI nd145)) 31 (nI wr146)) 34 (nI lz147)) 35 (nI dc148)) 44 (nI fd149)) 49 (nI md150)) 59 (nI bk152)) 60 (nI pr151)) 64 (nI at142)) 65 ne155) 66 (nI lk)) 67 (nI mf153)) 68 (nI mm154)) (updA X156 2 K)) _ := hP
                      have hD : va_D A (mW G h0 a (upd (upd (upd (upd (upd (upd (upd (upd (upd (upd (upd (upd (upd (upd (upd F 15 (nI fa143)) 16 pl178) 27 (nI nd145)) 31 (nI wr146)) 34 (nI lz147)) 35 (nI dc148)) 44 (nI fd149)) 49 (nI md150)) 59 (nI bk152)) 60 (nI pr151)) 64 (nI at142)) 65 ne155) 66 (nI lk)) 67 (nI mf153)) 68 (nI mm154)) (updA X156 2 K)) := hD
                      exact W.vret hx hb hr (fun t9 ht9 hW9 => ⟨⟨_, (at142, fa143, pl178, nd145, wr146, lz147, dc148, fd149, md150, pr151, bk152, mf153, mm154, ne155, X156), rfl, ⟨rfl, hz189, hz190, hz191, hz192, hz193, hz194⟩, by rw [ht9]; exact hP, hD⟩, hS.F ht9⟩) hS.2.2 dX12_declaration_283
              have hP : va_P G.1 pCl (mW G h0 a (upd (upd (upd (upd (upd (upd (upd (upd (upd (upd (upd (upd (upd (upd (upd F 15 0) 16 pl97) 27 (nI nd)) 31 (nI wr)) 34 (nI lz2)) 35 (nI (dc + 1))) 44 (nI fd)) 49 (nI md)) 59 (nI bk)) 60 (nI pr)) 64 (nI at95)) 65 ne0) 66 (nI lk)) 67 (nI 0)) 68 (nI 0)) (updA X2 2 K)) _ := hP
              have hD : va_D A (mW G h0 a (upd (upd (upd (upd (upd (upd (upd (upd (upd (upd (upd (upd (upd (upd (upd F 15 0) 16 pl97) 27 (nI nd)) 31 (nI wr)) 34 (nI lz2)) 35 (nI (dc + 1))) 44 (nI fd)) 49 (nI md)) 59 (nI bk)) 60 (nI pr)) 64 (nI at95)) 65 ne0) 66 (nI lk)) 67 (nI 0)) 68 (nI 0)) (updA X2 2 K)) := hD
              exact loop_o (T + 1) at95 nd wr lz2 fd md pr bk 0 0 pl97 ne0 X2 _ _ _ (by omega) (by omega) (by omega) (by omega) (by omega) (by omega) hkq2 hps2 hfm2 hy2 hlr2 hP hD hS (lv_sub hl [0, 1] rfl)
            · have e106 := e106
              refine lv_aload_n hx hb dX12_declaration_243 rfl (lv_at hl 1 rfl) ?_
              refine lv_iconst (v := 0) hx hb dX12_declaration_244 (by decide) ?_
              refine r_put (v := 0) (ty := .int) hx hb hown hq hE hP hD hS 67 390 tFX12_67 (by decide) pw_1726 (by decide) rfl rfl (ms_67 a _ _) dX12_declaration_245 (fun H locs hP hD hS => ?_)
              refine lv_aload_n hx hb dX12_declaration_248 rfl (lv_at hl 1 rfl) ?_
              refine lv_iconst (v := 0) hx hb dX12_declaration_249 (by decide) ?_
              refine r_put (v := 0) (ty := .int) hx hb hown hq hE hP hD hS 68 393 tFX12_68 (by decide) pw_1722 (by decide) rfl rfl (ms_68 a _ _) dX12_declaration_250 (fun H locs hP hD hS => ?_)
              refine lv_aload_n hx hb dX12_declaration_253 rfl (lv_at hl 1 rfl) ?_
              refine r_get (v := .int (nI fa96)) hx hb hown hq hE hP 15 350 tFX12_15 (by decide) pw_1594 rfl dX12_declaration_254 ?_
              refine lv_if_ne (tgt := 277) hx hb dX12_declaration_257 (by decide) (fun c195 => ?_) (fun c195 => (by have n196 : fa96 = 0 := (nI_eq (a := fa96) (b := 0) (by omega) (by omega)).mp c195; omega))
              refine lv_aload_n hx hb dX12_declaration_277 rfl (lv_at hl 1 rfl) ?_
              refine lv_bipush (v := 125) hx hb dX12_declaration_278 (by decide) ?_
              have hP : va_P G.1 pCl (mW G h0 a (upd (upd (upd (upd (upd (upd (upd (upd (upd (upd (upd (upd (upd (upd (upd (upd (upd F 15 (nI fa96)) 16 pl97) 27 (nI nd)) 31 (nI wr)) 34 (nI lz2)) 35 (nI (dc + 1))) 44 (nI fd)) 49 (nI md)) 59 (nI bk)) 60 (nI pr)) 64 (nI at95)) 65 ne0) 66 (nI lk)) 67 0) 68 0) 15 (nI fa96)) 64 (nI at95)) (updA (updA X2 2 K) 2 K)) _ := hP
              have hD : va_D A (mW G h0 a (upd (upd (upd (upd (upd (upd (upd (upd (upd (upd (upd (upd (upd (upd (upd (upd (upd F 15 (nI fa96)) 16 pl97) 27 (nI nd)) 31 (nI wr)) 34 (nI lz2)) 35 (nI (dc + 1))) 44 (nI fd)) 49 (nI md)) 59 (nI bk)) 60 (nI pr)) 64 (nI at95)) 65 ne0) 66 (nI lk)) 67 0) 68 0) 15 (nI fa96)) 64 (nI at95)) (updA (updA X2 2 K) 2 K)) := hD
              refine pc_V0 (G := G) (As := [.int 125]) (rest := []) hx hb hml hown hq hE hX pX0_al hP hD hS hA hl.1 (R_take l G h0 a (upd (upd (upd (upd (upd (upd (upd (upd (upd (upd (upd (upd (upd (upd (upd F 15 (nI fa96)) 16 pl97) 27 (nI nd)) 31 (nI wr)) 34 (nI lz2)) 35 (nI (dc + 1))) 44 (nI fd)) 49 (nI md)) 59 (nI bk)) 60 (nI pr)) 64 (nI at95)) 65 ne0) 66 (nI lk)) 67 0) 68 0) (updA X2 2 K) at95 T fa96 K 125 (by omega) (by omega) hK (by omega) (by decide) (by decide)) (gV pw_1614 pw_1615 pw_1616 pw_1523 pw_1601) hV_X12_take 0 9 rfl rfl rfl rfl (Nat.le_of_ble_eq_true rfl) dX12_declaration_280 ⟨Nat.le_of_ble_eq_true rfl, Nat.le_of_ble_eq_true rfl⟩ ⟨Nat.le_of_ble_eq_true rfl, Nat.le_of_ble_eq_true rfl⟩ (fun v199 u197 H locs hw198 hP hD hS => ?_)
              obtain ⟨at200, fa201, pl202⟩ := u197
              obtain ⟨hw198, h203, h204, h205, h206, h207, h208, h209, h210⟩ := hw198
              replace h203 : at95 ≤ at200 := h203
              replace h204 : at200 ≤ T := h204
              replace h205 : fa96 ≤ fa201 := h205
              replace h206 : fa201 ≤ 100 := h206
              replace h207 : If (0 < fa96) (at200 = at95 ∧ fa201 = fa96) := h207
              replace h208 : at200 ≤ at95 + 1 := h208
              replace h209 : at95 + 1 ≤ at200 + fa201 := h209
              replace h210 : If (fa201 = 0) (K at95 = 125) := h210
              obtain rfl : v199 = none := hw198
              have hP : va_P G.1 pCl (mW G h0 a (upd (upd (upd (upd (upd (upd (upd (upd (upd (upd (upd (upd (upd (upd (upd F 15 (nI fa201)) 16 pl202) 27 (nI nd)) 31 (nI wr)) 34 (nI lz2)) 35 (nI (dc + 1))) 44 (nI fd)) 49 (nI md)) 59 (nI bk)) 60 (nI pr)) 64 (nI at200)) 65 ne0) 66 (nI lk)) 67 0) 68 0) (updA X2 2 K)) _ := hP
              have hD : va_D A (mW G h0 a (upd (upd (upd (upd (upd (upd (upd (upd (upd (upd (upd (upd (upd (upd (upd F 15 (nI fa201)) 16 pl202) 27 (nI nd)) 31 (nI wr)) 34 (nI lz2)) 35 (nI (dc + 1))) 44 (nI fd)) 49 (nI md)) 59 (nI bk)) 60 (nI pr)) 64 (nI at200)) 65 ne0) 66 (nI lk)) 67 0) 68 0) (updA X2 2 K)) := hD
              refine W.widen (k := 0) (n := 0) (Nat.le_of_ble_eq_true rfl) (Nat.le_of_ble_eq_true rfl) ?_
              refine W.eq (g2 := F0 m 283 ls []) rfl ?_
              obtain ⟨n212, n211⟩ := h207 e106
              replace n212 := n212.symm
              subst n212
              replace n211 := n211.symm
              subst n211
              have hz213 : at0 ≤ at95 := (by omega)
              have hz214 : at95 ≤ T := (by omega)
              have hz215 : fa96 ≤ 100 := (by omega)
              have hz216 : at0 + 1 ≤ at95 + fa96 := (by omega)
              have hz217 : Kq B X2 := hkq2
              have hz218 : If (fa96 = 0) ((nd ≤ 2 * at95 ∧ wr ≤ at95 ∧ lz2 ≤ at95 ∧ pr ≤ at95 ∧ (dc + 1) ≤ 37 ∧ dc ≤ (dc + 1) ∧ bk ≤ md ∧ wr ≤ wr ∧ lz ≤ lz2) ∧ (md + 210 ≤ 30 * (dc + 1) ∧ fd + 140 ≤ 20 * (dc + 1) ∧ (dc + 1) ≤ 37 ∧ 7 ≤ (dc + 1) ∧ (dc + 1) ≤ dc + 1) ∧ PS T nm wr lz2 (dc + 1) fd md pr bk X2 ∧ FrM K T wr X2 nd md ∧ tkRow (X2 19) wr T ∧ lsRow (X2 22) (X2 23) lz2 T) := (fun e => absurd e (by omega))
              have hP : va_P G.1 pCl (mW G h0 a (upd (upd (upd (upd (upd (upd (upd (upd (upd (upd (upd (upd (upd (upd (upd F 15 (nI fa96)) 16 pl202) 27 (nI nd)) 31 (nI wr)) 34 (nI lz2)) 35 (nI (dc + 1))) 44 (nI fd)) 49 (nI md)) 59 (nI bk)) 60 (nI pr)) 64 (nI at95)) 65 ne0) 66 (nI lk)) 67 (nI 0)) 68 (nI 0)) (updA X2 2 K)) _ := hP
              have hD : va_D A (mW G h0 a (upd (upd (upd (upd (upd (upd (upd (upd (upd (upd (upd (upd (upd (upd (upd F 15 (nI fa96)) 16 pl202) 27 (nI nd)) 31 (nI wr)) 34 (nI lz2)) 35 (nI (dc + 1))) 44 (nI fd)) 49 (nI md)) 59 (nI bk)) 60 (nI pr)) 64 (nI at95)) 65 ne0) 66 (nI lk)) 67 (nI 0)) 68 (nI 0)) (updA X2 2 K)) := hD
              exact W.vret hx hb hr (fun t9 ht9 hW9 => ⟨⟨_, (at95, fa96, pl202, nd, wr, lz2, (dc + 1), fd, md, pr, bk, 0, 0, ne0, X2), rfl, ⟨rfl, hz213, hz214, hz215, hz216, hz217, hz218⟩, by rw [ht9]; exact hP, hD⟩, hS.F ht9⟩) hS.2.2 dX12_declaration_283
          refine lv_aload_n hx hb dX12_declaration_139 rfl (lv_at hl 2 rfl) ?_
          refine lv_sipush (v := 317) hx hb dX12_declaration_140 (by decide) ?_
          have hP : va_P G.1 pCl (mW G h0 a (upd (upd (upd (upd (upd (upd (upd (upd (upd (upd (upd (upd (upd (upd (upd (upd (upd F 15 0) 16 pl27) 27 (nI nd)) 31 (nI wr)) 34 (nI lz)) 35 (nI (dc + 1))) 44 (nI fd)) 49 (nI md)) 59 (nI bk)) 60 (nI pr)) 64 (nI at25)) 65 ne0) 66 (nI lk)) 67 (nI mf)) 68 (nI mm)) 15 (nI 0)) 64 (nI at25)) (updA (updA (stR (stR (stR (stR (stR (stR B 26 dc 0) 25 dc (nI (at0 + 1))) 24 dc (nI v49)) 27 dc (-1)) 28 dc (-1)) 29 dc 0) 2 K) 2 K)) _ := hP
          have hD : va_D A (mW G h0 a (upd (upd (upd (upd (upd (upd (upd (upd (upd (upd (upd (upd (upd (upd (upd (upd (upd F 15 0) 16 pl27) 27 (nI nd)) 31 (nI wr)) 34 (nI lz)) 35 (nI (dc + 1))) 44 (nI fd)) 49 (nI md)) 59 (nI bk)) 60 (nI pr)) 64 (nI at25)) 65 ne0) 66 (nI lk)) 67 (nI mf)) 68 (nI mm)) 15 (nI 0)) 64 (nI at25)) (updA (updA (stR (stR (stR (stR (stR (stR B 26 dc 0) 25 dc (nI (at0 + 1))) 24 dc (nI v49)) 27 dc (-1)) 28 dc (-1)) 29 dc 0) 2 K) 2 K)) := hD
          refine pc_V0 (G := G) (As := [.int 317]) (rest := []) hx hb hml hown hq hE hX pX0_al hP hD hS hA hl.1 (R_may l G h0 a (upd (upd (upd (upd (upd (upd (upd (upd (upd (upd (upd (upd (upd (upd (upd F 15 0) 16 pl27) 27 (nI nd)) 31 (nI wr)) 34 (nI lz)) 35 (nI (dc + 1))) 44 (nI fd)) 49 (nI md)) 59 (nI bk)) 60 (nI pr)) 64 (nI at25)) 65 ne0) 66 (nI lk)) 67 (nI mf)) 68 (nI mm)) (updA (stR (stR (stR (stR (stR (stR B 26 dc 0) 25 dc (nI (at0 + 1))) 24 dc (nI v49)) 27 dc (-1)) 28 dc (-1)) 29 dc 0) 2 K) at25 T 0 K 317 (by omega) (by omega) hK (by omega) (by decide) (by decide)) (gV pw_1621 pw_1622 pw_1623 pw_1523 pw_1605) hV_X12_may 0 9 rfl rfl rfl rfl (Nat.le_of_ble_eq_true rfl) dX12_declaration_143 ⟨Nat.le_of_ble_eq_true rfl, Nat.le_of_ble_eq_true rfl⟩ ⟨Nat.le_of_ble_eq_true rfl, Nat.le_of_ble_eq_true rfl⟩ (fun v221 u219 H locs hw220 hP hD hS => ?_)
          obtain ⟨at222, r223⟩ := u219
          obtain ⟨hw220, h224, h225, h226, h227, h228, h229⟩ := hw220
          replace h224 : r223 ≤ 1 := h224
          replace h225 : 0 + 100 * r223 ≤ 100 := h225
          replace h226 : at222 = at25 + r223 := h226
          replace h227 : at222 ≤ T := h227
          replace h228 : If (r223 = 1) (K at25 = 317) := h228
          replace h229 : If (r223 = 0) (0 = 0 → ¬ K at25 = 317) := h229
          obtain rfl : v221 = some (.int (nI r223)) := hw220
          have hP : va_P G.1 pCl (mW G h0 a (upd (upd (upd (upd (upd (upd (upd (upd (upd (upd (upd (upd (upd (upd (upd F 15 0) 16 pl27) 27 (nI nd)) 31 (nI wr)) 34 (nI lz)) 35 (nI (dc + 1))) 44 (nI fd)) 49 (nI md)) 59 (nI bk)) 60 (nI pr)) 64 (nI at222)) 65 ne0) 66 (nI lk)) 67 (nI mf)) 68 (nI mm)) (updA (stR (stR (stR (stR (stR (stR B 26 dc 0) 25 dc (nI (at0 + 1))) 24 dc (nI v49)) 27 dc (-1)) 28 dc (-1)) 29 dc 0) 2 K)) _ := hP
          have hD : va_D A (mW G h0 a (upd (upd (upd (upd (upd (upd (upd (upd (upd (upd (upd (upd (upd (upd (upd F 15 0) 16 pl27) 27 (nI nd)) 31 (nI wr)) 34 (nI lz)) 35 (nI (dc + 1))) 44 (nI fd)) 49 (nI md)) 59 (nI bk)) 60 (nI pr)) 64 (nI at222)) 65 ne0) 66 (nI lk)) 67 (nI mf)) 68 (nI mm)) (updA (stR (stR (stR (stR (stR (stR B 26 dc 0) 25 dc (nI (at0 + 1))) 24 dc (nI v49)) 27 dc (-1)) 28 dc (-1)) 29 dc 0) 2 K)) := hD
          refine W.widen (k := 0) (n := 0) (Nat.le_of_ble_eq_true rfl) (Nat.le_of_ble_eq_true rfl) ?_
          refine W.eq (g2 := F0 m 146 ls [.int (nI r223)]) rfl ?_
          refine lv_if_eq (tgt := 213) hx hb dX12_declaration_146 (by decide) (fun c230 => ?_) (fun c230 => ?_)
          · have n231 : r223 = 0 := (nI_eq (a := r223) (b := 0) (by omega) (by omega)).mp c230
            refine lv_iload_n hx hb dX12_declaration_213 rfl (lv_at hl 1 rfl) ?_
            refine lv_if_ne (tgt := 237) hx hb dX12_declaration_214 (by decide) (fun c232 => absurd c232 (by decide)) (fun c232 => ?_)
            refine lv_aload_n hx hb dX12_declaration_217 rfl (lv_at hl 2 rfl) ?_
            refine lv_sipush (v := 322) hx hb dX12_declaration_218 (by decide) ?_
            have hP : va_P G.1 pCl (mW G h0 a (upd (upd (upd (upd (upd (upd (upd (upd (upd (upd (upd (upd (upd (upd (upd (upd (upd F 15 0) 16 pl27) 27 (nI nd)) 31 (nI wr)) 34 (nI lz)) 35 (nI (dc + 1))) 44 (nI fd)) 49 (nI md)) 59 (nI bk)) 60 (nI pr)) 64 (nI at222)) 65 ne0) 66 (nI lk)) 67 (nI mf)) 68 (nI mm)) 15 (nI 0)) 64 (nI at222)) (updA (updA (stR (stR (stR (stR (stR (stR B 26 dc 0) 25 dc (nI (at0 + 1))) 24 dc (nI v49)) 27 dc (-1)) 28 dc (-1)) 29 dc 0) 2 K) 2 K)) _ := hP
            have hD : va_D A (mW G h0 a (upd (upd (upd (upd (upd (upd (upd (upd (upd (upd (upd (upd (upd (upd (upd (upd (upd F 15 0) 16 pl27) 27 (nI nd)) 31 (nI wr)) 34 (nI lz)) 35 (nI (dc + 1))) 44 (nI fd)) 49 (nI md)) 59 (nI bk)) 60 (nI pr)) 64 (nI at222)) 65 ne0) 66 (nI lk)) 67 (nI mf)) 68 (nI mm)) 15 (nI 0)) 64 (nI at222)) (updA (updA (stR (stR (stR (stR (stR (stR B 26 dc 0) 25 dc (nI (at0 + 1))) 24 dc (nI v49)) 27 dc (-1)) 28 dc (-1)) 29 dc 0) 2 K) 2 K)) := hD
            refine pc_V0 (G := G) (As := [.int 322]) (rest := []) hx hb hml hown hq hE hX pX0_al hP hD hS hA hl.1 (R_may l G h0 a (upd (upd (upd (upd (upd (upd (upd (upd (upd (upd (upd (upd (upd (upd (upd F 15 0) 16 pl27) 27 (nI nd)) 31 (nI wr)) 34 (nI lz)) 35 (nI (dc + 1))) 44 (nI fd)) 49 (nI md)) 59 (nI bk)) 60 (nI pr)) 64 (nI at222)) 65 ne0) 66 (nI lk)) 67 (nI mf)) 68 (nI mm)) (updA (stR (stR (stR (stR (stR (stR B 26 dc 0) 25 dc (nI (at0 + 1))) 24 dc (nI v49)) 27 dc (-1)) 28 dc (-1)) 29 dc 0) 2 K) at222 T 0 K 322 (by omega) (by omega) hK (by omega) (by decide) (by decide)) (gV pw_1621 pw_1622 pw_1623 pw_1523 pw_1605) hV_X12_may 0 9 rfl rfl rfl rfl (Nat.le_of_ble_eq_true rfl) dX12_declaration_221 ⟨Nat.le_of_ble_eq_true rfl, Nat.le_of_ble_eq_true rfl⟩ ⟨Nat.le_of_ble_eq_true rfl, Nat.le_of_ble_eq_true rfl⟩ (fun v235 u233 H locs hw234 hP hD hS => ?_)
            obtain ⟨at236, r237⟩ := u233
            obtain ⟨hw234, h238, h239, h240, h241, h242, h243⟩ := hw234
            replace h238 : r237 ≤ 1 := h238
            replace h239 : 0 + 100 * r237 ≤ 100 := h239
            replace h240 : at236 = at222 + r237 := h240
            replace h241 : at236 ≤ T := h241
            replace h242 : If (r237 = 1) (K at222 = 322) := h242
            replace h243 : If (r237 = 0) (0 = 0 → ¬ K at222 = 322) := h243
            obtain rfl : v235 = some (.int (nI r237)) := hw234
            have hP : va_P G.1 pCl (mW G h0 a (upd (upd (upd (upd (upd (upd (upd (upd (upd (upd (upd (upd (upd (upd (upd F 15 0) 16 pl27) 27 (nI nd)) 31 (nI wr)) 34 (nI lz)) 35 (nI (dc + 1))) 44 (nI fd)) 49 (nI md)) 59 (nI bk)) 60 (nI pr)) 64 (nI at236)) 65 ne0) 66 (nI lk)) 67 (nI mf)) 68 (nI mm)) (updA (stR (stR (stR (stR (stR (stR B 26 dc 0) 25 dc (nI (at0 + 1))) 24 dc (nI v49)) 27 dc (-1)) 28 dc (-1)) 29 dc 0) 2 K)) _ := hP
            have hD : va_D A (mW G h0 a (upd (upd (upd (upd (upd (upd (upd (upd (upd (upd (upd (upd (upd (upd (upd F 15 0) 16 pl27) 27 (nI nd)) 31 (nI wr)) 34 (nI lz)) 35 (nI (dc + 1))) 44 (nI fd)) 49 (nI md)) 59 (nI bk)) 60 (nI pr)) 64 (nI at236)) 65 ne0) 66 (nI lk)) 67 (nI mf)) 68 (nI mm)) (updA (stR (stR (stR (stR (stR (stR B 26 dc 0) 25 dc (nI (at0 + 1))) 24 dc (nI v49)) 27 dc (-1)) 28 dc (-1)) 29 dc 0) 2 K)) := hD
            refine W.widen (k := 0) (n := 0) (Nat.le_of_ble_eq_true rfl) (Nat.le_of_ble_eq_true rfl) ?_
            refine W.eq (g2 := F0 m 224 ls [.int (nI r237)]) rfl ?_
            refine lv_if_eq (tgt := 237) hx hb dX12_declaration_224 (by decide) (fun c244 => ?_) (fun c244 => ?_)
            · have n245 : r237 = 0 := (nI_eq (a := r237) (b := 0) (by omega) (by omega)).mp c244
              have hP : va_P G.1 pCl (mW G h0 a (upd (upd (upd (upd (upd (upd (upd (upd (upd (upd (upd (upd (upd (upd (upd F 15 0) 16 pl27) 27 (nI nd)) 31 (nI wr)) 34 (nI lz)) 35 (nI (dc + 1))) 44 (nI fd)) 49 (nI md)) 59 (nI bk)) 60 (nI pr)) 64 (nI at236)) 65 ne0) 66 (nI lk)) 67 (nI mf)) 68 (nI mm)) (updA (stR (stR (stR (stR (stR (stR B 26 dc 0) 25 dc (nI (at0 + 1))) 24 dc (nI v49)) 27 dc (-1)) 28 dc (-1)) 29 dc 0) 2 K)) _ := hP
              have hD : va_D A (mW G h0 a (upd (upd (upd (upd (upd (upd (upd (upd (upd (upd (upd (upd (upd (upd (upd F 15 0) 16 pl27) 27 (nI nd)) 31 (nI wr)) 34 (nI lz)) 35 (nI (dc + 1))) 44 (nI fd)) 49 (nI md)) 59 (nI bk)) 60 (nI pr)) 64 (nI at236)) 65 ne0) 66 (nI lk)) 67 (nI mf)) 68 (nI mm)) (updA (stR (stR (stR (stR (stR (stR B 26 dc 0) 25 dc (nI (at0 + 1))) 24 dc (nI v49)) 27 dc (-1)) 28 dc (-1)) 29 dc 0) 2 K)) := hD
              exact cut_j at236 lz pl27 (stR (stR (stR (stR (stR (stR B 26 dc 0) 25 dc (nI (at0 + 1))) 24 dc (nI v49)) 27 dc (-1)) 28 dc (-1)) 29 dc 0) _ _ _ (by omega) (by omega) (by omega) hkq79 (PS.dec hps86 (by omega) hce81 (by omega) hce82 (by omega) hce80 (Or.inl rfl) hce83 (Or.inl rfl) hce84 (Or.inl rfl)) hfm87 hty85 hlr88 hP hD hS (lv_sub hl [0, 2] rfl)
            · have n246 : ¬ (r237 = 0) := fun h9 => c244 ((nI_eq (a := r237) (b := 0) (by omega) (by omega)).mpr h9)
              refine lv_aload_n hx hb dX12_declaration_227 rfl (lv_at hl 2 rfl) ?_
              refine r_get (v := .ref (a 28)) hx hb hown hq hE hP 40 96 tFX12_40 (by decide) pw_1459 rfl dX12_declaration_228 ?_
              refine lv_iload_n hx hb dX12_declaration_231 rfl (lv_at hl 0 rfl) ?_
              refine lv_aload_n hx hb dX12_declaration_232 rfl (lv_at hl 2 rfl) ?_
              have hP : va_P G.1 pCl (mW G h0 a (upd (upd (upd (upd (upd (upd (upd (upd (upd (upd (upd (upd (upd (upd (upd (upd (upd (upd F 15 0) 16 pl27) 27 (nI nd)) 31 (nI wr)) 34 (nI lz)) 35 (nI (dc + 1))) 44 (nI fd)) 49 (nI md)) 59 (nI bk)) 60 (nI pr)) 64 (nI at236)) 65 ne0) 66 (nI lk)) 67 (nI mf)) 68 (nI mm)) 15 (nI 0)) 34 (nI lz)) 64 (nI at236)) (updA (updA (updA (updA (stR (stR (stR (stR (stR (stR B 26 dc 0) 25 dc (nI (at0 + 1))) 24 dc (nI v49)) 27 dc (-1)) 28 dc (-1)) 29 dc 0) 2 K) 2 K) 22 ((stR (stR (stR (stR (stR (stR B 26 dc 0) 25 dc (nI (at0 + 1))) 24 dc (nI v49)) 27 dc (-1)) 28 dc (-1)) 29 dc 0) 22)) 23 ((stR (stR (stR (stR (stR (stR B 26 dc 0) 25 dc (nI (at0 + 1))) 24 dc (nI v49)) 27 dc (-1)) 28 dc (-1)) 29 dc 0) 23))) _ := hP
              have hD : va_D A (mW G h0 a (upd (upd (upd (upd (upd (upd (upd (upd (upd (upd (upd (upd (upd (upd (upd (upd (upd (upd F 15 0) 16 pl27) 27 (nI nd)) 31 (nI wr)) 34 (nI lz)) 35 (nI (dc + 1))) 44 (nI fd)) 49 (nI md)) 59 (nI bk)) 60 (nI pr)) 64 (nI at236)) 65 ne0) 66 (nI lk)) 67 (nI mf)) 68 (nI mm)) 15 (nI 0)) 34 (nI lz)) 64 (nI at236)) (updA (updA (updA (updA (stR (stR (stR (stR (stR (stR B 26 dc 0) 25 dc (nI (at0 + 1))) 24 dc (nI v49)) 27 dc (-1)) 28 dc (-1)) 29 dc 0) 2 K) 2 K) 22 ((stR (stR (stR (stR (stR (stR B 26 dc 0) 25 dc (nI (at0 + 1))) 24 dc (nI v49)) 27 dc (-1)) 28 dc (-1)) 29 dc 0) 22)) 23 ((stR (stR (stR (stR (stR (stR B 26 dc 0) 25 dc (nI (at0 + 1))) 24 dc (nI v49)) 27 dc (-1)) 28 dc (-1)) 29 dc 0) 23))) := hD
              refine pc_V0 (G := G) (As := []) (rest := [.int (nI dc), .ref (a 28)]) hx hb hml hown hq hE hX pX0_al hP hD hS hA hl.1 (R_listOfNames l G h0 a (upd (upd (upd (upd (upd (upd (upd (upd (upd (upd (upd (upd (upd (upd (upd F 15 0) 16 pl27) 27 (nI nd)) 31 (nI wr)) 34 (nI lz)) 35 (nI (dc + 1))) 44 (nI fd)) 49 (nI md)) 59 (nI bk)) 60 (nI pr)) 64 (nI at236)) 65 ne0) 66 (nI lk)) 67 (nI mf)) 68 (nI mm)) (updA (stR (stR (stR (stR (stR (stR B 26 dc 0) 25 dc (nI (at0 + 1))) 24 dc (nI v49)) 27 dc (-1)) 28 dc (-1)) 29 dc 0) 2 K) at236 T 0 K lz ((stR (stR (stR (stR (stR (stR B 26 dc 0) 25 dc (nI (at0 + 1))) 24 dc (nI v49)) 27 dc (-1)) 28 dc (-1)) 29 dc 0) 22) ((stR (stR (stR (stR (stR (stR B 26 dc 0) 25 dc (nI (at0 + 1))) 24 dc (nI v49)) 27 dc (-1)) 28 dc (-1)) 29 dc 0) 23) (by omega) (by omega) hK (by omega) (by omega) hlr88) (gV pw_1733 pw_1734 pw_1735 pw_1523 pw_1624) hV_X12_listOfNames 0 9 rfl rfl rfl rfl (Nat.le_of_ble_eq_true rfl) dX12_declaration_233 ⟨Nat.le_of_ble_eq_true rfl, Nat.le_of_ble_eq_true rfl⟩ ⟨Nat.le_of_ble_eq_true rfl, Nat.le_of_ble_eq_true rfl⟩ (fun v249 u247 H locs hw248 hP hD hS => ?_)
              obtain ⟨at250, fa251, pl252, ls253, lt254, ln255, r256⟩ := u247
              obtain ⟨hw248, h257, h258, h259, h260, h261, h262, h263, h264, h265, h266, h267⟩ := hw248
              replace h257 : at236 ≤ at250 := h257
              replace h258 : at250 ≤ T := h258
              replace h259 : 0 ≤ fa251 := h259
              replace h260 : fa251 ≤ 100 := h260
              replace h261 : If (0 < 0) (at250 = at236 ∧ fa251 = 0) := h261
              replace h262 : lz ≤ ls253 := h262
              replace h263 : ls253 + at236 ≤ lz + at250 + fa251 := h263
              replace h264 : ls253 + at236 ≤ lz + at250 + 1 := h264
              replace h265 : lsRow lt254 ln255 ls253 T := h265
              replace h266 : r256 = -1 ∨ ∃ p : Nat, p < ls253 ∧ r256 = nI p := h266
              replace h267 : If (0 < 0) (ls253 = lz) := h267
              obtain rfl : v249 = some (.int r256) := hw248
              have hP : va_P G.1 pCl (mW G h0 a (upd (upd (upd (upd (upd (upd (upd (upd (upd (upd (upd (upd (upd (upd (upd F 15 (nI fa251)) 16 pl252) 27 (nI nd)) 31 (nI wr)) 34 (nI ls253)) 35 (nI (dc + 1))) 44 (nI fd)) 49 (nI md)) 59 (nI bk)) 60 (nI pr)) 64 (nI at250)) 65 ne0) 66 (nI lk)) 67 (nI mf)) 68 (nI mm)) (updA (updA (updA (stR (stR (stR (stR (stR (stR B 26 dc 0) 25 dc (nI (at0 + 1))) 24 dc (nI v49)) 27 dc (-1)) 28 dc (-1)) 29 dc 0) 2 K) 22 lt254) 23 ln255)) _ := hP
              have hD : va_D A (mW G h0 a (upd (upd (upd (upd (upd (upd (upd (upd (upd (upd (upd (upd (upd (upd (upd F 15 (nI fa251)) 16 pl252) 27 (nI nd)) 31 (nI wr)) 34 (nI ls253)) 35 (nI (dc + 1))) 44 (nI fd)) 49 (nI md)) 59 (nI bk)) 60 (nI pr)) 64 (nI at250)) 65 ne0) 66 (nI lk)) 67 (nI mf)) 68 (nI mm)) (updA (updA (updA (stR (stR (stR (stR (stR (stR B 26 dc 0) 25 dc (nI (at0 + 1))) 24 dc (nI v49)) 27 dc (-1)) 28 dc (-1)) 29 dc 0) 2 K) 22 lt254) 23 ln255)) := hD
              refine W.widen (k := 0) (n := 0) (Nat.le_of_ble_eq_true rfl) (Nat.le_of_ble_eq_true rfl) ?_
              refine W.eq (g2 := F0 m 236 ls [.int r256, .int (nI dc), .ref (a 28)]) rfl ?_
              have hP : va_P G.1 pCl (mW G h0 a (upd (upd (upd (upd (upd (upd (upd (upd (upd (upd (upd (upd (upd (upd (upd F 15 (nI fa251)) 16 pl252) 27 (nI nd)) 31 (nI wr)) 34 (nI ls253)) 35 (nI (dc + 1))) 44 (nI fd)) 49 (nI md)) 59 (nI bk)) 60 (nI pr)) 64 (nI at250)) 65 ne0) 66 (nI lk)) 67 (nI mf)) 68 (nI mm)) (updA (updA (updA (stR (stR (stR (stR (stR (stR B 26 dc 0) 25 dc (nI (at0 + 1))) 24 dc (nI v49)) 27 dc (-1)) 28 dc (-1)) 29 dc 0) 22 lt254) 23 ln255) 2 K)) _ := hP
              have hD : va_D A (mW G h0 a (upd (upd (upd (upd (upd (upd (upd (upd (upd (upd (upd (upd (upd (upd (upd F 15 (nI fa251)) 16 pl252) 27 (nI nd)) 31 (nI wr)) 34 (nI ls253)) 35 (nI (dc + 1))) 44 (nI fd)) 49 (nI md)) 59 (nI bk)) 60 (nI pr)) 64 (nI at250)) 65 ne0) 66 (nI lk)) 67 (nI mf)) 68 (nI mm)) (updA (updA (updA (stR (stR (stR (stR (stR (stR B 26 dc 0) 25 dc (nI (at0 + 1))) 24 dc (nI v49)) 27 dc (-1)) 28 dc (-1)) 29 dc 0) 22 lt254) 23 ln255) 2 K)) := hD
              rcases Nat.eq_zero_or_pos fa251 with e268 | e268
              · subst e268
                have hP : va_P G.1 pCl (mW G h0 a (upd (upd (upd (upd (upd (upd (upd (upd (upd (upd (upd (upd (upd (upd (upd F 15 0) 16 pl252) 27 (nI nd)) 31 (nI wr)) 34 (nI ls253)) 35 (nI (dc + 1))) 44 (nI fd)) 49 (nI md)) 59 (nI bk)) 60 (nI pr)) 64 (nI at250)) 65 ne0) 66 (nI lk)) 67 (nI mf)) 68 (nI mm)) (updA (updA (updA (stR (stR (stR (stR (stR (stR B 26 dc 0) 25 dc (nI (at0 + 1))) 24 dc (nI v49)) 27 dc (-1)) 28 dc (-1)) 29 dc 0) 22 lt254) 23 ln255) 2 K)) _ := hP
                have hD : va_D A (mW G h0 a (upd (upd (upd (upd (upd (upd (upd (upd (upd (upd (upd (upd (upd (upd (upd F 15 0) 16 pl252) 27 (nI nd)) 31 (nI wr)) 34 (nI ls253)) 35 (nI (dc + 1))) 44 (nI fd)) 49 (nI md)) 59 (nI bk)) 60 (nI pr)) 64 (nI at250)) 65 ne0) 66 (nI lk)) 67 (nI mf)) 68 (nI mm)) (updA (updA (updA (stR (stR (stR (stR (stR (stR B 26 dc 0) 25 dc (nI (at0 + 1))) 24 dc (nI v49)) 27 dc (-1)) 28 dc (-1)) 29 dc 0) 22 lt254) 23 ln255) 2 K)) := hD
                have hkq269 : Kq B (updA (updA (stR (stR (stR (stR (stR (stR B 26 dc 0) 25 dc (nI (at0 + 1))) 24 dc (nI v49)) 27 dc (-1)) 28 dc (-1)) 29 dc 0) 22 lt254) 23 ln255) := (Kq.row (Kq.row hkq79 (by omega)) (by omega))
                have hce270 : (updA (updA (stR (stR (stR (stR (stR (stR B 26 dc 0) 25 dc (nI (at0 + 1))) 24 dc (nI v49)) 27 dc (-1)) 28 dc (-1)) 29 dc 0) 22 lt254) 23 ln255) 26 dc = 0 := hce80
                have hce271 : (updA (updA (stR (stR (stR (stR (stR (stR B 26 dc 0) 25 dc (nI (at0 + 1))) 24 dc (nI v49)) 27 dc (-1)) 28 dc (-1)) 29 dc 0) 22 lt254) 23 ln255) 25 dc = (nI (at0 + 1)) := hce81
                have hce272 : (updA (updA (stR (stR (stR (stR (stR (stR B 26 dc 0) 25 dc (nI (at0 + 1))) 24 dc (nI v49)) 27 dc (-1)) 28 dc (-1)) 29 dc 0) 22 lt254) 23 ln255) 24 dc = (nI v49) := hce82
                have hce273 : (updA (updA (stR (stR (stR (stR (stR (stR B 26 dc 0) 25 dc (nI (at0 + 1))) 24 dc (nI v49)) 27 dc (-1)) 28 dc (-1)) 29 dc 0) 22 lt254) 23 ln255) 27 dc = (-1) := hce83
                have hce274 : (updA (updA (stR (stR (stR (stR (stR (stR B 26 dc 0) 25 dc (nI (at0 + 1))) 24 dc (nI v49)) 27 dc (-1)) 28 dc (-1)) 29 dc 0) 22 lt254) 23 ln255) 28 dc = (-1) := hce84
                have hce275 : (updA (updA (stR (stR (stR (stR (stR (stR B 26 dc 0) 25 dc (nI (at0 + 1))) 24 dc (nI v49)) 27 dc (-1)) 28 dc (-1)) 29 dc 0) 22 lt254) 23 ln255) 29 dc = 0 := hce89
                have hty276 : tkRow ((updA (updA (stR (stR (stR (stR (stR (stR B 26 dc 0) 25 dc (nI (at0 + 1))) 24 dc (nI v49)) 27 dc (-1)) 28 dc (-1)) 29 dc 0) 22 lt254) 23 ln255) 19) wr T := hty85
                have hps277 : PS T nm wr ls253 dc fd md pr bk (updA (updA (stR (stR (stR (stR (stR (stR B 26 dc 0) 25 dc (nI (at0 + 1))) 24 dc (nI v49)) 27 dc (-1)) 28 dc (-1)) 29 dc 0) 22 lt254) 23 ln255) := (PS.same hps86 (by omega) (by omega) (fun r i q1 q2 q3 => by unfold updA; rw [if_neg (by omega), if_neg (by omega)]))
                have hfm278 : FrM K T wr (updA (updA (stR (stR (stR (stR (stR (stR B 26 dc 0) 25 dc (nI (at0 + 1))) 24 dc (nI v49)) 27 dc (-1)) 28 dc (-1)) 29 dc 0) 22 lt254) 23 ln255) nd md := (FrM.same hfm87 (by omega) (fun j i q1 q2 q3 => by unfold updA; rw [if_neg (by omega), if_neg (by omega)]) (fun i q => rfl))
                have hlr279 : lsRow ((updA (updA (stR (stR (stR (stR (stR (stR B 26 dc 0) 25 dc (nI (at0 + 1))) 24 dc (nI v49)) 27 dc (-1)) 28 dc (-1)) 29 dc 0) 22 lt254) 23 ln255) 22) ((updA (updA (stR (stR (stR (stR (stR (stR B 26 dc 0) 25 dc (nI (at0 + 1))) 24 dc (nI v49)) 27 dc (-1)) 28 dc (-1)) 29 dc 0) 22 lt254) 23 ln255) 23) ls253 T := h265
                refine r_sti (f := ((updA (updA (stR (stR (stR (stR (stR (stR B 26 dc 0) 25 dc (nI (at0 + 1))) 24 dc (nI v49)) 27 dc (-1)) 28 dc (-1)) 29 dc 0) 22 lt254) 23 ln255) 28)) (j := dc) hx hb hE hP hD hS 28 (ma_28 G a _) rfl (mas_28 G a _) (by omega) (by decide) dX12_declaration_236 (fun H locs hP hD hS => ?_)
                have hP : va_P G.1 pCl (mW G h0 a (upd (upd (upd (upd (upd (upd (upd (upd (upd (upd (upd (upd (upd (upd (upd F 15 0) 16 pl252) 27 (nI nd)) 31 (nI wr)) 34 (nI ls253)) 35 (nI (dc + 1))) 44 (nI fd)) 49 (nI md)) 59 (nI bk)) 60 (nI pr)) 64 (nI at250)) 65 ne0) 66 (nI lk)) 67 (nI mf)) 68 (nI mm)) (updA (stR (updA (updA (stR (stR (stR (stR (stR (stR B 26 dc 0) 25 dc (nI (at0 + 1))) 24 dc (nI v49)) 27 dc (-1)) 28 dc (-1)) 29 dc 0) 22 lt254) 23 ln255) 28 dc r256) 2 K)) _ := hP
                have hD : va_D A (mW G h0 a (upd (upd (upd (upd (upd (upd (upd (upd (upd (upd (upd (upd (upd (upd (upd F 15 0) 16 pl252) 27 (nI nd)) 31 (nI wr)) 34 (nI ls253)) 35 (nI (dc + 1))) 44 (nI fd)) 49 (nI md)) 59 (nI bk)) 60 (nI pr)) 64 (nI at250)) 65 ne0) 66 (nI lk)) 67 (nI mf)) 68 (nI mm)) (updA (stR (updA (updA (stR (stR (stR (stR (stR (stR B 26 dc 0) 25 dc (nI (at0 + 1))) 24 dc (nI v49)) 27 dc (-1)) 28 dc (-1)) 29 dc 0) 22 lt254) 23 ln255) 28 dc r256) 2 K)) := hD
                have hkq280 : Kq B (stR (updA (updA (stR (stR (stR (stR (stR (stR B 26 dc 0) 25 dc (nI (at0 + 1))) 24 dc (nI v49)) 27 dc (-1)) 28 dc (-1)) 29 dc 0) 22 lt254) 23 ln255) 28 dc r256) := (Kq.st hkq269 (by omega))
                have hce281 : (stR (updA (updA (stR (stR (stR (stR (stR (stR B 26 dc 0) 25 dc (nI (at0 + 1))) 24 dc (nI v49)) 27 dc (-1)) 28 dc (-1)) 29 dc 0) 22 lt254) 23 ln255) 28 dc r256) 26 dc = 0 := ((st_ne (by omega)).trans hce270)
                have hce282 : (stR (updA (updA (stR (stR (stR (stR (stR (stR B 26 dc 0) 25 dc (nI (at0 + 1))) 24 dc (nI v49)) 27 dc (-1)) 28 dc (-1)) 29 dc 0) 22 lt254) 23 ln255) 28 dc r256) 25 dc = (nI (at0 + 1)) := ((st_ne (by omega)).trans hce271)
                have hce283 : (stR (updA (updA (stR (stR (stR (stR (stR (stR B 26 dc 0) 25 dc (nI (at0 + 1))) 24 dc (nI v49)) 27 dc (-1)) 28 dc (-1)) 29 dc 0) 22 lt254) 23 ln255) 28 dc r256) 24 dc = (nI v49) := ((st_ne (by omega)).trans hce272)
                have hce284 : (stR (updA (updA (stR (stR (stR (stR (stR (stR B 26 dc 0) 25 dc (nI (at0 + 1))) 24 dc (nI v49)) 27 dc (-1)) 28 dc (-1)) 29 dc 0) 22 lt254) 23 ln255) 28 dc r256) 27 dc = (-1) := ((st_ne (by omega)).trans hce273)
                have hce285 : (stR (updA (updA (stR (stR (stR (stR (stR (stR B 26 dc 0) 25 dc (nI (at0 + 1))) 24 dc (nI v49)) 27 dc (-1)) 28 dc (-1)) 29 dc 0) 22 lt254) 23 ln255) 28 dc r256) 28 dc = r256 := st_eq
                have hce286 : (stR (updA (updA (stR (stR (stR (stR (stR (stR B 26 dc 0) 25 dc (nI (at0 + 1))) 24 dc (nI v49)) 27 dc (-1)) 28 dc (-1)) 29 dc 0) 22 lt254) 23 ln255) 28 dc r256) 29 dc = 0 := ((st_ne (by omega)).trans hce275)
                have hty287 : tkRow ((stR (updA (updA (stR (stR (stR (stR (stR (stR B 26 dc 0) 25 dc (nI (at0 + 1))) 24 dc (nI v49)) 27 dc (-1)) 28 dc (-1)) 29 dc 0) 22 lt254) 23 ln255) 28 dc r256) 19) wr T := hty276
                have hps288 : PS T nm wr ls253 dc fd md pr bk (stR (updA (updA (stR (stR (stR (stR (stR (stR B 26 dc 0) 25 dc (nI (at0 + 1))) 24 dc (nI v49)) 27 dc (-1)) 28 dc (-1)) 29 dc 0) 22 lt254) 23 ln255) 28 dc r256) := (PS.same hps277 (by omega) (by omega) (fun r i q1 q2 q3 => st_ne (fun e => by rw [e.1, e.2] at q3; exact absurd (show dc < dc from q3) (by omega))))
                have hfm289 : FrM K T wr (stR (updA (updA (stR (stR (stR (stR (stR (stR B 26 dc 0) 25 dc (nI (at0 + 1))) 24 dc (nI v49)) 27 dc (-1)) 28 dc (-1)) 29 dc 0) 22 lt254) 23 ln255) 28 dc r256) nd md := (FrM.same hfm278 (by omega) (fun j i q1 q2 q3 => st_ne (by omega)) (fun i q => st_ne (by omega)))
                have hlr290 : lsRow ((stR (updA (updA (stR (stR (stR (stR (stR (stR B 26 dc 0) 25 dc (nI (at0 + 1))) 24 dc (nI v49)) 27 dc (-1)) 28 dc (-1)) 29 dc 0) 22 lt254) 23 ln255) 28 dc r256) 22) ((stR (updA (updA (stR (stR (stR (stR (stR (stR B 26 dc 0) 25 dc (nI (at0 + 1))) 24 dc (nI v49)) 27 dc (-1)) 28 dc (-1)) 29 dc 0) 22 lt254) 23 ln255) 28 dc r256) 23) ls253 T := hlr279
                have hP : va_P G.1 pCl (mW G h0 a (upd (upd (upd (upd (upd (upd (upd (upd (upd (upd (upd (upd (upd (upd (upd F 15 0) 16 pl252) 27 (nI nd)) 31 (nI wr)) 34 (nI ls253)) 35 (nI (dc + 1))) 44 (nI fd)) 49 (nI md)) 59 (nI bk)) 60 (nI pr)) 64 (nI at250)) 65 ne0) 66 (nI lk)) 67 (nI mf)) 68 (nI mm)) (updA (stR (updA (updA (stR (stR (stR (stR (stR (stR B 26 dc 0) 25 dc (nI (at0 + 1))) 24 dc (nI v49)) 27 dc (-1)) 28 dc (-1)) 29 dc 0) 22 lt254) 23 ln255) 28 dc r256) 2 K)) _ := hP
                have hD : va_D A (mW G h0 a (upd (upd (upd (upd (upd (upd (upd (upd (upd (upd (upd (upd (upd (upd (upd F 15 0) 16 pl252) 27 (nI nd)) 31 (nI wr)) 34 (nI ls253)) 35 (nI (dc + 1))) 44 (nI fd)) 49 (nI md)) 59 (nI bk)) 60 (nI pr)) 64 (nI at250)) 65 ne0) 66 (nI lk)) 67 (nI mf)) 68 (nI mm)) (updA (stR (updA (updA (stR (stR (stR (stR (stR (stR B 26 dc 0) 25 dc (nI (at0 + 1))) 24 dc (nI v49)) 27 dc (-1)) 28 dc (-1)) 29 dc 0) 22 lt254) 23 ln255) 28 dc r256) 2 K)) := hD
                exact cut_j at250 ls253 pl252 (stR (updA (updA (stR (stR (stR (stR (stR (stR B 26 dc 0) 25 dc (nI (at0 + 1))) 24 dc (nI v49)) 27 dc (-1)) 28 dc (-1)) 29 dc 0) 22 lt254) 23 ln255) 28 dc r256) _ _ _ (by omega) (by omega) (by omega) hkq280 (PS.dec hps288 (by omega) hce282 (by omega) hce283 (by omega) hce281 (Or.inl rfl) hce284 (Or.inl rfl) hce285 (OrY.mono (wr := ls253) (h266.imp id (fun ⟨p, a, b⟩ => ⟨p, b, a⟩)) (by omega))) hfm289 hty287 hlr290 hP hD hS (lv_sub hl [0, 2] rfl)
              · have e268 := e268
                have hkq291 : Kq B (updA (updA (stR (stR (stR (stR (stR (stR B 26 dc 0) 25 dc (nI (at0 + 1))) 24 dc (nI v49)) 27 dc (-1)) 28 dc (-1)) 29 dc 0) 22 lt254) 23 ln255) := (Kq.row (Kq.row hkq79 (by omega)) (by omega))
                have hce292 : (updA (updA (stR (stR (stR (stR (stR (stR B 26 dc 0) 25 dc (nI (at0 + 1))) 24 dc (nI v49)) 27 dc (-1)) 28 dc (-1)) 29 dc 0) 22 lt254) 23 ln255) 26 dc = 0 := hce80
                have hce293 : (updA (updA (stR (stR (stR (stR (stR (stR B 26 dc 0) 25 dc (nI (at0 + 1))) 24 dc (nI v49)) 27 dc (-1)) 28 dc (-1)) 29 dc 0) 22 lt254) 23 ln255) 25 dc = (nI (at0 + 1)) := hce81
                have hce294 : (updA (updA (stR (stR (stR (stR (stR (stR B 26 dc 0) 25 dc (nI (at0 + 1))) 24 dc (nI v49)) 27 dc (-1)) 28 dc (-1)) 29 dc 0) 22 lt254) 23 ln255) 24 dc = (nI v49) := hce82
                have hce295 : (updA (updA (stR (stR (stR (stR (stR (stR B 26 dc 0) 25 dc (nI (at0 + 1))) 24 dc (nI v49)) 27 dc (-1)) 28 dc (-1)) 29 dc 0) 22 lt254) 23 ln255) 27 dc = (-1) := hce83
                have hce296 : (updA (updA (stR (stR (stR (stR (stR (stR B 26 dc 0) 25 dc (nI (at0 + 1))) 24 dc (nI v49)) 27 dc (-1)) 28 dc (-1)) 29 dc 0) 22 lt254) 23 ln255) 28 dc = (-1) := hce84
                have hce297 : (updA (updA (stR (stR (stR (stR (stR (stR B 26 dc 0) 25 dc (nI (at0 + 1))) 24 dc (nI v49)) 27 dc (-1)) 28 dc (-1)) 29 dc 0) 22 lt254) 23 ln255) 29 dc = 0 := hce89
                have hty298 : tkRow ((updA (updA (stR (stR (stR (stR (stR (stR B 26 dc 0) 25 dc (nI (at0 + 1))) 24 dc (nI v49)) 27 dc (-1)) 28 dc (-1)) 29 dc 0) 22 lt254) 23 ln255) 19) wr T := hty85
                refine r_sti (f := ((updA (updA (stR (stR (stR (stR (stR (stR B 26 dc 0) 25 dc (nI (at0 + 1))) 24 dc (nI v49)) 27 dc (-1)) 28 dc (-1)) 29 dc 0) 22 lt254) 23 ln255) 28)) (j := dc) hx hb hE hP hD hS 28 (ma_28 G a _) rfl (mas_28 G a _) (by omega) (by decide) dX12_declaration_236 (fun H locs hP hD hS => ?_)
                have hP : va_P G.1 pCl (mW G h0 a (upd (upd (upd (upd (upd (upd (upd (upd (upd (upd (upd (upd (upd (upd (upd F 15 (nI fa251)) 16 pl252) 27 (nI nd)) 31 (nI wr)) 34 (nI ls253)) 35 (nI (dc + 1))) 44 (nI fd)) 49 (nI md)) 59 (nI bk)) 60 (nI pr)) 64 (nI at250)) 65 ne0) 66 (nI lk)) 67 (nI mf)) 68 (nI mm)) (updA (stR (updA (updA (stR (stR (stR (stR (stR (stR B 26 dc 0) 25 dc (nI (at0 + 1))) 24 dc (nI v49)) 27 dc (-1)) 28 dc (-1)) 29 dc 0) 22 lt254) 23 ln255) 28 dc r256) 2 K)) _ := hP
                have hD : va_D A (mW G h0 a (upd (upd (upd (upd (upd (upd (upd (upd (upd (upd (upd (upd (upd (upd (upd F 15 (nI fa251)) 16 pl252) 27 (nI nd)) 31 (nI wr)) 34 (nI ls253)) 35 (nI (dc + 1))) 44 (nI fd)) 49 (nI md)) 59 (nI bk)) 60 (nI pr)) 64 (nI at250)) 65 ne0) 66 (nI lk)) 67 (nI mf)) 68 (nI mm)) (updA (stR (updA (updA (stR (stR (stR (stR (stR (stR B 26 dc 0) 25 dc (nI (at0 + 1))) 24 dc (nI v49)) 27 dc (-1)) 28 dc (-1)) 29 dc 0) 22 lt254) 23 ln255) 28 dc r256) 2 K)) := hD
                have hkq299 : Kq B (stR (updA (updA (stR (stR (stR (stR (stR (stR B 26 dc 0) 25 dc (nI (at0 + 1))) 24 dc (nI v49)) 27 dc (-1)) 28 dc (-1)) 29 dc 0) 22 lt254) 23 ln255) 28 dc r256) := (Kq.st hkq291 (by omega))
                have hce300 : (stR (updA (updA (stR (stR (stR (stR (stR (stR B 26 dc 0) 25 dc (nI (at0 + 1))) 24 dc (nI v49)) 27 dc (-1)) 28 dc (-1)) 29 dc 0) 22 lt254) 23 ln255) 28 dc r256) 26 dc = 0 := ((st_ne (by omega)).trans hce292)
                have hce301 : (stR (updA (updA (stR (stR (stR (stR (stR (stR B 26 dc 0) 25 dc (nI (at0 + 1))) 24 dc (nI v49)) 27 dc (-1)) 28 dc (-1)) 29 dc 0) 22 lt254) 23 ln255) 28 dc r256) 25 dc = (nI (at0 + 1)) := ((st_ne (by omega)).trans hce293)
                have hce302 : (stR (updA (updA (stR (stR (stR (stR (stR (stR B 26 dc 0) 25 dc (nI (at0 + 1))) 24 dc (nI v49)) 27 dc (-1)) 28 dc (-1)) 29 dc 0) 22 lt254) 23 ln255) 28 dc r256) 24 dc = (nI v49) := ((st_ne (by omega)).trans hce294)
                have hce303 : (stR (updA (updA (stR (stR (stR (stR (stR (stR B 26 dc 0) 25 dc (nI (at0 + 1))) 24 dc (nI v49)) 27 dc (-1)) 28 dc (-1)) 29 dc 0) 22 lt254) 23 ln255) 28 dc r256) 27 dc = (-1) := ((st_ne (by omega)).trans hce295)
                have hce304 : (stR (updA (updA (stR (stR (stR (stR (stR (stR B 26 dc 0) 25 dc (nI (at0 + 1))) 24 dc (nI v49)) 27 dc (-1)) 28 dc (-1)) 29 dc 0) 22 lt254) 23 ln255) 28 dc r256) 28 dc = r256 := st_eq
                have hce305 : (stR (updA (updA (stR (stR (stR (stR (stR (stR B 26 dc 0) 25 dc (nI (at0 + 1))) 24 dc (nI v49)) 27 dc (-1)) 28 dc (-1)) 29 dc 0) 22 lt254) 23 ln255) 28 dc r256) 29 dc = 0 := ((st_ne (by omega)).trans hce297)
                have hty306 : tkRow ((stR (updA (updA (stR (stR (stR (stR (stR (stR B 26 dc 0) 25 dc (nI (at0 + 1))) 24 dc (nI v49)) 27 dc (-1)) 28 dc (-1)) 29 dc 0) 22 lt254) 23 ln255) 28 dc r256) 19) wr T := hty298
                refine lv_aload_n hx hb dX12_declaration_237 rfl (lv_at hl 2 rfl) ?_
                refine lv_bipush (v := 123) hx hb dX12_declaration_238 (by decide) ?_
                have hP : va_P G.1 pCl (mW G h0 a (upd (upd (upd (upd (upd (upd (upd (upd (upd (upd (upd (upd (upd (upd (upd (upd (upd F 15 (nI fa251)) 16 pl252) 27 (nI nd)) 31 (nI wr)) 34 (nI ls253)) 35 (nI (dc + 1))) 44 (nI fd)) 49 (nI md)) 59 (nI bk)) 60 (nI pr)) 64 (nI at250)) 65 ne0) 66 (nI lk)) 67 (nI mf)) 68 (nI mm)) 15 (nI fa251)) 64 (nI at250)) (updA (updA (stR (updA (updA (stR (stR (stR (stR (stR (stR B 26 dc 0) 25 dc (nI (at0 + 1))) 24 dc (nI v49)) 27 dc (-1)) 28 dc (-1)) 29 dc 0) 22 lt254) 23 ln255) 28 dc r256) 2 K) 2 K)) _ := hP
                have hD : va_D A (mW G h0 a (upd (upd (upd (upd (upd (upd (upd (upd (upd (upd (upd (upd (upd (upd (upd (upd (upd F 15 (nI fa251)) 16 pl252) 27 (nI nd)) 31 (nI wr)) 34 (nI ls253)) 35 (nI (dc + 1))) 44 (nI fd)) 49 (nI md)) 59 (nI bk)) 60 (nI pr)) 64 (nI at250)) 65 ne0) 66 (nI lk)) 67 (nI mf)) 68 (nI mm)) 15 (nI fa251)) 64 (nI at250)) (updA (updA (stR (updA (updA (stR (stR (stR (stR (stR (stR B 26 dc 0) 25 dc (nI (at0 + 1))) 24 dc (nI v49)) 27 dc (-1)) 28 dc (-1)) 29 dc 0) 22 lt254) 23 ln255) 28 dc r256) 2 K) 2 K)) := hD
                refine pc_V0 (G := G) (As := [.int 123]) (rest := []) hx hb hml hown hq hE hX pX0_al hP hD hS hA hl.1 (R_take l G h0 a (upd (upd (upd (upd (upd (upd (upd (upd (upd (upd (upd (upd (upd (upd (upd F 15 (nI fa251)) 16 pl252) 27 (nI nd)) 31 (nI wr)) 34 (nI ls253)) 35 (nI (dc + 1))) 44 (nI fd)) 49 (nI md)) 59 (nI bk)) 60 (nI pr)) 64 (nI at250)) 65 ne0) 66 (nI lk)) 67 (nI mf)) 68 (nI mm)) (updA (stR (updA (updA (stR (stR (stR (stR (stR (stR B 26 dc 0) 25 dc (nI (at0 + 1))) 24 dc (nI v49)) 27 dc (-1)) 28 dc (-1)) 29 dc 0) 22 lt254) 23 ln255) 28 dc r256) 2 K) at250 T fa251 K 123 (by omega) (by omega) hK (by omega) (by decide) (by decide)) (gV pw_1614 pw_1615 pw_1616 pw_1523 pw_1601) hV_X12_take 0 9 rfl rfl rfl rfl (Nat.le_of_ble_eq_true rfl) dX12_declaration_240 ⟨Nat.le_of_ble_eq_true rfl, Nat.le_of_ble_eq_true rfl⟩ ⟨Nat.le_of_ble_eq_true rfl, Nat.le_of_ble_eq_true rfl⟩ (fun v309 u307 H locs hw308 hP hD hS => ?_)
                obtain ⟨at310, fa311, pl312⟩ := u307
                obtain ⟨hw308, h313, h314, h315, h316, h317, h318, h319, h320⟩ := hw308
                replace h313 : at250 ≤ at310 := h313
                replace h314 : at310 ≤ T := h314
                replace h315 : fa251 ≤ fa311 := h315
                replace h316 : fa311 ≤ 100 := h316
                replace h317 : If (0 < fa251) (at310 = at250 ∧ fa311 = fa251) := h317
                replace h318 : at310 ≤ at250 + 1 := h318
                replace h319 : at250 + 1 ≤ at310 + fa311 := h319
                replace h320 : If (fa311 = 0) (K at250 = 123) := h320
                obtain rfl : v309 = none := hw308
                have hP : va_P G.1 pCl (mW G h0 a (upd (upd (upd (upd (upd (upd (upd (upd (upd (upd (upd (upd (upd (upd (upd F 15 (nI fa311)) 16 pl312) 27 (nI nd)) 31 (nI wr)) 34 (nI ls253)) 35 (nI (dc + 1))) 44 (nI fd)) 49 (nI md)) 59 (nI bk)) 60 (nI pr)) 64 (nI at310)) 65 ne0) 66 (nI lk)) 67 (nI mf)) 68 (nI mm)) (updA (stR (updA (updA (stR (stR (stR (stR (stR (stR B 26 dc 0) 25 dc (nI (at0 + 1))) 24 dc (nI v49)) 27 dc (-1)) 28 dc (-1)) 29 dc 0) 22 lt254) 23 ln255) 28 dc r256) 2 K)) _ := hP
                have hD : va_D A (mW G h0 a (upd (upd (upd (upd (upd (upd (upd (upd (upd (upd (upd (upd (upd (upd (upd F 15 (nI fa311)) 16 pl312) 27 (nI nd)) 31 (nI wr)) 34 (nI ls253)) 35 (nI (dc + 1))) 44 (nI fd)) 49 (nI md)) 59 (nI bk)) 60 (nI pr)) 64 (nI at310)) 65 ne0) 66 (nI lk)) 67 (nI mf)) 68 (nI mm)) (updA (stR (updA (updA (stR (stR (stR (stR (stR (stR B 26 dc 0) 25 dc (nI (at0 + 1))) 24 dc (nI v49)) 27 dc (-1)) 28 dc (-1)) 29 dc 0) 22 lt254) 23 ln255) 28 dc r256) 2 K)) := hD
                refine W.widen (k := 0) (n := 0) (Nat.le_of_ble_eq_true rfl) (Nat.le_of_ble_eq_true rfl) ?_
                refine W.eq (g2 := F0 m 243 ls []) rfl ?_
                obtain ⟨n322, n321⟩ := h317 e268
                replace n322 := n322.symm
                subst n322
                replace n321 := n321.symm
                subst n321
                refine lv_aload_n hx hb dX12_declaration_243 rfl (lv_at hl 2 rfl) ?_
                refine lv_iconst (v := 0) hx hb dX12_declaration_244 (by decide) ?_
                refine r_put (v := 0) (ty := .int) hx hb hown hq hE hP hD hS 67 390 tFX12_67 (by decide) pw_1726 (by decide) rfl rfl (ms_67 a _ _) dX12_declaration_245 (fun H locs hP hD hS => ?_)
                refine lv_aload_n hx hb dX12_declaration_248 rfl (lv_at hl 2 rfl) ?_
                refine lv_iconst (v := 0) hx hb dX12_declaration_249 (by decide) ?_
                refine r_put (v := 0) (ty := .int) hx hb hown hq hE hP hD hS 68 393 tFX12_68 (by decide) pw_1722 (by decide) rfl rfl (ms_68 a _ _) dX12_declaration_250 (fun H locs hP hD hS => ?_)
                refine lv_aload_n hx hb dX12_declaration_253 rfl (lv_at hl 2 rfl) ?_
                refine r_get (v := .int (nI fa251)) hx hb hown hq hE hP 15 350 tFX12_15 (by decide) pw_1594 rfl dX12_declaration_254 ?_
                refine lv_if_ne (tgt := 277) hx hb dX12_declaration_257 (by decide) (fun c323 => ?_) (fun c323 => (by have n324 : fa251 = 0 := (nI_eq (a := fa251) (b := 0) (by omega) (by omega)).mp c323; omega))
                refine lv_aload_n hx hb dX12_declaration_277 rfl (lv_at hl 2 rfl) ?_
                refine lv_bipush (v := 125) hx hb dX12_declaration_278 (by decide) ?_
                have hP : va_P G.1 pCl (mW G h0 a (upd (upd (upd (upd (upd (upd (upd (upd (upd (upd (upd (upd (upd (upd (upd (upd (upd F 15 (nI fa251)) 16 pl312) 27 (nI nd)) 31 (nI wr)) 34 (nI ls253)) 35 (nI (dc + 1))) 44 (nI fd)) 49 (nI md)) 59 (nI bk)) 60 (nI pr)) 64 (nI at250)) 65 ne0) 66 (nI lk)) 67 0) 68 0) 15 (nI fa251)) 64 (nI at250)) (updA (updA (stR (updA (updA (stR (stR (stR (stR (stR (stR B 26 dc 0) 25 dc (nI (at0 + 1))) 24 dc (nI v49)) 27 dc (-1)) 28 dc (-1)) 29 dc 0) 22 lt254) 23 ln255) 28 dc r256) 2 K) 2 K)) _ := hP
                have hD : va_D A (mW G h0 a (upd (upd (upd (upd (upd (upd (upd (upd (upd (upd (upd (upd (upd (upd (upd (upd (upd F 15 (nI fa251)) 16 pl312) 27 (nI nd)) 31 (nI wr)) 34 (nI ls253)) 35 (nI (dc + 1))) 44 (nI fd)) 49 (nI md)) 59 (nI bk)) 60 (nI pr)) 64 (nI at250)) 65 ne0) 66 (nI lk)) 67 0) 68 0) 15 (nI fa251)) 64 (nI at250)) (updA (updA (stR (updA (updA (stR (stR (stR (stR (stR (stR B 26 dc 0) 25 dc (nI (at0 + 1))) 24 dc (nI v49)) 27 dc (-1)) 28 dc (-1)) 29 dc 0) 22 lt254) 23 ln255) 28 dc r256) 2 K) 2 K)) := hD
                refine pc_V0 (G := G) (As := [.int 125]) (rest := []) hx hb hml hown hq hE hX pX0_al hP hD hS hA hl.1 (R_take l G h0 a (upd (upd (upd (upd (upd (upd (upd (upd (upd (upd (upd (upd (upd (upd (upd F 15 (nI fa251)) 16 pl312) 27 (nI nd)) 31 (nI wr)) 34 (nI ls253)) 35 (nI (dc + 1))) 44 (nI fd)) 49 (nI md)) 59 (nI bk)) 60 (nI pr)) 64 (nI at250)) 65 ne0) 66 (nI lk)) 67 0) 68 0) (updA (stR (updA (updA (stR (stR (stR (stR (stR (stR B 26 dc 0) 25 dc (nI (at0 + 1))) 24 dc (nI v49)) 27 dc (-1)) 28 dc (-1)) 29 dc 0) 22 lt254) 23 ln255) 28 dc r256) 2 K) at250 T fa251 K 125 (by omega) (by omega) hK (by omega) (by decide) (by decide)) (gV pw_1614 pw_1615 pw_1616 pw_1523 pw_1601) hV_X12_take 0 9 rfl rfl rfl rfl (Nat.le_of_ble_eq_true rfl) dX12_declaration_280 ⟨Nat.le_of_ble_eq_true rfl, Nat.le_of_ble_eq_true rfl⟩ ⟨Nat.le_of_ble_eq_true rfl, Nat.le_of_ble_eq_true rfl⟩ (fun v327 u325 H locs hw326 hP hD hS => ?_)
                obtain ⟨at328, fa329, pl330⟩ := u325
                obtain ⟨hw326, h331, h332, h333, h334, h335, h336, h337, h338⟩ := hw326
                replace h331 : at250 ≤ at328 := h331
                replace h332 : at328 ≤ T := h332
                replace h333 : fa251 ≤ fa329 := h333
                replace h334 : fa329 ≤ 100 := h334
                replace h335 : If (0 < fa251) (at328 = at250 ∧ fa329 = fa251) := h335
                replace h336 : at328 ≤ at250 + 1 := h336
                replace h337 : at250 + 1 ≤ at328 + fa329 := h337
                replace h338 : If (fa329 = 0) (K at250 = 125) := h338
                obtain rfl : v327 = none := hw326
                have hP : va_P G.1 pCl (mW G h0 a (upd (upd (upd (upd (upd (upd (upd (upd (upd (upd (upd (upd (upd (upd (upd F 15 (nI fa329)) 16 pl330) 27 (nI nd)) 31 (nI wr)) 34 (nI ls253)) 35 (nI (dc + 1))) 44 (nI fd)) 49 (nI md)) 59 (nI bk)) 60 (nI pr)) 64 (nI at328)) 65 ne0) 66 (nI lk)) 67 0) 68 0) (updA (stR (updA (updA (stR (stR (stR (stR (stR (stR B 26 dc 0) 25 dc (nI (at0 + 1))) 24 dc (nI v49)) 27 dc (-1)) 28 dc (-1)) 29 dc 0) 22 lt254) 23 ln255) 28 dc r256) 2 K)) _ := hP
                have hD : va_D A (mW G h0 a (upd (upd (upd (upd (upd (upd (upd (upd (upd (upd (upd (upd (upd (upd (upd F 15 (nI fa329)) 16 pl330) 27 (nI nd)) 31 (nI wr)) 34 (nI ls253)) 35 (nI (dc + 1))) 44 (nI fd)) 49 (nI md)) 59 (nI bk)) 60 (nI pr)) 64 (nI at328)) 65 ne0) 66 (nI lk)) 67 0) 68 0) (updA (stR (updA (updA (stR (stR (stR (stR (stR (stR B 26 dc 0) 25 dc (nI (at0 + 1))) 24 dc (nI v49)) 27 dc (-1)) 28 dc (-1)) 29 dc 0) 22 lt254) 23 ln255) 28 dc r256) 2 K)) := hD
                refine W.widen (k := 0) (n := 0) (Nat.le_of_ble_eq_true rfl) (Nat.le_of_ble_eq_true rfl) ?_
                refine W.eq (g2 := F0 m 283 ls []) rfl ?_
                obtain ⟨n340, n339⟩ := h335 e268
                replace n340 := n340.symm
                subst n340
                replace n339 := n339.symm
                subst n339
                have hz341 : at0 ≤ at250 := (by omega)
                have hz342 : at250 ≤ T := (by omega)
                have hz343 : fa251 ≤ 100 := (by omega)
                have hz344 : at0 + 1 ≤ at250 + fa251 := (by omega)
                have hz345 : Kq B (stR (updA (updA (stR (stR (stR (stR (stR (stR B 26 dc 0) 25 dc (nI (at0 + 1))) 24 dc (nI v49)) 27 dc (-1)) 28 dc (-1)) 29 dc 0) 22 lt254) 23 ln255) 28 dc r256) := hkq299
                have hz346 : If (fa251 = 0) ((nd ≤ 2 * at250 ∧ wr ≤ at250 ∧ ls253 ≤ at250 ∧ pr ≤ at250 ∧ (dc + 1) ≤ 37 ∧ dc ≤ (dc + 1) ∧ bk ≤ md ∧ wr ≤ wr ∧ lz ≤ ls253) ∧ (md + 210 ≤ 30 * (dc + 1) ∧ fd + 140 ≤ 20 * (dc + 1) ∧ (dc + 1) ≤ 37 ∧ 7 ≤ (dc + 1) ∧ (dc + 1) ≤ dc + 1) ∧ PS T nm wr ls253 (dc + 1) fd md pr bk (stR (updA (updA (stR (stR (stR (stR (stR (stR B 26 dc 0) 25 dc (nI (at0 + 1))) 24 dc (nI v49)) 27 dc (-1)) 28 dc (-1)) 29 dc 0) 22 lt254) 23 ln255) 28 dc r256) ∧ FrM K T wr (stR (updA (updA (stR (stR (stR (stR (stR (stR B 26 dc 0) 25 dc (nI (at0 + 1))) 24 dc (nI v49)) 27 dc (-1)) 28 dc (-1)) 29 dc 0) 22 lt254) 23 ln255) 28 dc r256) nd md ∧ tkRow ((stR (updA (updA (stR (stR (stR (stR (stR (stR B 26 dc 0) 25 dc (nI (at0 + 1))) 24 dc (nI v49)) 27 dc (-1)) 28 dc (-1)) 29 dc 0) 22 lt254) 23 ln255) 28 dc r256) 19) wr T ∧ lsRow ((stR (updA (updA (stR (stR (stR (stR (stR (stR B 26 dc 0) 25 dc (nI (at0 + 1))) 24 dc (nI v49)) 27 dc (-1)) 28 dc (-1)) 29 dc 0) 22 lt254) 23 ln255) 28 dc r256) 22) ((stR (updA (updA (stR (stR (stR (stR (stR (stR B 26 dc 0) 25 dc (nI (at0 + 1))) 24 dc (nI v49)) 27 dc (-1)) 28 dc (-1)) 29 dc 0) 22 lt254) 23 ln255) 28 dc r256) 23) ls253 T) := (fun e => absurd e (by omega))
                have hP : va_P G.1 pCl (mW G h0 a (upd (upd (upd (upd (upd (upd (upd (upd (upd (upd (upd (upd (upd (upd (upd F 15 (nI fa251)) 16 pl330) 27 (nI nd)) 31 (nI wr)) 34 (nI ls253)) 35 (nI (dc + 1))) 44 (nI fd)) 49 (nI md)) 59 (nI bk)) 60 (nI pr)) 64 (nI at250)) 65 ne0) 66 (nI lk)) 67 (nI 0)) 68 (nI 0)) (updA (stR (updA (updA (stR (stR (stR (stR (stR (stR B 26 dc 0) 25 dc (nI (at0 + 1))) 24 dc (nI v49)) 27 dc (-1)) 28 dc (-1)) 29 dc 0) 22 lt254) 23 ln255) 28 dc r256) 2 K)) _ := hP
                have hD : va_D A (mW G h0 a (upd (upd (upd (upd (upd (upd (upd (upd (upd (upd (upd (upd (upd (upd (upd F 15 (nI fa251)) 16 pl330) 27 (nI nd)) 31 (nI wr)) 34 (nI ls253)) 35 (nI (dc + 1))) 44 (nI fd)) 49 (nI md)) 59 (nI bk)) 60 (nI pr)) 64 (nI at250)) 65 ne0) 66 (nI lk)) 67 (nI 0)) 68 (nI 0)) (updA (stR (updA (updA (stR (stR (stR (stR (stR (stR B 26 dc 0) 25 dc (nI (at0 + 1))) 24 dc (nI v49)) 27 dc (-1)) 28 dc (-1)) 29 dc 0) 22 lt254) 23 ln255) 28 dc r256) 2 K)) := hD
                exact W.vret hx hb hr (fun t9 ht9 hW9 => ⟨⟨_, (at250, fa251, pl330, nd, wr, ls253, (dc + 1), fd, md, pr, bk, 0, 0, ne0, (stR (updA (updA (stR (stR (stR (stR (stR (stR B 26 dc 0) 25 dc (nI (at0 + 1))) 24 dc (nI v49)) 27 dc (-1)) 28 dc (-1)) 29 dc 0) 22 lt254) 23 ln255) 28 dc r256)), rfl, ⟨rfl, hz341, hz342, hz343, hz344, hz345, hz346⟩, by rw [ht9]; exact hP, hD⟩, hS.F ht9⟩) hS.2.2 dX12_declaration_283
          · have n347 : ¬ (r223 = 0) := fun h9 => c230 ((nI_eq (a := r223) (b := 0) (by omega) (by omega)).mpr h9)
            refine lv_iload_n hx hb dX12_declaration_149 rfl (lv_at hl 1 rfl) ?_
            refine lv_if_eq (tgt := 166) hx hb dX12_declaration_150 (by decide) (fun c348 => ?_) (fun c348 => absurd c348 (by decide))
            refine lv_aload_n hx hb dX12_declaration_166 rfl (lv_at hl 2 rfl) ?_
            refine r_get (v := .ref (a 27)) hx hb hown hq hE hP 39 93 tFX12_39 (by decide) pw_1458 rfl dX12_declaration_167 ?_
            refine lv_iload_n hx hb dX12_declaration_170 rfl (lv_at hl 0 rfl) ?_
            refine lv_aload_n hx hb dX12_declaration_171 rfl (lv_at hl 2 rfl) ?_
            refine r_get (v := .int (nI lz)) hx hb hown hq hE hP 34 372 tFX12_34 (by decide) pw_1617 rfl dX12_declaration_172 ?_
            refine r_sti (f := ((stR (stR (stR (stR (stR (stR B 26 dc 0) 25 dc (nI (at0 + 1))) 24 dc (nI v49)) 27 dc (-1)) 28 dc (-1)) 29 dc 0) 27)) (j := dc) hx hb hE hP hD hS 27 (ma_27 G a _) rfl (mas_27 G a _) (by omega) (by decide) dX12_declaration_175 (fun H locs hP hD hS => ?_)
            have hP : va_P G.1 pCl (mW G h0 a (upd (upd (upd (upd (upd (upd (upd (upd (upd (upd (upd (upd (upd (upd (upd F 15 0) 16 pl27) 27 (nI nd)) 31 (nI wr)) 34 (nI lz)) 35 (nI (dc + 1))) 44 (nI fd)) 49 (nI md)) 59 (nI bk)) 60 (nI pr)) 64 (nI at222)) 65 ne0) 66 (nI lk)) 67 (nI mf)) 68 (nI mm)) (updA (stR (stR (stR (stR (stR (stR (stR B 26 dc 0) 25 dc (nI (at0 + 1))) 24 dc (nI v49)) 27 dc (-1)) 28 dc (-1)) 29 dc 0) 27 dc (nI lz)) 2 K)) _ := hP
            have hD : va_D A (mW G h0 a (upd (upd (upd (upd (upd (upd (upd (upd (upd (upd (upd (upd (upd (upd (upd F 15 0) 16 pl27) 27 (nI nd)) 31 (nI wr)) 34 (nI lz)) 35 (nI (dc + 1))) 44 (nI fd)) 49 (nI md)) 59 (nI bk)) 60 (nI pr)) 64 (nI at222)) 65 ne0) 66 (nI lk)) 67 (nI mf)) 68 (nI mm)) (updA (stR (stR (stR (stR (stR (stR (stR B 26 dc 0) 25 dc (nI (at0 + 1))) 24 dc (nI v49)) 27 dc (-1)) 28 dc (-1)) 29 dc 0) 27 dc (nI lz)) 2 K)) := hD
            have hkq349 : Kq B (stR (stR (stR (stR (stR (stR (stR B 26 dc 0) 25 dc (nI (at0 + 1))) 24 dc (nI v49)) 27 dc (-1)) 28 dc (-1)) 29 dc 0) 27 dc (nI lz)) := (Kq.st hkq79 (by omega))
            have hce350 : (stR (stR (stR (stR (stR (stR (stR B 26 dc 0) 25 dc (nI (at0 + 1))) 24 dc (nI v49)) 27 dc (-1)) 28 dc (-1)) 29 dc 0) 27 dc (nI lz)) 26 dc = 0 := ((st_ne (by omega)).trans hce80)
            have hce351 : (stR (stR (stR (stR (stR (stR (stR B 26 dc 0) 25 dc (nI (at0 + 1))) 24 dc (nI v49)) 27 dc (-1)) 28 dc (-1)) 29 dc 0) 27 dc (nI lz)) 25 dc = (nI (at0 + 1)) := ((st_ne (by omega)).trans hce81)
            have hce352 : (stR (stR (stR (stR (stR (stR (stR B 26 dc 0) 25 dc (nI (at0 + 1))) 24 dc (nI v49)) 27 dc (-1)) 28 dc (-1)) 29 dc 0) 27 dc (nI lz)) 24 dc = (nI v49) := ((st_ne (by omega)).trans hce82)
            have hce353 : (stR (stR (stR (stR (stR (stR (stR B 26 dc 0) 25 dc (nI (at0 + 1))) 24 dc (nI v49)) 27 dc (-1)) 28 dc (-1)) 29 dc 0) 27 dc (nI lz)) 27 dc = (nI lz) := st_eq
            have hce354 : (stR (stR (stR (stR (stR (stR (stR B 26 dc 0) 25 dc (nI (at0 + 1))) 24 dc (nI v49)) 27 dc (-1)) 28 dc (-1)) 29 dc 0) 27 dc (nI lz)) 28 dc = (-1) := ((st_ne (by omega)).trans hce84)
            have hce355 : (stR (stR (stR (stR (stR (stR (stR B 26 dc 0) 25 dc (nI (at0 + 1))) 24 dc (nI v49)) 27 dc (-1)) 28 dc (-1)) 29 dc 0) 27 dc (nI lz)) 29 dc = 0 := ((st_ne (by omega)).trans hce89)
            have hty356 : tkRow ((stR (stR (stR (stR (stR (stR (stR B 26 dc 0) 25 dc (nI (at0 + 1))) 24 dc (nI v49)) 27 dc (-1)) 28 dc (-1)) 29 dc 0) 27 dc (nI lz)) 19) wr T := hty85
            have hps357 : PS T nm wr lz dc fd md pr bk (stR (stR (stR (stR (stR (stR (stR B 26 dc 0) 25 dc (nI (at0 + 1))) 24 dc (nI v49)) 27 dc (-1)) 28 dc (-1)) 29 dc 0) 27 dc (nI lz)) := (PS.same hps86 (by omega) (by omega) (fun r i q1 q2 q3 => st_ne (fun e => by rw [e.1, e.2] at q3; exact absurd (show dc < dc from q3) (by omega))))
            have hfm358 : FrM K T wr (stR (stR (stR (stR (stR (stR (stR B 26 dc 0) 25 dc (nI (at0 + 1))) 24 dc (nI v49)) 27 dc (-1)) 28 dc (-1)) 29 dc 0) 27 dc (nI lz)) nd md := (FrM.same hfm87 (by omega) (fun j i q1 q2 q3 => st_ne (by omega)) (fun i q => st_ne (by omega)))
            have hlr359 : lsRow ((stR (stR (stR (stR (stR (stR (stR B 26 dc 0) 25 dc (nI (at0 + 1))) 24 dc (nI v49)) 27 dc (-1)) 28 dc (-1)) 29 dc 0) 27 dc (nI lz)) 22) ((stR (stR (stR (stR (stR (stR (stR B 26 dc 0) 25 dc (nI (at0 + 1))) 24 dc (nI v49)) 27 dc (-1)) 28 dc (-1)) 29 dc 0) 27 dc (nI lz)) 23) lz T := hlr88
            refine lv_aload_n hx hb dX12_declaration_176 rfl (lv_at hl 2 rfl) ?_
            refine lv_dup hx hb dX12_declaration_177 rfl ?_
            refine r_get (v := .int (nI lz)) hx hb hown hq hE hP 34 372 tFX12_34 (by decide) pw_1617 rfl dX12_declaration_178 ?_
            refine lv_iconst (v := 1) hx hb dX12_declaration_181 (by decide) ?_
            refine lv_iadd hx hb dX12_declaration_182 ?_
            refine lv_topi (fun x360 e361 => ?_)
            obtain rfl : x360 = nI (lz + 1) := e361.trans (nI_add (lz) (1))
            refine r_put (v := (nI (lz + 1))) (ty := .int) hx hb hown hq hE hP hD hS 34 372 tFX12_34 (by decide) pw_1617 (by decide) rfl rfl (ms_34 a _ _) dX12_declaration_183 (fun H locs hP hD hS => ?_)
            refine lv_aload_n hx hb dX12_declaration_186 rfl (lv_at hl 2 rfl) ?_
            refine r_get (v := .ref (a 22)) hx hb hown hq hE hP 32 78 tFX12_32 (by decide) pw_1453 rfl dX12_declaration_187 ?_
            refine lv_aload_n hx hb dX12_declaration_190 rfl (lv_at hl 2 rfl) ?_
            refine r_get (v := .ref (a 27)) hx hb hown hq hE hP 39 93 tFX12_39 (by decide) pw_1458 rfl dX12_declaration_191 ?_
            refine lv_iload_n hx hb dX12_declaration_194 rfl (lv_at hl 0 rfl) ?_
            refine r_ldi (f := ((stR (stR (stR (stR (stR (stR (stR B 26 dc 0) 25 dc (nI (at0 + 1))) 24 dc (nI v49)) 27 dc (-1)) 28 dc (-1)) 29 dc 0) 27 dc (nI lz)) 27)) (j := dc) hx hb hE hP 27 (ma_27 G a _) rfl (by omega) (by decide) dX12_declaration_195 ?_
            refine lv_topi (fun x362 e363 => ?_)
            obtain rfl : x362 = (nI lz) := e363.trans hce353
            refine lv_aload_n hx hb dX12_declaration_196 rfl (lv_at hl 2 rfl) ?_
            have hP : va_P G.1 pCl (mW G h0 a (upd (upd (upd (upd (upd (upd (upd (upd (upd (upd (upd (upd (upd (upd (upd (upd (upd F 15 0) 16 pl27) 27 (nI nd)) 31 (nI wr)) 34 (nI (lz + 1))) 35 (nI (dc + 1))) 44 (nI fd)) 49 (nI md)) 59 (nI bk)) 60 (nI pr)) 64 (nI at222)) 65 ne0) 66 (nI lk)) 67 (nI mf)) 68 (nI mm)) 15 (nI 0)) 64 (nI at222)) (updA (updA (stR (stR (stR (stR (stR (stR (stR B 26 dc 0) 25 dc (nI (at0 + 1))) 24 dc (nI v49)) 27 dc (-1)) 28 dc (-1)) 29 dc 0) 27 dc (nI lz)) 2 K) 2 K)) _ := hP
            have hD : va_D A (mW G h0 a (upd (upd (upd (upd (upd (upd (upd (upd (upd (upd (upd (upd (upd (upd (upd (upd (upd F 15 0) 16 pl27) 27 (nI nd)) 31 (nI wr)) 34 (nI (lz + 1))) 35 (nI (dc + 1))) 44 (nI fd)) 49 (nI md)) 59 (nI bk)) 60 (nI pr)) 64 (nI at222)) 65 ne0) 66 (nI lk)) 67 (nI mf)) 68 (nI mm)) 15 (nI 0)) 64 (nI at222)) (updA (updA (stR (stR (stR (stR (stR (stR (stR B 26 dc 0) 25 dc (nI (at0 + 1))) 24 dc (nI v49)) 27 dc (-1)) 28 dc (-1)) 29 dc 0) 27 dc (nI lz)) 2 K) 2 K)) := hD
            refine pc_V0 (G := G) (As := []) (rest := [.int (nI lz), .ref (a 22)]) hx hb hml hown hq hE hX pX0_al hP hD hS hA hl.1 (R_name l G h0 a (upd (upd (upd (upd (upd (upd (upd (upd (upd (upd (upd (upd (upd (upd (upd F 15 0) 16 pl27) 27 (nI nd)) 31 (nI wr)) 34 (nI (lz + 1))) 35 (nI (dc + 1))) 44 (nI fd)) 49 (nI md)) 59 (nI bk)) 60 (nI pr)) 64 (nI at222)) 65 ne0) 66 (nI lk)) 67 (nI mf)) 68 (nI mm)) (updA (stR (stR (stR (stR (stR (stR (stR B 26 dc 0) 25 dc (nI (at0 + 1))) 24 dc (nI v49)) 27 dc (-1)) 28 dc (-1)) 29 dc 0) 27 dc (nI lz)) 2 K) at222 T 0 K (by omega) (by omega) hK (by omega)) (gV pw_1618 pw_1619 pw_1620 pw_1523 pw_1613) hV_X12_name 0 9 rfl rfl rfl rfl (Nat.le_of_ble_eq_true rfl) dX12_declaration_197 ⟨Nat.le_of_ble_eq_true rfl, Nat.le_of_ble_eq_true rfl⟩ ⟨Nat.le_of_ble_eq_true rfl, Nat.le_of_ble_eq_true rfl⟩ (fun v366 u364 H locs hw365 hP hD hS => ?_)
            obtain ⟨at367, fa368, pl369⟩ := u364
            obtain ⟨hw365, h370, h371, h372, h373, h374, h375, h376, h377⟩ := hw365
            replace h370 : at222 ≤ at367 := h370
            replace h371 : at367 ≤ T := h371
            replace h372 : 0 ≤ fa368 := h372
            replace h373 : fa368 ≤ 100 := h373
            replace h374 : If (0 < 0) (at367 = at222 ∧ fa368 = 0) := h374
            replace h375 : at367 ≤ at222 + 1 := h375
            replace h376 : at222 + 1 ≤ at367 + fa368 := h376
            replace h377 : If (fa368 = 0) (K at222 = 1) := h377
            obtain rfl : v366 = some (.int (nI at222)) := hw365
            have hP : va_P G.1 pCl (mW G h0 a (upd (upd (upd (upd (upd (upd (upd (upd (upd (upd (upd (upd (upd (upd (upd F 15 (nI fa368)) 16 pl369) 27 (nI nd)) 31 (nI wr)) 34 (nI (lz + 1))) 35 (nI (dc + 1))) 44 (nI fd)) 49 (nI md)) 59 (nI bk)) 60 (nI pr)) 64 (nI at367)) 65 ne0) 66 (nI lk)) 67 (nI mf)) 68 (nI mm)) (updA (stR (stR (stR (stR (stR (stR (stR B 26 dc 0) 25 dc (nI (at0 + 1))) 24 dc (nI v49)) 27 dc (-1)) 28 dc (-1)) 29 dc 0) 27 dc (nI lz)) 2 K)) _ := hP
            have hD : va_D A (mW G h0 a (upd (upd (upd (upd (upd (upd (upd (upd (upd (upd (upd (upd (upd (upd (upd F 15 (nI fa368)) 16 pl369) 27 (nI nd)) 31 (nI wr)) 34 (nI (lz + 1))) 35 (nI (dc + 1))) 44 (nI fd)) 49 (nI md)) 59 (nI bk)) 60 (nI pr)) 64 (nI at367)) 65 ne0) 66 (nI lk)) 67 (nI mf)) 68 (nI mm)) (updA (stR (stR (stR (stR (stR (stR (stR B 26 dc 0) 25 dc (nI (at0 + 1))) 24 dc (nI v49)) 27 dc (-1)) 28 dc (-1)) 29 dc 0) 27 dc (nI lz)) 2 K)) := hD
            refine W.widen (k := 0) (n := 0) (Nat.le_of_ble_eq_true rfl) (Nat.le_of_ble_eq_true rfl) ?_
            refine W.eq (g2 := F0 m 200 ls [.int (nI at222), .int (nI lz), .ref (a 22)]) rfl ?_
            rcases Nat.eq_zero_or_pos fa368 with e378 | e378
            · subst e378
              have hP : va_P G.1 pCl (mW G h0 a (upd (upd (upd (upd (upd (upd (upd (upd (upd (upd (upd (upd (upd (upd (upd F 15 0) 16 pl369) 27 (nI nd)) 31 (nI wr)) 34 (nI (lz + 1))) 35 (nI (dc + 1))) 44 (nI fd)) 49 (nI md)) 59 (nI bk)) 60 (nI pr)) 64 (nI at367)) 65 ne0) 66 (nI lk)) 67 (nI mf)) 68 (nI mm)) (updA (stR (stR (stR (stR (stR (stR (stR B 26 dc 0) 25 dc (nI (at0 + 1))) 24 dc (nI v49)) 27 dc (-1)) 28 dc (-1)) 29 dc 0) 27 dc (nI lz)) 2 K)) _ := hP
              have hD : va_D A (mW G h0 a (upd (upd (upd (upd (upd (upd (upd (upd (upd (upd (upd (upd (upd (upd (upd F 15 0) 16 pl369) 27 (nI nd)) 31 (nI wr)) 34 (nI (lz + 1))) 35 (nI (dc + 1))) 44 (nI fd)) 49 (nI md)) 59 (nI bk)) 60 (nI pr)) 64 (nI at367)) 65 ne0) 66 (nI lk)) 67 (nI mf)) 68 (nI mm)) (updA (stR (stR (stR (stR (stR (stR (stR B 26 dc 0) 25 dc (nI (at0 + 1))) 24 dc (nI v49)) 27 dc (-1)) 28 dc (-1)) 29 dc 0) 27 dc (nI lz)) 2 K)) := hD
              refine r_sti (f := ((stR (stR (stR (stR (stR (stR (stR B 26 dc 0) 25 dc (nI (at0 + 1))) 24 dc (nI v49)) 27 dc (-1)) 28 dc (-1)) 29 dc 0) 27 dc (nI lz)) 22)) (j := lz) hx hb hE hP hD hS 22 (ma_22 G a _) rfl (mas_22 G a _) (by omega) (by decide) dX12_declaration_200 (fun H locs hP hD hS => ?_)
              have hP : va_P G.1 pCl (mW G h0 a (upd (upd (upd (upd (upd (upd (upd (upd (upd (upd (upd (upd (upd (upd (upd F 15 0) 16 pl369) 27 (nI nd)) 31 (nI wr)) 34 (nI (lz + 1))) 35 (nI (dc + 1))) 44 (nI fd)) 49 (nI md)) 59 (nI bk)) 60 (nI pr)) 64 (nI at367)) 65 ne0) 66 (nI lk)) 67 (nI mf)) 68 (nI mm)) (updA (stR (stR (stR (stR (stR (stR (stR (stR B 26 dc 0) 25 dc (nI (at0 + 1))) 24 dc (nI v49)) 27 dc (-1)) 28 dc (-1)) 29 dc 0) 27 dc (nI lz)) 22 lz (nI at222)) 2 K)) _ := hP
              have hD : va_D A (mW G h0 a (upd (upd (upd (upd (upd (upd (upd (upd (upd (upd (upd (upd (upd (upd (upd F 15 0) 16 pl369) 27 (nI nd)) 31 (nI wr)) 34 (nI (lz + 1))) 35 (nI (dc + 1))) 44 (nI fd)) 49 (nI md)) 59 (nI bk)) 60 (nI pr)) 64 (nI at367)) 65 ne0) 66 (nI lk)) 67 (nI mf)) 68 (nI mm)) (updA (stR (stR (stR (stR (stR (stR (stR (stR B 26 dc 0) 25 dc (nI (at0 + 1))) 24 dc (nI v49)) 27 dc (-1)) 28 dc (-1)) 29 dc 0) 27 dc (nI lz)) 22 lz (nI at222)) 2 K)) := hD
              have hkq379 : Kq B (stR (stR (stR (stR (stR (stR (stR (stR B 26 dc 0) 25 dc (nI (at0 + 1))) 24 dc (nI v49)) 27 dc (-1)) 28 dc (-1)) 29 dc 0) 27 dc (nI lz)) 22 lz (nI at222)) := (Kq.st hkq349 (by omega))
              have hce380 : (stR (stR (stR (stR (stR (stR (stR (stR B 26 dc 0) 25 dc (nI (at0 + 1))) 24 dc (nI v49)) 27 dc (-1)) 28 dc (-1)) 29 dc 0) 27 dc (nI lz)) 22 lz (nI at222)) 26 dc = 0 := ((st_ne (by omega)).trans hce350)
              have hce381 : (stR (stR (stR (stR (stR (stR (stR (stR B 26 dc 0) 25 dc (nI (at0 + 1))) 24 dc (nI v49)) 27 dc (-1)) 28 dc (-1)) 29 dc 0) 27 dc (nI lz)) 22 lz (nI at222)) 25 dc = (nI (at0 + 1)) := ((st_ne (by omega)).trans hce351)
              have hce382 : (stR (stR (stR (stR (stR (stR (stR (stR B 26 dc 0) 25 dc (nI (at0 + 1))) 24 dc (nI v49)) 27 dc (-1)) 28 dc (-1)) 29 dc 0) 27 dc (nI lz)) 22 lz (nI at222)) 24 dc = (nI v49) := ((st_ne (by omega)).trans hce352)
              have hce383 : (stR (stR (stR (stR (stR (stR (stR (stR B 26 dc 0) 25 dc (nI (at0 + 1))) 24 dc (nI v49)) 27 dc (-1)) 28 dc (-1)) 29 dc 0) 27 dc (nI lz)) 22 lz (nI at222)) 27 dc = (nI lz) := ((st_ne (by omega)).trans hce353)
              have hce384 : (stR (stR (stR (stR (stR (stR (stR (stR B 26 dc 0) 25 dc (nI (at0 + 1))) 24 dc (nI v49)) 27 dc (-1)) 28 dc (-1)) 29 dc 0) 27 dc (nI lz)) 22 lz (nI at222)) 28 dc = (-1) := ((st_ne (by omega)).trans hce354)
              have hce385 : (stR (stR (stR (stR (stR (stR (stR (stR B 26 dc 0) 25 dc (nI (at0 + 1))) 24 dc (nI v49)) 27 dc (-1)) 28 dc (-1)) 29 dc 0) 27 dc (nI lz)) 22 lz (nI at222)) 29 dc = 0 := ((st_ne (by omega)).trans hce355)
              have hty386 : tkRow ((stR (stR (stR (stR (stR (stR (stR (stR B 26 dc 0) 25 dc (nI (at0 + 1))) 24 dc (nI v49)) 27 dc (-1)) 28 dc (-1)) 29 dc 0) 27 dc (nI lz)) 22 lz (nI at222)) 19) wr T := hty356
              have hps387 : PS T nm wr (lz + 1) dc fd md pr bk (stR (stR (stR (stR (stR (stR (stR (stR B 26 dc 0) 25 dc (nI (at0 + 1))) 24 dc (nI v49)) 27 dc (-1)) 28 dc (-1)) 29 dc 0) 27 dc (nI lz)) 22 lz (nI at222)) := (PS.same hps357 (by omega) (by omega) (fun r i q1 q2 q3 => st_ne (by omega)))
              have hfm388 : FrM K T wr (stR (stR (stR (stR (stR (stR (stR (stR B 26 dc 0) 25 dc (nI (at0 + 1))) 24 dc (nI v49)) 27 dc (-1)) 28 dc (-1)) 29 dc 0) 27 dc (nI lz)) 22 lz (nI at222)) nd md := (FrM.same hfm358 (by omega) (fun j i q1 q2 q3 => st_ne (by omega)) (fun i q => st_ne (by omega)))
              have hlr389 : lsRow ((stR (stR (stR (stR (stR (stR (stR (stR B 26 dc 0) 25 dc (nI (at0 + 1))) 24 dc (nI v49)) 27 dc (-1)) 28 dc (-1)) 29 dc 0) 27 dc (nI lz)) 22 lz (nI at222)) 22) ((stR (stR (stR (stR (stR (stR (stR (stR B 26 dc 0) 25 dc (nI (at0 + 1))) 24 dc (nI v49)) 27 dc (-1)) 28 dc (-1)) 29 dc 0) 27 dc (nI lz)) 22 lz (nI at222)) 23) lz T := (lsRow_up1 hlr359)
              refine lv_aload_n hx hb dX12_declaration_201 rfl (lv_at hl 2 rfl) ?_
              refine r_get (v := .ref (a 23)) hx hb hown hq hE hP 33 81 tFX12_33 (by decide) pw_1454 rfl dX12_declaration_202 ?_
              refine lv_aload_n hx hb dX12_declaration_205 rfl (lv_at hl 2 rfl) ?_
              refine r_get (v := .ref (a 27)) hx hb hown hq hE hP 39 93 tFX12_39 (by decide) pw_1458 rfl dX12_declaration_206 ?_
              refine lv_iload_n hx hb dX12_declaration_209 rfl (lv_at hl 0 rfl) ?_
              refine r_ldi (f := ((stR (stR (stR (stR (stR (stR (stR (stR B 26 dc 0) 25 dc (nI (at0 + 1))) 24 dc (nI v49)) 27 dc (-1)) 28 dc (-1)) 29 dc 0) 27 dc (nI lz)) 22 lz (nI at222)) 27)) (j := dc) hx hb hE hP 27 (ma_27 G a _) rfl (by omega) (by decide) dX12_declaration_210 ?_
              refine lv_topi (fun x390 e391 => ?_)
              obtain rfl : x390 = (nI lz) := e391.trans hce383
              refine lv_iconst (v := (-1)) hx hb dX12_declaration_211 (by decide) ?_
              refine r_sti (f := ((stR (stR (stR (stR (stR (stR (stR (stR B 26 dc 0) 25 dc (nI (at0 + 1))) 24 dc (nI v49)) 27 dc (-1)) 28 dc (-1)) 29 dc 0) 27 dc (nI lz)) 22 lz (nI at222)) 23)) (j := lz) hx hb hE hP hD hS 23 (ma_23 G a _) rfl (mas_23 G a _) (by omega) (by decide) dX12_declaration_212 (fun H locs hP hD hS => ?_)
              have hP : va_P G.1 pCl (mW G h0 a (upd (upd (upd (upd (upd (upd (upd (upd (upd (upd (upd (upd (upd (upd (upd F 15 0) 16 pl369) 27 (nI nd)) 31 (nI wr)) 34 (nI (lz + 1))) 35 (nI (dc + 1))) 44 (nI fd)) 49 (nI md)) 59 (nI bk)) 60 (nI pr)) 64 (nI at367)) 65 ne0) 66 (nI lk)) 67 (nI mf)) 68 (nI mm)) (updA (stR (stR (stR (stR (stR (stR (stR (stR (stR B 26 dc 0) 25 dc (nI (at0 + 1))) 24 dc (nI v49)) 27 dc (-1)) 28 dc (-1)) 29 dc 0) 27 dc (nI lz)) 22 lz (nI at222)) 23 lz (-1)) 2 K)) _ := hP
              have hD : va_D A (mW G h0 a (upd (upd (upd (upd (upd (upd (upd (upd (upd (upd (upd (upd (upd (upd (upd F 15 0) 16 pl369) 27 (nI nd)) 31 (nI wr)) 34 (nI (lz + 1))) 35 (nI (dc + 1))) 44 (nI fd)) 49 (nI md)) 59 (nI bk)) 60 (nI pr)) 64 (nI at367)) 65 ne0) 66 (nI lk)) 67 (nI mf)) 68 (nI mm)) (updA (stR (stR (stR (stR (stR (stR (stR (stR (stR B 26 dc 0) 25 dc (nI (at0 + 1))) 24 dc (nI v49)) 27 dc (-1)) 28 dc (-1)) 29 dc 0) 27 dc (nI lz)) 22 lz (nI at222)) 23 lz (-1)) 2 K)) := hD
              have hkq392 : Kq B (stR (stR (stR (stR (stR (stR (stR (stR (stR B 26 dc 0) 25 dc (nI (at0 + 1))) 24 dc (nI v49)) 27 dc (-1)) 28 dc (-1)) 29 dc 0) 27 dc (nI lz)) 22 lz (nI at222)) 23 lz (-1)) := (Kq.st hkq379 (by omega))
              have hce393 : (stR (stR (stR (stR (stR (stR (stR (stR (stR B 26 dc 0) 25 dc (nI (at0 + 1))) 24 dc (nI v49)) 27 dc (-1)) 28 dc (-1)) 29 dc 0) 27 dc (nI lz)) 22 lz (nI at222)) 23 lz (-1)) 26 dc = 0 := ((st_ne (by omega)).trans hce380)
              have hce394 : (stR (stR (stR (stR (stR (stR (stR (stR (stR B 26 dc 0) 25 dc (nI (at0 + 1))) 24 dc (nI v49)) 27 dc (-1)) 28 dc (-1)) 29 dc 0) 27 dc (nI lz)) 22 lz (nI at222)) 23 lz (-1)) 25 dc = (nI (at0 + 1)) := ((st_ne (by omega)).trans hce381)
              have hce395 : (stR (stR (stR (stR (stR (stR (stR (stR (stR B 26 dc 0) 25 dc (nI (at0 + 1))) 24 dc (nI v49)) 27 dc (-1)) 28 dc (-1)) 29 dc 0) 27 dc (nI lz)) 22 lz (nI at222)) 23 lz (-1)) 24 dc = (nI v49) := ((st_ne (by omega)).trans hce382)
              have hce396 : (stR (stR (stR (stR (stR (stR (stR (stR (stR B 26 dc 0) 25 dc (nI (at0 + 1))) 24 dc (nI v49)) 27 dc (-1)) 28 dc (-1)) 29 dc 0) 27 dc (nI lz)) 22 lz (nI at222)) 23 lz (-1)) 27 dc = (nI lz) := ((st_ne (by omega)).trans hce383)
              have hce397 : (stR (stR (stR (stR (stR (stR (stR (stR (stR B 26 dc 0) 25 dc (nI (at0 + 1))) 24 dc (nI v49)) 27 dc (-1)) 28 dc (-1)) 29 dc 0) 27 dc (nI lz)) 22 lz (nI at222)) 23 lz (-1)) 28 dc = (-1) := ((st_ne (by omega)).trans hce384)
              have hce398 : (stR (stR (stR (stR (stR (stR (stR (stR (stR B 26 dc 0) 25 dc (nI (at0 + 1))) 24 dc (nI v49)) 27 dc (-1)) 28 dc (-1)) 29 dc 0) 27 dc (nI lz)) 22 lz (nI at222)) 23 lz (-1)) 29 dc = 0 := ((st_ne (by omega)).trans hce385)
              have hty399 : tkRow ((stR (stR (stR (stR (stR (stR (stR (stR (stR B 26 dc 0) 25 dc (nI (at0 + 1))) 24 dc (nI v49)) 27 dc (-1)) 28 dc (-1)) 29 dc 0) 27 dc (nI lz)) 22 lz (nI at222)) 23 lz (-1)) 19) wr T := hty386
              have hps400 : PS T nm wr (lz + 1) dc fd md pr bk (stR (stR (stR (stR (stR (stR (stR (stR (stR B 26 dc 0) 25 dc (nI (at0 + 1))) 24 dc (nI v49)) 27 dc (-1)) 28 dc (-1)) 29 dc 0) 27 dc (nI lz)) 22 lz (nI at222)) 23 lz (-1)) := (PS.same hps387 (by omega) (by omega) (fun r i q1 q2 q3 => st_ne (by omega)))
              have hfm401 : FrM K T wr (stR (stR (stR (stR (stR (stR (stR (stR (stR B 26 dc 0) 25 dc (nI (at0 + 1))) 24 dc (nI v49)) 27 dc (-1)) 28 dc (-1)) 29 dc 0) 27 dc (nI lz)) 22 lz (nI at222)) 23 lz (-1)) nd md := (FrM.same hfm388 (by omega) (fun j i q1 q2 q3 => st_ne (by omega)) (fun i q => st_ne (by omega)))
              have hlr402 : lsRow ((stR (stR (stR (stR (stR (stR (stR (stR (stR B 26 dc 0) 25 dc (nI (at0 + 1))) 24 dc (nI v49)) 27 dc (-1)) 28 dc (-1)) 29 dc 0) 27 dc (nI lz)) 22 lz (nI at222)) 23 lz (-1)) 22) ((stR (stR (stR (stR (stR (stR (stR (stR (stR B 26 dc 0) 25 dc (nI (at0 + 1))) 24 dc (nI v49)) 27 dc (-1)) 28 dc (-1)) 29 dc 0) 27 dc (nI lz)) 22 lz (nI at222)) 23 lz (-1)) 23) (lz + 1) T := (lsRow_new hlr359 (by omega))
              refine lv_iload_n hx hb dX12_declaration_213 rfl (lv_at hl 1 rfl) ?_
              refine lv_if_ne (tgt := 237) hx hb dX12_declaration_214 (by decide) (fun c403 => absurd c403 (by decide)) (fun c403 => ?_)
              refine lv_aload_n hx hb dX12_declaration_217 rfl (lv_at hl 2 rfl) ?_
              refine lv_sipush (v := 322) hx hb dX12_declaration_218 (by decide) ?_
              have hP : va_P G.1 pCl (mW G h0 a (upd (upd (upd (upd (upd (upd (upd (upd (upd (upd (upd (upd (upd (upd (upd (upd (upd F 15 0) 16 pl369) 27 (nI nd)) 31 (nI wr)) 34 (nI (lz + 1))) 35 (nI (dc + 1))) 44 (nI fd)) 49 (nI md)) 59 (nI bk)) 60 (nI pr)) 64 (nI at367)) 65 ne0) 66 (nI lk)) 67 (nI mf)) 68 (nI mm)) 15 (nI 0)) 64 (nI at367)) (updA (updA (stR (stR (stR (stR (stR (stR (stR (stR (stR B 26 dc 0) 25 dc (nI (at0 + 1))) 24 dc (nI v49)) 27 dc (-1)) 28 dc (-1)) 29 dc 0) 27 dc (nI lz)) 22 lz (nI at222)) 23 lz (-1)) 2 K) 2 K)) _ := hP
              have hD : va_D A (mW G h0 a (upd (upd (upd (upd (upd (upd (upd (upd (upd (upd (upd (upd (upd (upd (upd (upd (upd F 15 0) 16 pl369) 27 (nI nd)) 31 (nI wr)) 34 (nI (lz + 1))) 35 (nI (dc + 1))) 44 (nI fd)) 49 (nI md)) 59 (nI bk)) 60 (nI pr)) 64 (nI at367)) 65 ne0) 66 (nI lk)) 67 (nI mf)) 68 (nI mm)) 15 (nI 0)) 64 (nI at367)) (updA (updA (stR (stR (stR (stR (stR (stR (stR (stR (stR B 26 dc 0) 25 dc (nI (at0 + 1))) 24 dc (nI v49)) 27 dc (-1)) 28 dc (-1)) 29 dc 0) 27 dc (nI lz)) 22 lz (nI at222)) 23 lz (-1)) 2 K) 2 K)) := hD
              refine pc_V0 (G := G) (As := [.int 322]) (rest := []) hx hb hml hown hq hE hX pX0_al hP hD hS hA hl.1 (R_may l G h0 a (upd (upd (upd (upd (upd (upd (upd (upd (upd (upd (upd (upd (upd (upd (upd F 15 0) 16 pl369) 27 (nI nd)) 31 (nI wr)) 34 (nI (lz + 1))) 35 (nI (dc + 1))) 44 (nI fd)) 49 (nI md)) 59 (nI bk)) 60 (nI pr)) 64 (nI at367)) 65 ne0) 66 (nI lk)) 67 (nI mf)) 68 (nI mm)) (updA (stR (stR (stR (stR (stR (stR (stR (stR (stR B 26 dc 0) 25 dc (nI (at0 + 1))) 24 dc (nI v49)) 27 dc (-1)) 28 dc (-1)) 29 dc 0) 27 dc (nI lz)) 22 lz (nI at222)) 23 lz (-1)) 2 K) at367 T 0 K 322 (by omega) (by omega) hK (by omega) (by decide) (by decide)) (gV pw_1621 pw_1622 pw_1623 pw_1523 pw_1605) hV_X12_may 0 9 rfl rfl rfl rfl (Nat.le_of_ble_eq_true rfl) dX12_declaration_221 ⟨Nat.le_of_ble_eq_true rfl, Nat.le_of_ble_eq_true rfl⟩ ⟨Nat.le_of_ble_eq_true rfl, Nat.le_of_ble_eq_true rfl⟩ (fun v406 u404 H locs hw405 hP hD hS => ?_)
              obtain ⟨at407, r408⟩ := u404
              obtain ⟨hw405, h409, h410, h411, h412, h413, h414⟩ := hw405
              replace h409 : r408 ≤ 1 := h409
              replace h410 : 0 + 100 * r408 ≤ 100 := h410
              replace h411 : at407 = at367 + r408 := h411
              replace h412 : at407 ≤ T := h412
              replace h413 : If (r408 = 1) (K at367 = 322) := h413
              replace h414 : If (r408 = 0) (0 = 0 → ¬ K at367 = 322) := h414
              obtain rfl : v406 = some (.int (nI r408)) := hw405
              have hP : va_P G.1 pCl (mW G h0 a (upd (upd (upd (upd (upd (upd (upd (upd (upd (upd (upd (upd (upd (upd (upd F 15 0) 16 pl369) 27 (nI nd)) 31 (nI wr)) 34 (nI (lz + 1))) 35 (nI (dc + 1))) 44 (nI fd)) 49 (nI md)) 59 (nI bk)) 60 (nI pr)) 64 (nI at407)) 65 ne0) 66 (nI lk)) 67 (nI mf)) 68 (nI mm)) (updA (stR (stR (stR (stR (stR (stR (stR (stR (stR B 26 dc 0) 25 dc (nI (at0 + 1))) 24 dc (nI v49)) 27 dc (-1)) 28 dc (-1)) 29 dc 0) 27 dc (nI lz)) 22 lz (nI at222)) 23 lz (-1)) 2 K)) _ := hP
              have hD : va_D A (mW G h0 a (upd (upd (upd (upd (upd (upd (upd (upd (upd (upd (upd (upd (upd (upd (upd F 15 0) 16 pl369) 27 (nI nd)) 31 (nI wr)) 34 (nI (lz + 1))) 35 (nI (dc + 1))) 44 (nI fd)) 49 (nI md)) 59 (nI bk)) 60 (nI pr)) 64 (nI at407)) 65 ne0) 66 (nI lk)) 67 (nI mf)) 68 (nI mm)) (updA (stR (stR (stR (stR (stR (stR (stR (stR (stR B 26 dc 0) 25 dc (nI (at0 + 1))) 24 dc (nI v49)) 27 dc (-1)) 28 dc (-1)) 29 dc 0) 27 dc (nI lz)) 22 lz (nI at222)) 23 lz (-1)) 2 K)) := hD
              refine W.widen (k := 0) (n := 0) (Nat.le_of_ble_eq_true rfl) (Nat.le_of_ble_eq_true rfl) ?_
              refine W.eq (g2 := F0 m 224 ls [.int (nI r408)]) rfl ?_
              refine lv_if_eq (tgt := 237) hx hb dX12_declaration_224 (by decide) (fun c415 => ?_) (fun c415 => ?_)
              · have n416 : r408 = 0 := (nI_eq (a := r408) (b := 0) (by omega) (by omega)).mp c415
                have hP : va_P G.1 pCl (mW G h0 a (upd (upd (upd (upd (upd (upd (upd (upd (upd (upd (upd (upd (upd (upd (upd F 15 0) 16 pl369) 27 (nI nd)) 31 (nI wr)) 34 (nI (lz + 1))) 35 (nI (dc + 1))) 44 (nI fd)) 49 (nI md)) 59 (nI bk)) 60 (nI pr)) 64 (nI at407)) 65 ne0) 66 (nI lk)) 67 (nI mf)) 68 (nI mm)) (updA (stR (stR (stR (stR (stR (stR (stR (stR (stR B 26 dc 0) 25 dc (nI (at0 + 1))) 24 dc (nI v49)) 27 dc (-1)) 28 dc (-1)) 29 dc 0) 27 dc (nI lz)) 22 lz (nI at222)) 23 lz (-1)) 2 K)) _ := hP
                have hD : va_D A (mW G h0 a (upd (upd (upd (upd (upd (upd (upd (upd (upd (upd (upd (upd (upd (upd (upd F 15 0) 16 pl369) 27 (nI nd)) 31 (nI wr)) 34 (nI (lz + 1))) 35 (nI (dc + 1))) 44 (nI fd)) 49 (nI md)) 59 (nI bk)) 60 (nI pr)) 64 (nI at407)) 65 ne0) 66 (nI lk)) 67 (nI mf)) 68 (nI mm)) (updA (stR (stR (stR (stR (stR (stR (stR (stR (stR B 26 dc 0) 25 dc (nI (at0 + 1))) 24 dc (nI v49)) 27 dc (-1)) 28 dc (-1)) 29 dc 0) 27 dc (nI lz)) 22 lz (nI at222)) 23 lz (-1)) 2 K)) := hD
                exact cut_j at407 (lz + 1) pl369 (stR (stR (stR (stR (stR (stR (stR (stR (stR B 26 dc 0) 25 dc (nI (at0 + 1))) 24 dc (nI v49)) 27 dc (-1)) 28 dc (-1)) 29 dc 0) 27 dc (nI lz)) 22 lz (nI at222)) 23 lz (-1)) _ _ _ (by omega) (by omega) (by omega) hkq392 (PS.dec hps400 (by omega) hce394 (by omega) hce395 (by omega) hce393 (Or.inl rfl) hce396 (Or.inr ⟨lz, rfl, by omega⟩) hce397 (Or.inl rfl)) hfm401 hty399 hlr402 hP hD hS (lv_sub hl [0, 2] rfl)
              · have n417 : ¬ (r408 = 0) := fun h9 => c415 ((nI_eq (a := r408) (b := 0) (by omega) (by omega)).mpr h9)
                refine lv_aload_n hx hb dX12_declaration_227 rfl (lv_at hl 2 rfl) ?_
                refine r_get (v := .ref (a 28)) hx hb hown hq hE hP 40 96 tFX12_40 (by decide) pw_1459 rfl dX12_declaration_228 ?_
                refine lv_iload_n hx hb dX12_declaration_231 rfl (lv_at hl 0 rfl) ?_
                refine lv_aload_n hx hb dX12_declaration_232 rfl (lv_at hl 2 rfl) ?_
                have hP : va_P G.1 pCl (mW G h0 a (upd (upd (upd (upd (upd (upd (upd (upd (upd (upd (upd (upd (upd (upd (upd (upd (upd (upd F 15 0) 16 pl369) 27 (nI nd)) 31 (nI wr)) 34 (nI (lz + 1))) 35 (nI (dc + 1))) 44 (nI fd)) 49 (nI md)) 59 (nI bk)) 60 (nI pr)) 64 (nI at407)) 65 ne0) 66 (nI lk)) 67 (nI mf)) 68 (nI mm)) 15 (nI 0)) 34 (nI (lz + 1))) 64 (nI at407)) (updA (updA (updA (updA (stR (stR (stR (stR (stR (stR (stR (stR (stR B 26 dc 0) 25 dc (nI (at0 + 1))) 24 dc (nI v49)) 27 dc (-1)) 28 dc (-1)) 29 dc 0) 27 dc (nI lz)) 22 lz (nI at222)) 23 lz (-1)) 2 K) 2 K) 22 ((stR (stR (stR (stR (stR (stR (stR (stR (stR B 26 dc 0) 25 dc (nI (at0 + 1))) 24 dc (nI v49)) 27 dc (-1)) 28 dc (-1)) 29 dc 0) 27 dc (nI lz)) 22 lz (nI at222)) 23 lz (-1)) 22)) 23 ((stR (stR (stR (stR (stR (stR (stR (stR (stR B 26 dc 0) 25 dc (nI (at0 + 1))) 24 dc (nI v49)) 27 dc (-1)) 28 dc (-1)) 29 dc 0) 27 dc (nI lz)) 22 lz (nI at222)) 23 lz (-1)) 23))) _ := hP
                have hD : va_D A (mW G h0 a (upd (upd (upd (upd (upd (upd (upd (upd (upd (upd (upd (upd (upd (upd (upd (upd (upd (upd F 15 0) 16 pl369) 27 (nI nd)) 31 (nI wr)) 34 (nI (lz + 1))) 35 (nI (dc + 1))) 44 (nI fd)) 49 (nI md)) 59 (nI bk)) 60 (nI pr)) 64 (nI at407)) 65 ne0) 66 (nI lk)) 67 (nI mf)) 68 (nI mm)) 15 (nI 0)) 34 (nI (lz + 1))) 64 (nI at407)) (updA (updA (updA (updA (stR (stR (stR (stR (stR (stR (stR (stR (stR B 26 dc 0) 25 dc (nI (at0 + 1))) 24 dc (nI v49)) 27 dc (-1)) 28 dc (-1)) 29 dc 0) 27 dc (nI lz)) 22 lz (nI at222)) 23 lz (-1)) 2 K) 2 K) 22 ((stR (stR (stR (stR (stR (stR (stR (stR (stR B 26 dc 0) 25 dc (nI (at0 + 1))) 24 dc (nI v49)) 27 dc (-1)) 28 dc (-1)) 29 dc 0) 27 dc (nI lz)) 22 lz (nI at222)) 23 lz (-1)) 22)) 23 ((stR (stR (stR (stR (stR (stR (stR (stR (stR B 26 dc 0) 25 dc (nI (at0 + 1))) 24 dc (nI v49)) 27 dc (-1)) 28 dc (-1)) 29 dc 0) 27 dc (nI lz)) 22 lz (nI at222)) 23 lz (-1)) 23))) := hD
                refine pc_V0 (G := G) (As := []) (rest := [.int (nI dc), .ref (a 28)]) hx hb hml hown hq hE hX pX0_al hP hD hS hA hl.1 (R_listOfNames l G h0 a (upd (upd (upd (upd (upd (upd (upd (upd (upd (upd (upd (upd (upd (upd (upd F 15 0) 16 pl369) 27 (nI nd)) 31 (nI wr)) 34 (nI (lz + 1))) 35 (nI (dc + 1))) 44 (nI fd)) 49 (nI md)) 59 (nI bk)) 60 (nI pr)) 64 (nI at407)) 65 ne0) 66 (nI lk)) 67 (nI mf)) 68 (nI mm)) (updA (stR (stR (stR (stR (stR (stR (stR (stR (stR B 26 dc 0) 25 dc (nI (at0 + 1))) 24 dc (nI v49)) 27 dc (-1)) 28 dc (-1)) 29 dc 0) 27 dc (nI lz)) 22 lz (nI at222)) 23 lz (-1)) 2 K) at407 T 0 K (lz + 1) ((stR (stR (stR (stR (stR (stR (stR (stR (stR B 26 dc 0) 25 dc (nI (at0 + 1))) 24 dc (nI v49)) 27 dc (-1)) 28 dc (-1)) 29 dc 0) 27 dc (nI lz)) 22 lz (nI at222)) 23 lz (-1)) 22) ((stR (stR (stR (stR (stR (stR (stR (stR (stR B 26 dc 0) 25 dc (nI (at0 + 1))) 24 dc (nI v49)) 27 dc (-1)) 28 dc (-1)) 29 dc 0) 27 dc (nI lz)) 22 lz (nI at222)) 23 lz (-1)) 23) (by omega) (by omega) hK (by omega) (by omega) hlr402) (gV pw_1733 pw_1734 pw_1735 pw_1523 pw_1624) hV_X12_listOfNames 0 9 rfl rfl rfl rfl (Nat.le_of_ble_eq_true rfl) dX12_declaration_233 ⟨Nat.le_of_ble_eq_true rfl, Nat.le_of_ble_eq_true rfl⟩ ⟨Nat.le_of_ble_eq_true rfl, Nat.le_of_ble_eq_true rfl⟩ (fun v420 u418 H locs hw419 hP hD hS => ?_)
                obtain ⟨at421, fa422, pl423, ls424, lt425, ln426, r427⟩ := u418
                obtain ⟨hw419, h428, h429, h430, h431, h432, h433, h434, h435, h436, h437, h438⟩ := hw419
                replace h428 : at407 ≤ at421 := h428
                replace h429 : at421 ≤ T := h429
                replace h430 : 0 ≤ fa422 := h430
                replace h431 : fa422 ≤ 100 := h431
                replace h432 : If (0 < 0) (at421 = at407 ∧ fa422 = 0) := h432
                replace h433 : (lz + 1) ≤ ls424 := h433
                replace h434 : ls424 + at407 ≤ (lz + 1) + at421 + fa422 := h434
                replace h435 : ls424 + at407 ≤ (lz + 1) + at421 + 1 := h435
                replace h436 : lsRow lt425 ln426 ls424 T := h436
                replace h437 : r427 = -1 ∨ ∃ p : Nat, p < ls424 ∧ r427 = nI p := h437
                replace h438 : If (0 < 0) (ls424 = (lz + 1)) := h438
                obtain rfl : v420 = some (.int r427) := hw419
                have hP : va_P G.1 pCl (mW G h0 a (upd (upd (upd (upd (upd (upd (upd (upd (upd (upd (upd (upd (upd (upd (upd F 15 (nI fa422)) 16 pl423) 27 (nI nd)) 31 (nI wr)) 34 (nI ls424)) 35 (nI (dc + 1))) 44 (nI fd)) 49 (nI md)) 59 (nI bk)) 60 (nI pr)) 64 (nI at421)) 65 ne0) 66 (nI lk)) 67 (nI mf)) 68 (nI mm)) (updA (updA (updA (stR (stR (stR (stR (stR (stR (stR (stR (stR B 26 dc 0) 25 dc (nI (at0 + 1))) 24 dc (nI v49)) 27 dc (-1)) 28 dc (-1)) 29 dc 0) 27 dc (nI lz)) 22 lz (nI at222)) 23 lz (-1)) 2 K) 22 lt425) 23 ln426)) _ := hP
                have hD : va_D A (mW G h0 a (upd (upd (upd (upd (upd (upd (upd (upd (upd (upd (upd (upd (upd (upd (upd F 15 (nI fa422)) 16 pl423) 27 (nI nd)) 31 (nI wr)) 34 (nI ls424)) 35 (nI (dc + 1))) 44 (nI fd)) 49 (nI md)) 59 (nI bk)) 60 (nI pr)) 64 (nI at421)) 65 ne0) 66 (nI lk)) 67 (nI mf)) 68 (nI mm)) (updA (updA (updA (stR (stR (stR (stR (stR (stR (stR (stR (stR B 26 dc 0) 25 dc (nI (at0 + 1))) 24 dc (nI v49)) 27 dc (-1)) 28 dc (-1)) 29 dc 0) 27 dc (nI lz)) 22 lz (nI at222)) 23 lz (-1)) 2 K) 22 lt425) 23 ln426)) := hD
                refine W.widen (k := 0) (n := 0) (Nat.le_of_ble_eq_true rfl) (Nat.le_of_ble_eq_true rfl) ?_
                refine W.eq (g2 := F0 m 236 ls [.int r427, .int (nI dc), .ref (a 28)]) rfl ?_
                have hP : va_P G.1 pCl (mW G h0 a (upd (upd (upd (upd (upd (upd (upd (upd (upd (upd (upd (upd (upd (upd (upd F 15 (nI fa422)) 16 pl423) 27 (nI nd)) 31 (nI wr)) 34 (nI ls424)) 35 (nI (dc + 1))) 44 (nI fd)) 49 (nI md)) 59 (nI bk)) 60 (nI pr)) 64 (nI at421)) 65 ne0) 66 (nI lk)) 67 (nI mf)) 68 (nI mm)) (updA (updA (updA (stR (stR (stR (stR (stR (stR (stR (stR (stR B 26 dc 0) 25 dc (nI (at0 + 1))) 24 dc (nI v49)) 27 dc (-1)) 28 dc (-1)) 29 dc 0) 27 dc (nI lz)) 22 lz (nI at222)) 23 lz (-1)) 22 lt425) 23 ln426) 2 K)) _ := hP
                have hD : va_D A (mW G h0 a (upd (upd (upd (upd (upd (upd (upd (upd (upd (upd (upd (upd (upd (upd (upd F 15 (nI fa422)) 16 pl423) 27 (nI nd)) 31 (nI wr)) 34 (nI ls424)) 35 (nI (dc + 1))) 44 (nI fd)) 49 (nI md)) 59 (nI bk)) 60 (nI pr)) 64 (nI at421)) 65 ne0) 66 (nI lk)) 67 (nI mf)) 68 (nI mm)) (updA (updA (updA (stR (stR (stR (stR (stR (stR (stR (stR (stR B 26 dc 0) 25 dc (nI (at0 + 1))) 24 dc (nI v49)) 27 dc (-1)) 28 dc (-1)) 29 dc 0) 27 dc (nI lz)) 22 lz (nI at222)) 23 lz (-1)) 22 lt425) 23 ln426) 2 K)) := hD
                rcases Nat.eq_zero_or_pos fa422 with e439 | e439
                · subst e439
                  have hP : va_P G.1 pCl (mW G h0 a (upd (upd (upd (upd (upd (upd (upd (upd (upd (upd (upd (upd (upd (upd (upd F 15 0) 16 pl423) 27 (nI nd)) 31 (nI wr)) 34 (nI ls424)) 35 (nI (dc + 1))) 44 (nI fd)) 49 (nI md)) 59 (nI bk)) 60 (nI pr)) 64 (nI at421)) 65 ne0) 66 (nI lk)) 67 (nI mf)) 68 (nI mm)) (updA (updA (updA (stR (stR (stR (stR (stR (stR (stR (stR (stR B 26 dc 0) 25 dc (nI (at0 + 1))) 24 dc (nI v49)) 27 dc (-1)) 28 dc (-1)) 29 dc 0) 27 dc (nI lz)) 22 lz (nI at222)) 23 lz (-1)) 22 lt425) 23 ln426) 2 K)) _ := hP
                  have hD : va_D A (mW G h0 a (upd (upd (upd (upd (upd (upd (upd (upd (upd (upd (upd (upd (upd (upd (upd F 15 0) 16 pl423) 27 (nI nd)) 31 (nI wr)) 34 (nI ls424)) 35 (nI (dc + 1))) 44 (nI fd)) 49 (nI md)) 59 (nI bk)) 60 (nI pr)) 64 (nI at421)) 65 ne0) 66 (nI lk)) 67 (nI mf)) 68 (nI mm)) (updA (updA (updA (stR (stR (stR (stR (stR (stR (stR (stR (stR B 26 dc 0) 25 dc (nI (at0 + 1))) 24 dc (nI v49)) 27 dc (-1)) 28 dc (-1)) 29 dc 0) 27 dc (nI lz)) 22 lz (nI at222)) 23 lz (-1)) 22 lt425) 23 ln426) 2 K)) := hD
                  have hkq440 : Kq B (updA (updA (stR (stR (stR (stR (stR (stR (stR (stR (stR B 26 dc 0) 25 dc (nI (at0 + 1))) 24 dc (nI v49)) 27 dc (-1)) 28 dc (-1)) 29 dc 0) 27 dc (nI lz)) 22 lz (nI at222)) 23 lz (-1)) 22 lt425) 23 ln426) := (Kq.row (Kq.row hkq392 (by omega)) (by omega))
                  have hce441 : (updA (updA (stR (stR (stR (stR (stR (stR (stR (stR (stR B 26 dc 0) 25 dc (nI (at0 + 1))) 24 dc (nI v49)) 27 dc (-1)) 28 dc (-1)) 29 dc 0) 27 dc (nI lz)) 22 lz (nI at222)) 23 lz (-1)) 22 lt425) 23 ln426) 26 dc = 0 := hce393
                  have hce442 : (updA (updA (stR (stR (stR (stR (stR (stR (stR (stR (stR B 26 dc 0) 25 dc (nI (at0 + 1))) 24 dc (nI v49)) 27 dc (-1)) 28 dc (-1)) 29 dc 0) 27 dc (nI lz)) 22 lz (nI at222)) 23 lz (-1)) 22 lt425) 23 ln426) 25 dc = (nI (at0 + 1)) := hce394
                  have hce443 : (updA (updA (stR (stR (stR (stR (stR (stR (stR (stR (stR B 26 dc 0) 25 dc (nI (at0 + 1))) 24 dc (nI v49)) 27 dc (-1)) 28 dc (-1)) 29 dc 0) 27 dc (nI lz)) 22 lz (nI at222)) 23 lz (-1)) 22 lt425) 23 ln426) 24 dc = (nI v49) := hce395
                  have hce444 : (updA (updA (stR (stR (stR (stR (stR (stR (stR (stR (stR B 26 dc 0) 25 dc (nI (at0 + 1))) 24 dc (nI v49)) 27 dc (-1)) 28 dc (-1)) 29 dc 0) 27 dc (nI lz)) 22 lz (nI at222)) 23 lz (-1)) 22 lt425) 23 ln426) 27 dc = (nI lz) := hce396
                  have hce445 : (updA (updA (stR (stR (stR (stR (stR (stR (stR (stR (stR B 26 dc 0) 25 dc (nI (at0 + 1))) 24 dc (nI v49)) 27 dc (-1)) 28 dc (-1)) 29 dc 0) 27 dc (nI lz)) 22 lz (nI at222)) 23 lz (-1)) 22 lt425) 23 ln426) 28 dc = (-1) := hce397
                  have hce446 : (updA (updA (stR (stR (stR (stR (stR (stR (stR (stR (stR B 26 dc 0) 25 dc (nI (at0 + 1))) 24 dc (nI v49)) 27 dc (-1)) 28 dc (-1)) 29 dc 0) 27 dc (nI lz)) 22 lz (nI at222)) 23 lz (-1)) 22 lt425) 23 ln426) 29 dc = 0 := hce398
                  have hty447 : tkRow ((updA (updA (stR (stR (stR (stR (stR (stR (stR (stR (stR B 26 dc 0) 25 dc (nI (at0 + 1))) 24 dc (nI v49)) 27 dc (-1)) 28 dc (-1)) 29 dc 0) 27 dc (nI lz)) 22 lz (nI at222)) 23 lz (-1)) 22 lt425) 23 ln426) 19) wr T := hty399
                  have hps448 : PS T nm wr ls424 dc fd md pr bk (updA (updA (stR (stR (stR (stR (stR (stR (stR (stR (stR B 26 dc 0) 25 dc (nI (at0 + 1))) 24 dc (nI v49)) 27 dc (-1)) 28 dc (-1)) 29 dc 0) 27 dc (nI lz)) 22 lz (nI at222)) 23 lz (-1)) 22 lt425) 23 ln426) := (PS.same hps400 (by omega) (by omega) (fun r i q1 q2 q3 => by unfold updA; rw [if_neg (by omega), if_neg (by omega)]))
                  have hfm449 : FrM K T wr (updA (updA (stR (stR (stR (stR (stR (stR (stR (stR (stR B 26 dc 0) 25 dc (nI (at0 + 1))) 24 dc (nI v49)) 27 dc (-1)) 28 dc (-1)) 29 dc 0) 27 dc (nI lz)) 22 lz (nI at222)) 23 lz (-1)) 22 lt425) 23 ln426) nd md := (FrM.same hfm401 (by omega) (fun j i q1 q2 q3 => by unfold updA; rw [if_neg (by omega), if_neg (by omega)]) (fun i q => rfl))
                  have hlr450 : lsRow ((updA (updA (stR (stR (stR (stR (stR (stR (stR (stR (stR B 26 dc 0) 25 dc (nI (at0 + 1))) 24 dc (nI v49)) 27 dc (-1)) 28 dc (-1)) 29 dc 0) 27 dc (nI lz)) 22 lz (nI at222)) 23 lz (-1)) 22 lt425) 23 ln426) 22) ((updA (updA (stR (stR (stR (stR (stR (stR (stR (stR (stR B 26 dc 0) 25 dc (nI (at0 + 1))) 24 dc (nI v49)) 27 dc (-1)) 28 dc (-1)) 29 dc 0) 27 dc (nI lz)) 22 lz (nI at222)) 23 lz (-1)) 22 lt425) 23 ln426) 23) ls424 T := h436
                  refine r_sti (f := ((updA (updA (stR (stR (stR (stR (stR (stR (stR (stR (stR B 26 dc 0) 25 dc (nI (at0 + 1))) 24 dc (nI v49)) 27 dc (-1)) 28 dc (-1)) 29 dc 0) 27 dc (nI lz)) 22 lz (nI at222)) 23 lz (-1)) 22 lt425) 23 ln426) 28)) (j := dc) hx hb hE hP hD hS 28 (ma_28 G a _) rfl (mas_28 G a _) (by omega) (by decide) dX12_declaration_236 (fun H locs hP hD hS => ?_)
                  have hP : va_P G.1 pCl (mW G h0 a (upd (upd (upd (upd (upd (upd (upd (upd (upd (upd (upd (upd (upd (upd (upd F 15 0) 16 pl423) 27 (nI nd)) 31 (nI wr)) 34 (nI ls424)) 35 (nI (dc + 1))) 44 (nI fd)) 49 (nI md)) 59 (nI bk)) 60 (nI pr)) 64 (nI at421)) 65 ne0) 66 (nI lk)) 67 (nI mf)) 68 (nI mm)) (updA (stR (updA (updA (stR (stR (stR (stR (stR (stR (stR (stR (stR B 26 dc 0) 25 dc (nI (at0 + 1))) 24 dc (nI v49)) 27 dc (-1)) 28 dc (-1)) 29 dc 0) 27 dc (nI lz)) 22 lz (nI at222)) 23 lz (-1)) 22 lt425) 23 ln426) 28 dc r427) 2 K)) _ := hP
                  have hD : va_D A (mW G h0 a (upd (upd (upd (upd (upd (upd (upd (upd (upd (upd (upd (upd (upd (upd (upd F 15 0) 16 pl423) 27 (nI nd)) 31 (nI wr)) 34 (nI ls424)) 35 (nI (dc + 1))) 44 (nI fd)) 49 (nI md)) 59 (nI bk)) 60 (nI pr)) 64 (nI at421)) 65 ne0) 66 (nI lk)) 67 (nI mf)) 68 (nI mm)) (updA (stR (updA (updA (stR (stR (stR (stR (stR (stR (stR (stR (stR B 26 dc 0) 25 dc (nI (at0 + 1))) 24 dc (nI v49)) 27 dc (-1)) 28 dc (-1)) 29 dc 0) 27 dc (nI lz)) 22 lz (nI at222)) 23 lz (-1)) 22 lt425) 23 ln426) 28 dc r427) 2 K)) := hD
                  have hkq451 : Kq B (stR (updA (updA (stR (stR (stR (stR (stR (stR (stR (stR (stR B 26 dc 0) 25 dc (nI (at0 + 1))) 24 dc (nI v49)) 27 dc (-1)) 28 dc (-1)) 29 dc 0) 27 dc (nI lz)) 22 lz (nI at222)) 23 lz (-1)) 22 lt425) 23 ln426) 28 dc r427) := (Kq.st hkq440 (by omega))
                  have hce452 : (stR (updA (updA (stR (stR (stR (stR (stR (stR (stR (stR (stR B 26 dc 0) 25 dc (nI (at0 + 1))) 24 dc (nI v49)) 27 dc (-1)) 28 dc (-1)) 29 dc 0) 27 dc (nI lz)) 22 lz (nI at222)) 23 lz (-1)) 22 lt425) 23 ln426) 28 dc r427) 26 dc = 0 := ((st_ne (by omega)).trans hce441)
                  have hce453 : (stR (updA (updA (stR (stR (stR (stR (stR (stR (stR (stR (stR B 26 dc 0) 25 dc (nI (at0 + 1))) 24 dc (nI v49)) 27 dc (-1)) 28 dc (-1)) 29 dc 0) 27 dc (nI lz)) 22 lz (nI at222)) 23 lz (-1)) 22 lt425) 23 ln426) 28 dc r427) 25 dc = (nI (at0 + 1)) := ((st_ne (by omega)).trans hce442)
                  have hce454 : (stR (updA (updA (stR (stR (stR (stR (stR (stR (stR (stR (stR B 26 dc 0) 25 dc (nI (at0 + 1))) 24 dc (nI v49)) 27 dc (-1)) 28 dc (-1)) 29 dc 0) 27 dc (nI lz)) 22 lz (nI at222)) 23 lz (-1)) 22 lt425) 23 ln426) 28 dc r427) 24 dc = (nI v49) := ((st_ne (by omega)).trans hce443)
                  have hce455 : (stR (updA (updA (stR (stR (stR (stR (stR (stR (stR (stR (stR B 26 dc 0) 25 dc (nI (at0 + 1))) 24 dc (nI v49)) 27 dc (-1)) 28 dc (-1)) 29 dc 0) 27 dc (nI lz)) 22 lz (nI at222)) 23 lz (-1)) 22 lt425) 23 ln426) 28 dc r427) 27 dc = (nI lz) := ((st_ne (by omega)).trans hce444)
                  have hce456 : (stR (updA (updA (stR (stR (stR (stR (stR (stR (stR (stR (stR B 26 dc 0) 25 dc (nI (at0 + 1))) 24 dc (nI v49)) 27 dc (-1)) 28 dc (-1)) 29 dc 0) 27 dc (nI lz)) 22 lz (nI at222)) 23 lz (-1)) 22 lt425) 23 ln426) 28 dc r427) 28 dc = r427 := st_eq
                  have hce457 : (stR (updA (updA (stR (stR (stR (stR (stR (stR (stR (stR (stR B 26 dc 0) 25 dc (nI (at0 + 1))) 24 dc (nI v49)) 27 dc (-1)) 28 dc (-1)) 29 dc 0) 27 dc (nI lz)) 22 lz (nI at222)) 23 lz (-1)) 22 lt425) 23 ln426) 28 dc r427) 29 dc = 0 := ((st_ne (by omega)).trans hce446)
                  have hty458 : tkRow ((stR (updA (updA (stR (stR (stR (stR (stR (stR (stR (stR (stR B 26 dc 0) 25 dc (nI (at0 + 1))) 24 dc (nI v49)) 27 dc (-1)) 28 dc (-1)) 29 dc 0) 27 dc (nI lz)) 22 lz (nI at222)) 23 lz (-1)) 22 lt425) 23 ln426) 28 dc r427) 19) wr T := hty447
                  have hps459 : PS T nm wr ls424 dc fd md pr bk (stR (updA (updA (stR (stR (stR (stR (stR (stR (stR (stR (stR B 26 dc 0) 25 dc (nI (at0 + 1))) 24 dc (nI v49)) 27 dc (-1)) 28 dc (-1)) 29 dc 0) 27 dc (nI lz)) 22 lz (nI at222)) 23 lz (-1)) 22 lt425) 23 ln426) 28 dc r427) := (PS.same hps448 (by omega) (by omega) (fun r i q1 q2 q3 => st_ne (fun e => by rw [e.1, e.2] at q3; exact absurd (show dc < dc from q3) (by omega))))
                  have hfm460 : FrM K T wr (stR (updA (updA (stR (stR (stR (stR (stR (stR (stR (stR (stR B 26 dc 0) 25 dc (nI (at0 + 1))) 24 dc (nI v49)) 27 dc (-1)) 28 dc (-1)) 29 dc 0) 27 dc (nI lz)) 22 lz (nI at222)) 23 lz (-1)) 22 lt425) 23 ln426) 28 dc r427) nd md := (FrM.same hfm449 (by omega) (fun j i q1 q2 q3 => st_ne (by omega)) (fun i q => st_ne (by omega)))
                  have hlr461 : lsRow ((stR (updA (updA (stR (stR (stR (stR (stR (stR (stR (stR (stR B 26 dc 0) 25 dc (nI (at0 + 1))) 24 dc (nI v49)) 27 dc (-1)) 28 dc (-1)) 29 dc 0) 27 dc (nI lz)) 22 lz (nI at222)) 23 lz (-1)) 22 lt425) 23 ln426) 28 dc r427) 22) ((stR (updA (updA (stR (stR (stR (stR (stR (stR (stR (stR (stR B 26 dc 0) 25 dc (nI (at0 + 1))) 24 dc (nI v49)) 27 dc (-1)) 28 dc (-1)) 29 dc 0) 27 dc (nI lz)) 22 lz (nI at222)) 23 lz (-1)) 22 lt425) 23 ln426) 28 dc r427) 23) ls424 T := hlr450
                  have hP : va_P G.1 pCl (mW G h0 a (upd (upd (upd (upd (upd (upd (upd (upd (upd (upd (upd (upd (upd (upd (upd F 15 0) 16 pl423) 27 (nI nd)) 31 (nI wr)) 34 (nI ls424)) 35 (nI (dc + 1))) 44 (nI fd)) 49 (nI md)) 59 (nI bk)) 60 (nI pr)) 64 (nI at421)) 65 ne0) 66 (nI lk)) 67 (nI mf)) 68 (nI mm)) (updA (stR (updA (updA (stR (stR (stR (stR (stR (stR (stR (stR (stR B 26 dc 0) 25 dc (nI (at0 + 1))) 24 dc (nI v49)) 27 dc (-1)) 28 dc (-1)) 29 dc 0) 27 dc (nI lz)) 22 lz (nI at222)) 23 lz (-1)) 22 lt425) 23 ln426) 28 dc r427) 2 K)) _ := hP
                  have hD : va_D A (mW G h0 a (upd (upd (upd (upd (upd (upd (upd (upd (upd (upd (upd (upd (upd (upd (upd F 15 0) 16 pl423) 27 (nI nd)) 31 (nI wr)) 34 (nI ls424)) 35 (nI (dc + 1))) 44 (nI fd)) 49 (nI md)) 59 (nI bk)) 60 (nI pr)) 64 (nI at421)) 65 ne0) 66 (nI lk)) 67 (nI mf)) 68 (nI mm)) (updA (stR (updA (updA (stR (stR (stR (stR (stR (stR (stR (stR (stR B 26 dc 0) 25 dc (nI (at0 + 1))) 24 dc (nI v49)) 27 dc (-1)) 28 dc (-1)) 29 dc 0) 27 dc (nI lz)) 22 lz (nI at222)) 23 lz (-1)) 22 lt425) 23 ln426) 28 dc r427) 2 K)) := hD
                  exact cut_j at421 ls424 pl423 (stR (updA (updA (stR (stR (stR (stR (stR (stR (stR (stR (stR B 26 dc 0) 25 dc (nI (at0 + 1))) 24 dc (nI v49)) 27 dc (-1)) 28 dc (-1)) 29 dc 0) 27 dc (nI lz)) 22 lz (nI at222)) 23 lz (-1)) 22 lt425) 23 ln426) 28 dc r427) _ _ _ (by omega) (by omega) (by omega) hkq451 (PS.dec hps459 (by omega) hce453 (by omega) hce454 (by omega) hce452 (Or.inl rfl) hce455 (Or.inr ⟨lz, rfl, by omega⟩) hce456 (OrY.mono (wr := ls424) (h437.imp id (fun ⟨p, a, b⟩ => ⟨p, b, a⟩)) (by omega))) hfm460 hty458 hlr461 hP hD hS (lv_sub hl [0, 2] rfl)
                · have e439 := e439
                  have hkq462 : Kq B (updA (updA (stR (stR (stR (stR (stR (stR (stR (stR (stR B 26 dc 0) 25 dc (nI (at0 + 1))) 24 dc (nI v49)) 27 dc (-1)) 28 dc (-1)) 29 dc 0) 27 dc (nI lz)) 22 lz (nI at222)) 23 lz (-1)) 22 lt425) 23 ln426) := (Kq.row (Kq.row hkq392 (by omega)) (by omega))
                  have hce463 : (updA (updA (stR (stR (stR (stR (stR (stR (stR (stR (stR B 26 dc 0) 25 dc (nI (at0 + 1))) 24 dc (nI v49)) 27 dc (-1)) 28 dc (-1)) 29 dc 0) 27 dc (nI lz)) 22 lz (nI at222)) 23 lz (-1)) 22 lt425) 23 ln426) 26 dc = 0 := hce393
                  have hce464 : (updA (updA (stR (stR (stR (stR (stR (stR (stR (stR (stR B 26 dc 0) 25 dc (nI (at0 + 1))) 24 dc (nI v49)) 27 dc (-1)) 28 dc (-1)) 29 dc 0) 27 dc (nI lz)) 22 lz (nI at222)) 23 lz (-1)) 22 lt425) 23 ln426) 25 dc = (nI (at0 + 1)) := hce394
                  have hce465 : (updA (updA (stR (stR (stR (stR (stR (stR (stR (stR (stR B 26 dc 0) 25 dc (nI (at0 + 1))) 24 dc (nI v49)) 27 dc (-1)) 28 dc (-1)) 29 dc 0) 27 dc (nI lz)) 22 lz (nI at222)) 23 lz (-1)) 22 lt425) 23 ln426) 24 dc = (nI v49) := hce395
                  have hce466 : (updA (updA (stR (stR (stR (stR (stR (stR (stR (stR (stR B 26 dc 0) 25 dc (nI (at0 + 1))) 24 dc (nI v49)) 27 dc (-1)) 28 dc (-1)) 29 dc 0) 27 dc (nI lz)) 22 lz (nI at222)) 23 lz (-1)) 22 lt425) 23 ln426) 27 dc = (nI lz) := hce396
                  have hce467 : (updA (updA (stR (stR (stR (stR (stR (stR (stR (stR (stR B 26 dc 0) 25 dc (nI (at0 + 1))) 24 dc (nI v49)) 27 dc (-1)) 28 dc (-1)) 29 dc 0) 27 dc (nI lz)) 22 lz (nI at222)) 23 lz (-1)) 22 lt425) 23 ln426) 28 dc = (-1) := hce397
                  have hce468 : (updA (updA (stR (stR (stR (stR (stR (stR (stR (stR (stR B 26 dc 0) 25 dc (nI (at0 + 1))) 24 dc (nI v49)) 27 dc (-1)) 28 dc (-1)) 29 dc 0) 27 dc (nI lz)) 22 lz (nI at222)) 23 lz (-1)) 22 lt425) 23 ln426) 29 dc = 0 := hce398
                  have hty469 : tkRow ((updA (updA (stR (stR (stR (stR (stR (stR (stR (stR (stR B 26 dc 0) 25 dc (nI (at0 + 1))) 24 dc (nI v49)) 27 dc (-1)) 28 dc (-1)) 29 dc 0) 27 dc (nI lz)) 22 lz (nI at222)) 23 lz (-1)) 22 lt425) 23 ln426) 19) wr T := hty399
                  refine r_sti (f := ((updA (updA (stR (stR (stR (stR (stR (stR (stR (stR (stR B 26 dc 0) 25 dc (nI (at0 + 1))) 24 dc (nI v49)) 27 dc (-1)) 28 dc (-1)) 29 dc 0) 27 dc (nI lz)) 22 lz (nI at222)) 23 lz (-1)) 22 lt425) 23 ln426) 28)) (j := dc) hx hb hE hP hD hS 28 (ma_28 G a _) rfl (mas_28 G a _) (by omega) (by decide) dX12_declaration_236 (fun H locs hP hD hS => ?_)
                  have hP : va_P G.1 pCl (mW G h0 a (upd (upd (upd (upd (upd (upd (upd (upd (upd (upd (upd (upd (upd (upd (upd F 15 (nI fa422)) 16 pl423) 27 (nI nd)) 31 (nI wr)) 34 (nI ls424)) 35 (nI (dc + 1))) 44 (nI fd)) 49 (nI md)) 59 (nI bk)) 60 (nI pr)) 64 (nI at421)) 65 ne0) 66 (nI lk)) 67 (nI mf)) 68 (nI mm)) (updA (stR (updA (updA (stR (stR (stR (stR (stR (stR (stR (stR (stR B 26 dc 0) 25 dc (nI (at0 + 1))) 24 dc (nI v49)) 27 dc (-1)) 28 dc (-1)) 29 dc 0) 27 dc (nI lz)) 22 lz (nI at222)) 23 lz (-1)) 22 lt425) 23 ln426) 28 dc r427) 2 K)) _ := hP
                  have hD : va_D A (mW G h0 a (upd (upd (upd (upd (upd (upd (upd (upd (upd (upd (upd (upd (upd (upd (upd F 15 (nI fa422)) 16 pl423) 27 (nI nd)) 31 (nI wr)) 34 (nI ls424)) 35 (nI (dc + 1))) 44 (nI fd)) 49 (nI md)) 59 (nI bk)) 60 (nI pr)) 64 (nI at421)) 65 ne0) 66 (nI lk)) 67 (nI mf)) 68 (nI mm)) (updA (stR (updA (updA (stR (stR (stR (stR (stR (stR (stR (stR (stR B 26 dc 0) 25 dc (nI (at0 + 1))) 24 dc (nI v49)) 27 dc (-1)) 28 dc (-1)) 29 dc 0) 27 dc (nI lz)) 22 lz (nI at222)) 23 lz (-1)) 22 lt425) 23 ln426) 28 dc r427) 2 K)) := hD
                  have hkq470 : Kq B (stR (updA (updA (stR (stR (stR (stR (stR (stR (stR (stR (stR B 26 dc 0) 25 dc (nI (at0 + 1))) 24 dc (nI v49)) 27 dc (-1)) 28 dc (-1)) 29 dc 0) 27 dc (nI lz)) 22 lz (nI at222)) 23 lz (-1)) 22 lt425) 23 ln426) 28 dc r427) := (Kq.st hkq462 (by omega))
                  have hce471 : (stR (updA (updA (stR (stR (stR (stR (stR (stR (stR (stR (stR B 26 dc 0) 25 dc (nI (at0 + 1))) 24 dc (nI v49)) 27 dc (-1)) 28 dc (-1)) 29 dc 0) 27 dc (nI lz)) 22 lz (nI at222)) 23 lz (-1)) 22 lt425) 23 ln426) 28 dc r427) 26 dc = 0 := ((st_ne (by omega)).trans hce463)
                  have hce472 : (stR (updA (updA (stR (stR (stR (stR (stR (stR (stR (stR (stR B 26 dc 0) 25 dc (nI (at0 + 1))) 24 dc (nI v49)) 27 dc (-1)) 28 dc (-1)) 29 dc 0) 27 dc (nI lz)) 22 lz (nI at222)) 23 lz (-1)) 22 lt425) 23 ln426) 28 dc r427) 25 dc = (nI (at0 + 1)) := ((st_ne (by omega)).trans hce464)
                  have hce473 : (stR (updA (updA (stR (stR (stR (stR (stR (stR (stR (stR (stR B 26 dc 0) 25 dc (nI (at0 + 1))) 24 dc (nI v49)) 27 dc (-1)) 28 dc (-1)) 29 dc 0) 27 dc (nI lz)) 22 lz (nI at222)) 23 lz (-1)) 22 lt425) 23 ln426) 28 dc r427) 24 dc = (nI v49) := ((st_ne (by omega)).trans hce465)
                  have hce474 : (stR (updA (updA (stR (stR (stR (stR (stR (stR (stR (stR (stR B 26 dc 0) 25 dc (nI (at0 + 1))) 24 dc (nI v49)) 27 dc (-1)) 28 dc (-1)) 29 dc 0) 27 dc (nI lz)) 22 lz (nI at222)) 23 lz (-1)) 22 lt425) 23 ln426) 28 dc r427) 27 dc = (nI lz) := ((st_ne (by omega)).trans hce466)
                  have hce475 : (stR (updA (updA (stR (stR (stR (stR (stR (stR (stR (stR (stR B 26 dc 0) 25 dc (nI (at0 + 1))) 24 dc (nI v49)) 27 dc (-1)) 28 dc (-1)) 29 dc 0) 27 dc (nI lz)) 22 lz (nI at222)) 23 lz (-1)) 22 lt425) 23 ln426) 28 dc r427) 28 dc = r427 := st_eq
                  have hce476 : (stR (updA (updA (stR (stR (stR (stR (stR (stR (stR (stR (stR B 26 dc 0) 25 dc (nI (at0 + 1))) 24 dc (nI v49)) 27 dc (-1)) 28 dc (-1)) 29 dc 0) 27 dc (nI lz)) 22 lz (nI at222)) 23 lz (-1)) 22 lt425) 23 ln426) 28 dc r427) 29 dc = 0 := ((st_ne (by omega)).trans hce468)
                  have hty477 : tkRow ((stR (updA (updA (stR (stR (stR (stR (stR (stR (stR (stR (stR B 26 dc 0) 25 dc (nI (at0 + 1))) 24 dc (nI v49)) 27 dc (-1)) 28 dc (-1)) 29 dc 0) 27 dc (nI lz)) 22 lz (nI at222)) 23 lz (-1)) 22 lt425) 23 ln426) 28 dc r427) 19) wr T := hty469
                  refine lv_aload_n hx hb dX12_declaration_237 rfl (lv_at hl 2 rfl) ?_
                  refine lv_bipush (v := 123) hx hb dX12_declaration_238 (by decide) ?_
                  have hP : va_P G.1 pCl (mW G h0 a (upd (upd (upd (upd (upd (upd (upd (upd (upd (upd (upd (upd (upd (upd (upd (upd (upd F 15 (nI fa422)) 16 pl423) 27 (nI nd)) 31 (nI wr)) 34 (nI ls424)) 35 (nI (dc + 1))) 44 (nI fd)) 49 (nI md)) 59 (nI bk)) 60 (nI pr)) 64 (nI at421)) 65 ne0) 66 (nI lk)) 67 (nI mf)) 68 (nI mm)) 15 (nI fa422)) 64 (nI at421)) (updA (updA (stR (updA (updA (stR (stR (stR (stR (stR (stR (stR (stR (stR B 26 dc 0) 25 dc (nI (at0 + 1))) 24 dc (nI v49)) 27 dc (-1)) 28 dc (-1)) 29 dc 0) 27 dc (nI lz)) 22 lz (nI at222)) 23 lz (-1)) 22 lt425) 23 ln426) 28 dc r427) 2 K) 2 K)) _ := hP
                  have hD : va_D A (mW G h0 a (upd (upd (upd (upd (upd (upd (upd (upd (upd (upd (upd (upd (upd (upd (upd (upd (upd F 15 (nI fa422)) 16 pl423) 27 (nI nd)) 31 (nI wr)) 34 (nI ls424)) 35 (nI (dc + 1))) 44 (nI fd)) 49 (nI md)) 59 (nI bk)) 60 (nI pr)) 64 (nI at421)) 65 ne0) 66 (nI lk)) 67 (nI mf)) 68 (nI mm)) 15 (nI fa422)) 64 (nI at421)) (updA (updA (stR (updA (updA (stR (stR (stR (stR (stR (stR (stR (stR (stR B 26 dc 0) 25 dc (nI (at0 + 1))) 24 dc (nI v49)) 27 dc (-1)) 28 dc (-1)) 29 dc 0) 27 dc (nI lz)) 22 lz (nI at222)) 23 lz (-1)) 22 lt425) 23 ln426) 28 dc r427) 2 K) 2 K)) := hD
                  refine pc_V0 (G := G) (As := [.int 123]) (rest := []) hx hb hml hown hq hE hX pX0_al hP hD hS hA hl.1 (R_take l G h0 a (upd (upd (upd (upd (upd (upd (upd (upd (upd (upd (upd (upd (upd (upd (upd F 15 (nI fa422)) 16 pl423) 27 (nI nd)) 31 (nI wr)) 34 (nI ls424)) 35 (nI (dc + 1))) 44 (nI fd)) 49 (nI md)) 59 (nI bk)) 60 (nI pr)) 64 (nI at421)) 65 ne0) 66 (nI lk)) 67 (nI mf)) 68 (nI mm)) (updA (stR (updA (updA (stR (stR (stR (stR (stR (stR (stR (stR (stR B 26 dc 0) 25 dc (nI (at0 + 1))) 24 dc (nI v49)) 27 dc (-1)) 28 dc (-1)) 29 dc 0) 27 dc (nI lz)) 22 lz (nI at222)) 23 lz (-1)) 22 lt425) 23 ln426) 28 dc r427) 2 K) at421 T fa422 K 123 (by omega) (by omega) hK (by omega) (by decide) (by decide)) (gV pw_1614 pw_1615 pw_1616 pw_1523 pw_1601) hV_X12_take 0 9 rfl rfl rfl rfl (Nat.le_of_ble_eq_true rfl) dX12_declaration_240 ⟨Nat.le_of_ble_eq_true rfl, Nat.le_of_ble_eq_true rfl⟩ ⟨Nat.le_of_ble_eq_true rfl, Nat.le_of_ble_eq_true rfl⟩ (fun v480 u478 H locs hw479 hP hD hS => ?_)
                  obtain ⟨at481, fa482, pl483⟩ := u478
                  obtain ⟨hw479, h484, h485, h486, h487, h488, h489, h490, h491⟩ := hw479
                  replace h484 : at421 ≤ at481 := h484
                  replace h485 : at481 ≤ T := h485
                  replace h486 : fa422 ≤ fa482 := h486
                  replace h487 : fa482 ≤ 100 := h487
                  replace h488 : If (0 < fa422) (at481 = at421 ∧ fa482 = fa422) := h488
                  replace h489 : at481 ≤ at421 + 1 := h489
                  replace h490 : at421 + 1 ≤ at481 + fa482 := h490
                  replace h491 : If (fa482 = 0) (K at421 = 123) := h491
                  obtain rfl : v480 = none := hw479
                  have hP : va_P G.1 pCl (mW G h0 a (upd (upd (upd (upd (upd (upd (upd (upd (upd (upd (upd (upd (upd (upd (upd F 15 (nI fa482)) 16 pl483) 27 (nI nd)) 31 (nI wr)) 34 (nI ls424)) 35 (nI (dc + 1))) 44 (nI fd)) 49 (nI md)) 59 (nI bk)) 60 (nI pr)) 64 (nI at481)) 65 ne0) 66 (nI lk)) 67 (nI mf)) 68 (nI mm)) (updA (stR (updA (updA (stR (stR (stR (stR (stR (stR (stR (stR (stR B 26 dc 0) 25 dc (nI (at0 + 1))) 24 dc (nI v49)) 27 dc (-1)) 28 dc (-1)) 29 dc 0) 27 dc (nI lz)) 22 lz (nI at222)) 23 lz (-1)) 22 lt425) 23 ln426) 28 dc r427) 2 K)) _ := hP
                  have hD : va_D A (mW G h0 a (upd (upd (upd (upd (upd (upd (upd (upd (upd (upd (upd (upd (upd (upd (upd F 15 (nI fa482)) 16 pl483) 27 (nI nd)) 31 (nI wr)) 34 (nI ls424)) 35 (nI (dc + 1))) 44 (nI fd)) 49 (nI md)) 59 (nI bk)) 60 (nI pr)) 64 (nI at481)) 65 ne0) 66 (nI lk)) 67 (nI mf)) 68 (nI mm)) (updA (stR (updA (updA (stR (stR (stR (stR (stR (stR (stR (stR (stR B 26 dc 0) 25 dc (nI (at0 + 1))) 24 dc (nI v49)) 27 dc (-1)) 28 dc (-1)) 29 dc 0) 27 dc (nI lz)) 22 lz (nI at222)) 23 lz (-1)) 22 lt425) 23 ln426) 28 dc r427) 2 K)) := hD
                  refine W.widen (k := 0) (n := 0) (Nat.le_of_ble_eq_true rfl) (Nat.le_of_ble_eq_true rfl) ?_
                  refine W.eq (g2 := F0 m 243 ls []) rfl ?_
                  obtain ⟨n493, n492⟩ := h488 e439
                  replace n493 := n493.symm
                  subst n493
                  replace n492 := n492.symm
                  subst n492
                  refine lv_aload_n hx hb dX12_declaration_243 rfl (lv_at hl 2 rfl) ?_
                  refine lv_iconst (v := 0) hx hb dX12_declaration_244 (by decide) ?_
                  refine r_put (v := 0) (ty := .int) hx hb hown hq hE hP hD hS 67 390 tFX12_67 (by decide) pw_1726 (by decide) rfl rfl (ms_67 a _ _) dX12_declaration_245 (fun H locs hP hD hS => ?_)
                  refine lv_aload_n hx hb dX12_declaration_248 rfl (lv_at hl 2 rfl) ?_
                  refine lv_iconst (v := 0) hx hb dX12_declaration_249 (by decide) ?_
                  refine r_put (v := 0) (ty := .int) hx hb hown hq hE hP hD hS 68 393 tFX12_68 (by decide) pw_1722 (by decide) rfl rfl (ms_68 a _ _) dX12_declaration_250 (fun H locs hP hD hS => ?_)
                  refine lv_aload_n hx hb dX12_declaration_253 rfl (lv_at hl 2 rfl) ?_
                  refine r_get (v := .int (nI fa422)) hx hb hown hq hE hP 15 350 tFX12_15 (by decide) pw_1594 rfl dX12_declaration_254 ?_
                  refine lv_if_ne (tgt := 277) hx hb dX12_declaration_257 (by decide) (fun c494 => ?_) (fun c494 => (by have n495 : fa422 = 0 := (nI_eq (a := fa422) (b := 0) (by omega) (by omega)).mp c494; omega))
                  refine lv_aload_n hx hb dX12_declaration_277 rfl (lv_at hl 2 rfl) ?_
                  refine lv_bipush (v := 125) hx hb dX12_declaration_278 (by decide) ?_
                  have hP : va_P G.1 pCl (mW G h0 a (upd (upd (upd (upd (upd (upd (upd (upd (upd (upd (upd (upd (upd (upd (upd (upd (upd F 15 (nI fa422)) 16 pl483) 27 (nI nd)) 31 (nI wr)) 34 (nI ls424)) 35 (nI (dc + 1))) 44 (nI fd)) 49 (nI md)) 59 (nI bk)) 60 (nI pr)) 64 (nI at421)) 65 ne0) 66 (nI lk)) 67 0) 68 0) 15 (nI fa422)) 64 (nI at421)) (updA (updA (stR (updA (updA (stR (stR (stR (stR (stR (stR (stR (stR (stR B 26 dc 0) 25 dc (nI (at0 + 1))) 24 dc (nI v49)) 27 dc (-1)) 28 dc (-1)) 29 dc 0) 27 dc (nI lz)) 22 lz (nI at222)) 23 lz (-1)) 22 lt425) 23 ln426) 28 dc r427) 2 K) 2 K)) _ := hP
                  have hD : va_D A (mW G h0 a (upd (upd (upd (upd (upd (upd (upd (upd (upd (upd (upd (upd (upd (upd (upd (upd (upd F 15 (nI fa422)) 16 pl483) 27 (nI nd)) 31 (nI wr)) 34 (nI ls424)) 35 (nI (dc + 1))) 44 (nI fd)) 49 (nI md)) 59 (nI bk)) 60 (nI pr)) 64 (nI at421)) 65 ne0) 66 (nI lk)) 67 0) 68 0) 15 (nI fa422)) 64 (nI at421)) (updA (updA (stR (updA (updA (stR (stR (stR (stR (stR (stR (stR (stR (stR B 26 dc 0) 25 dc (nI (at0 + 1))) 24 dc (nI v49)) 27 dc (-1)) 28 dc (-1)) 29 dc 0) 27 dc (nI lz)) 22 lz (nI at222)) 23 lz (-1)) 22 lt425) 23 ln426) 28 dc r427) 2 K) 2 K)) := hD
                  refine pc_V0 (G := G) (As := [.int 125]) (rest := []) hx hb hml hown hq hE hX pX0_al hP hD hS hA hl.1 (R_take l G h0 a (upd (upd (upd (upd (upd (upd (upd (upd (upd (upd (upd (upd (upd (upd (upd F 15 (nI fa422)) 16 pl483) 27 (nI nd)) 31 (nI wr)) 34 (nI ls424)) 35 (nI (dc + 1))) 44 (nI fd)) 49 (nI md)) 59 (nI bk)) 60 (nI pr)) 64 (nI at421)) 65 ne0) 66 (nI lk)) 67 0) 68 0) (updA (stR (updA (updA (stR (stR (stR (stR (stR (stR (stR (stR (stR B 26 dc 0) 25 dc (nI (at0 + 1))) 24 dc (nI v49)) 27 dc (-1)) 28 dc (-1)) 29 dc 0) 27 dc (nI lz)) 22 lz (nI at222)) 23 lz (-1)) 22 lt425) 23 ln426) 28 dc r427) 2 K) at421 T fa422 K 125 (by omega) (by omega) hK (by omega) (by decide) (by decide)) (gV pw_1614 pw_1615 pw_1616 pw_1523 pw_1601) hV_X12_take 0 9 rfl rfl rfl rfl (Nat.le_of_ble_eq_true rfl) dX12_declaration_280 ⟨Nat.le_of_ble_eq_true rfl, Nat.le_of_ble_eq_true rfl⟩ ⟨Nat.le_of_ble_eq_true rfl, Nat.le_of_ble_eq_true rfl⟩ (fun v498 u496 H locs hw497 hP hD hS => ?_)
                  obtain ⟨at499, fa500, pl501⟩ := u496
                  obtain ⟨hw497, h502, h503, h504, h505, h506, h507, h508, h509⟩ := hw497
                  replace h502 : at421 ≤ at499 := h502
                  replace h503 : at499 ≤ T := h503
                  replace h504 : fa422 ≤ fa500 := h504
                  replace h505 : fa500 ≤ 100 := h505
                  replace h506 : If (0 < fa422) (at499 = at421 ∧ fa500 = fa422) := h506
                  replace h507 : at499 ≤ at421 + 1 := h507
                  replace h508 : at421 + 1 ≤ at499 + fa500 := h508
                  replace h509 : If (fa500 = 0) (K at421 = 125) := h509
                  obtain rfl : v498 = none := hw497
                  have hP : va_P G.1 pCl (mW G h0 a (upd (upd (upd (upd (upd (upd (upd (upd (upd (upd (upd (upd (upd (upd (upd F 15 (nI fa500)) 16 pl501) 27 (nI nd)) 31 (nI wr)) 34 (nI ls424)) 35 (nI (dc + 1))) 44 (nI fd)) 49 (nI md)) 59 (nI bk)) 60 (nI pr)) 64 (nI at499)) 65 ne0) 66 (nI lk)) 67 0) 68 0) (updA (stR (updA (updA (stR (stR (stR (stR (stR (stR (stR (stR (stR B 26 dc 0) 25 dc (nI (at0 + 1))) 24 dc (nI v49)) 27 dc (-1)) 28 dc (-1)) 29 dc 0) 27 dc (nI lz)) 22 lz (nI at222)) 23 lz (-1)) 22 lt425) 23 ln426) 28 dc r427) 2 K)) _ := hP
                  have hD : va_D A (mW G h0 a (upd (upd (upd (upd (upd (upd (upd (upd (upd (upd (upd (upd (upd (upd (upd F 15 (nI fa500)) 16 pl501) 27 (nI nd)) 31 (nI wr)) 34 (nI ls424)) 35 (nI (dc + 1))) 44 (nI fd)) 49 (nI md)) 59 (nI bk)) 60 (nI pr)) 64 (nI at499)) 65 ne0) 66 (nI lk)) 67 0) 68 0) (updA (stR (updA (updA (stR (stR (stR (stR (stR (stR (stR (stR (stR B 26 dc 0) 25 dc (nI (at0 + 1))) 24 dc (nI v49)) 27 dc (-1)) 28 dc (-1)) 29 dc 0) 27 dc (nI lz)) 22 lz (nI at222)) 23 lz (-1)) 22 lt425) 23 ln426) 28 dc r427) 2 K)) := hD
                  refine W.widen (k := 0) (n := 0) (Nat.le_of_ble_eq_true rfl) (Nat.le_of_ble_eq_true rfl) ?_
                  refine W.eq (g2 := F0 m 283 ls []) rfl ?_
                  obtain ⟨n511, n510⟩ := h506 e439
                  replace n511 := n511.symm
                  subst n511
                  replace n510 := n510.symm
                  subst n510
                  have hz512 : at0 ≤ at421 := (by omega)
                  have hz513 : at421 ≤ T := (by omega)
                  have hz514 : fa422 ≤ 100 := (by omega)
                  have hz515 : at0 + 1 ≤ at421 + fa422 := (by omega)
                  have hz516 : Kq B (stR (updA (updA (stR (stR (stR (stR (stR (stR (stR (stR (stR B 26 dc 0) 25 dc (nI (at0 + 1))) 24 dc (nI v49)) 27 dc (-1)) 28 dc (-1)) 29 dc 0) 27 dc (nI lz)) 22 lz (nI at222)) 23 lz (-1)) 22 lt425) 23 ln426) 28 dc r427) := hkq470
                  have hz517 : If (fa422 = 0) ((nd ≤ 2 * at421 ∧ wr ≤ at421 ∧ ls424 ≤ at421 ∧ pr ≤ at421 ∧ (dc + 1) ≤ 37 ∧ dc ≤ (dc + 1) ∧ bk ≤ md ∧ wr ≤ wr ∧ lz ≤ ls424) ∧ (md + 210 ≤ 30 * (dc + 1) ∧ fd + 140 ≤ 20 * (dc + 1) ∧ (dc + 1) ≤ 37 ∧ 7 ≤ (dc + 1) ∧ (dc + 1) ≤ dc + 1) ∧ PS T nm wr ls424 (dc + 1) fd md pr bk (stR (updA (updA (stR (stR (stR (stR (stR (stR (stR (stR (stR B 26 dc 0) 25 dc (nI (at0 + 1))) 24 dc (nI v49)) 27 dc (-1)) 28 dc (-1)) 29 dc 0) 27 dc (nI lz)) 22 lz (nI at222)) 23 lz (-1)) 22 lt425) 23 ln426) 28 dc r427) ∧ FrM K T wr (stR (updA (updA (stR (stR (stR (stR (stR (stR (stR (stR (stR B 26 dc 0) 25 dc (nI (at0 + 1))) 24 dc (nI v49)) 27 dc (-1)) 28 dc (-1)) 29 dc 0) 27 dc (nI lz)) 22 lz (nI at222)) 23 lz (-1)) 22 lt425) 23 ln426) 28 dc r427) nd md ∧ tkRow ((stR (updA (updA (stR (stR (stR (stR (stR (stR (stR (stR (stR B 26 dc 0) 25 dc (nI (at0 + 1))) 24 dc (nI v49)) 27 dc (-1)) 28 dc (-1)) 29 dc 0) 27 dc (nI lz)) 22 lz (nI at222)) 23 lz (-1)) 22 lt425) 23 ln426) 28 dc r427) 19) wr T ∧ lsRow ((stR (updA (updA (stR (stR (stR (stR (stR (stR (stR (stR (stR B 26 dc 0) 25 dc (nI (at0 + 1))) 24 dc (nI v49)) 27 dc (-1)) 28 dc (-1)) 29 dc 0) 27 dc (nI lz)) 22 lz (nI at222)) 23 lz (-1)) 22 lt425) 23 ln426) 28 dc r427) 22) ((stR (updA (updA (stR (stR (stR (stR (stR (stR (stR (stR (stR B 26 dc 0) 25 dc (nI (at0 + 1))) 24 dc (nI v49)) 27 dc (-1)) 28 dc (-1)) 29 dc 0) 27 dc (nI lz)) 22 lz (nI at222)) 23 lz (-1)) 22 lt425) 23 ln426) 28 dc r427) 23) ls424 T) := (fun e => absurd e (by omega))
                  have hP : va_P G.1 pCl (mW G h0 a (upd (upd (upd (upd (upd (upd (upd (upd (upd (upd (upd (upd (upd (upd (upd F 15 (nI fa422)) 16 pl501) 27 (nI nd)) 31 (nI wr)) 34 (nI ls424)) 35 (nI (dc + 1))) 44 (nI fd)) 49 (nI md)) 59 (nI bk)) 60 (nI pr)) 64 (nI at421)) 65 ne0) 66 (nI lk)) 67 (nI 0)) 68 (nI 0)) (updA (stR (updA (updA (stR (stR (stR (stR (stR (stR (stR (stR (stR B 26 dc 0) 25 dc (nI (at0 + 1))) 24 dc (nI v49)) 27 dc (-1)) 28 dc (-1)) 29 dc 0) 27 dc (nI lz)) 22 lz (nI at222)) 23 lz (-1)) 22 lt425) 23 ln426) 28 dc r427) 2 K)) _ := hP
                  have hD : va_D A (mW G h0 a (upd (upd (upd (upd (upd (upd (upd (upd (upd (upd (upd (upd (upd (upd (upd F 15 (nI fa422)) 16 pl501) 27 (nI nd)) 31 (nI wr)) 34 (nI ls424)) 35 (nI (dc + 1))) 44 (nI fd)) 49 (nI md)) 59 (nI bk)) 60 (nI pr)) 64 (nI at421)) 65 ne0) 66 (nI lk)) 67 (nI 0)) 68 (nI 0)) (updA (stR (updA (updA (stR (stR (stR (stR (stR (stR (stR (stR (stR B 26 dc 0) 25 dc (nI (at0 + 1))) 24 dc (nI v49)) 27 dc (-1)) 28 dc (-1)) 29 dc 0) 27 dc (nI lz)) 22 lz (nI at222)) 23 lz (-1)) 22 lt425) 23 ln426) 28 dc r427) 2 K)) := hD
                  exact W.vret hx hb hr (fun t9 ht9 hW9 => ⟨⟨_, (at421, fa422, pl501, nd, wr, ls424, (dc + 1), fd, md, pr, bk, 0, 0, ne0, (stR (updA (updA (stR (stR (stR (stR (stR (stR (stR (stR (stR B 26 dc 0) 25 dc (nI (at0 + 1))) 24 dc (nI v49)) 27 dc (-1)) 28 dc (-1)) 29 dc 0) 27 dc (nI lz)) 22 lz (nI at222)) 23 lz (-1)) 22 lt425) 23 ln426) 28 dc r427)), rfl, ⟨rfl, hz512, hz513, hz514, hz515, hz516, hz517⟩, by rw [ht9]; exact hP, hD⟩, hS.F ht9⟩) hS.2.2 dX12_declaration_283
            · have e378 := e378
              refine r_sti (f := ((stR (stR (stR (stR (stR (stR (stR B 26 dc 0) 25 dc (nI (at0 + 1))) 24 dc (nI v49)) 27 dc (-1)) 28 dc (-1)) 29 dc 0) 27 dc (nI lz)) 22)) (j := lz) hx hb hE hP hD hS 22 (ma_22 G a _) rfl (mas_22 G a _) (by omega) (by decide) dX12_declaration_200 (fun H locs hP hD hS => ?_)
              have hP : va_P G.1 pCl (mW G h0 a (upd (upd (upd (upd (upd (upd (upd (upd (upd (upd (upd (upd (upd (upd (upd F 15 (nI fa368)) 16 pl369) 27 (nI nd)) 31 (nI wr)) 34 (nI (lz + 1))) 35 (nI (dc + 1))) 44 (nI fd)) 49 (nI md)) 59 (nI bk)) 60 (nI pr)) 64 (nI at367)) 65 ne0) 66 (nI lk)) 67 (nI mf)) 68 (nI mm)) (updA (stR (stR (stR (stR (stR (stR (stR (stR B 26 dc 0) 25 dc (nI (at0 + 1))) 24 dc (nI v49)) 27 dc (-1)) 28 dc (-1)) 29 dc 0) 27 dc (nI lz)) 22 lz (nI at222)) 2 K)) _ := hP
              have hD : va_D A (mW G h0 a (upd (upd (upd (upd (upd (upd (upd (upd (upd (upd (upd (upd (upd (upd (upd F 15 (nI fa368)) 16 pl369) 27 (nI nd)) 31 (nI wr)) 34 (nI (lz + 1))) 35 (nI (dc + 1))) 44 (nI fd)) 49 (nI md)) 59 (nI bk)) 60 (nI pr)) 64 (nI at367)) 65 ne0) 66 (nI lk)) 67 (nI mf)) 68 (nI mm)) (updA (stR (stR (stR (stR (stR (stR (stR (stR B 26 dc 0) 25 dc (nI (at0 + 1))) 24 dc (nI v49)) 27 dc (-1)) 28 dc (-1)) 29 dc 0) 27 dc (nI lz)) 22 lz (nI at222)) 2 K)) := hD
              have hkq518 : Kq B (stR (stR (stR (stR (stR (stR (stR (stR B 26 dc 0) 25 dc (nI (at0 + 1))) 24 dc (nI v49)) 27 dc (-1)) 28 dc (-1)) 29 dc 0) 27 dc (nI lz)) 22 lz (nI at222)) := (Kq.st hkq349 (by omega))
              have hce519 : (stR (stR (stR (stR (stR (stR (stR (stR B 26 dc 0) 25 dc (nI (at0 + 1))) 24 dc (nI v49)) 27 dc (-1)) 28 dc (-1)) 29 dc 0) 27 dc (nI lz)) 22 lz (nI at222)) 26 dc = 0 := ((st_ne (by omega)).trans hce350)
              have hce520 : (stR (stR (stR (stR (stR (stR (stR (stR B 26 dc 0) 25 dc (nI (at0 + 1))) 24 dc (nI v49)) 27 dc (-1)) 28 dc (-1)) 29 dc 0) 27 dc (nI lz)) 22 lz (nI at222)) 25 dc = (nI (at0 + 1)) := ((st_ne (by omega)).trans hce351)
              have hce521 : (stR (stR (stR (stR (stR (stR (stR (stR B 26 dc 0) 25 dc (nI (at0 + 1))) 24 dc (nI v49)) 27 dc (-1)) 28 dc (-1)) 29 dc 0) 27 dc (nI lz)) 22 lz (nI at222)) 24 dc = (nI v49) := ((st_ne (by omega)).trans hce352)
              have hce522 : (stR (stR (stR (stR (stR (stR (stR (stR B 26 dc 0) 25 dc (nI (at0 + 1))) 24 dc (nI v49)) 27 dc (-1)) 28 dc (-1)) 29 dc 0) 27 dc (nI lz)) 22 lz (nI at222)) 27 dc = (nI lz) := ((st_ne (by omega)).trans hce353)
              have hce523 : (stR (stR (stR (stR (stR (stR (stR (stR B 26 dc 0) 25 dc (nI (at0 + 1))) 24 dc (nI v49)) 27 dc (-1)) 28 dc (-1)) 29 dc 0) 27 dc (nI lz)) 22 lz (nI at222)) 28 dc = (-1) := ((st_ne (by omega)).trans hce354)
              have hce524 : (stR (stR (stR (stR (stR (stR (stR (stR B 26 dc 0) 25 dc (nI (at0 + 1))) 24 dc (nI v49)) 27 dc (-1)) 28 dc (-1)) 29 dc 0) 27 dc (nI lz)) 22 lz (nI at222)) 29 dc = 0 := ((st_ne (by omega)).trans hce355)
              have hty525 : tkRow ((stR (stR (stR (stR (stR (stR (stR (stR B 26 dc 0) 25 dc (nI (at0 + 1))) 24 dc (nI v49)) 27 dc (-1)) 28 dc (-1)) 29 dc 0) 27 dc (nI lz)) 22 lz (nI at222)) 19) wr T := hty356
              refine lv_aload_n hx hb dX12_declaration_201 rfl (lv_at hl 2 rfl) ?_
              refine r_get (v := .ref (a 23)) hx hb hown hq hE hP 33 81 tFX12_33 (by decide) pw_1454 rfl dX12_declaration_202 ?_
              refine lv_aload_n hx hb dX12_declaration_205 rfl (lv_at hl 2 rfl) ?_
              refine r_get (v := .ref (a 27)) hx hb hown hq hE hP 39 93 tFX12_39 (by decide) pw_1458 rfl dX12_declaration_206 ?_
              refine lv_iload_n hx hb dX12_declaration_209 rfl (lv_at hl 0 rfl) ?_
              refine r_ldi (f := ((stR (stR (stR (stR (stR (stR (stR (stR B 26 dc 0) 25 dc (nI (at0 + 1))) 24 dc (nI v49)) 27 dc (-1)) 28 dc (-1)) 29 dc 0) 27 dc (nI lz)) 22 lz (nI at222)) 27)) (j := dc) hx hb hE hP 27 (ma_27 G a _) rfl (by omega) (by decide) dX12_declaration_210 ?_
              refine lv_topi (fun x526 e527 => ?_)
              obtain rfl : x526 = (nI lz) := e527.trans hce522
              refine lv_iconst (v := (-1)) hx hb dX12_declaration_211 (by decide) ?_
              refine r_sti (f := ((stR (stR (stR (stR (stR (stR (stR (stR B 26 dc 0) 25 dc (nI (at0 + 1))) 24 dc (nI v49)) 27 dc (-1)) 28 dc (-1)) 29 dc 0) 27 dc (nI lz)) 22 lz (nI at222)) 23)) (j := lz) hx hb hE hP hD hS 23 (ma_23 G a _) rfl (mas_23 G a _) (by omega) (by decide) dX12_declaration_212 (fun H locs hP hD hS => ?_)
              have hP : va_P G.1 pCl (mW G h0 a (upd (upd (upd (upd (upd (upd (upd (upd (upd (upd (upd (upd (upd (upd (upd F 15 (nI fa368)) 16 pl369) 27 (nI nd)) 31 (nI wr)) 34 (nI (lz + 1))) 35 (nI (dc + 1))) 44 (nI fd)) 49 (nI md)) 59 (nI bk)) 60 (nI pr)) 64 (nI at367)) 65 ne0) 66 (nI lk)) 67 (nI mf)) 68 (nI mm)) (updA (stR (stR (stR (stR (stR (stR (stR (stR (stR B 26 dc 0) 25 dc (nI (at0 + 1))) 24 dc (nI v49)) 27 dc (-1)) 28 dc (-1)) 29 dc 0) 27 dc (nI lz)) 22 lz (nI at222)) 23 lz (-1)) 2 K)) _ := hP
              have hD : va_D A (mW G h0 a (upd (upd (upd (upd (upd (upd (upd (upd (upd (upd (upd (upd (upd (upd (upd F 15 (nI fa368)) 16 pl369) 27 (nI nd)) 31 (nI wr)) 34 (nI (lz + 1))) 35 (nI (dc + 1))) 44 (nI fd)) 49 (nI md)) 59 (nI bk)) 60 (nI pr)) 64 (nI at367)) 65 ne0) 66 (nI lk)) 67 (nI mf)) 68 (nI mm)) (updA (stR (stR (stR (stR (stR (stR (stR (stR (stR B 26 dc 0) 25 dc (nI (at0 + 1))) 24 dc (nI v49)) 27 dc (-1)) 28 dc (-1)) 29 dc 0) 27 dc (nI lz)) 22 lz (nI at222)) 23 lz (-1)) 2 K)) := hD
              have hkq528 : Kq B (stR (stR (stR (stR (stR (stR (stR (stR (stR B 26 dc 0) 25 dc (nI (at0 + 1))) 24 dc (nI v49)) 27 dc (-1)) 28 dc (-1)) 29 dc 0) 27 dc (nI lz)) 22 lz (nI at222)) 23 lz (-1)) := (Kq.st hkq518 (by omega))
              have hce529 : (stR (stR (stR (stR (stR (stR (stR (stR (stR B 26 dc 0) 25 dc (nI (at0 + 1))) 24 dc (nI v49)) 27 dc (-1)) 28 dc (-1)) 29 dc 0) 27 dc (nI lz)) 22 lz (nI at222)) 23 lz (-1)) 26 dc = 0 := ((st_ne (by omega)).trans hce519)
              have hce530 : (stR (stR (stR (stR (stR (stR (stR (stR (stR B 26 dc 0) 25 dc (nI (at0 + 1))) 24 dc (nI v49)) 27 dc (-1)) 28 dc (-1)) 29 dc 0) 27 dc (nI lz)) 22 lz (nI at222)) 23 lz (-1)) 25 dc = (nI (at0 + 1)) := ((st_ne (by omega)).trans hce520)
              have hce531 : (stR (stR (stR (stR (stR (stR (stR (stR (stR B 26 dc 0) 25 dc (nI (at0 + 1))) 24 dc (nI v49)) 27 dc (-1)) 28 dc (-1)) 29 dc 0) 27 dc (nI lz)) 22 lz (nI at222)) 23 lz (-1)) 24 dc = (nI v49) := ((st_ne (by omega)).trans hce521)
              have hce532 : (stR (stR (stR (stR (stR (stR (stR (stR (stR B 26 dc 0) 25 dc (nI (at0 + 1))) 24 dc (nI v49)) 27 dc (-1)) 28 dc (-1)) 29 dc 0) 27 dc (nI lz)) 22 lz (nI at222)) 23 lz (-1)) 27 dc = (nI lz) := ((st_ne (by omega)).trans hce522)
              have hce533 : (stR (stR (stR (stR (stR (stR (stR (stR (stR B 26 dc 0) 25 dc (nI (at0 + 1))) 24 dc (nI v49)) 27 dc (-1)) 28 dc (-1)) 29 dc 0) 27 dc (nI lz)) 22 lz (nI at222)) 23 lz (-1)) 28 dc = (-1) := ((st_ne (by omega)).trans hce523)
              have hce534 : (stR (stR (stR (stR (stR (stR (stR (stR (stR B 26 dc 0) 25 dc (nI (at0 + 1))) 24 dc (nI v49)) 27 dc (-1)) 28 dc (-1)) 29 dc 0) 27 dc (nI lz)) 22 lz (nI at222)) 23 lz (-1)) 29 dc = 0 := ((st_ne (by omega)).trans hce524)
              have hty535 : tkRow ((stR (stR (stR (stR (stR (stR (stR (stR (stR B 26 dc 0) 25 dc (nI (at0 + 1))) 24 dc (nI v49)) 27 dc (-1)) 28 dc (-1)) 29 dc 0) 27 dc (nI lz)) 22 lz (nI at222)) 23 lz (-1)) 19) wr T := hty525
              refine lv_iload_n hx hb dX12_declaration_213 rfl (lv_at hl 1 rfl) ?_
              refine lv_if_ne (tgt := 237) hx hb dX12_declaration_214 (by decide) (fun c536 => absurd c536 (by decide)) (fun c536 => ?_)
              refine lv_aload_n hx hb dX12_declaration_217 rfl (lv_at hl 2 rfl) ?_
              refine lv_sipush (v := 322) hx hb dX12_declaration_218 (by decide) ?_
              have hP : va_P G.1 pCl (mW G h0 a (upd (upd (upd (upd (upd (upd (upd (upd (upd (upd (upd (upd (upd (upd (upd (upd (upd F 15 (nI fa368)) 16 pl369) 27 (nI nd)) 31 (nI wr)) 34 (nI (lz + 1))) 35 (nI (dc + 1))) 44 (nI fd)) 49 (nI md)) 59 (nI bk)) 60 (nI pr)) 64 (nI at367)) 65 ne0) 66 (nI lk)) 67 (nI mf)) 68 (nI mm)) 15 (nI fa368)) 64 (nI at367)) (updA (updA (stR (stR (stR (stR (stR (stR (stR (stR (stR B 26 dc 0) 25 dc (nI (at0 + 1))) 24 dc (nI v49)) 27 dc (-1)) 28 dc (-1)) 29 dc 0) 27 dc (nI lz)) 22 lz (nI at222)) 23 lz (-1)) 2 K) 2 K)) _ := hP
              have hD : va_D A (mW G h0 a (upd (upd (upd (upd (upd (upd (upd (upd (upd (upd (upd (upd (upd (upd (upd (upd (upd F 15 (nI fa368)) 16 pl369) 27 (nI nd)) 31 (nI wr)) 34 (nI (lz + 1))) 35 (nI (dc + 1))) 44 (nI fd)) 49 (nI md)) 59 (nI bk)) 60 (nI pr)) 64 (nI at367)) 65 ne0) 66 (nI lk)) 67 (nI mf)) 68 (nI mm)) 15 (nI fa368)) 64 (nI at367)) (updA (updA (stR (stR (stR (stR (stR (stR (stR (stR (stR B 26 dc 0) 25 dc (nI (at0 + 1))) 24 dc (nI v49)) 27 dc (-1)) 28 dc (-1)) 29 dc 0) 27 dc (nI lz)) 22 lz (nI at222)) 23 lz (-1)) 2 K) 2 K)) := hD
              refine pc_V0 (G := G) (As := [.int 322]) (rest := []) hx hb hml hown hq hE hX pX0_al hP hD hS hA hl.1 (R_may l G h0 a (upd (upd (upd (upd (upd (upd (upd (upd (upd (upd (upd (upd (upd (upd (upd F 15 (nI fa368)) 16 pl369) 27 (nI nd)) 31 (nI wr)) 34 (nI (lz + 1))) 35 (nI (dc + 1))) 44 (nI fd)) 49 (nI md)) 59 (nI bk)) 60 (nI pr)) 64 (nI at367)) 65 ne0) 66 (nI lk)) 67 (nI mf)) 68 (nI mm)) (updA (stR (stR (stR (stR (stR (stR (stR (stR (stR B 26 dc 0) 25 dc (nI (at0 + 1))) 24 dc (nI v49)) 27 dc (-1)) 28 dc (-1)) 29 dc 0) 27 dc (nI lz)) 22 lz (nI at222)) 23 lz (-1)) 2 K) at367 T fa368 K 322 (by omega) (by omega) hK (by omega) (by decide) (by decide)) (gV pw_1621 pw_1622 pw_1623 pw_1523 pw_1605) hV_X12_may 0 9 rfl rfl rfl rfl (Nat.le_of_ble_eq_true rfl) dX12_declaration_221 ⟨Nat.le_of_ble_eq_true rfl, Nat.le_of_ble_eq_true rfl⟩ ⟨Nat.le_of_ble_eq_true rfl, Nat.le_of_ble_eq_true rfl⟩ (fun v539 u537 H locs hw538 hP hD hS => ?_)
              obtain ⟨at540, r541⟩ := u537
              obtain ⟨hw538, h542, h543, h544, h545, h546, h547⟩ := hw538
              replace h542 : r541 ≤ 1 := h542
              replace h543 : fa368 + 100 * r541 ≤ 100 := h543
              replace h544 : at540 = at367 + r541 := h544
              replace h545 : at540 ≤ T := h545
              replace h546 : If (r541 = 1) (K at367 = 322) := h546
              replace h547 : If (r541 = 0) (fa368 = 0 → ¬ K at367 = 322) := h547
              obtain rfl : v539 = some (.int (nI r541)) := hw538
              have hP : va_P G.1 pCl (mW G h0 a (upd (upd (upd (upd (upd (upd (upd (upd (upd (upd (upd (upd (upd (upd (upd F 15 (nI fa368)) 16 pl369) 27 (nI nd)) 31 (nI wr)) 34 (nI (lz + 1))) 35 (nI (dc + 1))) 44 (nI fd)) 49 (nI md)) 59 (nI bk)) 60 (nI pr)) 64 (nI at540)) 65 ne0) 66 (nI lk)) 67 (nI mf)) 68 (nI mm)) (updA (stR (stR (stR (stR (stR (stR (stR (stR (stR B 26 dc 0) 25 dc (nI (at0 + 1))) 24 dc (nI v49)) 27 dc (-1)) 28 dc (-1)) 29 dc 0) 27 dc (nI lz)) 22 lz (nI at222)) 23 lz (-1)) 2 K)) _ := hP
              have hD : va_D A (mW G h0 a (upd (upd (upd (upd (upd (upd (upd (upd (upd (upd (upd (upd (upd (upd (upd F 15 (nI fa368)) 16 pl369) 27 (nI nd)) 31 (nI wr)) 34 (nI (lz + 1))) 35 (nI (dc + 1))) 44 (nI fd)) 49 (nI md)) 59 (nI bk)) 60 (nI pr)) 64 (nI at540)) 65 ne0) 66 (nI lk)) 67 (nI mf)) 68 (nI mm)) (updA (stR (stR (stR (stR (stR (stR (stR (stR (stR B 26 dc 0) 25 dc (nI (at0 + 1))) 24 dc (nI v49)) 27 dc (-1)) 28 dc (-1)) 29 dc 0) 27 dc (nI lz)) 22 lz (nI at222)) 23 lz (-1)) 2 K)) := hD
              refine W.widen (k := 0) (n := 0) (Nat.le_of_ble_eq_true rfl) (Nat.le_of_ble_eq_true rfl) ?_
              refine W.eq (g2 := F0 m 224 ls [.int (nI r541)]) rfl ?_
              obtain rfl : at367 = at540 := (by omega)
              refine lv_if_eq (tgt := 237) hx hb dX12_declaration_224 (by decide) (fun c548 => ?_) (fun c548 => (by have n549 : ¬ (r541 = 0) := fun h9 => c548 ((nI_eq (a := r541) (b := 0) (by omega) (by omega)).mpr h9); omega))
              refine lv_aload_n hx hb dX12_declaration_237 rfl (lv_at hl 2 rfl) ?_
              refine lv_bipush (v := 123) hx hb dX12_declaration_238 (by decide) ?_
              have hP : va_P G.1 pCl (mW G h0 a (upd (upd (upd (upd (upd (upd (upd (upd (upd (upd (upd (upd (upd (upd (upd (upd (upd F 15 (nI fa368)) 16 pl369) 27 (nI nd)) 31 (nI wr)) 34 (nI (lz + 1))) 35 (nI (dc + 1))) 44 (nI fd)) 49 (nI md)) 59 (nI bk)) 60 (nI pr)) 64 (nI at367)) 65 ne0) 66 (nI lk)) 67 (nI mf)) 68 (nI mm)) 15 (nI fa368)) 64 (nI at367)) (updA (updA (stR (stR (stR (stR (stR (stR (stR (stR (stR B 26 dc 0) 25 dc (nI (at0 + 1))) 24 dc (nI v49)) 27 dc (-1)) 28 dc (-1)) 29 dc 0) 27 dc (nI lz)) 22 lz (nI at222)) 23 lz (-1)) 2 K) 2 K)) _ := hP
              have hD : va_D A (mW G h0 a (upd (upd (upd (upd (upd (upd (upd (upd (upd (upd (upd (upd (upd (upd (upd (upd (upd F 15 (nI fa368)) 16 pl369) 27 (nI nd)) 31 (nI wr)) 34 (nI (lz + 1))) 35 (nI (dc + 1))) 44 (nI fd)) 49 (nI md)) 59 (nI bk)) 60 (nI pr)) 64 (nI at367)) 65 ne0) 66 (nI lk)) 67 (nI mf)) 68 (nI mm)) 15 (nI fa368)) 64 (nI at367)) (updA (updA (stR (stR (stR (stR (stR (stR (stR (stR (stR B 26 dc 0) 25 dc (nI (at0 + 1))) 24 dc (nI v49)) 27 dc (-1)) 28 dc (-1)) 29 dc 0) 27 dc (nI lz)) 22 lz (nI at222)) 23 lz (-1)) 2 K) 2 K)) := hD
              refine pc_V0 (G := G) (As := [.int 123]) (rest := []) hx hb hml hown hq hE hX pX0_al hP hD hS hA hl.1 (R_take l G h0 a (upd (upd (upd (upd (upd (upd (upd (upd (upd (upd (upd (upd (upd (upd (upd F 15 (nI fa368)) 16 pl369) 27 (nI nd)) 31 (nI wr)) 34 (nI (lz + 1))) 35 (nI (dc + 1))) 44 (nI fd)) 49 (nI md)) 59 (nI bk)) 60 (nI pr)) 64 (nI at367)) 65 ne0) 66 (nI lk)) 67 (nI mf)) 68 (nI mm)) (updA (stR (stR (stR (stR (stR (stR (stR (stR (stR B 26 dc 0) 25 dc (nI (at0 + 1))) 24 dc (nI v49)) 27 dc (-1)) 28 dc (-1)) 29 dc 0) 27 dc (nI lz)) 22 lz (nI at222)) 23 lz (-1)) 2 K) at367 T fa368 K 123 (by omega) (by omega) hK (by omega) (by decide) (by decide)) (gV pw_1614 pw_1615 pw_1616 pw_1523 pw_1601) hV_X12_take 0 9 rfl rfl rfl rfl (Nat.le_of_ble_eq_true rfl) dX12_declaration_240 ⟨Nat.le_of_ble_eq_true rfl, Nat.le_of_ble_eq_true rfl⟩ ⟨Nat.le_of_ble_eq_true rfl, Nat.le_of_ble_eq_true rfl⟩ (fun v552 u550 H locs hw551 hP hD hS => ?_)
              obtain ⟨at553, fa554, pl555⟩ := u550
              obtain ⟨hw551, h556, h557, h558, h559, h560, h561, h562, h563⟩ := hw551
              replace h556 : at367 ≤ at553 := h556
              replace h557 : at553 ≤ T := h557
              replace h558 : fa368 ≤ fa554 := h558
              replace h559 : fa554 ≤ 100 := h559
              replace h560 : If (0 < fa368) (at553 = at367 ∧ fa554 = fa368) := h560
              replace h561 : at553 ≤ at367 + 1 := h561
              replace h562 : at367 + 1 ≤ at553 + fa554 := h562
              replace h563 : If (fa554 = 0) (K at367 = 123) := h563
              obtain rfl : v552 = none := hw551
              have hP : va_P G.1 pCl (mW G h0 a (upd (upd (upd (upd (upd (upd (upd (upd (upd (upd (upd (upd (upd (upd (upd F 15 (nI fa554)) 16 pl555) 27 (nI nd)) 31 (nI wr)) 34 (nI (lz + 1))) 35 (nI (dc + 1))) 44 (nI fd)) 49 (nI md)) 59 (nI bk)) 60 (nI pr)) 64 (nI at553)) 65 ne0) 66 (nI lk)) 67 (nI mf)) 68 (nI mm)) (updA (stR (stR (stR (stR (stR (stR (stR (stR (stR B 26 dc 0) 25 dc (nI (at0 + 1))) 24 dc (nI v49)) 27 dc (-1)) 28 dc (-1)) 29 dc 0) 27 dc (nI lz)) 22 lz (nI at222)) 23 lz (-1)) 2 K)) _ := hP
              have hD : va_D A (mW G h0 a (upd (upd (upd (upd (upd (upd (upd (upd (upd (upd (upd (upd (upd (upd (upd F 15 (nI fa554)) 16 pl555) 27 (nI nd)) 31 (nI wr)) 34 (nI (lz + 1))) 35 (nI (dc + 1))) 44 (nI fd)) 49 (nI md)) 59 (nI bk)) 60 (nI pr)) 64 (nI at553)) 65 ne0) 66 (nI lk)) 67 (nI mf)) 68 (nI mm)) (updA (stR (stR (stR (stR (stR (stR (stR (stR (stR B 26 dc 0) 25 dc (nI (at0 + 1))) 24 dc (nI v49)) 27 dc (-1)) 28 dc (-1)) 29 dc 0) 27 dc (nI lz)) 22 lz (nI at222)) 23 lz (-1)) 2 K)) := hD
              refine W.widen (k := 0) (n := 0) (Nat.le_of_ble_eq_true rfl) (Nat.le_of_ble_eq_true rfl) ?_
              refine W.eq (g2 := F0 m 243 ls []) rfl ?_
              obtain ⟨n565, n564⟩ := h560 e378
              replace n565 := n565.symm
              subst n565
              replace n564 := n564.symm
              subst n564
              refine lv_aload_n hx hb dX12_declaration_243 rfl (lv_at hl 2 rfl) ?_
              refine lv_iconst (v := 0) hx hb dX12_declaration_244 (by decide) ?_
              refine r_put (v := 0) (ty := .int) hx hb hown hq hE hP hD hS 67 390 tFX12_67 (by decide) pw_1726 (by decide) rfl rfl (ms_67 a _ _) dX12_declaration_245 (fun H locs hP hD hS => ?_)
              refine lv_aload_n hx hb dX12_declaration_248 rfl (lv_at hl 2 rfl) ?_
              refine lv_iconst (v := 0) hx hb dX12_declaration_249 (by decide) ?_
              refine r_put (v := 0) (ty := .int) hx hb hown hq hE hP hD hS 68 393 tFX12_68 (by decide) pw_1722 (by decide) rfl rfl (ms_68 a _ _) dX12_declaration_250 (fun H locs hP hD hS => ?_)
              refine lv_aload_n hx hb dX12_declaration_253 rfl (lv_at hl 2 rfl) ?_
              refine r_get (v := .int (nI fa368)) hx hb hown hq hE hP 15 350 tFX12_15 (by decide) pw_1594 rfl dX12_declaration_254 ?_
              refine lv_if_ne (tgt := 277) hx hb dX12_declaration_257 (by decide) (fun c566 => ?_) (fun c566 => (by have n567 : fa368 = 0 := (nI_eq (a := fa368) (b := 0) (by omega) (by omega)).mp c566; omega))
              refine lv_aload_n hx hb dX12_declaration_277 rfl (lv_at hl 2 rfl) ?_
              refine lv_bipush (v := 125) hx hb dX12_declaration_278 (by decide) ?_
              have hP : va_P G.1 pCl (mW G h0 a (upd (upd (upd (upd (upd (upd (upd (upd (upd (upd (upd (upd (upd (upd (upd (upd (upd F 15 (nI fa368)) 16 pl555) 27 (nI nd)) 31 (nI wr)) 34 (nI (lz + 1))) 35 (nI (dc + 1))) 44 (nI fd)) 49 (nI md)) 59 (nI bk)) 60 (nI pr)) 64 (nI at367)) 65 ne0) 66 (nI lk)) 67 0) 68 0) 15 (nI fa368)) 64 (nI at367)) (updA (updA (stR (stR (stR (stR (stR (stR (stR (stR (stR B 26 dc 0) 25 dc (nI (at0 + 1))) 24 dc (nI v49)) 27 dc (-1)) 28 dc (-1)) 29 dc 0) 27 dc (nI lz)) 22 lz (nI at222)) 23 lz (-1)) 2 K) 2 K)) _ := hP
              have hD : va_D A (mW G h0 a (upd (upd (upd (upd (upd (upd (upd (upd (upd (upd (upd (upd (upd (upd (upd (upd (upd F 15 (nI fa368)) 16 pl555) 27 (nI nd)) 31 (nI wr)) 34 (nI (lz + 1))) 35 (nI (dc + 1))) 44 (nI fd)) 49 (nI md)) 59 (nI bk)) 60 (nI pr)) 64 (nI at367)) 65 ne0) 66 (nI lk)) 67 0) 68 0) 15 (nI fa368)) 64 (nI at367)) (updA (updA (stR (stR (stR (stR (stR (stR (stR (stR (stR B 26 dc 0) 25 dc (nI (at0 + 1))) 24 dc (nI v49)) 27 dc (-1)) 28 dc (-1)) 29 dc 0) 27 dc (nI lz)) 22 lz (nI at222)) 23 lz (-1)) 2 K) 2 K)) := hD
              refine pc_V0 (G := G) (As := [.int 125]) (rest := []) hx hb hml hown hq hE hX pX0_al hP hD hS hA hl.1 (R_take l G h0 a (upd (upd (upd (upd (upd (upd (upd (upd (upd (upd (upd (upd (upd (upd (upd F 15 (nI fa368)) 16 pl555) 27 (nI nd)) 31 (nI wr)) 34 (nI (lz + 1))) 35 (nI (dc + 1))) 44 (nI fd)) 49 (nI md)) 59 (nI bk)) 60 (nI pr)) 64 (nI at367)) 65 ne0) 66 (nI lk)) 67 0) 68 0) (updA (stR (stR (stR (stR (stR (stR (stR (stR (stR B 26 dc 0) 25 dc (nI (at0 + 1))) 24 dc (nI v49)) 27 dc (-1)) 28 dc (-1)) 29 dc 0) 27 dc (nI lz)) 22 lz (nI at222)) 23 lz (-1)) 2 K) at367 T fa368 K 125 (by omega) (by omega) hK (by omega) (by decide) (by decide)) (gV pw_1614 pw_1615 pw_1616 pw_1523 pw_1601) hV_X12_take 0 9 rfl rfl rfl rfl (Nat.le_of_ble_eq_true rfl) dX12_declaration_280 ⟨Nat.le_of_ble_eq_true rfl, Nat.le_of_ble_eq_true rfl⟩ ⟨Nat.le_of_ble_eq_true rfl, Nat.le_of_ble_eq_true rfl⟩ (fun v570 u568 H locs hw569 hP hD hS => ?_)
              obtain ⟨at571, fa572, pl573⟩ := u568
              obtain ⟨hw569, h574, h575, h576, h577, h578, h579, h580, h581⟩ := hw569
              replace h574 : at367 ≤ at571 := h574
              replace h575 : at571 ≤ T := h575
              replace h576 : fa368 ≤ fa572 := h576
              replace h577 : fa572 ≤ 100 := h577
              replace h578 : If (0 < fa368) (at571 = at367 ∧ fa572 = fa368) := h578
              replace h579 : at571 ≤ at367 + 1 := h579
              replace h580 : at367 + 1 ≤ at571 + fa572 := h580
              replace h581 : If (fa572 = 0) (K at367 = 125) := h581
              obtain rfl : v570 = none := hw569
              have hP : va_P G.1 pCl (mW G h0 a (upd (upd (upd (upd (upd (upd (upd (upd (upd (upd (upd (upd (upd (upd (upd F 15 (nI fa572)) 16 pl573) 27 (nI nd)) 31 (nI wr)) 34 (nI (lz + 1))) 35 (nI (dc + 1))) 44 (nI fd)) 49 (nI md)) 59 (nI bk)) 60 (nI pr)) 64 (nI at571)) 65 ne0) 66 (nI lk)) 67 0) 68 0) (updA (stR (stR (stR (stR (stR (stR (stR (stR (stR B 26 dc 0) 25 dc (nI (at0 + 1))) 24 dc (nI v49)) 27 dc (-1)) 28 dc (-1)) 29 dc 0) 27 dc (nI lz)) 22 lz (nI at222)) 23 lz (-1)) 2 K)) _ := hP
              have hD : va_D A (mW G h0 a (upd (upd (upd (upd (upd (upd (upd (upd (upd (upd (upd (upd (upd (upd (upd F 15 (nI fa572)) 16 pl573) 27 (nI nd)) 31 (nI wr)) 34 (nI (lz + 1))) 35 (nI (dc + 1))) 44 (nI fd)) 49 (nI md)) 59 (nI bk)) 60 (nI pr)) 64 (nI at571)) 65 ne0) 66 (nI lk)) 67 0) 68 0) (updA (stR (stR (stR (stR (stR (stR (stR (stR (stR B 26 dc 0) 25 dc (nI (at0 + 1))) 24 dc (nI v49)) 27 dc (-1)) 28 dc (-1)) 29 dc 0) 27 dc (nI lz)) 22 lz (nI at222)) 23 lz (-1)) 2 K)) := hD
              refine W.widen (k := 0) (n := 0) (Nat.le_of_ble_eq_true rfl) (Nat.le_of_ble_eq_true rfl) ?_
              refine W.eq (g2 := F0 m 283 ls []) rfl ?_
              obtain ⟨n583, n582⟩ := h578 e378
              replace n583 := n583.symm
              subst n583
              replace n582 := n582.symm
              subst n582
              have hz584 : at0 ≤ at367 := (by omega)
              have hz585 : at367 ≤ T := (by omega)
              have hz586 : fa368 ≤ 100 := (by omega)
              have hz587 : at0 + 1 ≤ at367 + fa368 := (by omega)
              have hz588 : Kq B (stR (stR (stR (stR (stR (stR (stR (stR (stR B 26 dc 0) 25 dc (nI (at0 + 1))) 24 dc (nI v49)) 27 dc (-1)) 28 dc (-1)) 29 dc 0) 27 dc (nI lz)) 22 lz (nI at222)) 23 lz (-1)) := hkq528
              have hz589 : If (fa368 = 0) ((nd ≤ 2 * at367 ∧ wr ≤ at367 ∧ (lz + 1) ≤ at367 ∧ pr ≤ at367 ∧ (dc + 1) ≤ 37 ∧ dc ≤ (dc + 1) ∧ bk ≤ md ∧ wr ≤ wr ∧ lz ≤ (lz + 1)) ∧ (md + 210 ≤ 30 * (dc + 1) ∧ fd + 140 ≤ 20 * (dc + 1) ∧ (dc + 1) ≤ 37 ∧ 7 ≤ (dc + 1) ∧ (dc + 1) ≤ dc + 1) ∧ PS T nm wr (lz + 1) (dc + 1) fd md pr bk (stR (stR (stR (stR (stR (stR (stR (stR (stR B 26 dc 0) 25 dc (nI (at0 + 1))) 24 dc (nI v49)) 27 dc (-1)) 28 dc (-1)) 29 dc 0) 27 dc (nI lz)) 22 lz (nI at222)) 23 lz (-1)) ∧ FrM K T wr (stR (stR (stR (stR (stR (stR (stR (stR (stR B 26 dc 0) 25 dc (nI (at0 + 1))) 24 dc (nI v49)) 27 dc (-1)) 28 dc (-1)) 29 dc 0) 27 dc (nI lz)) 22 lz (nI at222)) 23 lz (-1)) nd md ∧ tkRow ((stR (stR (stR (stR (stR (stR (stR (stR (stR B 26 dc 0) 25 dc (nI (at0 + 1))) 24 dc (nI v49)) 27 dc (-1)) 28 dc (-1)) 29 dc 0) 27 dc (nI lz)) 22 lz (nI at222)) 23 lz (-1)) 19) wr T ∧ lsRow ((stR (stR (stR (stR (stR (stR (stR (stR (stR B 26 dc 0) 25 dc (nI (at0 + 1))) 24 dc (nI v49)) 27 dc (-1)) 28 dc (-1)) 29 dc 0) 27 dc (nI lz)) 22 lz (nI at222)) 23 lz (-1)) 22) ((stR (stR (stR (stR (stR (stR (stR (stR (stR B 26 dc 0) 25 dc (nI (at0 + 1))) 24 dc (nI v49)) 27 dc (-1)) 28 dc (-1)) 29 dc 0) 27 dc (nI lz)) 22 lz (nI at222)) 23 lz (-1)) 23) (lz + 1) T) := (fun e => absurd e (by omega))
              have hP : va_P G.1 pCl (mW G h0 a (upd (upd (upd (upd (upd (upd (upd (upd (upd (upd (upd (upd (upd (upd (upd F 15 (nI fa368)) 16 pl573) 27 (nI nd)) 31 (nI wr)) 34 (nI (lz + 1))) 35 (nI (dc + 1))) 44 (nI fd)) 49 (nI md)) 59 (nI bk)) 60 (nI pr)) 64 (nI at367)) 65 ne0) 66 (nI lk)) 67 (nI 0)) 68 (nI 0)) (updA (stR (stR (stR (stR (stR (stR (stR (stR (stR B 26 dc 0) 25 dc (nI (at0 + 1))) 24 dc (nI v49)) 27 dc (-1)) 28 dc (-1)) 29 dc 0) 27 dc (nI lz)) 22 lz (nI at222)) 23 lz (-1)) 2 K)) _ := hP
              have hD : va_D A (mW G h0 a (upd (upd (upd (upd (upd (upd (upd (upd (upd (upd (upd (upd (upd (upd (upd F 15 (nI fa368)) 16 pl573) 27 (nI nd)) 31 (nI wr)) 34 (nI (lz + 1))) 35 (nI (dc + 1))) 44 (nI fd)) 49 (nI md)) 59 (nI bk)) 60 (nI pr)) 64 (nI at367)) 65 ne0) 66 (nI lk)) 67 (nI 0)) 68 (nI 0)) (updA (stR (stR (stR (stR (stR (stR (stR (stR (stR B 26 dc 0) 25 dc (nI (at0 + 1))) 24 dc (nI v49)) 27 dc (-1)) 28 dc (-1)) 29 dc 0) 27 dc (nI lz)) 22 lz (nI at222)) 23 lz (-1)) 2 K)) := hD
              exact W.vret hx hb hr (fun t9 ht9 hW9 => ⟨⟨_, (at367, fa368, pl573, nd, wr, (lz + 1), (dc + 1), fd, md, pr, bk, 0, 0, ne0, (stR (stR (stR (stR (stR (stR (stR (stR (stR B 26 dc 0) 25 dc (nI (at0 + 1))) 24 dc (nI v49)) 27 dc (-1)) 28 dc (-1)) 29 dc 0) 27 dc (nI lz)) 22 lz (nI at222)) 23 lz (-1))), rfl, ⟨rfl, hz584, hz585, hz586, hz587, hz588, hz589⟩, by rw [ht9]; exact hP, hD⟩, hS.F ht9⟩) hS.2.2 dX12_declaration_283
        · have e36 := e36
          refine r_sti (f := ((stR B 26 dc 0) 25)) (j := dc) hx hb hE hP hD hS 25 (ma_25 G a _) rfl (mas_25 G a _) (by omega) (by decide) dX12_declaration_82 (fun H locs hP hD hS => ?_)
          have hP : va_P G.1 pCl (mW G h0 a (upd (upd (upd (upd (upd (upd (upd (upd (upd (upd (upd (upd (upd (upd (upd F 15 (nI fa26)) 16 pl27) 27 (nI nd)) 31 (nI wr)) 34 (nI lz)) 35 (nI dc)) 44 (nI fd)) 49 (nI md)) 59 (nI bk)) 60 (nI pr)) 64 (nI at25)) 65 ne0) 66 (nI lk)) 67 (nI mf)) 68 (nI mm)) (updA (stR (stR B 26 dc 0) 25 dc (nI (at0 + 1))) 2 K)) _ := hP
          have hD : va_D A (mW G h0 a (upd (upd (upd (upd (upd (upd (upd (upd (upd (upd (upd (upd (upd (upd (upd F 15 (nI fa26)) 16 pl27) 27 (nI nd)) 31 (nI wr)) 34 (nI lz)) 35 (nI dc)) 44 (nI fd)) 49 (nI md)) 59 (nI bk)) 60 (nI pr)) 64 (nI at25)) 65 ne0) 66 (nI lk)) 67 (nI mf)) 68 (nI mm)) (updA (stR (stR B 26 dc 0) 25 dc (nI (at0 + 1))) 2 K)) := hD
          have hkq590 : Kq B (stR (stR B 26 dc 0) 25 dc (nI (at0 + 1))) := (Kq.st hkq16 (by omega))
          have hce591 : (stR (stR B 26 dc 0) 25 dc (nI (at0 + 1))) 26 dc = 0 := ((st_ne (by omega)).trans hce21)
          have hty592 : tkRow ((stR (stR B 26 dc 0) 25 dc (nI (at0 + 1))) 19) wr T := hty17
          have hce593 : (stR (stR B 26 dc 0) 25 dc (nI (at0 + 1))) 25 dc = (nI (at0 + 1)) := st_eq
          refine lv_aload_n hx hb dX12_declaration_83 rfl (lv_at hl 2 rfl) ?_
          refine r_get (v := .int (nI fa26)) hx hb hown hq hE hP 15 350 tFX12_15 (by decide) pw_1594 rfl dX12_declaration_84 ?_
          refine lv_if_le (tgt := 91) hx hb dX12_declaration_87 (by decide) (fun c594 => (by have n595 : fa26 ≤ 0 := (nI_leI (a := fa26) (b := 0) (by omega) (by omega)).mp c594; omega)) (fun c594 => ?_)
          have hz596 : at0 ≤ at25 := (by omega)
          have hz597 : at25 ≤ T := (by omega)
          have hz598 : fa26 ≤ 100 := (by omega)
          have hz599 : at0 + 1 ≤ at25 + fa26 := (by omega)
          have hz600 : Kq B (stR (stR B 26 dc 0) 25 dc (nI (at0 + 1))) := hkq590
          have hz601 : If (fa26 = 0) ((nd ≤ 2 * at25 ∧ wr ≤ at25 ∧ lz ≤ at25 ∧ pr ≤ at25 ∧ dc ≤ 37 ∧ dc ≤ dc ∧ bk ≤ md ∧ wr ≤ wr ∧ lz ≤ lz) ∧ (md + 210 ≤ 30 * dc ∧ fd + 140 ≤ 20 * dc ∧ dc ≤ 37 ∧ 7 ≤ dc ∧ dc ≤ dc + 1) ∧ PS T nm wr lz dc fd md pr bk (stR (stR B 26 dc 0) 25 dc (nI (at0 + 1))) ∧ FrM K T wr (stR (stR B 26 dc 0) 25 dc (nI (at0 + 1))) nd md ∧ tkRow ((stR (stR B 26 dc 0) 25 dc (nI (at0 + 1))) 19) wr T ∧ lsRow ((stR (stR B 26 dc 0) 25 dc (nI (at0 + 1))) 22) ((stR (stR B 26 dc 0) 25 dc (nI (at0 + 1))) 23) lz T) := (fun e => absurd e (by omega))
          have hP : va_P G.1 pCl (mW G h0 a (upd (upd (upd (upd (upd (upd (upd (upd (upd (upd (upd (upd (upd (upd (upd F 15 (nI fa26)) 16 pl27) 27 (nI nd)) 31 (nI wr)) 34 (nI lz)) 35 (nI dc)) 44 (nI fd)) 49 (nI md)) 59 (nI bk)) 60 (nI pr)) 64 (nI at25)) 65 ne0) 66 (nI lk)) 67 (nI mf)) 68 (nI mm)) (updA (stR (stR B 26 dc 0) 25 dc (nI (at0 + 1))) 2 K)) _ := hP
          have hD : va_D A (mW G h0 a (upd (upd (upd (upd (upd (upd (upd (upd (upd (upd (upd (upd (upd (upd (upd F 15 (nI fa26)) 16 pl27) 27 (nI nd)) 31 (nI wr)) 34 (nI lz)) 35 (nI dc)) 44 (nI fd)) 49 (nI md)) 59 (nI bk)) 60 (nI pr)) 64 (nI at25)) 65 ne0) 66 (nI lk)) 67 (nI mf)) 68 (nI mm)) (updA (stR (stR B 26 dc 0) 25 dc (nI (at0 + 1))) 2 K)) := hD
          exact W.vret hx hb hr (fun t9 ht9 hW9 => ⟨⟨_, (at25, fa26, pl27, nd, wr, lz, dc, fd, md, pr, bk, mf, mm, ne0, (stR (stR B 26 dc 0) 25 dc (nI (at0 + 1)))), rfl, ⟨rfl, hz596, hz597, hz598, hz599, hz600, hz601⟩, by rw [ht9]; exact hP, hD⟩, hS.F ht9⟩) hS.2.2 dX12_declaration_90
      · have n602 : dc = 37 := (nI_eq (a := dc) (b := 37) (by omega) (by omega)).mp c12
        refine lv_aload_n hx hb dX12_declaration_45 rfl (lv_at hl 1 rfl) ?_
        refine lv_iconst (v := 2) hx hb dX12_declaration_46 (by decide) ?_
        have hP : va_P G.1 pCl (mW G h0 a (upd (upd (upd (upd (upd (upd (upd (upd (upd (upd (upd (upd (upd (upd (upd (upd F 15 0) 27 (nI nd)) 31 (nI wr)) 34 (nI lz)) 35 (nI dc)) 44 (nI fd)) 49 (nI md)) 59 (nI bk)) 60 (nI pr)) 64 (nI at0)) 65 ne0) 66 (nI lk)) 67 (nI mf)) 68 (nI mm)) 15 (nI 0)) 64 (nI at0)) (updA (updA B 2 K) 2 K)) _ := hP
        have hD : va_D A (mW G h0 a (upd (upd (upd (upd (upd (upd (upd (upd (upd (upd (upd (upd (upd (upd (upd (upd F 15 0) 27 (nI nd)) 31 (nI wr)) 34 (nI lz)) 35 (nI dc)) 44 (nI fd)) 49 (nI md)) 59 (nI bk)) 60 (nI pr)) 64 (nI at0)) 65 ne0) 66 (nI lk)) 67 (nI mf)) 68 (nI mm)) 15 (nI 0)) 64 (nI at0)) (updA (updA B 2 K) 2 K)) := hD
        refine pc_V0 (G := G) (As := [.int (nI 2)]) (rest := []) hx hb hml hown hq hE hX pX0_al hP hD hS hA hl.1 (R_bad l G h0 a (upd (upd (upd (upd (upd (upd (upd (upd (upd (upd (upd (upd (upd (upd F 15 0) 27 (nI nd)) 31 (nI wr)) 34 (nI lz)) 35 (nI dc)) 44 (nI fd)) 49 (nI md)) 59 (nI bk)) 60 (nI pr)) 64 (nI at0)) 65 ne0) 66 (nI lk)) 67 (nI mf)) 68 (nI mm)) (updA B 2 K) at0 T 0 K 2 (by omega) (by omega) hK (by omega) (by omega) (by omega)) (gV pw_1602 pw_1603 pw_1604 pw_1523 pw_1596) hV_X12_bad 0 9 rfl rfl rfl rfl (Nat.le_of_ble_eq_true rfl) dX12_declaration_47 ⟨Nat.le_of_ble_eq_true rfl, Nat.le_of_ble_eq_true rfl⟩ ⟨Nat.le_of_ble_eq_true rfl, Nat.le_of_ble_eq_true rfl⟩ (fun v605 u603 H locs hw604 hP hD hS => ?_)
        obtain ⟨fa606, pl607⟩ := u603
        obtain ⟨hw604, h608, h609, h610, h611⟩ := hw604
        replace h608 : 0 ≤ fa606 := h608
        replace h609 : fa606 ≤ 0 + 2 := h609
        replace h610 : 0 < fa606 := h610
        replace h611 : If (0 < 0) (fa606 = 0) := h611
        obtain rfl : v605 = none := hw604
        have hP : va_P G.1 pCl (mW G h0 a (upd (upd (upd (upd (upd (upd (upd (upd (upd (upd (upd (upd (upd (upd (upd F 15 (nI fa606)) 16 pl607) 27 (nI nd)) 31 (nI wr)) 34 (nI lz)) 35 (nI dc)) 44 (nI fd)) 49 (nI md)) 59 (nI bk)) 60 (nI pr)) 64 (nI at0)) 65 ne0) 66 (nI lk)) 67 (nI mf)) 68 (nI mm)) (updA B 2 K)) _ := hP
        have hD : va_D A (mW G h0 a (upd (upd (upd (upd (upd (upd (upd (upd (upd (upd (upd (upd (upd (upd (upd F 15 (nI fa606)) 16 pl607) 27 (nI nd)) 31 (nI wr)) 34 (nI lz)) 35 (nI dc)) 44 (nI fd)) 49 (nI md)) 59 (nI bk)) 60 (nI pr)) 64 (nI at0)) 65 ne0) 66 (nI lk)) 67 (nI mf)) 68 (nI mm)) (updA B 2 K)) := hD
        refine W.widen (k := 0) (n := 0) (Nat.le_of_ble_eq_true rfl) (Nat.le_of_ble_eq_true rfl) ?_
        refine W.eq (g2 := F0 m 50 ls []) rfl ?_
        have hz612 : at0 ≤ at0 := (by omega)
        have hz613 : at0 ≤ T := (by omega)
        have hz614 : fa606 ≤ 100 := (by omega)
        have hz615 : at0 + 1 ≤ at0 + fa606 := (by omega)
        have hz616 : Kq B B := hkq1
        have hz617 : If (fa606 = 0) ((nd ≤ 2 * at0 ∧ wr ≤ at0 ∧ lz ≤ at0 ∧ pr ≤ at0 ∧ dc ≤ 37 ∧ dc ≤ dc ∧ bk ≤ md ∧ wr ≤ wr ∧ lz ≤ lz) ∧ (md + 210 ≤ 30 * dc ∧ fd + 140 ≤ 20 * dc ∧ dc ≤ 37 ∧ 7 ≤ dc ∧ dc ≤ dc + 1) ∧ PS T nm wr lz dc fd md pr bk B ∧ FrM K T wr B nd md ∧ tkRow (B 19) wr T ∧ lsRow (B 22) (B 23) lz T) := (fun e => absurd e (by omega))
        have hP : va_P G.1 pCl (mW G h0 a (upd (upd (upd (upd (upd (upd (upd (upd (upd (upd (upd (upd (upd (upd (upd F 15 (nI fa606)) 16 pl607) 27 (nI nd)) 31 (nI wr)) 34 (nI lz)) 35 (nI dc)) 44 (nI fd)) 49 (nI md)) 59 (nI bk)) 60 (nI pr)) 64 (nI at0)) 65 ne0) 66 (nI lk)) 67 (nI mf)) 68 (nI mm)) (updA B 2 K)) _ := hP
        have hD : va_D A (mW G h0 a (upd (upd (upd (upd (upd (upd (upd (upd (upd (upd (upd (upd (upd (upd (upd F 15 (nI fa606)) 16 pl607) 27 (nI nd)) 31 (nI wr)) 34 (nI lz)) 35 (nI dc)) 44 (nI fd)) 49 (nI md)) 59 (nI bk)) 60 (nI pr)) 64 (nI at0)) 65 ne0) 66 (nI lk)) 67 (nI mf)) 68 (nI mm)) (updA B 2 K)) := hD
        exact W.vret hx hb hr (fun t9 ht9 hW9 => ⟨⟨_, (at0, fa606, pl607, nd, wr, lz, dc, fd, md, pr, bk, mf, mm, ne0, B), rfl, ⟨rfl, hz612, hz613, hz614, hz615, hz616, hz617⟩, by rw [ht9]; exact hP, hD⟩, hS.F ht9⟩) hS.2.2 dX12_declaration_50
    · refine lv_aload_n hx hb dX12_declaration_30 rfl (lv_at hl 1 rfl) ?_
      refine lv_iconst (v := 1) hx hb dX12_declaration_31 (by decide) ?_
      have hP : va_P G.1 pCl (mW G h0 a (upd (upd (upd (upd (upd (upd (upd (upd (upd (upd (upd (upd (upd (upd (upd (upd F 15 0) 27 (nI nd)) 31 (nI wr)) 34 (nI lz)) 35 (nI dc)) 44 (nI fd)) 49 (nI md)) 59 (nI bk)) 60 (nI pr)) 64 (nI at0)) 65 ne0) 66 (nI lk)) 67 (nI mf)) 68 (nI mm)) 15 (nI 0)) 64 (nI at0)) (updA (updA B 2 K) 2 K)) _ := hP
      have hD : va_D A (mW G h0 a (upd (upd (upd (upd (upd (upd (upd (upd (upd (upd (upd (upd (upd (upd (upd (upd F 15 0) 27 (nI nd)) 31 (nI wr)) 34 (nI lz)) 35 (nI dc)) 44 (nI fd)) 49 (nI md)) 59 (nI bk)) 60 (nI pr)) 64 (nI at0)) 65 ne0) 66 (nI lk)) 67 (nI mf)) 68 (nI mm)) 15 (nI 0)) 64 (nI at0)) (updA (updA B 2 K) 2 K)) := hD
      refine pc_V0 (G := G) (As := [.int (nI 1)]) (rest := []) hx hb hml hown hq hE hX pX0_al hP hD hS hA hl.1 (R_bad l G h0 a (upd (upd (upd (upd (upd (upd (upd (upd (upd (upd (upd (upd (upd (upd F 15 0) 27 (nI nd)) 31 (nI wr)) 34 (nI lz)) 35 (nI dc)) 44 (nI fd)) 49 (nI md)) 59 (nI bk)) 60 (nI pr)) 64 (nI at0)) 65 ne0) 66 (nI lk)) 67 (nI mf)) 68 (nI mm)) (updA B 2 K) at0 T 0 K 1 (by omega) (by omega) hK (by omega) (by omega) (by omega)) (gV pw_1602 pw_1603 pw_1604 pw_1523 pw_1596) hV_X12_bad 0 9 rfl rfl rfl rfl (Nat.le_of_ble_eq_true rfl) dX12_declaration_32 ⟨Nat.le_of_ble_eq_true rfl, Nat.le_of_ble_eq_true rfl⟩ ⟨Nat.le_of_ble_eq_true rfl, Nat.le_of_ble_eq_true rfl⟩ (fun v620 u618 H locs hw619 hP hD hS => ?_)
      obtain ⟨fa621, pl622⟩ := u618
      obtain ⟨hw619, h623, h624, h625, h626⟩ := hw619
      replace h623 : 0 ≤ fa621 := h623
      replace h624 : fa621 ≤ 0 + 1 := h624
      replace h625 : 0 < fa621 := h625
      replace h626 : If (0 < 0) (fa621 = 0) := h626
      obtain rfl : v620 = none := hw619
      have hP : va_P G.1 pCl (mW G h0 a (upd (upd (upd (upd (upd (upd (upd (upd (upd (upd (upd (upd (upd (upd (upd F 15 (nI fa621)) 16 pl622) 27 (nI nd)) 31 (nI wr)) 34 (nI lz)) 35 (nI dc)) 44 (nI fd)) 49 (nI md)) 59 (nI bk)) 60 (nI pr)) 64 (nI at0)) 65 ne0) 66 (nI lk)) 67 (nI mf)) 68 (nI mm)) (updA B 2 K)) _ := hP
      have hD : va_D A (mW G h0 a (upd (upd (upd (upd (upd (upd (upd (upd (upd (upd (upd (upd (upd (upd (upd F 15 (nI fa621)) 16 pl622) 27 (nI nd)) 31 (nI wr)) 34 (nI lz)) 35 (nI dc)) 44 (nI fd)) 49 (nI md)) 59 (nI bk)) 60 (nI pr)) 64 (nI at0)) 65 ne0) 66 (nI lk)) 67 (nI mf)) 68 (nI mm)) (updA B 2 K)) := hD
      refine W.widen (k := 0) (n := 0) (Nat.le_of_ble_eq_true rfl) (Nat.le_of_ble_eq_true rfl) ?_
      refine W.eq (g2 := F0 m 35 ls []) rfl ?_
      have hz627 : at0 ≤ at0 := (by omega)
      have hz628 : at0 ≤ T := (by omega)
      have hz629 : fa621 ≤ 100 := (by omega)
      have hz630 : at0 + 1 ≤ at0 + fa621 := (by omega)
      have hz631 : Kq B B := hkq1
      have hz632 : If (fa621 = 0) ((nd ≤ 2 * at0 ∧ wr ≤ at0 ∧ lz ≤ at0 ∧ pr ≤ at0 ∧ dc ≤ 37 ∧ dc ≤ dc ∧ bk ≤ md ∧ wr ≤ wr ∧ lz ≤ lz) ∧ (md + 210 ≤ 30 * dc ∧ fd + 140 ≤ 20 * dc ∧ dc ≤ 37 ∧ 7 ≤ dc ∧ dc ≤ dc + 1) ∧ PS T nm wr lz dc fd md pr bk B ∧ FrM K T wr B nd md ∧ tkRow (B 19) wr T ∧ lsRow (B 22) (B 23) lz T) := (fun e => absurd e (by omega))
      have hP : va_P G.1 pCl (mW G h0 a (upd (upd (upd (upd (upd (upd (upd (upd (upd (upd (upd (upd (upd (upd (upd F 15 (nI fa621)) 16 pl622) 27 (nI nd)) 31 (nI wr)) 34 (nI lz)) 35 (nI dc)) 44 (nI fd)) 49 (nI md)) 59 (nI bk)) 60 (nI pr)) 64 (nI at0)) 65 ne0) 66 (nI lk)) 67 (nI mf)) 68 (nI mm)) (updA B 2 K)) _ := hP
      have hD : va_D A (mW G h0 a (upd (upd (upd (upd (upd (upd (upd (upd (upd (upd (upd (upd (upd (upd (upd F 15 (nI fa621)) 16 pl622) 27 (nI nd)) 31 (nI wr)) 34 (nI lz)) 35 (nI dc)) 44 (nI fd)) 49 (nI md)) 59 (nI bk)) 60 (nI pr)) 64 (nI at0)) 65 ne0) 66 (nI lk)) 67 (nI mf)) 68 (nI mm)) (updA B 2 K)) := hD
      exact W.vret hx hb hr (fun t9 ht9 hW9 => ⟨⟨_, (at0, fa621, pl622, nd, wr, lz, dc, fd, md, pr, bk, mf, mm, ne0, B), rfl, ⟨rfl, hz627, hz628, hz629, hz630, hz631, hz632⟩, by rw [ht9]; exact hP, hD⟩, hS.F ht9⟩) hS.2.2 dX12_declaration_35
  · have n633 : at0 < T := tk_lt hat hK c5 (by decide) (by decide)
    refine lv_iconst (v := 1) hx hb dX12_declaration_10 (by decide) ?_
    refine lv_goto (tgt := 15) hx hb dX12_declaration_11 (by decide) ?_
    refine lv_istore_n (lv' := [(1, .int 1), (0, .ref h0)]) hx hb dX12_declaration_15 rfl hl (by decide) rfl (fun ls hl => ?_)
    refine lv_iload_n hx hb dX12_declaration_16 rfl (lv_at hl 0 rfl) ?_
    refine lv_if_ne (tgt := 36) hx hb dX12_declaration_17 (by decide) (fun c634 => ?_) (fun c634 => absurd c634 (by decide))
    refine lv_aload_n hx hb dX12_declaration_36 rfl (lv_at hl 1 rfl) ?_
    refine r_get (v := .int (nI dc)) hx hb hown hq hE hP 35 384 tFX12_35 (by decide) pw_1732 rfl dX12_declaration_37 ?_
    refine lv_bipush (v := 37) hx hb dX12_declaration_40 (by decide) ?_
    refine lv_icmp_ne (tgt := 51) hx hb dX12_declaration_42 (by decide) (fun c635 => ?_) (fun c635 => ?_)
    · have n636 : ¬ (dc = 37) := fun h9 => c635 ((nI_eq (a := dc) (b := 37) (by omega) (by omega)).mpr h9)
      refine lv_aload_n hx hb dX12_declaration_51 rfl (lv_at hl 1 rfl) ?_
      refine lv_dup hx hb dX12_declaration_52 rfl ?_
      refine r_get (v := .int (nI at0)) hx hb hown hq hE hP 64 343 tFX12_64 (by decide) pw_1592 rfl dX12_declaration_53 ?_
      refine lv_iconst (v := 1) hx hb dX12_declaration_56 (by decide) ?_
      refine lv_iadd hx hb dX12_declaration_57 ?_
      refine lv_topi (fun x637 e638 => ?_)
      obtain rfl : x637 = nI (at0 + 1) := e638.trans (nI_add (at0) (1))
      refine r_put (v := (nI (at0 + 1))) (ty := .int) hx hb hown hq hE hP hD hS 64 343 tFX12_64 (by decide) pw_1592 (by decide) rfl rfl (ms_64 a _ _) dX12_declaration_58 (fun H locs hP hD hS => ?_)
      refine lv_aload_n hx hb dX12_declaration_61 rfl (lv_at hl 1 rfl) ?_
      refine r_get (v := .int (nI dc)) hx hb hown hq hE hP 35 384 tFX12_35 (by decide) pw_1732 rfl dX12_declaration_62 ?_
      refine lv_istore_n (lv' := [(2, .int (nI dc)), (1, .int 1), (0, .ref h0)]) hx hb dX12_declaration_65 rfl hl (by decide) rfl (fun ls hl => ?_)
      refine lv_aload_n hx hb dX12_declaration_66 rfl (lv_at hl 2 rfl) ?_
      refine r_get (v := .ref (a 26)) hx hb hown hq hE hP 38 90 tFX12_38 (by decide) pw_1457 rfl dX12_declaration_67 ?_
      refine lv_iload_n hx hb dX12_declaration_70 rfl (lv_at hl 0 rfl) ?_
      refine lv_iload_n hx hb dX12_declaration_71 rfl (lv_at hl 1 rfl) ?_
      refine r_stz (f := (B 26)) (j := dc) hx hb hE hP hD hS 26 (ma_26 G a _) rfl (mas_26 G a _) (by omega) (by decide) dX12_declaration_72 (fun H locs hP hD hS => ?_)
      have hP : va_P G.1 pCl (mW G h0 a (upd (upd (upd (upd (upd (upd (upd (upd (upd (upd (upd (upd (upd (upd F 15 0) 27 (nI nd)) 31 (nI wr)) 34 (nI lz)) 35 (nI dc)) 44 (nI fd)) 49 (nI md)) 59 (nI bk)) 60 (nI pr)) 64 (nI (at0 + 1))) 65 ne0) 66 (nI lk)) 67 (nI mf)) 68 (nI mm)) (updA (stR B 26 dc 1) 2 K)) _ := hP
      have hD : va_D A (mW G h0 a (upd (upd (upd (upd (upd (upd (upd (upd (upd (upd (upd (upd (upd (upd F 15 0) 27 (nI nd)) 31 (nI wr)) 34 (nI lz)) 35 (nI dc)) 44 (nI fd)) 49 (nI md)) 59 (nI bk)) 60 (nI pr)) 64 (nI (at0 + 1))) 65 ne0) 66 (nI lk)) 67 (nI mf)) 68 (nI mm)) (updA (stR B 26 dc 1) 2 K)) := hD
      have hkq639 : Kq B (stR B 26 dc 1) := (Kq.st hkq1 (by omega))
      have hty640 : tkRow ((stR B 26 dc 1) 19) wr T := hy
      have hps641 : PS T nm wr lz dc fd md pr bk (stR B 26 dc 1) := (PS.same hps (by omega) (by omega) (fun r i q1 q2 q3 => st_ne (fun e => by rw [e.1, e.2] at q3; exact absurd (show dc < dc from q3) (by omega))))
      have hfm642 : FrM K T wr (stR B 26 dc 1) nd md := (FrM.same hfm (by omega) (fun j i q1 q2 q3 => st_ne (by omega)) (fun i q => st_ne (by omega)))
      have hlr643 : lsRow ((stR B 26 dc 1) 22) ((stR B 26 dc 1) 23) lz T := hlr
      have hce644 : (stR B 26 dc 1) 26 dc = 1 := st_eq
      refine lv_aload_n hx hb dX12_declaration_73 rfl (lv_at hl 2 rfl) ?_
      refine r_get (v := .ref (a 25)) hx hb hown hq hE hP 37 87 tFX12_37 (by decide) pw_1456 rfl dX12_declaration_74 ?_
      refine lv_iload_n hx hb dX12_declaration_77 rfl (lv_at hl 0 rfl) ?_
      refine lv_aload_n hx hb dX12_declaration_78 rfl (lv_at hl 2 rfl) ?_
      have hP : va_P G.1 pCl (mW G h0 a (upd (upd (upd (upd (upd (upd (upd (upd (upd (upd (upd (upd (upd (upd (upd (upd F 15 0) 27 (nI nd)) 31 (nI wr)) 34 (nI lz)) 35 (nI dc)) 44 (nI fd)) 49 (nI md)) 59 (nI bk)) 60 (nI pr)) 64 (nI (at0 + 1))) 65 ne0) 66 (nI lk)) 67 (nI mf)) 68 (nI mm)) 15 (nI 0)) 64 (nI (at0 + 1))) (updA (updA (stR B 26 dc 1) 2 K) 2 K)) _ := hP
      have hD : va_D A (mW G h0 a (upd (upd (upd (upd (upd (upd (upd (upd (upd (upd (upd (upd (upd (upd (upd (upd F 15 0) 27 (nI nd)) 31 (nI wr)) 34 (nI lz)) 35 (nI dc)) 44 (nI fd)) 49 (nI md)) 59 (nI bk)) 60 (nI pr)) 64 (nI (at0 + 1))) 65 ne0) 66 (nI lk)) 67 (nI mf)) 68 (nI mm)) 15 (nI 0)) 64 (nI (at0 + 1))) (updA (updA (stR B 26 dc 1) 2 K) 2 K)) := hD
      refine pc_V0 (G := G) (As := []) (rest := [.int (nI dc), .ref (a 25)]) hx hb hml hown hq hE hX pX0_al hP hD hS hA hl.1 (R_name l G h0 a (upd (upd (upd (upd (upd (upd (upd (upd (upd (upd (upd (upd (upd (upd F 15 0) 27 (nI nd)) 31 (nI wr)) 34 (nI lz)) 35 (nI dc)) 44 (nI fd)) 49 (nI md)) 59 (nI bk)) 60 (nI pr)) 64 (nI (at0 + 1))) 65 ne0) 66 (nI lk)) 67 (nI mf)) 68 (nI mm)) (updA (stR B 26 dc 1) 2 K) (at0 + 1) T 0 K (by omega) (by omega) hK (by omega)) (gV pw_1618 pw_1619 pw_1620 pw_1523 pw_1613) hV_X12_name 0 9 rfl rfl rfl rfl (Nat.le_of_ble_eq_true rfl) dX12_declaration_79 ⟨Nat.le_of_ble_eq_true rfl, Nat.le_of_ble_eq_true rfl⟩ ⟨Nat.le_of_ble_eq_true rfl, Nat.le_of_ble_eq_true rfl⟩ (fun v647 u645 H locs hw646 hP hD hS => ?_)
      obtain ⟨at648, fa649, pl650⟩ := u645
      obtain ⟨hw646, h651, h652, h653, h654, h655, h656, h657, h658⟩ := hw646
      replace h651 : (at0 + 1) ≤ at648 := h651
      replace h652 : at648 ≤ T := h652
      replace h653 : 0 ≤ fa649 := h653
      replace h654 : fa649 ≤ 100 := h654
      replace h655 : If (0 < 0) (at648 = (at0 + 1) ∧ fa649 = 0) := h655
      replace h656 : at648 ≤ (at0 + 1) + 1 := h656
      replace h657 : (at0 + 1) + 1 ≤ at648 + fa649 := h657
      replace h658 : If (fa649 = 0) (K (at0 + 1) = 1) := h658
      obtain rfl : v647 = some (.int (nI (at0 + 1))) := hw646
      have hP : va_P G.1 pCl (mW G h0 a (upd (upd (upd (upd (upd (upd (upd (upd (upd (upd (upd (upd (upd (upd (upd F 15 (nI fa649)) 16 pl650) 27 (nI nd)) 31 (nI wr)) 34 (nI lz)) 35 (nI dc)) 44 (nI fd)) 49 (nI md)) 59 (nI bk)) 60 (nI pr)) 64 (nI at648)) 65 ne0) 66 (nI lk)) 67 (nI mf)) 68 (nI mm)) (updA (stR B 26 dc 1) 2 K)) _ := hP
      have hD : va_D A (mW G h0 a (upd (upd (upd (upd (upd (upd (upd (upd (upd (upd (upd (upd (upd (upd (upd F 15 (nI fa649)) 16 pl650) 27 (nI nd)) 31 (nI wr)) 34 (nI lz)) 35 (nI dc)) 44 (nI fd)) 49 (nI md)) 59 (nI bk)) 60 (nI pr)) 64 (nI at648)) 65 ne0) 66 (nI lk)) 67 (nI mf)) 68 (nI mm)) (updA (stR B 26 dc 1) 2 K)) := hD
      refine W.widen (k := 0) (n := 0) (Nat.le_of_ble_eq_true rfl) (Nat.le_of_ble_eq_true rfl) ?_
      refine W.eq (g2 := F0 m 82 ls [.int (nI (at0 + 1)), .int (nI dc), .ref (a 25)]) rfl ?_
      rcases Nat.eq_zero_or_pos fa649 with e659 | e659
      · subst e659
        have hP : va_P G.1 pCl (mW G h0 a (upd (upd (upd (upd (upd (upd (upd (upd (upd (upd (upd (upd (upd (upd (upd F 15 0) 16 pl650) 27 (nI nd)) 31 (nI wr)) 34 (nI lz)) 35 (nI dc)) 44 (nI fd)) 49 (nI md)) 59 (nI bk)) 60 (nI pr)) 64 (nI at648)) 65 ne0) 66 (nI lk)) 67 (nI mf)) 68 (nI mm)) (updA (stR B 26 dc 1) 2 K)) _ := hP
        have hD : va_D A (mW G h0 a (upd (upd (upd (upd (upd (upd (upd (upd (upd (upd (upd (upd (upd (upd (upd F 15 0) 16 pl650) 27 (nI nd)) 31 (nI wr)) 34 (nI lz)) 35 (nI dc)) 44 (nI fd)) 49 (nI md)) 59 (nI bk)) 60 (nI pr)) 64 (nI at648)) 65 ne0) 66 (nI lk)) 67 (nI mf)) 68 (nI mm)) (updA (stR B 26 dc 1) 2 K)) := hD
        refine r_sti (f := ((stR B 26 dc 1) 25)) (j := dc) hx hb hE hP hD hS 25 (ma_25 G a _) rfl (mas_25 G a _) (by omega) (by decide) dX12_declaration_82 (fun H locs hP hD hS => ?_)
        have hP : va_P G.1 pCl (mW G h0 a (upd (upd (upd (upd (upd (upd (upd (upd (upd (upd (upd (upd (upd (upd (upd F 15 0) 16 pl650) 27 (nI nd)) 31 (nI wr)) 34 (nI lz)) 35 (nI dc)) 44 (nI fd)) 49 (nI md)) 59 (nI bk)) 60 (nI pr)) 64 (nI at648)) 65 ne0) 66 (nI lk)) 67 (nI mf)) 68 (nI mm)) (updA (stR (stR B 26 dc 1) 25 dc (nI (at0 + 1))) 2 K)) _ := hP
        have hD : va_D A (mW G h0 a (upd (upd (upd (upd (upd (upd (upd (upd (upd (upd (upd (upd (upd (upd (upd F 15 0) 16 pl650) 27 (nI nd)) 31 (nI wr)) 34 (nI lz)) 35 (nI dc)) 44 (nI fd)) 49 (nI md)) 59 (nI bk)) 60 (nI pr)) 64 (nI at648)) 65 ne0) 66 (nI lk)) 67 (nI mf)) 68 (nI mm)) (updA (stR (stR B 26 dc 1) 25 dc (nI (at0 + 1))) 2 K)) := hD
        have hkq660 : Kq B (stR (stR B 26 dc 1) 25 dc (nI (at0 + 1))) := (Kq.st hkq639 (by omega))
        have hce661 : (stR (stR B 26 dc 1) 25 dc (nI (at0 + 1))) 26 dc = 1 := ((st_ne (by omega)).trans hce644)
        have hty662 : tkRow ((stR (stR B 26 dc 1) 25 dc (nI (at0 + 1))) 19) wr T := hty640
        have hps663 : PS T nm wr lz dc fd md pr bk (stR (stR B 26 dc 1) 25 dc (nI (at0 + 1))) := (PS.same hps641 (by omega) (by omega) (fun r i q1 q2 q3 => st_ne (fun e => by rw [e.1, e.2] at q3; exact absurd (show dc < dc from q3) (by omega))))
        have hfm664 : FrM K T wr (stR (stR B 26 dc 1) 25 dc (nI (at0 + 1))) nd md := (FrM.same hfm642 (by omega) (fun j i q1 q2 q3 => st_ne (by omega)) (fun i q => st_ne (by omega)))
        have hlr665 : lsRow ((stR (stR B 26 dc 1) 25 dc (nI (at0 + 1))) 22) ((stR (stR B 26 dc 1) 25 dc (nI (at0 + 1))) 23) lz T := hlr643
        have hce666 : (stR (stR B 26 dc 1) 25 dc (nI (at0 + 1))) 25 dc = (nI (at0 + 1)) := st_eq
        refine lv_aload_n hx hb dX12_declaration_83 rfl (lv_at hl 2 rfl) ?_
        refine r_get (v := .int 0) hx hb hown hq hE hP 15 350 tFX12_15 (by decide) pw_1594 rfl dX12_declaration_84 ?_
        refine lv_if_le (tgt := 91) hx hb dX12_declaration_87 (by decide) (fun c667 => ?_) (fun c667 => absurd c667 (by decide))
        refine lv_aload_n hx hb dX12_declaration_91 rfl (lv_at hl 2 rfl) ?_
        refine r_get (v := .ref (a 24)) hx hb hown hq hE hP 36 84 tFX12_36 (by decide) pw_1455 rfl dX12_declaration_92 ?_
        refine lv_iload_n hx hb dX12_declaration_95 rfl (lv_at hl 0 rfl) ?_
        refine lv_aload_n hx hb dX12_declaration_96 rfl (lv_at hl 2 rfl) ?_
        refine r_get (v := .ref (a 5)) hx hb hown hq hE hP 8 25 tFX12_8 (by decide) pw_1435 rfl dX12_declaration_97 ?_
        refine lv_aload_n hx hb dX12_declaration_100 rfl (lv_at hl 2 rfl) ?_
        refine r_get (v := .ref (a 25)) hx hb hown hq hE hP 37 87 tFX12_37 (by decide) pw_1456 rfl dX12_declaration_101 ?_
        refine lv_iload_n hx hb dX12_declaration_104 rfl (lv_at hl 0 rfl) ?_
        refine r_ldi (f := ((stR (stR B 26 dc 1) 25 dc (nI (at0 + 1))) 25)) (j := dc) hx hb hE hP 25 (ma_25 G a _) rfl (by omega) (by decide) dX12_declaration_105 ?_
        refine lv_topi (fun x668 e669 => ?_)
        obtain rfl : x668 = (nI (at0 + 1)) := e669.trans hce666
        refine r_ldi (f := ((stR (stR B 26 dc 1) 25 dc (nI (at0 + 1))) 5)) (j := (at0 + 1)) hx hb hE hP 5 (ma_5 G a _) rfl (by omega) (by decide) dX12_declaration_106 ?_
        obtain ⟨v672, h673, e674⟩ := hV (at0 + 1) (by omega) (h658 rfl)
        refine lv_topi (fun x670 e671 => ?_)
        obtain rfl : x670 = nI v672 := e671.trans ((congrFun (hkq660 5 (by omega)) (at0 + 1)).trans e674)
        refine r_sti (f := ((stR (stR B 26 dc 1) 25 dc (nI (at0 + 1))) 24)) (j := dc) hx hb hE hP hD hS 24 (ma_24 G a _) rfl (mas_24 G a _) (by omega) (by decide) dX12_declaration_107 (fun H locs hP hD hS => ?_)
        have hP : va_P G.1 pCl (mW G h0 a (upd (upd (upd (upd (upd (upd (upd (upd (upd (upd (upd (upd (upd (upd (upd F 15 0) 16 pl650) 27 (nI nd)) 31 (nI wr)) 34 (nI lz)) 35 (nI dc)) 44 (nI fd)) 49 (nI md)) 59 (nI bk)) 60 (nI pr)) 64 (nI at648)) 65 ne0) 66 (nI lk)) 67 (nI mf)) 68 (nI mm)) (updA (stR (stR (stR B 26 dc 1) 25 dc (nI (at0 + 1))) 24 dc (nI v672)) 2 K)) _ := hP
        have hD : va_D A (mW G h0 a (upd (upd (upd (upd (upd (upd (upd (upd (upd (upd (upd (upd (upd (upd (upd F 15 0) 16 pl650) 27 (nI nd)) 31 (nI wr)) 34 (nI lz)) 35 (nI dc)) 44 (nI fd)) 49 (nI md)) 59 (nI bk)) 60 (nI pr)) 64 (nI at648)) 65 ne0) 66 (nI lk)) 67 (nI mf)) 68 (nI mm)) (updA (stR (stR (stR B 26 dc 1) 25 dc (nI (at0 + 1))) 24 dc (nI v672)) 2 K)) := hD
        have hkq675 : Kq B (stR (stR (stR B 26 dc 1) 25 dc (nI (at0 + 1))) 24 dc (nI v672)) := (Kq.st hkq660 (by omega))
        have hce676 : (stR (stR (stR B 26 dc 1) 25 dc (nI (at0 + 1))) 24 dc (nI v672)) 26 dc = 1 := ((st_ne (by omega)).trans hce661)
        have hce677 : (stR (stR (stR B 26 dc 1) 25 dc (nI (at0 + 1))) 24 dc (nI v672)) 25 dc = (nI (at0 + 1)) := ((st_ne (by omega)).trans hce666)
        have hty678 : tkRow ((stR (stR (stR B 26 dc 1) 25 dc (nI (at0 + 1))) 24 dc (nI v672)) 19) wr T := hty662
        have hps679 : PS T nm wr lz dc fd md pr bk (stR (stR (stR B 26 dc 1) 25 dc (nI (at0 + 1))) 24 dc (nI v672)) := (PS.same hps663 (by omega) (by omega) (fun r i q1 q2 q3 => st_ne (fun e => by rw [e.1, e.2] at q3; exact absurd (show dc < dc from q3) (by omega))))
        have hfm680 : FrM K T wr (stR (stR (stR B 26 dc 1) 25 dc (nI (at0 + 1))) 24 dc (nI v672)) nd md := (FrM.same hfm664 (by omega) (fun j i q1 q2 q3 => st_ne (by omega)) (fun i q => st_ne (by omega)))
        have hlr681 : lsRow ((stR (stR (stR B 26 dc 1) 25 dc (nI (at0 + 1))) 24 dc (nI v672)) 22) ((stR (stR (stR B 26 dc 1) 25 dc (nI (at0 + 1))) 24 dc (nI v672)) 23) lz T := hlr665
        have hce682 : (stR (stR (stR B 26 dc 1) 25 dc (nI (at0 + 1))) 24 dc (nI v672)) 24 dc = (nI v672) := st_eq
        refine lv_aload_n hx hb dX12_declaration_108 rfl (lv_at hl 2 rfl) ?_
        refine r_get (v := .ref (a 27)) hx hb hown hq hE hP 39 93 tFX12_39 (by decide) pw_1458 rfl dX12_declaration_109 ?_
        refine lv_iload_n hx hb dX12_declaration_112 rfl (lv_at hl 0 rfl) ?_
        refine lv_iconst (v := (-1)) hx hb dX12_declaration_113 (by decide) ?_
        refine r_sti (f := ((stR (stR (stR B 26 dc 1) 25 dc (nI (at0 + 1))) 24 dc (nI v672)) 27)) (j := dc) hx hb hE hP hD hS 27 (ma_27 G a _) rfl (mas_27 G a _) (by omega) (by decide) dX12_declaration_114 (fun H locs hP hD hS => ?_)
        have hP : va_P G.1 pCl (mW G h0 a (upd (upd (upd (upd (upd (upd (upd (upd (upd (upd (upd (upd (upd (upd (upd F 15 0) 16 pl650) 27 (nI nd)) 31 (nI wr)) 34 (nI lz)) 35 (nI dc)) 44 (nI fd)) 49 (nI md)) 59 (nI bk)) 60 (nI pr)) 64 (nI at648)) 65 ne0) 66 (nI lk)) 67 (nI mf)) 68 (nI mm)) (updA (stR (stR (stR (stR B 26 dc 1) 25 dc (nI (at0 + 1))) 24 dc (nI v672)) 27 dc (-1)) 2 K)) _ := hP
        have hD : va_D A (mW G h0 a (upd (upd (upd (upd (upd (upd (upd (upd (upd (upd (upd (upd (upd (upd (upd F 15 0) 16 pl650) 27 (nI nd)) 31 (nI wr)) 34 (nI lz)) 35 (nI dc)) 44 (nI fd)) 49 (nI md)) 59 (nI bk)) 60 (nI pr)) 64 (nI at648)) 65 ne0) 66 (nI lk)) 67 (nI mf)) 68 (nI mm)) (updA (stR (stR (stR (stR B 26 dc 1) 25 dc (nI (at0 + 1))) 24 dc (nI v672)) 27 dc (-1)) 2 K)) := hD
        have hkq683 : Kq B (stR (stR (stR (stR B 26 dc 1) 25 dc (nI (at0 + 1))) 24 dc (nI v672)) 27 dc (-1)) := (Kq.st hkq675 (by omega))
        have hce684 : (stR (stR (stR (stR B 26 dc 1) 25 dc (nI (at0 + 1))) 24 dc (nI v672)) 27 dc (-1)) 26 dc = 1 := ((st_ne (by omega)).trans hce676)
        have hce685 : (stR (stR (stR (stR B 26 dc 1) 25 dc (nI (at0 + 1))) 24 dc (nI v672)) 27 dc (-1)) 25 dc = (nI (at0 + 1)) := ((st_ne (by omega)).trans hce677)
        have hce686 : (stR (stR (stR (stR B 26 dc 1) 25 dc (nI (at0 + 1))) 24 dc (nI v672)) 27 dc (-1)) 24 dc = (nI v672) := ((st_ne (by omega)).trans hce682)
        have hty687 : tkRow ((stR (stR (stR (stR B 26 dc 1) 25 dc (nI (at0 + 1))) 24 dc (nI v672)) 27 dc (-1)) 19) wr T := hty678
        have hps688 : PS T nm wr lz dc fd md pr bk (stR (stR (stR (stR B 26 dc 1) 25 dc (nI (at0 + 1))) 24 dc (nI v672)) 27 dc (-1)) := (PS.same hps679 (by omega) (by omega) (fun r i q1 q2 q3 => st_ne (fun e => by rw [e.1, e.2] at q3; exact absurd (show dc < dc from q3) (by omega))))
        have hfm689 : FrM K T wr (stR (stR (stR (stR B 26 dc 1) 25 dc (nI (at0 + 1))) 24 dc (nI v672)) 27 dc (-1)) nd md := (FrM.same hfm680 (by omega) (fun j i q1 q2 q3 => st_ne (by omega)) (fun i q => st_ne (by omega)))
        have hlr690 : lsRow ((stR (stR (stR (stR B 26 dc 1) 25 dc (nI (at0 + 1))) 24 dc (nI v672)) 27 dc (-1)) 22) ((stR (stR (stR (stR B 26 dc 1) 25 dc (nI (at0 + 1))) 24 dc (nI v672)) 27 dc (-1)) 23) lz T := hlr681
        have hce691 : (stR (stR (stR (stR B 26 dc 1) 25 dc (nI (at0 + 1))) 24 dc (nI v672)) 27 dc (-1)) 27 dc = (-1) := st_eq
        refine lv_aload_n hx hb dX12_declaration_115 rfl (lv_at hl 2 rfl) ?_
        refine r_get (v := .ref (a 28)) hx hb hown hq hE hP 40 96 tFX12_40 (by decide) pw_1459 rfl dX12_declaration_116 ?_
        refine lv_iload_n hx hb dX12_declaration_119 rfl (lv_at hl 0 rfl) ?_
        refine lv_iconst (v := (-1)) hx hb dX12_declaration_120 (by decide) ?_
        refine r_sti (f := ((stR (stR (stR (stR B 26 dc 1) 25 dc (nI (at0 + 1))) 24 dc (nI v672)) 27 dc (-1)) 28)) (j := dc) hx hb hE hP hD hS 28 (ma_28 G a _) rfl (mas_28 G a _) (by omega) (by decide) dX12_declaration_121 (fun H locs hP hD hS => ?_)
        have hP : va_P G.1 pCl (mW G h0 a (upd (upd (upd (upd (upd (upd (upd (upd (upd (upd (upd (upd (upd (upd (upd F 15 0) 16 pl650) 27 (nI nd)) 31 (nI wr)) 34 (nI lz)) 35 (nI dc)) 44 (nI fd)) 49 (nI md)) 59 (nI bk)) 60 (nI pr)) 64 (nI at648)) 65 ne0) 66 (nI lk)) 67 (nI mf)) 68 (nI mm)) (updA (stR (stR (stR (stR (stR B 26 dc 1) 25 dc (nI (at0 + 1))) 24 dc (nI v672)) 27 dc (-1)) 28 dc (-1)) 2 K)) _ := hP
        have hD : va_D A (mW G h0 a (upd (upd (upd (upd (upd (upd (upd (upd (upd (upd (upd (upd (upd (upd (upd F 15 0) 16 pl650) 27 (nI nd)) 31 (nI wr)) 34 (nI lz)) 35 (nI dc)) 44 (nI fd)) 49 (nI md)) 59 (nI bk)) 60 (nI pr)) 64 (nI at648)) 65 ne0) 66 (nI lk)) 67 (nI mf)) 68 (nI mm)) (updA (stR (stR (stR (stR (stR B 26 dc 1) 25 dc (nI (at0 + 1))) 24 dc (nI v672)) 27 dc (-1)) 28 dc (-1)) 2 K)) := hD
        have hkq692 : Kq B (stR (stR (stR (stR (stR B 26 dc 1) 25 dc (nI (at0 + 1))) 24 dc (nI v672)) 27 dc (-1)) 28 dc (-1)) := (Kq.st hkq683 (by omega))
        have hce693 : (stR (stR (stR (stR (stR B 26 dc 1) 25 dc (nI (at0 + 1))) 24 dc (nI v672)) 27 dc (-1)) 28 dc (-1)) 26 dc = 1 := ((st_ne (by omega)).trans hce684)
        have hce694 : (stR (stR (stR (stR (stR B 26 dc 1) 25 dc (nI (at0 + 1))) 24 dc (nI v672)) 27 dc (-1)) 28 dc (-1)) 25 dc = (nI (at0 + 1)) := ((st_ne (by omega)).trans hce685)
        have hce695 : (stR (stR (stR (stR (stR B 26 dc 1) 25 dc (nI (at0 + 1))) 24 dc (nI v672)) 27 dc (-1)) 28 dc (-1)) 24 dc = (nI v672) := ((st_ne (by omega)).trans hce686)
        have hce696 : (stR (stR (stR (stR (stR B 26 dc 1) 25 dc (nI (at0 + 1))) 24 dc (nI v672)) 27 dc (-1)) 28 dc (-1)) 27 dc = (-1) := ((st_ne (by omega)).trans hce691)
        have hty697 : tkRow ((stR (stR (stR (stR (stR B 26 dc 1) 25 dc (nI (at0 + 1))) 24 dc (nI v672)) 27 dc (-1)) 28 dc (-1)) 19) wr T := hty687
        have hps698 : PS T nm wr lz dc fd md pr bk (stR (stR (stR (stR (stR B 26 dc 1) 25 dc (nI (at0 + 1))) 24 dc (nI v672)) 27 dc (-1)) 28 dc (-1)) := (PS.same hps688 (by omega) (by omega) (fun r i q1 q2 q3 => st_ne (fun e => by rw [e.1, e.2] at q3; exact absurd (show dc < dc from q3) (by omega))))
        have hfm699 : FrM K T wr (stR (stR (stR (stR (stR B 26 dc 1) 25 dc (nI (at0 + 1))) 24 dc (nI v672)) 27 dc (-1)) 28 dc (-1)) nd md := (FrM.same hfm689 (by omega) (fun j i q1 q2 q3 => st_ne (by omega)) (fun i q => st_ne (by omega)))
        have hlr700 : lsRow ((stR (stR (stR (stR (stR B 26 dc 1) 25 dc (nI (at0 + 1))) 24 dc (nI v672)) 27 dc (-1)) 28 dc (-1)) 22) ((stR (stR (stR (stR (stR B 26 dc 1) 25 dc (nI (at0 + 1))) 24 dc (nI v672)) 27 dc (-1)) 28 dc (-1)) 23) lz T := hlr690
        have hce701 : (stR (stR (stR (stR (stR B 26 dc 1) 25 dc (nI (at0 + 1))) 24 dc (nI v672)) 27 dc (-1)) 28 dc (-1)) 28 dc = (-1) := st_eq
        refine lv_aload_n hx hb dX12_declaration_122 rfl (lv_at hl 2 rfl) ?_
        refine r_get (v := .ref (a 29)) hx hb hown hq hE hP 41 99 tFX12_41 (by decide) pw_1460 rfl dX12_declaration_123 ?_
        refine lv_iload_n hx hb dX12_declaration_126 rfl (lv_at hl 0 rfl) ?_
        refine lv_iconst (v := 0) hx hb dX12_declaration_127 (by decide) ?_
        refine r_sti (f := ((stR (stR (stR (stR (stR B 26 dc 1) 25 dc (nI (at0 + 1))) 24 dc (nI v672)) 27 dc (-1)) 28 dc (-1)) 29)) (j := dc) hx hb hE hP hD hS 29 (ma_29 G a _) rfl (mas_29 G a _) (by omega) (by decide) dX12_declaration_128 (fun H locs hP hD hS => ?_)
        have hP : va_P G.1 pCl (mW G h0 a (upd (upd (upd (upd (upd (upd (upd (upd (upd (upd (upd (upd (upd (upd (upd F 15 0) 16 pl650) 27 (nI nd)) 31 (nI wr)) 34 (nI lz)) 35 (nI dc)) 44 (nI fd)) 49 (nI md)) 59 (nI bk)) 60 (nI pr)) 64 (nI at648)) 65 ne0) 66 (nI lk)) 67 (nI mf)) 68 (nI mm)) (updA (stR (stR (stR (stR (stR (stR B 26 dc 1) 25 dc (nI (at0 + 1))) 24 dc (nI v672)) 27 dc (-1)) 28 dc (-1)) 29 dc 0) 2 K)) _ := hP
        have hD : va_D A (mW G h0 a (upd (upd (upd (upd (upd (upd (upd (upd (upd (upd (upd (upd (upd (upd (upd F 15 0) 16 pl650) 27 (nI nd)) 31 (nI wr)) 34 (nI lz)) 35 (nI dc)) 44 (nI fd)) 49 (nI md)) 59 (nI bk)) 60 (nI pr)) 64 (nI at648)) 65 ne0) 66 (nI lk)) 67 (nI mf)) 68 (nI mm)) (updA (stR (stR (stR (stR (stR (stR B 26 dc 1) 25 dc (nI (at0 + 1))) 24 dc (nI v672)) 27 dc (-1)) 28 dc (-1)) 29 dc 0) 2 K)) := hD
        have hkq702 : Kq B (stR (stR (stR (stR (stR (stR B 26 dc 1) 25 dc (nI (at0 + 1))) 24 dc (nI v672)) 27 dc (-1)) 28 dc (-1)) 29 dc 0) := (Kq.st hkq692 (by omega))
        have hce703 : (stR (stR (stR (stR (stR (stR B 26 dc 1) 25 dc (nI (at0 + 1))) 24 dc (nI v672)) 27 dc (-1)) 28 dc (-1)) 29 dc 0) 26 dc = 1 := ((st_ne (by omega)).trans hce693)
        have hce704 : (stR (stR (stR (stR (stR (stR B 26 dc 1) 25 dc (nI (at0 + 1))) 24 dc (nI v672)) 27 dc (-1)) 28 dc (-1)) 29 dc 0) 25 dc = (nI (at0 + 1)) := ((st_ne (by omega)).trans hce694)
        have hce705 : (stR (stR (stR (stR (stR (stR B 26 dc 1) 25 dc (nI (at0 + 1))) 24 dc (nI v672)) 27 dc (-1)) 28 dc (-1)) 29 dc 0) 24 dc = (nI v672) := ((st_ne (by omega)).trans hce695)
        have hce706 : (stR (stR (stR (stR (stR (stR B 26 dc 1) 25 dc (nI (at0 + 1))) 24 dc (nI v672)) 27 dc (-1)) 28 dc (-1)) 29 dc 0) 27 dc = (-1) := ((st_ne (by omega)).trans hce696)
        have hce707 : (stR (stR (stR (stR (stR (stR B 26 dc 1) 25 dc (nI (at0 + 1))) 24 dc (nI v672)) 27 dc (-1)) 28 dc (-1)) 29 dc 0) 28 dc = (-1) := ((st_ne (by omega)).trans hce701)
        have hty708 : tkRow ((stR (stR (stR (stR (stR (stR B 26 dc 1) 25 dc (nI (at0 + 1))) 24 dc (nI v672)) 27 dc (-1)) 28 dc (-1)) 29 dc 0) 19) wr T := hty697
        have hps709 : PS T nm wr lz dc fd md pr bk (stR (stR (stR (stR (stR (stR B 26 dc 1) 25 dc (nI (at0 + 1))) 24 dc (nI v672)) 27 dc (-1)) 28 dc (-1)) 29 dc 0) := (PS.same hps698 (by omega) (by omega) (fun r i q1 q2 q3 => st_ne (fun e => by rw [e.1, e.2] at q3; exact absurd (show dc < dc from q3) (by omega))))
        have hfm710 : FrM K T wr (stR (stR (stR (stR (stR (stR B 26 dc 1) 25 dc (nI (at0 + 1))) 24 dc (nI v672)) 27 dc (-1)) 28 dc (-1)) 29 dc 0) nd md := (FrM.same hfm699 (by omega) (fun j i q1 q2 q3 => st_ne (by omega)) (fun i q => st_ne (by omega)))
        have hlr711 : lsRow ((stR (stR (stR (stR (stR (stR B 26 dc 1) 25 dc (nI (at0 + 1))) 24 dc (nI v672)) 27 dc (-1)) 28 dc (-1)) 29 dc 0) 22) ((stR (stR (stR (stR (stR (stR B 26 dc 1) 25 dc (nI (at0 + 1))) 24 dc (nI v672)) 27 dc (-1)) 28 dc (-1)) 29 dc 0) 23) lz T := hlr700
        have hce712 : (stR (stR (stR (stR (stR (stR B 26 dc 1) 25 dc (nI (at0 + 1))) 24 dc (nI v672)) 27 dc (-1)) 28 dc (-1)) 29 dc 0) 29 dc = 0 := st_eq
        refine lv_aload_n hx hb dX12_declaration_129 rfl (lv_at hl 2 rfl) ?_
        refine lv_dup hx hb dX12_declaration_130 rfl ?_
        refine r_get (v := .int (nI dc)) hx hb hown hq hE hP 35 384 tFX12_35 (by decide) pw_1732 rfl dX12_declaration_131 ?_
        refine lv_iconst (v := 1) hx hb dX12_declaration_134 (by decide) ?_
        refine lv_iadd hx hb dX12_declaration_135 ?_
        refine lv_topi (fun x713 e714 => ?_)
        obtain rfl : x713 = nI (dc + 1) := e714.trans (nI_add (dc) (1))
        refine r_put (v := (nI (dc + 1))) (ty := .int) hx hb hown hq hE hP hD hS 35 384 tFX12_35 (by decide) pw_1732 (by decide) rfl rfl (ms_35 a _ _) dX12_declaration_136 (fun H locs hP hD hS => ?_)
        have cut_j : ∀ (at2 : Nat) (lz2 : Nat) (pl2 : Int32) (X2 : Nat → Nat → Int32) (H : Heap) (locs : List Loc) (ls : Array Slot), (at0 + 2 ≤ at2) → (at2 ≤ T) → (lz ≤ lz2 ∧ lz2 ≤ at2) → (Kq B X2) → (PS T nm wr lz2 (dc + 1) fd md pr bk X2) → (FrM K T wr X2 nd md) → (tkRow (X2 19) wr T) → (lsRow (X2 22) (X2 23) lz2 T) → va_P G.1 pCl (mW G h0 a (upd (upd (upd (upd (upd (upd (upd (upd (upd (upd (upd (upd (upd (upd (upd F 15 0) 16 pl2) 27 (nI nd)) 31 (nI wr)) 34 (nI lz2)) 35 (nI (dc + 1))) 44 (nI fd)) 49 (nI md)) 59 (nI bk)) 60 (nI pr)) 64 (nI at2)) 65 ne0) 66 (nI lk)) 67 (nI mf)) 68 (nI mm)) (updA X2 2 K)) H → va_D A (mW G h0 a (upd (upd (upd (upd (upd (upd (upd (upd (upd (upd (upd (upd (upd (upd (upd F 15 0) 16 pl2) 27 (nI nd)) 31 (nI wr)) 34 (nI lz2)) 35 (nI (dc + 1))) 44 (nI fd)) 49 (nI md)) 59 (nI bk)) 60 (nI pr)) 64 (nI at2)) 65 ne0) 66 (nI lk)) 67 (nI mf)) 68 (nI mm)) (updA X2 2 K)) → va_S A s.heap H locs → lv_has ls 3 [(2, .int (nI dc)), (0, .ref h0)] → W p l e (headSpec (Cond.code yX12_declaration cX12_declaration 3 none :: pw) ({ frames := 644, cells := 0, slots := 0, locals := 50200 } : Room)).room s m ([.ref h0] : List Value).toArray below meth c H locs 0 0 (MQ below (pQ G A (fun (v : Option Value) (u : Nat × Nat × Int32 × Nat × Nat × Nat × Nat × Nat × Nat × Nat × Nat × Nat × Nat × Int32 × (Nat → Nat → Int32)) => v = none ∧ (at0 ≤ u.1) ∧ (u.1 ≤ T) ∧ (u.2.1 ≤ 100) ∧ (at0 + 1 ≤ u.1 + u.2.1) ∧ (Kq B u.2.2.2.2.2.2.2.2.2.2.2.2.2.2) ∧ (If (u.2.1 = 0) ((u.2.2.2.1 ≤ 2 * u.1 ∧ u.2.2.2.2.1 ≤ u.1 ∧ u.2.2.2.2.2.1 ≤ u.1 ∧ u.2.2.2.2.2.2.2.2.2.1 ≤ u.1 ∧ u.2.2.2.2.2.2.1 ≤ 37 ∧ dc ≤ u.2.2.2.2.2.2.1 ∧ u.2.2.2.2.2.2.2.2.2.2.1 ≤ u.2.2.2.2.2.2.2.2.1 ∧ wr ≤ u.2.2.2.2.1 ∧ lz ≤ u.2.2.2.2.2.1) ∧ (u.2.2.2.2.2.2.2.2.1 + 210 ≤ 30 * u.2.2.2.2.2.2.1 ∧ u.2.2.2.2.2.2.2.1 + 140 ≤ 20 * u.2.2.2.2.2.2.1 ∧ u.2.2.2.2.2.2.1 ≤ 37 ∧ 7 ≤ u.2.2.2.2.2.2.1 ∧ u.2.2.2.2.2.2.1 ≤ dc + 1) ∧ PS T nm u.2.2.2.2.1 u.2.2.2.2.2.1 u.2.2.2.2.2.2.1 u.2.2.2.2.2.2.2.1 u.2.2.2.2.2.2.2.2.1 u.2.2.2.2.2.2.2.2.2.1 u.2.2.2.2.2.2.2.2.2.2.1 u.2.2.2.2.2.2.2.2.2.2.2.2.2.2 ∧ FrM K T u.2.2.2.2.1 u.2.2.2.2.2.2.2.2.2.2.2.2.2.2 u.2.2.2.1 u.2.2.2.2.2.2.2.2.1 ∧ tkRow (u.2.2.2.2.2.2.2.2.2.2.2.2.2.2 19) u.2.2.2.2.1 T ∧ lsRow (u.2.2.2.2.2.2.2.2.2.2.2.2.2.2 22) (u.2.2.2.2.2.2.2.2.2.2.2.2.2.2 23) u.2.2.2.2.2.1 T))) (fun u => (mW G h0 a (upd (upd (upd (upd (upd (upd (upd (upd (upd (upd (upd (upd (upd (upd (upd F 15 (nI u.2.1)) 16 u.2.2.1) 27 (nI u.2.2.2.1)) 31 (nI u.2.2.2.2.1)) 34 (nI u.2.2.2.2.2.1)) 35 (nI u.2.2.2.2.2.2.1)) 44 (nI u.2.2.2.2.2.2.2.1)) 49 (nI u.2.2.2.2.2.2.2.2.1)) 59 (nI u.2.2.2.2.2.2.2.2.2.2.1)) 60 (nI u.2.2.2.2.2.2.2.2.2.1)) 64 (nI u.1)) 65 u.2.2.2.2.2.2.2.2.2.2.2.2.2.1) 66 (nI lk)) 67 (nI u.2.2.2.2.2.2.2.2.2.2.2.1)) 68 (nI u.2.2.2.2.2.2.2.2.2.2.2.2.1)) (updA u.2.2.2.2.2.2.2.2.2.2.2.2.2.2 2 K)))) ([.ref h0] : List Value).toArray s ({ frames := 644, cells := 0, slots := 0, locals := 50200 } : Room).cells ({ frames := 644, cells := 0, slots := 0, locals := 50200 } : Room).slots A) (F0 m 237 ls []) := by
          intro at2 lz2 pl2 X2 H locs ls hl1 hl0 hl2 hkq2 hps2 hfm2 hy2 hlr2 hP hD hS hl
          refine lv_aload_n hx hb dX12_declaration_237 rfl (lv_at hl 1 rfl) ?_
          refine lv_bipush (v := 123) hx hb dX12_declaration_238 (by decide) ?_
          have hP : va_P G.1 pCl (mW G h0 a (upd (upd (upd (upd (upd (upd (upd (upd (upd (upd (upd (upd (upd (upd (upd (upd (upd F 15 0) 16 pl2) 27 (nI nd)) 31 (nI wr)) 34 (nI lz2)) 35 (nI (dc + 1))) 44 (nI fd)) 49 (nI md)) 59 (nI bk)) 60 (nI pr)) 64 (nI at2)) 65 ne0) 66 (nI lk)) 67 (nI mf)) 68 (nI mm)) 15 (nI 0)) 64 (nI at2)) (updA (updA X2 2 K) 2 K)) _ := hP
          have hD : va_D A (mW G h0 a (upd (upd (upd (upd (upd (upd (upd (upd (upd (upd (upd (upd (upd (upd (upd (upd (upd F 15 0) 16 pl2) 27 (nI nd)) 31 (nI wr)) 34 (nI lz2)) 35 (nI (dc + 1))) 44 (nI fd)) 49 (nI md)) 59 (nI bk)) 60 (nI pr)) 64 (nI at2)) 65 ne0) 66 (nI lk)) 67 (nI mf)) 68 (nI mm)) 15 (nI 0)) 64 (nI at2)) (updA (updA X2 2 K) 2 K)) := hD
          refine pc_V0 (G := G) (As := [.int 123]) (rest := []) hx hb hml hown hq hE hX pX0_al hP hD hS hA hl.1 (R_take l G h0 a (upd (upd (upd (upd (upd (upd (upd (upd (upd (upd (upd (upd (upd (upd (upd F 15 0) 16 pl2) 27 (nI nd)) 31 (nI wr)) 34 (nI lz2)) 35 (nI (dc + 1))) 44 (nI fd)) 49 (nI md)) 59 (nI bk)) 60 (nI pr)) 64 (nI at2)) 65 ne0) 66 (nI lk)) 67 (nI mf)) 68 (nI mm)) (updA X2 2 K) at2 T 0 K 123 (by omega) (by omega) hK (by omega) (by decide) (by decide)) (gV pw_1614 pw_1615 pw_1616 pw_1523 pw_1601) hV_X12_take 0 9 rfl rfl rfl rfl (Nat.le_of_ble_eq_true rfl) dX12_declaration_240 ⟨Nat.le_of_ble_eq_true rfl, Nat.le_of_ble_eq_true rfl⟩ ⟨Nat.le_of_ble_eq_true rfl, Nat.le_of_ble_eq_true rfl⟩ (fun v717 u715 H locs hw716 hP hD hS => ?_)
          obtain ⟨at718, fa719, pl720⟩ := u715
          obtain ⟨hw716, h721, h722, h723, h724, h725, h726, h727, h728⟩ := hw716
          replace h721 : at2 ≤ at718 := h721
          replace h722 : at718 ≤ T := h722
          replace h723 : 0 ≤ fa719 := h723
          replace h724 : fa719 ≤ 100 := h724
          replace h725 : If (0 < 0) (at718 = at2 ∧ fa719 = 0) := h725
          replace h726 : at718 ≤ at2 + 1 := h726
          replace h727 : at2 + 1 ≤ at718 + fa719 := h727
          replace h728 : If (fa719 = 0) (K at2 = 123) := h728
          obtain rfl : v717 = none := hw716
          have hP : va_P G.1 pCl (mW G h0 a (upd (upd (upd (upd (upd (upd (upd (upd (upd (upd (upd (upd (upd (upd (upd F 15 (nI fa719)) 16 pl720) 27 (nI nd)) 31 (nI wr)) 34 (nI lz2)) 35 (nI (dc + 1))) 44 (nI fd)) 49 (nI md)) 59 (nI bk)) 60 (nI pr)) 64 (nI at718)) 65 ne0) 66 (nI lk)) 67 (nI mf)) 68 (nI mm)) (updA X2 2 K)) _ := hP
          have hD : va_D A (mW G h0 a (upd (upd (upd (upd (upd (upd (upd (upd (upd (upd (upd (upd (upd (upd (upd F 15 (nI fa719)) 16 pl720) 27 (nI nd)) 31 (nI wr)) 34 (nI lz2)) 35 (nI (dc + 1))) 44 (nI fd)) 49 (nI md)) 59 (nI bk)) 60 (nI pr)) 64 (nI at718)) 65 ne0) 66 (nI lk)) 67 (nI mf)) 68 (nI mm)) (updA X2 2 K)) := hD
          refine W.widen (k := 0) (n := 0) (Nat.le_of_ble_eq_true rfl) (Nat.le_of_ble_eq_true rfl) ?_
          refine W.eq (g2 := F0 m 243 ls []) rfl ?_
          rcases Nat.eq_zero_or_pos fa719 with e729 | e729
          · subst e729
            have hP : va_P G.1 pCl (mW G h0 a (upd (upd (upd (upd (upd (upd (upd (upd (upd (upd (upd (upd (upd (upd (upd F 15 0) 16 pl720) 27 (nI nd)) 31 (nI wr)) 34 (nI lz2)) 35 (nI (dc + 1))) 44 (nI fd)) 49 (nI md)) 59 (nI bk)) 60 (nI pr)) 64 (nI at718)) 65 ne0) 66 (nI lk)) 67 (nI mf)) 68 (nI mm)) (updA X2 2 K)) _ := hP
            have hD : va_D A (mW G h0 a (upd (upd (upd (upd (upd (upd (upd (upd (upd (upd (upd (upd (upd (upd (upd F 15 0) 16 pl720) 27 (nI nd)) 31 (nI wr)) 34 (nI lz2)) 35 (nI (dc + 1))) 44 (nI fd)) 49 (nI md)) 59 (nI bk)) 60 (nI pr)) 64 (nI at718)) 65 ne0) 66 (nI lk)) 67 (nI mf)) 68 (nI mm)) (updA X2 2 K)) := hD
            refine lv_aload_n hx hb dX12_declaration_243 rfl (lv_at hl 1 rfl) ?_
            refine lv_iconst (v := 0) hx hb dX12_declaration_244 (by decide) ?_
            refine r_put (v := 0) (ty := .int) hx hb hown hq hE hP hD hS 67 390 tFX12_67 (by decide) pw_1726 (by decide) rfl rfl (ms_67 a _ _) dX12_declaration_245 (fun H locs hP hD hS => ?_)
            refine lv_aload_n hx hb dX12_declaration_248 rfl (lv_at hl 1 rfl) ?_
            refine lv_iconst (v := 0) hx hb dX12_declaration_249 (by decide) ?_
            refine r_put (v := 0) (ty := .int) hx hb hown hq hE hP hD hS 68 393 tFX12_68 (by decide) pw_1722 (by decide) rfl rfl (ms_68 a _ _) dX12_declaration_250 (fun H locs hP hD hS => ?_)
            have loop_o : ∀ (n_o : Nat) (at3 : Nat) (nd3 : Nat) (wr3 : Nat) (lz3 : Nat) (fd3 : Nat) (md3 : Nat) (pr3 : Nat) (bk3 : Nat) (mf3 : Nat) (mm3 : Nat) (pl3 : Int32) (ne3 : Int32) (X3 : Nat → Nat → Int32) (H : Heap) (locs : List Loc) (ls : Array Slot), at3 ≤ T → T + 1 ≤ at3 + n_o → (at0 + 3 ≤ at3) → (nd3 ≤ 2 * at3 ∧ wr3 ≤ at3 ∧ lz3 ≤ at3 ∧ pr3 ≤ at3 ∧ bk3 ≤ md3 ∧ wr ≤ wr3 ∧ lz ≤ lz3) → (md3 + 240 ≤ 30 * (dc + 1) + mm3 ∧ fd3 + 160 ≤ 20 * (dc + 1) + mf3 ∧ mf3 ≤ 20 ∧ mm3 ≤ 30) → (dc + 1 ≤ 37) → (Kq B X3) → (PS T nm wr3 lz3 (dc + 1) fd3 md3 pr3 bk3 X3) → (FrM K T wr3 X3 nd3 md3) → (tkRow (X3 19) wr3 T) → (lsRow (X3 22) (X3 23) lz3 T) → va_P G.1 pCl (mW G h0 a (upd (upd (upd (upd (upd (upd (upd (upd (upd (upd (upd (upd (upd (upd (upd F 15 0) 16 pl3) 27 (nI nd3)) 31 (nI wr3)) 34 (nI lz3)) 35 (nI (dc + 1))) 44 (nI fd3)) 49 (nI md3)) 59 (nI bk3)) 60 (nI pr3)) 64 (nI at3)) 65 ne3) 66 (nI lk)) 67 (nI mf3)) 68 (nI mm3)) (updA X3 2 K)) H → va_D A (mW G h0 a (upd (upd (upd (upd (upd (upd (upd (upd (upd (upd (upd (upd (upd (upd (upd F 15 0) 16 pl3) 27 (nI nd3)) 31 (nI wr3)) 34 (nI lz3)) 35 (nI (dc + 1))) 44 (nI fd3)) 49 (nI md3)) 59 (nI bk3)) 60 (nI pr3)) 64 (nI at3)) 65 ne3) 66 (nI lk)) 67 (nI mf3)) 68 (nI mm3)) (updA X3 2 K)) → va_S A s.heap H locs → lv_has ls 3 [(2, .int (nI dc)), (0, .ref h0)] → W p l e (headSpec (Cond.code yX12_declaration cX12_declaration 3 none :: pw) ({ frames := 644, cells := 0, slots := 0, locals := 50200 } : Room)).room s m ([.ref h0] : List Value).toArray below meth c H locs 0 0 (MQ below (pQ G A (fun (v : Option Value) (u : Nat × Nat × Int32 × Nat × Nat × Nat × Nat × Nat × Nat × Nat × Nat × Nat × Nat × Int32 × (Nat → Nat → Int32)) => v = none ∧ (at0 ≤ u.1) ∧ (u.1 ≤ T) ∧ (u.2.1 ≤ 100) ∧ (at0 + 1 ≤ u.1 + u.2.1) ∧ (Kq B u.2.2.2.2.2.2.2.2.2.2.2.2.2.2) ∧ (If (u.2.1 = 0) ((u.2.2.2.1 ≤ 2 * u.1 ∧ u.2.2.2.2.1 ≤ u.1 ∧ u.2.2.2.2.2.1 ≤ u.1 ∧ u.2.2.2.2.2.2.2.2.2.1 ≤ u.1 ∧ u.2.2.2.2.2.2.1 ≤ 37 ∧ dc ≤ u.2.2.2.2.2.2.1 ∧ u.2.2.2.2.2.2.2.2.2.2.1 ≤ u.2.2.2.2.2.2.2.2.1 ∧ wr ≤ u.2.2.2.2.1 ∧ lz ≤ u.2.2.2.2.2.1) ∧ (u.2.2.2.2.2.2.2.2.1 + 210 ≤ 30 * u.2.2.2.2.2.2.1 ∧ u.2.2.2.2.2.2.2.1 + 140 ≤ 20 * u.2.2.2.2.2.2.1 ∧ u.2.2.2.2.2.2.1 ≤ 37 ∧ 7 ≤ u.2.2.2.2.2.2.1 ∧ u.2.2.2.2.2.2.1 ≤ dc + 1) ∧ PS T nm u.2.2.2.2.1 u.2.2.2.2.2.1 u.2.2.2.2.2.2.1 u.2.2.2.2.2.2.2.1 u.2.2.2.2.2.2.2.2.1 u.2.2.2.2.2.2.2.2.2.1 u.2.2.2.2.2.2.2.2.2.2.1 u.2.2.2.2.2.2.2.2.2.2.2.2.2.2 ∧ FrM K T u.2.2.2.2.1 u.2.2.2.2.2.2.2.2.2.2.2.2.2.2 u.2.2.2.1 u.2.2.2.2.2.2.2.2.1 ∧ tkRow (u.2.2.2.2.2.2.2.2.2.2.2.2.2.2 19) u.2.2.2.2.1 T ∧ lsRow (u.2.2.2.2.2.2.2.2.2.2.2.2.2.2 22) (u.2.2.2.2.2.2.2.2.2.2.2.2.2.2 23) u.2.2.2.2.2.1 T))) (fun u => (mW G h0 a (upd (upd (upd (upd (upd (upd (upd (upd (upd (upd (upd (upd (upd (upd (upd F 15 (nI u.2.1)) 16 u.2.2.1) 27 (nI u.2.2.2.1)) 31 (nI u.2.2.2.2.1)) 34 (nI u.2.2.2.2.2.1)) 35 (nI u.2.2.2.2.2.2.1)) 44 (nI u.2.2.2.2.2.2.2.1)) 49 (nI u.2.2.2.2.2.2.2.2.1)) 59 (nI u.2.2.2.2.2.2.2.2.2.2.1)) 60 (nI u.2.2.2.2.2.2.2.2.2.1)) 64 (nI u.1)) 65 u.2.2.2.2.2.2.2.2.2.2.2.2.2.1) 66 (nI lk)) 67 (nI u.2.2.2.2.2.2.2.2.2.2.2.1)) 68 (nI u.2.2.2.2.2.2.2.2.2.2.2.2.1)) (updA u.2.2.2.2.2.2.2.2.2.2.2.2.2.2 2 K)))) ([.ref h0] : List Value).toArray s ({ frames := 644, cells := 0, slots := 0, locals := 50200 } : Room).cells ({ frames := 644, cells := 0, slots := 0, locals := 50200 } : Room).slots A) (F0 m 253 ls []) := by
              intro n_o
              induction n_o with
              | zero => intro at3 nd3 wr3 lz3 fd3 md3 pr3 bk3 mf3 mm3 pl3 ne3 X3 H locs ls hk_o hn_o; omega
              | succ n_o ih_o =>
                intro at3 nd3 wr3 lz3 fd3 md3 pr3 bk3 mf3 mm3 pl3 ne3 X3 H locs ls hk_o hn_o hm1 hm2 hm3 hm4 hkq3 hps3 hfm3 hy3 hlr3 hP hD hS hl
                refine lv_aload_n hx hb dX12_declaration_253 rfl (lv_at hl 1 rfl) ?_
                refine r_get (v := .int 0) hx hb hown hq hE hP 15 350 tFX12_15 (by decide) pw_1594 rfl dX12_declaration_254 ?_
                refine lv_if_ne (tgt := 277) hx hb dX12_declaration_257 (by decide) (fun c730 => absurd c730 (by decide)) (fun c730 => ?_)
                refine lv_aload_n hx hb dX12_declaration_260 rfl (lv_at hl 1 rfl) ?_
                have hP : va_P G.1 pCl (mW G h0 a (upd (upd (upd (upd (upd (upd (upd (upd (upd (upd (upd (upd (upd (upd (upd (upd (upd F 15 0) 16 pl3) 27 (nI nd3)) 31 (nI wr3)) 34 (nI lz3)) 35 (nI (dc + 1))) 44 (nI fd3)) 49 (nI md3)) 59 (nI bk3)) 60 (nI pr3)) 64 (nI at3)) 65 ne3) 66 (nI lk)) 67 (nI mf3)) 68 (nI mm3)) 15 (nI 0)) 64 (nI at3)) (updA (updA X3 2 K) 2 K)) _ := hP
                have hD : va_D A (mW G h0 a (upd (upd (upd (upd (upd (upd (upd (upd (upd (upd (upd (upd (upd (upd (upd (upd (upd F 15 0) 16 pl3) 27 (nI nd3)) 31 (nI wr3)) 34 (nI lz3)) 35 (nI (dc + 1))) 44 (nI fd3)) 49 (nI md3)) 59 (nI bk3)) 60 (nI pr3)) 64 (nI at3)) 65 ne3) 66 (nI lk)) 67 (nI mf3)) 68 (nI mm3)) 15 (nI 0)) 64 (nI at3)) (updA (updA X3 2 K) 2 K)) := hD
                refine pc_V0 (G := G) (As := []) (rest := []) hx hb hml hown hq hE hX pX0_al hP hD hS hA hl.1 (R_kind l G h0 a (upd (upd (upd (upd (upd (upd (upd (upd (upd (upd (upd (upd (upd (upd (upd F 15 0) 16 pl3) 27 (nI nd3)) 31 (nI wr3)) 34 (nI lz3)) 35 (nI (dc + 1))) 44 (nI fd3)) 49 (nI md3)) 59 (nI bk3)) 60 (nI pr3)) 64 (nI at3)) 65 ne3) 66 (nI lk)) 67 (nI mf3)) 68 (nI mm3)) (updA X3 2 K) at3 T 0 K (by omega) (by omega) hK (by omega)) (gV pw_1626 pw_1627 pw_1628 pw_1523 pw_1591) hV_X12_kind 0 9 rfl rfl rfl rfl (Nat.le_of_ble_eq_true rfl) dX12_declaration_261 ⟨Nat.le_of_ble_eq_true rfl, Nat.le_of_ble_eq_true rfl⟩ ⟨Nat.le_of_ble_eq_true rfl, Nat.le_of_ble_eq_true rfl⟩ (fun v733 u731 H locs hw732 hP hD hS => ?_)
                obtain rfl : v733 = some (.int (K at3)) := hw732
                have hP : va_P G.1 pCl (mW G h0 a (upd (upd (upd (upd (upd (upd (upd (upd (upd (upd (upd (upd (upd (upd (upd F 15 0) 16 pl3) 27 (nI nd3)) 31 (nI wr3)) 34 (nI lz3)) 35 (nI (dc + 1))) 44 (nI fd3)) 49 (nI md3)) 59 (nI bk3)) 60 (nI pr3)) 64 (nI at3)) 65 ne3) 66 (nI lk)) 67 (nI mf3)) 68 (nI mm3)) (updA X3 2 K)) _ := hP
                have hD : va_D A (mW G h0 a (upd (upd (upd (upd (upd (upd (upd (upd (upd (upd (upd (upd (upd (upd (upd F 15 0) 16 pl3) 27 (nI nd3)) 31 (nI wr3)) 34 (nI lz3)) 35 (nI (dc + 1))) 44 (nI fd3)) 49 (nI md3)) 59 (nI bk3)) 60 (nI pr3)) 64 (nI at3)) 65 ne3) 66 (nI lk)) 67 (nI mf3)) 68 (nI mm3)) (updA X3 2 K)) := hD
                refine W.widen (k := 0) (n := 0) (Nat.le_of_ble_eq_true rfl) (Nat.le_of_ble_eq_true rfl) ?_
                refine W.eq (g2 := F0 m 264 ls [.int (K at3)]) rfl ?_
                refine lv_bipush (v := 125) hx hb dX12_declaration_264 (by decide) ?_
                refine lv_icmp_eq (tgt := 277) hx hb dX12_declaration_266 (by decide) (fun c734 => ?_) (fun c734 => ?_)
                · refine lv_aload_n hx hb dX12_declaration_277 rfl (lv_at hl 1 rfl) ?_
                  refine lv_bipush (v := 125) hx hb dX12_declaration_278 (by decide) ?_
                  have hP : va_P G.1 pCl (mW G h0 a (upd (upd (upd (upd (upd (upd (upd (upd (upd (upd (upd (upd (upd (upd (upd (upd (upd F 15 0) 16 pl3) 27 (nI nd3)) 31 (nI wr3)) 34 (nI lz3)) 35 (nI (dc + 1))) 44 (nI fd3)) 49 (nI md3)) 59 (nI bk3)) 60 (nI pr3)) 64 (nI at3)) 65 ne3) 66 (nI lk)) 67 (nI mf3)) 68 (nI mm3)) 15 (nI 0)) 64 (nI at3)) (updA (updA X3 2 K) 2 K)) _ := hP
                  have hD : va_D A (mW G h0 a (upd (upd (upd (upd (upd (upd (upd (upd (upd (upd (upd (upd (upd (upd (upd (upd (upd F 15 0) 16 pl3) 27 (nI nd3)) 31 (nI wr3)) 34 (nI lz3)) 35 (nI (dc + 1))) 44 (nI fd3)) 49 (nI md3)) 59 (nI bk3)) 60 (nI pr3)) 64 (nI at3)) 65 ne3) 66 (nI lk)) 67 (nI mf3)) 68 (nI mm3)) 15 (nI 0)) 64 (nI at3)) (updA (updA X3 2 K) 2 K)) := hD
                  refine pc_V0 (G := G) (As := [.int 125]) (rest := []) hx hb hml hown hq hE hX pX0_al hP hD hS hA hl.1 (R_take l G h0 a (upd (upd (upd (upd (upd (upd (upd (upd (upd (upd (upd (upd (upd (upd (upd F 15 0) 16 pl3) 27 (nI nd3)) 31 (nI wr3)) 34 (nI lz3)) 35 (nI (dc + 1))) 44 (nI fd3)) 49 (nI md3)) 59 (nI bk3)) 60 (nI pr3)) 64 (nI at3)) 65 ne3) 66 (nI lk)) 67 (nI mf3)) 68 (nI mm3)) (updA X3 2 K) at3 T 0 K 125 (by omega) (by omega) hK (by omega) (by decide) (by decide)) (gV pw_1614 pw_1615 pw_1616 pw_1523 pw_1601) hV_X12_take 0 9 rfl rfl rfl rfl (Nat.le_of_ble_eq_true rfl) dX12_declaration_280 ⟨Nat.le_of_ble_eq_true rfl, Nat.le_of_ble_eq_true rfl⟩ ⟨Nat.le_of_ble_eq_true rfl, Nat.le_of_ble_eq_true rfl⟩ (fun v737 u735 H locs hw736 hP hD hS => ?_)
                  obtain ⟨at738, fa739, pl740⟩ := u735
                  obtain ⟨hw736, h741, h742, h743, h744, h745, h746, h747, h748⟩ := hw736
                  replace h741 : at3 ≤ at738 := h741
                  replace h742 : at738 ≤ T := h742
                  replace h743 : 0 ≤ fa739 := h743
                  replace h744 : fa739 ≤ 100 := h744
                  replace h745 : If (0 < 0) (at738 = at3 ∧ fa739 = 0) := h745
                  replace h746 : at738 ≤ at3 + 1 := h746
                  replace h747 : at3 + 1 ≤ at738 + fa739 := h747
                  replace h748 : If (fa739 = 0) (K at3 = 125) := h748
                  obtain rfl : v737 = none := hw736
                  have hP : va_P G.1 pCl (mW G h0 a (upd (upd (upd (upd (upd (upd (upd (upd (upd (upd (upd (upd (upd (upd (upd F 15 (nI fa739)) 16 pl740) 27 (nI nd3)) 31 (nI wr3)) 34 (nI lz3)) 35 (nI (dc + 1))) 44 (nI fd3)) 49 (nI md3)) 59 (nI bk3)) 60 (nI pr3)) 64 (nI at738)) 65 ne3) 66 (nI lk)) 67 (nI mf3)) 68 (nI mm3)) (updA X3 2 K)) _ := hP
                  have hD : va_D A (mW G h0 a (upd (upd (upd (upd (upd (upd (upd (upd (upd (upd (upd (upd (upd (upd (upd F 15 (nI fa739)) 16 pl740) 27 (nI nd3)) 31 (nI wr3)) 34 (nI lz3)) 35 (nI (dc + 1))) 44 (nI fd3)) 49 (nI md3)) 59 (nI bk3)) 60 (nI pr3)) 64 (nI at738)) 65 ne3) 66 (nI lk)) 67 (nI mf3)) 68 (nI mm3)) (updA X3 2 K)) := hD
                  refine W.widen (k := 0) (n := 0) (Nat.le_of_ble_eq_true rfl) (Nat.le_of_ble_eq_true rfl) ?_
                  refine W.eq (g2 := F0 m 283 ls []) rfl ?_
                  rcases Nat.eq_zero_or_pos fa739 with e749 | e749
                  · subst e749
                    have hP : va_P G.1 pCl (mW G h0 a (upd (upd (upd (upd (upd (upd (upd (upd (upd (upd (upd (upd (upd (upd (upd F 15 0) 16 pl740) 27 (nI nd3)) 31 (nI wr3)) 34 (nI lz3)) 35 (nI (dc + 1))) 44 (nI fd3)) 49 (nI md3)) 59 (nI bk3)) 60 (nI pr3)) 64 (nI at738)) 65 ne3) 66 (nI lk)) 67 (nI mf3)) 68 (nI mm3)) (updA X3 2 K)) _ := hP
                    have hD : va_D A (mW G h0 a (upd (upd (upd (upd (upd (upd (upd (upd (upd (upd (upd (upd (upd (upd (upd F 15 0) 16 pl740) 27 (nI nd3)) 31 (nI wr3)) 34 (nI lz3)) 35 (nI (dc + 1))) 44 (nI fd3)) 49 (nI md3)) 59 (nI bk3)) 60 (nI pr3)) 64 (nI at738)) 65 ne3) 66 (nI lk)) 67 (nI mf3)) 68 (nI mm3)) (updA X3 2 K)) := hD
                    have hz750 : at0 ≤ at738 := (by omega)
                    have hz751 : at738 ≤ T := (by omega)
                    have hz752 : 0 ≤ 100 := (by omega)
                    have hz753 : at0 + 1 ≤ at738 + 0 := (by omega)
                    have hz754 : Kq B X3 := hkq3
                    have hz755 : If (0 = 0) ((nd3 ≤ 2 * at738 ∧ wr3 ≤ at738 ∧ lz3 ≤ at738 ∧ pr3 ≤ at738 ∧ (dc + 1) ≤ 37 ∧ dc ≤ (dc + 1) ∧ bk3 ≤ md3 ∧ wr ≤ wr3 ∧ lz ≤ lz3) ∧ (md3 + 210 ≤ 30 * (dc + 1) ∧ fd3 + 140 ≤ 20 * (dc + 1) ∧ (dc + 1) ≤ 37 ∧ 7 ≤ (dc + 1) ∧ (dc + 1) ≤ dc + 1) ∧ PS T nm wr3 lz3 (dc + 1) fd3 md3 pr3 bk3 X3 ∧ FrM K T wr3 X3 nd3 md3 ∧ tkRow (X3 19) wr3 T ∧ lsRow (X3 22) (X3 23) lz3 T) := (fun _ => ⟨by omega, by omega, hps3, hfm3, hy3, hlr3⟩)
                    have hP : va_P G.1 pCl (mW G h0 a (upd (upd (upd (upd (upd (upd (upd (upd (upd (upd (upd (upd (upd (upd (upd F 15 (nI 0)) 16 pl740) 27 (nI nd3)) 31 (nI wr3)) 34 (nI lz3)) 35 (nI (dc + 1))) 44 (nI fd3)) 49 (nI md3)) 59 (nI bk3)) 60 (nI pr3)) 64 (nI at738)) 65 ne3) 66 (nI lk)) 67 (nI mf3)) 68 (nI mm3)) (updA X3 2 K)) _ := hP
                    have hD : va_D A (mW G h0 a (upd (upd (upd (upd (upd (upd (upd (upd (upd (upd (upd (upd (upd (upd (upd F 15 (nI 0)) 16 pl740) 27 (nI nd3)) 31 (nI wr3)) 34 (nI lz3)) 35 (nI (dc + 1))) 44 (nI fd3)) 49 (nI md3)) 59 (nI bk3)) 60 (nI pr3)) 64 (nI at738)) 65 ne3) 66 (nI lk)) 67 (nI mf3)) 68 (nI mm3)) (updA X3 2 K)) := hD
                    exact W.vret hx hb hr (fun t9 ht9 hW9 => ⟨⟨_, (at738, 0, pl740, nd3, wr3, lz3, (dc + 1), fd3, md3, pr3, bk3, mf3, mm3, ne3, X3), rfl, ⟨rfl, hz750, hz751, hz752, hz753, hz754, hz755⟩, by rw [ht9]; exact hP, hD⟩, hS.F ht9⟩) hS.2.2 dX12_declaration_283
                  · have e749 := e749
                    have hz756 : at0 ≤ at738 := (by omega)
                    have hz757 : at738 ≤ T := (by omega)
                    have hz758 : fa739 ≤ 100 := (by omega)
                    have hz759 : at0 + 1 ≤ at738 + fa739 := (by omega)
                    have hz760 : Kq B X3 := hkq3
                    have hz761 : If (fa739 = 0) ((nd3 ≤ 2 * at738 ∧ wr3 ≤ at738 ∧ lz3 ≤ at738 ∧ pr3 ≤ at738 ∧ (dc + 1) ≤ 37 ∧ dc ≤ (dc + 1) ∧ bk3 ≤ md3 ∧ wr ≤ wr3 ∧ lz ≤ lz3) ∧ (md3 + 210 ≤ 30 * (dc + 1) ∧ fd3 + 140 ≤ 20 * (dc + 1) ∧ (dc + 1) ≤ 37 ∧ 7 ≤ (dc + 1) ∧ (dc + 1) ≤ dc + 1) ∧ PS T nm wr3 lz3 (dc + 1) fd3 md3 pr3 bk3 X3 ∧ FrM K T wr3 X3 nd3 md3 ∧ tkRow (X3 19) wr3 T ∧ lsRow (X3 22) (X3 23) lz3 T) := (fun e => absurd e (by omega))
                    have hP : va_P G.1 pCl (mW G h0 a (upd (upd (upd (upd (upd (upd (upd (upd (upd (upd (upd (upd (upd (upd (upd F 15 (nI fa739)) 16 pl740) 27 (nI nd3)) 31 (nI wr3)) 34 (nI lz3)) 35 (nI (dc + 1))) 44 (nI fd3)) 49 (nI md3)) 59 (nI bk3)) 60 (nI pr3)) 64 (nI at738)) 65 ne3) 66 (nI lk)) 67 (nI mf3)) 68 (nI mm3)) (updA X3 2 K)) _ := hP
                    have hD : va_D A (mW G h0 a (upd (upd (upd (upd (upd (upd (upd (upd (upd (upd (upd (upd (upd (upd (upd F 15 (nI fa739)) 16 pl740) 27 (nI nd3)) 31 (nI wr3)) 34 (nI lz3)) 35 (nI (dc + 1))) 44 (nI fd3)) 49 (nI md3)) 59 (nI bk3)) 60 (nI pr3)) 64 (nI at738)) 65 ne3) 66 (nI lk)) 67 (nI mf3)) 68 (nI mm3)) (updA X3 2 K)) := hD
                    exact W.vret hx hb hr (fun t9 ht9 hW9 => ⟨⟨_, (at738, fa739, pl740, nd3, wr3, lz3, (dc + 1), fd3, md3, pr3, bk3, mf3, mm3, ne3, X3), rfl, ⟨rfl, hz756, hz757, hz758, hz759, hz760, hz761⟩, by rw [ht9]; exact hP, hD⟩, hS.F ht9⟩) hS.2.2 dX12_declaration_283
                · refine lv_aload_n hx hb dX12_declaration_269 rfl (lv_at hl 1 rfl) ?_
                  refine lv_iload_n hx hb dX12_declaration_270 rfl (lv_at hl 0 rfl) ?_
                  have hP : va_P G.1 pCl (mW G h0 a (upd (upd (upd (upd (upd (upd (upd (upd (upd (upd (upd (upd (upd (upd (upd (upd (upd (upd (upd (upd (upd (upd (upd (upd (upd (upd (upd (upd (upd F 15 0) 16 pl3) 27 (nI nd3)) 31 (nI wr3)) 34 (nI lz3)) 35 (nI (dc + 1))) 44 (nI fd3)) 49 (nI md3)) 59 (nI bk3)) 60 (nI pr3)) 64 (nI at3)) 65 ne3) 66 (nI lk)) 67 (nI mf3)) 68 (nI mm3)) 15 0) 27 (nI nd3)) 31 (nI wr3)) 34 (nI lz3)) 35 (nI (dc + 1))) 44 (nI fd3)) 49 (nI md3)) 59 (nI bk3)) 60 (nI pr3)) 64 (nI at3)) 65 ne3) 66 (nI lk)) 67 (nI mf3)) 68 (nI mm3)) (updA X3 2 K)) _ := hP
                  have hD : va_D A (mW G h0 a (upd (upd (upd (upd (upd (upd (upd (upd (upd (upd (upd (upd (upd (upd (upd (upd (upd (upd (upd (upd (upd (upd (upd (upd (upd (upd (upd (upd (upd F 15 0) 16 pl3) 27 (nI nd3)) 31 (nI wr3)) 34 (nI lz3)) 35 (nI (dc + 1))) 44 (nI fd3)) 49 (nI md3)) 59 (nI bk3)) 60 (nI pr3)) 64 (nI at3)) 65 ne3) 66 (nI lk)) 67 (nI mf3)) 68 (nI mm3)) 15 0) 27 (nI nd3)) 31 (nI wr3)) 34 (nI lz3)) 35 (nI (dc + 1))) 44 (nI fd3)) 49 (nI md3)) 59 (nI bk3)) 60 (nI pr3)) 64 (nI at3)) 65 ne3) 66 (nI lk)) 67 (nI mf3)) 68 (nI mm3)) (updA X3 2 K)) := hD
                  refine pc_V0 (G := G) (As := [.int (nI dc)]) (rest := []) hx hb hml hown hq hE hX pX0_al hP hD hS hA hl.1 (RM_member l G h0 a (upd (upd (upd (upd (upd (upd (upd (upd (upd (upd (upd (upd (upd (upd (upd F 15 0) 16 pl3) 27 (nI nd3)) 31 (nI wr3)) 34 (nI lz3)) 35 (nI (dc + 1))) 44 (nI fd3)) 49 (nI md3)) 59 (nI bk3)) 60 (nI pr3)) 64 (nI at3)) 65 ne3) 66 (nI lk)) 67 (nI mf3)) 68 (nI mm3)) X3 at3 T nm nd3 wr3 lz3 (dc + 1) fd3 md3 pr3 bk3 mf3 mm3 lk ne3 K dc (by omega) (by omega) hK (by rw [hkq3 5 (by omega)]; exact hV) (by omega) (by omega) (by omega) (by omega) (by omega) (by omega) (by omega) (by omega) (by omega) (by omega) (by omega) (by omega) hps3 hfm3 hy3 hlr3) (gV pw_1736 pw_1737 pw_1738 pw_1523 pw_1731) hV_X12_member 0 9 rfl rfl rfl rfl (Nat.le_of_ble_eq_true rfl) dX12_declaration_271 ⟨Nat.le_of_ble_eq_true rfl, Nat.le_of_ble_eq_true rfl⟩ ⟨Nat.le_of_ble_eq_true rfl, Nat.le_of_ble_eq_true rfl⟩ (fun v764 u762 H locs hw763 hP hD hS => ?_)
                  obtain ⟨at765, fa766, pl767, nd768, wr769, lz770, dc771, fd772, md773, pr774, bk775, mf776, mm777, ne778, X779⟩ := u762
                  obtain ⟨hw763, h780, h781, h782, h783, h784, h785⟩ := hw763
                  replace h780 : at3 ≤ at765 := h780
                  replace h781 : at765 ≤ T := h781
                  replace h782 : fa766 ≤ 100 := h782
                  replace h783 : at3 + 1 ≤ at765 + fa766 := h783
                  replace h784 : Kq X3 X779 := h784
                  replace h785 : If (fa766 = 0) ((nd768 ≤ 2 * at765 ∧ wr769 ≤ at765 ∧ lz770 ≤ at765 ∧ pr774 ≤ at765 ∧ dc771 ≤ 37 ∧ (dc + 1) ≤ dc771 ∧ bk775 ≤ md773 ∧ wr3 ≤ wr769 ∧ lz3 ≤ lz770) ∧ (md773 + 240 ≤ 30 * dc771 + mm777 ∧ fd772 + 160 ≤ 20 * dc771 + mf776 ∧ mf776 ≤ 20 ∧ mm777 ≤ 30 ∧ dc771 = (dc + 1)) ∧ PS T nm wr769 lz770 dc771 fd772 md773 pr774 bk775 X779 ∧ FrM K T wr769 X779 nd768 md773 ∧ tkRow (X779 19) wr769 T ∧ lsRow (X779 22) (X779 23) lz770 T) := h785
                  obtain rfl : v764 = none := hw763
                  have hP : va_P G.1 pCl (mW G h0 a (upd (upd (upd (upd (upd (upd (upd (upd (upd (upd (upd (upd (upd (upd (upd F 15 (nI fa766)) 16 pl767) 27 (nI nd768)) 31 (nI wr769)) 34 (nI lz770)) 35 (nI dc771)) 44 (nI fd772)) 49 (nI md773)) 59 (nI bk775)) 60 (nI pr774)) 64 (nI at765)) 65 ne778) 66 (nI lk)) 67 (nI mf776)) 68 (nI mm777)) (updA X779 2 K)) _ := hP
                  have hD : va_D A (mW G h0 a (upd (upd (upd (upd (upd (upd (upd (upd (upd (upd (upd (upd (upd (upd (upd F 15 (nI fa766)) 16 pl767) 27 (nI nd768)) 31 (nI wr769)) 34 (nI lz770)) 35 (nI dc771)) 44 (nI fd772)) 49 (nI md773)) 59 (nI bk775)) 60 (nI pr774)) 64 (nI at765)) 65 ne778) 66 (nI lk)) 67 (nI mf776)) 68 (nI mm777)) (updA X779 2 K)) := hD
                  refine W.widen (k := 0) (n := 0) (Nat.le_of_ble_eq_true rfl) (Nat.le_of_ble_eq_true rfl) ?_
                  refine W.eq (g2 := F0 m 274 ls []) rfl ?_
                  have hkq786 : Kq B X779 := (Kq.trans hkq3 h784)
                  rcases Nat.eq_zero_or_pos fa766 with e787 | e787
                  · subst e787
                    have hP : va_P G.1 pCl (mW G h0 a (upd (upd (upd (upd (upd (upd (upd (upd (upd (upd (upd (upd (upd (upd (upd F 15 0) 16 pl767) 27 (nI nd768)) 31 (nI wr769)) 34 (nI lz770)) 35 (nI dc771)) 44 (nI fd772)) 49 (nI md773)) 59 (nI bk775)) 60 (nI pr774)) 64 (nI at765)) 65 ne778) 66 (nI lk)) 67 (nI mf776)) 68 (nI mm777)) (updA X779 2 K)) _ := hP
                    have hD : va_D A (mW G h0 a (upd (upd (upd (upd (upd (upd (upd (upd (upd (upd (upd (upd (upd (upd (upd F 15 0) 16 pl767) 27 (nI nd768)) 31 (nI wr769)) 34 (nI lz770)) 35 (nI dc771)) 44 (nI fd772)) 49 (nI md773)) 59 (nI bk775)) 60 (nI pr774)) 64 (nI at765)) 65 ne778) 66 (nI lk)) 67 (nI mf776)) 68 (nI mm777)) (updA X779 2 K)) := hD
                    obtain ⟨hq788, hq789, hq790, hq791, hq792, hq793⟩ := h785 rfl
                    obtain rfl : (dc + 1) = dc771 := (by omega)
                    refine lv_goto (tgt := 253) hx hb dX12_declaration_274 (by decide) ?_
                    have hP : va_P G.1 pCl (mW G h0 a (upd (upd (upd (upd (upd (upd (upd (upd (upd (upd (upd (upd (upd (upd (upd F 15 0) 16 pl767) 27 (nI nd768)) 31 (nI wr769)) 34 (nI lz770)) 35 (nI (dc + 1))) 44 (nI fd772)) 49 (nI md773)) 59 (nI bk775)) 60 (nI pr774)) 64 (nI at765)) 65 ne778) 66 (nI lk)) 67 (nI mf776)) 68 (nI mm777)) (updA X779 2 K)) _ := hP
                    have hD : va_D A (mW G h0 a (upd (upd (upd (upd (upd (upd (upd (upd (upd (upd (upd (upd (upd (upd (upd F 15 0) 16 pl767) 27 (nI nd768)) 31 (nI wr769)) 34 (nI lz770)) 35 (nI (dc + 1))) 44 (nI fd772)) 49 (nI md773)) 59 (nI bk775)) 60 (nI pr774)) 64 (nI at765)) 65 ne778) 66 (nI lk)) 67 (nI mf776)) 68 (nI mm777)) (updA X779 2 K)) := hD
                    exact ih_o at765 nd768 wr769 lz770 fd772 md773 pr774 bk775 mf776 mm777 pl767 ne778 X779 _ _ _ (by omega) (by omega) (by omega) (by omega) (by omega) (by omega) hkq786 hq790 hq791 hq792 hq793 hP hD hS (lv_sub hl [0, 1] rfl)
                  · have e787 := e787
                    refine lv_goto (tgt := 253) hx hb dX12_declaration_274 (by decide) ?_
                    refine lv_aload_n hx hb dX12_declaration_253 rfl (lv_at hl 1 rfl) ?_
                    refine r_get (v := .int (nI fa766)) hx hb hown hq hE hP 15 350 tFX12_15 (by decide) pw_1594 rfl dX12_declaration_254 ?_
                    refine lv_if_ne (tgt := 277) hx hb dX12_declaration_257 (by decide) (fun c794 => ?_) (fun c794 => (by have n795 : fa766 = 0 := (nI_eq (a := fa766) (b := 0) (by omega) (by omega)).mp c794; omega))
                    refine lv_aload_n hx hb dX12_declaration_277 rfl (lv_at hl 1 rfl) ?_
                    refine lv_bipush (v := 125) hx hb dX12_declaration_278 (by decide) ?_
                    have hP : va_P G.1 pCl (mW G h0 a (upd (upd (upd (upd (upd (upd (upd (upd (upd (upd (upd (upd (upd (upd (upd (upd (upd F 15 (nI fa766)) 16 pl767) 27 (nI nd768)) 31 (nI wr769)) 34 (nI lz770)) 35 (nI dc771)) 44 (nI fd772)) 49 (nI md773)) 59 (nI bk775)) 60 (nI pr774)) 64 (nI at765)) 65 ne778) 66 (nI lk)) 67 (nI mf776)) 68 (nI mm777)) 15 (nI fa766)) 64 (nI at765)) (updA (updA X779 2 K) 2 K)) _ := hP
                    have hD : va_D A (mW G h0 a (upd (upd (upd (upd (upd (upd (upd (upd (upd (upd (upd (upd (upd (upd (upd (upd (upd F 15 (nI fa766)) 16 pl767) 27 (nI nd768)) 31 (nI wr769)) 34 (nI lz770)) 35 (nI dc771)) 44 (nI fd772)) 49 (nI md773)) 59 (nI bk775)) 60 (nI pr774)) 64 (nI at765)) 65 ne778) 66 (nI lk)) 67 (nI mf776)) 68 (nI mm777)) 15 (nI fa766)) 64 (nI at765)) (updA (updA X779 2 K) 2 K)) := hD
                    refine pc_V0 (G := G) (As := [.int 125]) (rest := []) hx hb hml hown hq hE hX pX0_al hP hD hS hA hl.1 (R_take l G h0 a (upd (upd (upd (upd (upd (upd (upd (upd (upd (upd (upd (upd (upd (upd (upd F 15 (nI fa766)) 16 pl767) 27 (nI nd768)) 31 (nI wr769)) 34 (nI lz770)) 35 (nI dc771)) 44 (nI fd772)) 49 (nI md773)) 59 (nI bk775)) 60 (nI pr774)) 64 (nI at765)) 65 ne778) 66 (nI lk)) 67 (nI mf776)) 68 (nI mm777)) (updA X779 2 K) at765 T fa766 K 125 (by omega) (by omega) hK (by omega) (by decide) (by decide)) (gV pw_1614 pw_1615 pw_1616 pw_1523 pw_1601) hV_X12_take 0 9 rfl rfl rfl rfl (Nat.le_of_ble_eq_true rfl) dX12_declaration_280 ⟨Nat.le_of_ble_eq_true rfl, Nat.le_of_ble_eq_true rfl⟩ ⟨Nat.le_of_ble_eq_true rfl, Nat.le_of_ble_eq_true rfl⟩ (fun v798 u796 H locs hw797 hP hD hS => ?_)
                    obtain ⟨at799, fa800, pl801⟩ := u796
                    obtain ⟨hw797, h802, h803, h804, h805, h806, h807, h808, h809⟩ := hw797
                    replace h802 : at765 ≤ at799 := h802
                    replace h803 : at799 ≤ T := h803
                    replace h804 : fa766 ≤ fa800 := h804
                    replace h805 : fa800 ≤ 100 := h805
                    replace h806 : If (0 < fa766) (at799 = at765 ∧ fa800 = fa766) := h806
                    replace h807 : at799 ≤ at765 + 1 := h807
                    replace h808 : at765 + 1 ≤ at799 + fa800 := h808
                    replace h809 : If (fa800 = 0) (K at765 = 125) := h809
                    obtain rfl : v798 = none := hw797
                    have hP : va_P G.1 pCl (mW G h0 a (upd (upd (upd (upd (upd (upd (upd (upd (upd (upd (upd (upd (upd (upd (upd F 15 (nI fa800)) 16 pl801) 27 (nI nd768)) 31 (nI wr769)) 34 (nI lz770)) 35 (nI dc771)) 44 (nI fd772)) 49 (nI md773)) 59 (nI bk775)) 60 (nI pr774)) 64 (nI at799)) 65 ne778) 66 (nI lk)) 67 (nI mf776)) 68 (nI mm777)) (updA X779 2 K)) _ := hP
                    have hD : va_D A (mW G h0 a (upd (upd (upd (upd (upd (upd (upd (upd (upd (upd (upd (upd (upd (upd (upd F 15 (nI fa800)) 16 pl801) 27 (nI nd768)) 31 (nI wr769)) 34 (nI lz770)) 35 (nI dc771)) 44 (nI fd772)) 49 (nI md773)) 59 (nI bk775)) 60 (nI pr774)) 64 (nI at799)) 65 ne778) 66 (nI lk)) 67 (nI mf776)) 68 (nI mm777)) (updA X779 2 K)) := hD
                    refine W.widen (k := 0) (n := 0) (Nat.le_of_ble_eq_true rfl) (Nat.le_of_ble_eq_true rfl) ?_
                    refine W.eq (g2 := F0 m 283 ls []) rfl ?_
                    obtain ⟨n811, n810⟩ := h806 e787
                    replace n811 := n811.symm
                    subst n811
                    replace n810 := n810.symm
                    subst n810
                    have hz812 : at0 ≤ at765 := (by omega)
                    have hz813 : at765 ≤ T := (by omega)
                    have hz814 : fa766 ≤ 100 := (by omega)
                    have hz815 : at0 + 1 ≤ at765 + fa766 := (by omega)
                    have hz816 : Kq B X779 := hkq786
                    have hz817 : If (fa766 = 0) ((nd768 ≤ 2 * at765 ∧ wr769 ≤ at765 ∧ lz770 ≤ at765 ∧ pr774 ≤ at765 ∧ dc771 ≤ 37 ∧ dc ≤ dc771 ∧ bk775 ≤ md773 ∧ wr ≤ wr769 ∧ lz ≤ lz770) ∧ (md773 + 210 ≤ 30 * dc771 ∧ fd772 + 140 ≤ 20 * dc771 ∧ dc771 ≤ 37 ∧ 7 ≤ dc771 ∧ dc771 ≤ dc + 1) ∧ PS T nm wr769 lz770 dc771 fd772 md773 pr774 bk775 X779 ∧ FrM K T wr769 X779 nd768 md773 ∧ tkRow (X779 19) wr769 T ∧ lsRow (X779 22) (X779 23) lz770 T) := (fun e => absurd e (by omega))
                    have hP : va_P G.1 pCl (mW G h0 a (upd (upd (upd (upd (upd (upd (upd (upd (upd (upd (upd (upd (upd (upd (upd F 15 (nI fa766)) 16 pl801) 27 (nI nd768)) 31 (nI wr769)) 34 (nI lz770)) 35 (nI dc771)) 44 (nI fd772)) 49 (nI md773)) 59 (nI bk775)) 60 (nI pr774)) 64 (nI at765)) 65 ne778) 66 (nI lk)) 67 (nI mf776)) 68 (nI mm777)) (updA X779 2 K)) _ := hP
                    have hD : va_D A (mW G h0 a (upd (upd (upd (upd (upd (upd (upd (upd (upd (upd (upd (upd (upd (upd (upd F 15 (nI fa766)) 16 pl801) 27 (nI nd768)) 31 (nI wr769)) 34 (nI lz770)) 35 (nI dc771)) 44 (nI fd772)) 49 (nI md773)) 59 (nI bk775)) 60 (nI pr774)) 64 (nI at765)) 65 ne778) 66 (nI lk)) 67 (nI mf776)) 68 (nI mm777)) (updA X779 2 K)) := hD
                    exact W.vret hx hb hr (fun t9 ht9 hW9 => ⟨⟨_, (at765, fa766, pl801, nd768, wr769, lz770, dc771, fd772, md773, pr774, bk775, mf776, mm777, ne778, X779), rfl, ⟨rfl, hz812, hz813, hz814, hz815, hz816, hz817⟩, by rw [ht9]; exact hP, hD⟩, hS.F ht9⟩) hS.2.2 dX12_declaration_283
            have hP : va_P G.1 pCl (mW G h0 a (upd (upd (upd (upd (upd (upd (upd (upd (upd (upd (upd (upd (upd (upd (upd F 15 0) 16 pl720) 27 (nI nd)) 31 (nI wr)) 34 (nI lz2)) 35 (nI (dc + 1))) 44 (nI fd)) 49 (nI md)) 59 (nI bk)) 60 (nI pr)) 64 (nI at718)) 65 ne0) 66 (nI lk)) 67 (nI 0)) 68 (nI 0)) (updA X2 2 K)) _ := hP
            have hD : va_D A (mW G h0 a (upd (upd (upd (upd (upd (upd (upd (upd (upd (upd (upd (upd (upd (upd (upd F 15 0) 16 pl720) 27 (nI nd)) 31 (nI wr)) 34 (nI lz2)) 35 (nI (dc + 1))) 44 (nI fd)) 49 (nI md)) 59 (nI bk)) 60 (nI pr)) 64 (nI at718)) 65 ne0) 66 (nI lk)) 67 (nI 0)) 68 (nI 0)) (updA X2 2 K)) := hD
            exact loop_o (T + 1) at718 nd wr lz2 fd md pr bk 0 0 pl720 ne0 X2 _ _ _ (by omega) (by omega) (by omega) (by omega) (by omega) (by omega) hkq2 hps2 hfm2 hy2 hlr2 hP hD hS (lv_sub hl [0, 1] rfl)
          · have e729 := e729
            refine lv_aload_n hx hb dX12_declaration_243 rfl (lv_at hl 1 rfl) ?_
            refine lv_iconst (v := 0) hx hb dX12_declaration_244 (by decide) ?_
            refine r_put (v := 0) (ty := .int) hx hb hown hq hE hP hD hS 67 390 tFX12_67 (by decide) pw_1726 (by decide) rfl rfl (ms_67 a _ _) dX12_declaration_245 (fun H locs hP hD hS => ?_)
            refine lv_aload_n hx hb dX12_declaration_248 rfl (lv_at hl 1 rfl) ?_
            refine lv_iconst (v := 0) hx hb dX12_declaration_249 (by decide) ?_
            refine r_put (v := 0) (ty := .int) hx hb hown hq hE hP hD hS 68 393 tFX12_68 (by decide) pw_1722 (by decide) rfl rfl (ms_68 a _ _) dX12_declaration_250 (fun H locs hP hD hS => ?_)
            refine lv_aload_n hx hb dX12_declaration_253 rfl (lv_at hl 1 rfl) ?_
            refine r_get (v := .int (nI fa719)) hx hb hown hq hE hP 15 350 tFX12_15 (by decide) pw_1594 rfl dX12_declaration_254 ?_
            refine lv_if_ne (tgt := 277) hx hb dX12_declaration_257 (by decide) (fun c818 => ?_) (fun c818 => (by have n819 : fa719 = 0 := (nI_eq (a := fa719) (b := 0) (by omega) (by omega)).mp c818; omega))
            refine lv_aload_n hx hb dX12_declaration_277 rfl (lv_at hl 1 rfl) ?_
            refine lv_bipush (v := 125) hx hb dX12_declaration_278 (by decide) ?_
            have hP : va_P G.1 pCl (mW G h0 a (upd (upd (upd (upd (upd (upd (upd (upd (upd (upd (upd (upd (upd (upd (upd (upd (upd F 15 (nI fa719)) 16 pl720) 27 (nI nd)) 31 (nI wr)) 34 (nI lz2)) 35 (nI (dc + 1))) 44 (nI fd)) 49 (nI md)) 59 (nI bk)) 60 (nI pr)) 64 (nI at718)) 65 ne0) 66 (nI lk)) 67 0) 68 0) 15 (nI fa719)) 64 (nI at718)) (updA (updA X2 2 K) 2 K)) _ := hP
            have hD : va_D A (mW G h0 a (upd (upd (upd (upd (upd (upd (upd (upd (upd (upd (upd (upd (upd (upd (upd (upd (upd F 15 (nI fa719)) 16 pl720) 27 (nI nd)) 31 (nI wr)) 34 (nI lz2)) 35 (nI (dc + 1))) 44 (nI fd)) 49 (nI md)) 59 (nI bk)) 60 (nI pr)) 64 (nI at718)) 65 ne0) 66 (nI lk)) 67 0) 68 0) 15 (nI fa719)) 64 (nI at718)) (updA (updA X2 2 K) 2 K)) := hD
            refine pc_V0 (G := G) (As := [.int 125]) (rest := []) hx hb hml hown hq hE hX pX0_al hP hD hS hA hl.1 (R_take l G h0 a (upd (upd (upd (upd (upd (upd (upd (upd (upd (upd (upd (upd (upd (upd (upd F 15 (nI fa719)) 16 pl720) 27 (nI nd)) 31 (nI wr)) 34 (nI lz2)) 35 (nI (dc + 1))) 44 (nI fd)) 49 (nI md)) 59 (nI bk)) 60 (nI pr)) 64 (nI at718)) 65 ne0) 66 (nI lk)) 67 0) 68 0) (updA X2 2 K) at718 T fa719 K 125 (by omega) (by omega) hK (by omega) (by decide) (by decide)) (gV pw_1614 pw_1615 pw_1616 pw_1523 pw_1601) hV_X12_take 0 9 rfl rfl rfl rfl (Nat.le_of_ble_eq_true rfl) dX12_declaration_280 ⟨Nat.le_of_ble_eq_true rfl, Nat.le_of_ble_eq_true rfl⟩ ⟨Nat.le_of_ble_eq_true rfl, Nat.le_of_ble_eq_true rfl⟩ (fun v822 u820 H locs hw821 hP hD hS => ?_)
            obtain ⟨at823, fa824, pl825⟩ := u820
            obtain ⟨hw821, h826, h827, h828, h829, h830, h831, h832, h833⟩ := hw821
            replace h826 : at718 ≤ at823 := h826
            replace h827 : at823 ≤ T := h827
            replace h828 : fa719 ≤ fa824 := h828
            replace h829 : fa824 ≤ 100 := h829
            replace h830 : If (0 < fa719) (at823 = at718 ∧ fa824 = fa719) := h830
            replace h831 : at823 ≤ at718 + 1 := h831
            replace h832 : at718 + 1 ≤ at823 + fa824 := h832
            replace h833 : If (fa824 = 0) (K at718 = 125) := h833
            obtain rfl : v822 = none := hw821
            have hP : va_P G.1 pCl (mW G h0 a (upd (upd (upd (upd (upd (upd (upd (upd (upd (upd (upd (upd (upd (upd (upd F 15 (nI fa824)) 16 pl825) 27 (nI nd)) 31 (nI wr)) 34 (nI lz2)) 35 (nI (dc + 1))) 44 (nI fd)) 49 (nI md)) 59 (nI bk)) 60 (nI pr)) 64 (nI at823)) 65 ne0) 66 (nI lk)) 67 0) 68 0) (updA X2 2 K)) _ := hP
            have hD : va_D A (mW G h0 a (upd (upd (upd (upd (upd (upd (upd (upd (upd (upd (upd (upd (upd (upd (upd F 15 (nI fa824)) 16 pl825) 27 (nI nd)) 31 (nI wr)) 34 (nI lz2)) 35 (nI (dc + 1))) 44 (nI fd)) 49 (nI md)) 59 (nI bk)) 60 (nI pr)) 64 (nI at823)) 65 ne0) 66 (nI lk)) 67 0) 68 0) (updA X2 2 K)) := hD
            refine W.widen (k := 0) (n := 0) (Nat.le_of_ble_eq_true rfl) (Nat.le_of_ble_eq_true rfl) ?_
            refine W.eq (g2 := F0 m 283 ls []) rfl ?_
            obtain ⟨n835, n834⟩ := h830 e729
            replace n835 := n835.symm
            subst n835
            replace n834 := n834.symm
            subst n834
            have hz836 : at0 ≤ at718 := (by omega)
            have hz837 : at718 ≤ T := (by omega)
            have hz838 : fa719 ≤ 100 := (by omega)
            have hz839 : at0 + 1 ≤ at718 + fa719 := (by omega)
            have hz840 : Kq B X2 := hkq2
            have hz841 : If (fa719 = 0) ((nd ≤ 2 * at718 ∧ wr ≤ at718 ∧ lz2 ≤ at718 ∧ pr ≤ at718 ∧ (dc + 1) ≤ 37 ∧ dc ≤ (dc + 1) ∧ bk ≤ md ∧ wr ≤ wr ∧ lz ≤ lz2) ∧ (md + 210 ≤ 30 * (dc + 1) ∧ fd + 140 ≤ 20 * (dc + 1) ∧ (dc + 1) ≤ 37 ∧ 7 ≤ (dc + 1) ∧ (dc + 1) ≤ dc + 1) ∧ PS T nm wr lz2 (dc + 1) fd md pr bk X2 ∧ FrM K T wr X2 nd md ∧ tkRow (X2 19) wr T ∧ lsRow (X2 22) (X2 23) lz2 T) := (fun e => absurd e (by omega))
            have hP : va_P G.1 pCl (mW G h0 a (upd (upd (upd (upd (upd (upd (upd (upd (upd (upd (upd (upd (upd (upd (upd F 15 (nI fa719)) 16 pl825) 27 (nI nd)) 31 (nI wr)) 34 (nI lz2)) 35 (nI (dc + 1))) 44 (nI fd)) 49 (nI md)) 59 (nI bk)) 60 (nI pr)) 64 (nI at718)) 65 ne0) 66 (nI lk)) 67 (nI 0)) 68 (nI 0)) (updA X2 2 K)) _ := hP
            have hD : va_D A (mW G h0 a (upd (upd (upd (upd (upd (upd (upd (upd (upd (upd (upd (upd (upd (upd (upd F 15 (nI fa719)) 16 pl825) 27 (nI nd)) 31 (nI wr)) 34 (nI lz2)) 35 (nI (dc + 1))) 44 (nI fd)) 49 (nI md)) 59 (nI bk)) 60 (nI pr)) 64 (nI at718)) 65 ne0) 66 (nI lk)) 67 (nI 0)) 68 (nI 0)) (updA X2 2 K)) := hD
            exact W.vret hx hb hr (fun t9 ht9 hW9 => ⟨⟨_, (at718, fa719, pl825, nd, wr, lz2, (dc + 1), fd, md, pr, bk, 0, 0, ne0, X2), rfl, ⟨rfl, hz836, hz837, hz838, hz839, hz840, hz841⟩, by rw [ht9]; exact hP, hD⟩, hS.F ht9⟩) hS.2.2 dX12_declaration_283
        refine lv_aload_n hx hb dX12_declaration_139 rfl (lv_at hl 2 rfl) ?_
        refine lv_sipush (v := 317) hx hb dX12_declaration_140 (by decide) ?_
        have hP : va_P G.1 pCl (mW G h0 a (upd (upd (upd (upd (upd (upd (upd (upd (upd (upd (upd (upd (upd (upd (upd (upd (upd F 15 0) 16 pl650) 27 (nI nd)) 31 (nI wr)) 34 (nI lz)) 35 (nI (dc + 1))) 44 (nI fd)) 49 (nI md)) 59 (nI bk)) 60 (nI pr)) 64 (nI at648)) 65 ne0) 66 (nI lk)) 67 (nI mf)) 68 (nI mm)) 15 (nI 0)) 64 (nI at648)) (updA (updA (stR (stR (stR (stR (stR (stR B 26 dc 1) 25 dc (nI (at0 + 1))) 24 dc (nI v672)) 27 dc (-1)) 28 dc (-1)) 29 dc 0) 2 K) 2 K)) _ := hP
        have hD : va_D A (mW G h0 a (upd (upd (upd (upd (upd (upd (upd (upd (upd (upd (upd (upd (upd (upd (upd (upd (upd F 15 0) 16 pl650) 27 (nI nd)) 31 (nI wr)) 34 (nI lz)) 35 (nI (dc + 1))) 44 (nI fd)) 49 (nI md)) 59 (nI bk)) 60 (nI pr)) 64 (nI at648)) 65 ne0) 66 (nI lk)) 67 (nI mf)) 68 (nI mm)) 15 (nI 0)) 64 (nI at648)) (updA (updA (stR (stR (stR (stR (stR (stR B 26 dc 1) 25 dc (nI (at0 + 1))) 24 dc (nI v672)) 27 dc (-1)) 28 dc (-1)) 29 dc 0) 2 K) 2 K)) := hD
        refine pc_V0 (G := G) (As := [.int 317]) (rest := []) hx hb hml hown hq hE hX pX0_al hP hD hS hA hl.1 (R_may l G h0 a (upd (upd (upd (upd (upd (upd (upd (upd (upd (upd (upd (upd (upd (upd (upd F 15 0) 16 pl650) 27 (nI nd)) 31 (nI wr)) 34 (nI lz)) 35 (nI (dc + 1))) 44 (nI fd)) 49 (nI md)) 59 (nI bk)) 60 (nI pr)) 64 (nI at648)) 65 ne0) 66 (nI lk)) 67 (nI mf)) 68 (nI mm)) (updA (stR (stR (stR (stR (stR (stR B 26 dc 1) 25 dc (nI (at0 + 1))) 24 dc (nI v672)) 27 dc (-1)) 28 dc (-1)) 29 dc 0) 2 K) at648 T 0 K 317 (by omega) (by omega) hK (by omega) (by decide) (by decide)) (gV pw_1621 pw_1622 pw_1623 pw_1523 pw_1605) hV_X12_may 0 9 rfl rfl rfl rfl (Nat.le_of_ble_eq_true rfl) dX12_declaration_143 ⟨Nat.le_of_ble_eq_true rfl, Nat.le_of_ble_eq_true rfl⟩ ⟨Nat.le_of_ble_eq_true rfl, Nat.le_of_ble_eq_true rfl⟩ (fun v844 u842 H locs hw843 hP hD hS => ?_)
        obtain ⟨at845, r846⟩ := u842
        obtain ⟨hw843, h847, h848, h849, h850, h851, h852⟩ := hw843
        replace h847 : r846 ≤ 1 := h847
        replace h848 : 0 + 100 * r846 ≤ 100 := h848
        replace h849 : at845 = at648 + r846 := h849
        replace h850 : at845 ≤ T := h850
        replace h851 : If (r846 = 1) (K at648 = 317) := h851
        replace h852 : If (r846 = 0) (0 = 0 → ¬ K at648 = 317) := h852
        obtain rfl : v844 = some (.int (nI r846)) := hw843
        have hP : va_P G.1 pCl (mW G h0 a (upd (upd (upd (upd (upd (upd (upd (upd (upd (upd (upd (upd (upd (upd (upd F 15 0) 16 pl650) 27 (nI nd)) 31 (nI wr)) 34 (nI lz)) 35 (nI (dc + 1))) 44 (nI fd)) 49 (nI md)) 59 (nI bk)) 60 (nI pr)) 64 (nI at845)) 65 ne0) 66 (nI lk)) 67 (nI mf)) 68 (nI mm)) (updA (stR (stR (stR (stR (stR (stR B 26 dc 1) 25 dc (nI (at0 + 1))) 24 dc (nI v672)) 27 dc (-1)) 28 dc (-1)) 29 dc 0) 2 K)) _ := hP
        have hD : va_D A (mW G h0 a (upd (upd (upd (upd (upd (upd (upd (upd (upd (upd (upd (upd (upd (upd (upd F 15 0) 16 pl650) 27 (nI nd)) 31 (nI wr)) 34 (nI lz)) 35 (nI (dc + 1))) 44 (nI fd)) 49 (nI md)) 59 (nI bk)) 60 (nI pr)) 64 (nI at845)) 65 ne0) 66 (nI lk)) 67 (nI mf)) 68 (nI mm)) (updA (stR (stR (stR (stR (stR (stR B 26 dc 1) 25 dc (nI (at0 + 1))) 24 dc (nI v672)) 27 dc (-1)) 28 dc (-1)) 29 dc 0) 2 K)) := hD
        refine W.widen (k := 0) (n := 0) (Nat.le_of_ble_eq_true rfl) (Nat.le_of_ble_eq_true rfl) ?_
        refine W.eq (g2 := F0 m 146 ls [.int (nI r846)]) rfl ?_
        refine lv_if_eq (tgt := 213) hx hb dX12_declaration_146 (by decide) (fun c853 => ?_) (fun c853 => ?_)
        · have n854 : r846 = 0 := (nI_eq (a := r846) (b := 0) (by omega) (by omega)).mp c853
          refine lv_iload_n hx hb dX12_declaration_213 rfl (lv_at hl 1 rfl) ?_
          refine lv_if_ne (tgt := 237) hx hb dX12_declaration_214 (by decide) (fun c855 => ?_) (fun c855 => absurd c855 (by decide))
          have hP : va_P G.1 pCl (mW G h0 a (upd (upd (upd (upd (upd (upd (upd (upd (upd (upd (upd (upd (upd (upd (upd F 15 0) 16 pl650) 27 (nI nd)) 31 (nI wr)) 34 (nI lz)) 35 (nI (dc + 1))) 44 (nI fd)) 49 (nI md)) 59 (nI bk)) 60 (nI pr)) 64 (nI at845)) 65 ne0) 66 (nI lk)) 67 (nI mf)) 68 (nI mm)) (updA (stR (stR (stR (stR (stR (stR B 26 dc 1) 25 dc (nI (at0 + 1))) 24 dc (nI v672)) 27 dc (-1)) 28 dc (-1)) 29 dc 0) 2 K)) _ := hP
          have hD : va_D A (mW G h0 a (upd (upd (upd (upd (upd (upd (upd (upd (upd (upd (upd (upd (upd (upd (upd F 15 0) 16 pl650) 27 (nI nd)) 31 (nI wr)) 34 (nI lz)) 35 (nI (dc + 1))) 44 (nI fd)) 49 (nI md)) 59 (nI bk)) 60 (nI pr)) 64 (nI at845)) 65 ne0) 66 (nI lk)) 67 (nI mf)) 68 (nI mm)) (updA (stR (stR (stR (stR (stR (stR B 26 dc 1) 25 dc (nI (at0 + 1))) 24 dc (nI v672)) 27 dc (-1)) 28 dc (-1)) 29 dc 0) 2 K)) := hD
          exact cut_j at845 lz pl650 (stR (stR (stR (stR (stR (stR B 26 dc 1) 25 dc (nI (at0 + 1))) 24 dc (nI v672)) 27 dc (-1)) 28 dc (-1)) 29 dc 0) _ _ _ (by omega) (by omega) (by omega) hkq702 (PS.dec hps709 (by omega) hce704 (by omega) hce705 (by omega) hce703 (Or.inr rfl) hce706 (Or.inl rfl) hce707 (Or.inl rfl)) hfm710 hty708 hlr711 hP hD hS (lv_sub hl [0, 2] rfl)
        · have n856 : ¬ (r846 = 0) := fun h9 => c853 ((nI_eq (a := r846) (b := 0) (by omega) (by omega)).mpr h9)
          refine lv_iload_n hx hb dX12_declaration_149 rfl (lv_at hl 1 rfl) ?_
          refine lv_if_eq (tgt := 166) hx hb dX12_declaration_150 (by decide) (fun c857 => absurd c857 (by decide)) (fun c857 => ?_)
          refine lv_aload_n hx hb dX12_declaration_153 rfl (lv_at hl 2 rfl) ?_
          refine r_get (v := .ref (a 27)) hx hb hown hq hE hP 39 93 tFX12_39 (by decide) pw_1458 rfl dX12_declaration_154 ?_
          refine lv_iload_n hx hb dX12_declaration_157 rfl (lv_at hl 0 rfl) ?_
          refine lv_aload_n hx hb dX12_declaration_158 rfl (lv_at hl 2 rfl) ?_
          have hP : va_P G.1 pCl (mW G h0 a (upd (upd (upd (upd (upd (upd (upd (upd (upd (upd (upd (upd (upd (upd (upd (upd (upd (upd F 15 0) 16 pl650) 27 (nI nd)) 31 (nI wr)) 34 (nI lz)) 35 (nI (dc + 1))) 44 (nI fd)) 49 (nI md)) 59 (nI bk)) 60 (nI pr)) 64 (nI at845)) 65 ne0) 66 (nI lk)) 67 (nI mf)) 68 (nI mm)) 15 (nI 0)) 34 (nI lz)) 64 (nI at845)) (updA (updA (updA (updA (stR (stR (stR (stR (stR (stR B 26 dc 1) 25 dc (nI (at0 + 1))) 24 dc (nI v672)) 27 dc (-1)) 28 dc (-1)) 29 dc 0) 2 K) 2 K) 22 ((stR (stR (stR (stR (stR (stR B 26 dc 1) 25 dc (nI (at0 + 1))) 24 dc (nI v672)) 27 dc (-1)) 28 dc (-1)) 29 dc 0) 22)) 23 ((stR (stR (stR (stR (stR (stR B 26 dc 1) 25 dc (nI (at0 + 1))) 24 dc (nI v672)) 27 dc (-1)) 28 dc (-1)) 29 dc 0) 23))) _ := hP
          have hD : va_D A (mW G h0 a (upd (upd (upd (upd (upd (upd (upd (upd (upd (upd (upd (upd (upd (upd (upd (upd (upd (upd F 15 0) 16 pl650) 27 (nI nd)) 31 (nI wr)) 34 (nI lz)) 35 (nI (dc + 1))) 44 (nI fd)) 49 (nI md)) 59 (nI bk)) 60 (nI pr)) 64 (nI at845)) 65 ne0) 66 (nI lk)) 67 (nI mf)) 68 (nI mm)) 15 (nI 0)) 34 (nI lz)) 64 (nI at845)) (updA (updA (updA (updA (stR (stR (stR (stR (stR (stR B 26 dc 1) 25 dc (nI (at0 + 1))) 24 dc (nI v672)) 27 dc (-1)) 28 dc (-1)) 29 dc 0) 2 K) 2 K) 22 ((stR (stR (stR (stR (stR (stR B 26 dc 1) 25 dc (nI (at0 + 1))) 24 dc (nI v672)) 27 dc (-1)) 28 dc (-1)) 29 dc 0) 22)) 23 ((stR (stR (stR (stR (stR (stR B 26 dc 1) 25 dc (nI (at0 + 1))) 24 dc (nI v672)) 27 dc (-1)) 28 dc (-1)) 29 dc 0) 23))) := hD
          refine pc_V0 (G := G) (As := []) (rest := [.int (nI dc), .ref (a 27)]) hx hb hml hown hq hE hX pX0_al hP hD hS hA hl.1 (R_listOfNames l G h0 a (upd (upd (upd (upd (upd (upd (upd (upd (upd (upd (upd (upd (upd (upd (upd F 15 0) 16 pl650) 27 (nI nd)) 31 (nI wr)) 34 (nI lz)) 35 (nI (dc + 1))) 44 (nI fd)) 49 (nI md)) 59 (nI bk)) 60 (nI pr)) 64 (nI at845)) 65 ne0) 66 (nI lk)) 67 (nI mf)) 68 (nI mm)) (updA (stR (stR (stR (stR (stR (stR B 26 dc 1) 25 dc (nI (at0 + 1))) 24 dc (nI v672)) 27 dc (-1)) 28 dc (-1)) 29 dc 0) 2 K) at845 T 0 K lz ((stR (stR (stR (stR (stR (stR B 26 dc 1) 25 dc (nI (at0 + 1))) 24 dc (nI v672)) 27 dc (-1)) 28 dc (-1)) 29 dc 0) 22) ((stR (stR (stR (stR (stR (stR B 26 dc 1) 25 dc (nI (at0 + 1))) 24 dc (nI v672)) 27 dc (-1)) 28 dc (-1)) 29 dc 0) 23) (by omega) (by omega) hK (by omega) (by omega) hlr711) (gV pw_1733 pw_1734 pw_1735 pw_1523 pw_1624) hV_X12_listOfNames 0 9 rfl rfl rfl rfl (Nat.le_of_ble_eq_true rfl) dX12_declaration_159 ⟨Nat.le_of_ble_eq_true rfl, Nat.le_of_ble_eq_true rfl⟩ ⟨Nat.le_of_ble_eq_true rfl, Nat.le_of_ble_eq_true rfl⟩ (fun v860 u858 H locs hw859 hP hD hS => ?_)
          obtain ⟨at861, fa862, pl863, ls864, lt865, ln866, r867⟩ := u858
          obtain ⟨hw859, h868, h869, h870, h871, h872, h873, h874, h875, h876, h877, h878⟩ := hw859
          replace h868 : at845 ≤ at861 := h868
          replace h869 : at861 ≤ T := h869
          replace h870 : 0 ≤ fa862 := h870
          replace h871 : fa862 ≤ 100 := h871
          replace h872 : If (0 < 0) (at861 = at845 ∧ fa862 = 0) := h872
          replace h873 : lz ≤ ls864 := h873
          replace h874 : ls864 + at845 ≤ lz + at861 + fa862 := h874
          replace h875 : ls864 + at845 ≤ lz + at861 + 1 := h875
          replace h876 : lsRow lt865 ln866 ls864 T := h876
          replace h877 : r867 = -1 ∨ ∃ p : Nat, p < ls864 ∧ r867 = nI p := h877
          replace h878 : If (0 < 0) (ls864 = lz) := h878
          obtain rfl : v860 = some (.int r867) := hw859
          have hP : va_P G.1 pCl (mW G h0 a (upd (upd (upd (upd (upd (upd (upd (upd (upd (upd (upd (upd (upd (upd (upd F 15 (nI fa862)) 16 pl863) 27 (nI nd)) 31 (nI wr)) 34 (nI ls864)) 35 (nI (dc + 1))) 44 (nI fd)) 49 (nI md)) 59 (nI bk)) 60 (nI pr)) 64 (nI at861)) 65 ne0) 66 (nI lk)) 67 (nI mf)) 68 (nI mm)) (updA (updA (updA (stR (stR (stR (stR (stR (stR B 26 dc 1) 25 dc (nI (at0 + 1))) 24 dc (nI v672)) 27 dc (-1)) 28 dc (-1)) 29 dc 0) 2 K) 22 lt865) 23 ln866)) _ := hP
          have hD : va_D A (mW G h0 a (upd (upd (upd (upd (upd (upd (upd (upd (upd (upd (upd (upd (upd (upd (upd F 15 (nI fa862)) 16 pl863) 27 (nI nd)) 31 (nI wr)) 34 (nI ls864)) 35 (nI (dc + 1))) 44 (nI fd)) 49 (nI md)) 59 (nI bk)) 60 (nI pr)) 64 (nI at861)) 65 ne0) 66 (nI lk)) 67 (nI mf)) 68 (nI mm)) (updA (updA (updA (stR (stR (stR (stR (stR (stR B 26 dc 1) 25 dc (nI (at0 + 1))) 24 dc (nI v672)) 27 dc (-1)) 28 dc (-1)) 29 dc 0) 2 K) 22 lt865) 23 ln866)) := hD
          refine W.widen (k := 0) (n := 0) (Nat.le_of_ble_eq_true rfl) (Nat.le_of_ble_eq_true rfl) ?_
          refine W.eq (g2 := F0 m 162 ls [.int r867, .int (nI dc), .ref (a 27)]) rfl ?_
          have hP : va_P G.1 pCl (mW G h0 a (upd (upd (upd (upd (upd (upd (upd (upd (upd (upd (upd (upd (upd (upd (upd F 15 (nI fa862)) 16 pl863) 27 (nI nd)) 31 (nI wr)) 34 (nI ls864)) 35 (nI (dc + 1))) 44 (nI fd)) 49 (nI md)) 59 (nI bk)) 60 (nI pr)) 64 (nI at861)) 65 ne0) 66 (nI lk)) 67 (nI mf)) 68 (nI mm)) (updA (updA (updA (stR (stR (stR (stR (stR (stR B 26 dc 1) 25 dc (nI (at0 + 1))) 24 dc (nI v672)) 27 dc (-1)) 28 dc (-1)) 29 dc 0) 22 lt865) 23 ln866) 2 K)) _ := hP
          have hD : va_D A (mW G h0 a (upd (upd (upd (upd (upd (upd (upd (upd (upd (upd (upd (upd (upd (upd (upd F 15 (nI fa862)) 16 pl863) 27 (nI nd)) 31 (nI wr)) 34 (nI ls864)) 35 (nI (dc + 1))) 44 (nI fd)) 49 (nI md)) 59 (nI bk)) 60 (nI pr)) 64 (nI at861)) 65 ne0) 66 (nI lk)) 67 (nI mf)) 68 (nI mm)) (updA (updA (updA (stR (stR (stR (stR (stR (stR B 26 dc 1) 25 dc (nI (at0 + 1))) 24 dc (nI v672)) 27 dc (-1)) 28 dc (-1)) 29 dc 0) 22 lt865) 23 ln866) 2 K)) := hD
          rcases Nat.eq_zero_or_pos fa862 with e879 | e879
          · subst e879
            have hP : va_P G.1 pCl (mW G h0 a (upd (upd (upd (upd (upd (upd (upd (upd (upd (upd (upd (upd (upd (upd (upd F 15 0) 16 pl863) 27 (nI nd)) 31 (nI wr)) 34 (nI ls864)) 35 (nI (dc + 1))) 44 (nI fd)) 49 (nI md)) 59 (nI bk)) 60 (nI pr)) 64 (nI at861)) 65 ne0) 66 (nI lk)) 67 (nI mf)) 68 (nI mm)) (updA (updA (updA (stR (stR (stR (stR (stR (stR B 26 dc 1) 25 dc (nI (at0 + 1))) 24 dc (nI v672)) 27 dc (-1)) 28 dc (-1)) 29 dc 0) 22 lt865) 23 ln866) 2 K)) _ := hP
            have hD : va_D A (mW G h0 a (upd (upd (upd (upd (upd (upd (upd (upd (upd (upd (upd (upd (upd (upd (upd F 15 0) 16 pl863) 27 (nI nd)) 31 (nI wr)) 34 (nI ls864)) 35 (nI (dc + 1))) 44 (nI fd)) 49 (nI md)) 59 (nI bk)) 60 (nI pr)) 64 (nI at861)) 65 ne0) 66 (nI lk)) 67 (nI mf)) 68 (nI mm)) (updA (updA (updA (stR (stR (stR (stR (stR (stR B 26 dc 1) 25 dc (nI (at0 + 1))) 24 dc (nI v672)) 27 dc (-1)) 28 dc (-1)) 29 dc 0) 22 lt865) 23 ln866) 2 K)) := hD
            have hkq880 : Kq B (updA (updA (stR (stR (stR (stR (stR (stR B 26 dc 1) 25 dc (nI (at0 + 1))) 24 dc (nI v672)) 27 dc (-1)) 28 dc (-1)) 29 dc 0) 22 lt865) 23 ln866) := (Kq.row (Kq.row hkq702 (by omega)) (by omega))
            have hce881 : (updA (updA (stR (stR (stR (stR (stR (stR B 26 dc 1) 25 dc (nI (at0 + 1))) 24 dc (nI v672)) 27 dc (-1)) 28 dc (-1)) 29 dc 0) 22 lt865) 23 ln866) 26 dc = 1 := hce703
            have hce882 : (updA (updA (stR (stR (stR (stR (stR (stR B 26 dc 1) 25 dc (nI (at0 + 1))) 24 dc (nI v672)) 27 dc (-1)) 28 dc (-1)) 29 dc 0) 22 lt865) 23 ln866) 25 dc = (nI (at0 + 1)) := hce704
            have hce883 : (updA (updA (stR (stR (stR (stR (stR (stR B 26 dc 1) 25 dc (nI (at0 + 1))) 24 dc (nI v672)) 27 dc (-1)) 28 dc (-1)) 29 dc 0) 22 lt865) 23 ln866) 24 dc = (nI v672) := hce705
            have hce884 : (updA (updA (stR (stR (stR (stR (stR (stR B 26 dc 1) 25 dc (nI (at0 + 1))) 24 dc (nI v672)) 27 dc (-1)) 28 dc (-1)) 29 dc 0) 22 lt865) 23 ln866) 27 dc = (-1) := hce706
            have hce885 : (updA (updA (stR (stR (stR (stR (stR (stR B 26 dc 1) 25 dc (nI (at0 + 1))) 24 dc (nI v672)) 27 dc (-1)) 28 dc (-1)) 29 dc 0) 22 lt865) 23 ln866) 28 dc = (-1) := hce707
            have hce886 : (updA (updA (stR (stR (stR (stR (stR (stR B 26 dc 1) 25 dc (nI (at0 + 1))) 24 dc (nI v672)) 27 dc (-1)) 28 dc (-1)) 29 dc 0) 22 lt865) 23 ln866) 29 dc = 0 := hce712
            have hty887 : tkRow ((updA (updA (stR (stR (stR (stR (stR (stR B 26 dc 1) 25 dc (nI (at0 + 1))) 24 dc (nI v672)) 27 dc (-1)) 28 dc (-1)) 29 dc 0) 22 lt865) 23 ln866) 19) wr T := hty708
            have hps888 : PS T nm wr ls864 dc fd md pr bk (updA (updA (stR (stR (stR (stR (stR (stR B 26 dc 1) 25 dc (nI (at0 + 1))) 24 dc (nI v672)) 27 dc (-1)) 28 dc (-1)) 29 dc 0) 22 lt865) 23 ln866) := (PS.same hps709 (by omega) (by omega) (fun r i q1 q2 q3 => by unfold updA; rw [if_neg (by omega), if_neg (by omega)]))
            have hfm889 : FrM K T wr (updA (updA (stR (stR (stR (stR (stR (stR B 26 dc 1) 25 dc (nI (at0 + 1))) 24 dc (nI v672)) 27 dc (-1)) 28 dc (-1)) 29 dc 0) 22 lt865) 23 ln866) nd md := (FrM.same hfm710 (by omega) (fun j i q1 q2 q3 => by unfold updA; rw [if_neg (by omega), if_neg (by omega)]) (fun i q => rfl))
            have hlr890 : lsRow ((updA (updA (stR (stR (stR (stR (stR (stR B 26 dc 1) 25 dc (nI (at0 + 1))) 24 dc (nI v672)) 27 dc (-1)) 28 dc (-1)) 29 dc 0) 22 lt865) 23 ln866) 22) ((updA (updA (stR (stR (stR (stR (stR (stR B 26 dc 1) 25 dc (nI (at0 + 1))) 24 dc (nI v672)) 27 dc (-1)) 28 dc (-1)) 29 dc 0) 22 lt865) 23 ln866) 23) ls864 T := h876
            refine r_sti (f := ((updA (updA (stR (stR (stR (stR (stR (stR B 26 dc 1) 25 dc (nI (at0 + 1))) 24 dc (nI v672)) 27 dc (-1)) 28 dc (-1)) 29 dc 0) 22 lt865) 23 ln866) 27)) (j := dc) hx hb hE hP hD hS 27 (ma_27 G a _) rfl (mas_27 G a _) (by omega) (by decide) dX12_declaration_162 (fun H locs hP hD hS => ?_)
            have hP : va_P G.1 pCl (mW G h0 a (upd (upd (upd (upd (upd (upd (upd (upd (upd (upd (upd (upd (upd (upd (upd F 15 0) 16 pl863) 27 (nI nd)) 31 (nI wr)) 34 (nI ls864)) 35 (nI (dc + 1))) 44 (nI fd)) 49 (nI md)) 59 (nI bk)) 60 (nI pr)) 64 (nI at861)) 65 ne0) 66 (nI lk)) 67 (nI mf)) 68 (nI mm)) (updA (stR (updA (updA (stR (stR (stR (stR (stR (stR B 26 dc 1) 25 dc (nI (at0 + 1))) 24 dc (nI v672)) 27 dc (-1)) 28 dc (-1)) 29 dc 0) 22 lt865) 23 ln866) 27 dc r867) 2 K)) _ := hP
            have hD : va_D A (mW G h0 a (upd (upd (upd (upd (upd (upd (upd (upd (upd (upd (upd (upd (upd (upd (upd F 15 0) 16 pl863) 27 (nI nd)) 31 (nI wr)) 34 (nI ls864)) 35 (nI (dc + 1))) 44 (nI fd)) 49 (nI md)) 59 (nI bk)) 60 (nI pr)) 64 (nI at861)) 65 ne0) 66 (nI lk)) 67 (nI mf)) 68 (nI mm)) (updA (stR (updA (updA (stR (stR (stR (stR (stR (stR B 26 dc 1) 25 dc (nI (at0 + 1))) 24 dc (nI v672)) 27 dc (-1)) 28 dc (-1)) 29 dc 0) 22 lt865) 23 ln866) 27 dc r867) 2 K)) := hD
            have hkq891 : Kq B (stR (updA (updA (stR (stR (stR (stR (stR (stR B 26 dc 1) 25 dc (nI (at0 + 1))) 24 dc (nI v672)) 27 dc (-1)) 28 dc (-1)) 29 dc 0) 22 lt865) 23 ln866) 27 dc r867) := (Kq.st hkq880 (by omega))
            have hce892 : (stR (updA (updA (stR (stR (stR (stR (stR (stR B 26 dc 1) 25 dc (nI (at0 + 1))) 24 dc (nI v672)) 27 dc (-1)) 28 dc (-1)) 29 dc 0) 22 lt865) 23 ln866) 27 dc r867) 26 dc = 1 := ((st_ne (by omega)).trans hce881)
            have hce893 : (stR (updA (updA (stR (stR (stR (stR (stR (stR B 26 dc 1) 25 dc (nI (at0 + 1))) 24 dc (nI v672)) 27 dc (-1)) 28 dc (-1)) 29 dc 0) 22 lt865) 23 ln866) 27 dc r867) 25 dc = (nI (at0 + 1)) := ((st_ne (by omega)).trans hce882)
            have hce894 : (stR (updA (updA (stR (stR (stR (stR (stR (stR B 26 dc 1) 25 dc (nI (at0 + 1))) 24 dc (nI v672)) 27 dc (-1)) 28 dc (-1)) 29 dc 0) 22 lt865) 23 ln866) 27 dc r867) 24 dc = (nI v672) := ((st_ne (by omega)).trans hce883)
            have hce895 : (stR (updA (updA (stR (stR (stR (stR (stR (stR B 26 dc 1) 25 dc (nI (at0 + 1))) 24 dc (nI v672)) 27 dc (-1)) 28 dc (-1)) 29 dc 0) 22 lt865) 23 ln866) 27 dc r867) 27 dc = r867 := st_eq
            have hce896 : (stR (updA (updA (stR (stR (stR (stR (stR (stR B 26 dc 1) 25 dc (nI (at0 + 1))) 24 dc (nI v672)) 27 dc (-1)) 28 dc (-1)) 29 dc 0) 22 lt865) 23 ln866) 27 dc r867) 28 dc = (-1) := ((st_ne (by omega)).trans hce885)
            have hce897 : (stR (updA (updA (stR (stR (stR (stR (stR (stR B 26 dc 1) 25 dc (nI (at0 + 1))) 24 dc (nI v672)) 27 dc (-1)) 28 dc (-1)) 29 dc 0) 22 lt865) 23 ln866) 27 dc r867) 29 dc = 0 := ((st_ne (by omega)).trans hce886)
            have hty898 : tkRow ((stR (updA (updA (stR (stR (stR (stR (stR (stR B 26 dc 1) 25 dc (nI (at0 + 1))) 24 dc (nI v672)) 27 dc (-1)) 28 dc (-1)) 29 dc 0) 22 lt865) 23 ln866) 27 dc r867) 19) wr T := hty887
            have hps899 : PS T nm wr ls864 dc fd md pr bk (stR (updA (updA (stR (stR (stR (stR (stR (stR B 26 dc 1) 25 dc (nI (at0 + 1))) 24 dc (nI v672)) 27 dc (-1)) 28 dc (-1)) 29 dc 0) 22 lt865) 23 ln866) 27 dc r867) := (PS.same hps888 (by omega) (by omega) (fun r i q1 q2 q3 => st_ne (fun e => by rw [e.1, e.2] at q3; exact absurd (show dc < dc from q3) (by omega))))
            have hfm900 : FrM K T wr (stR (updA (updA (stR (stR (stR (stR (stR (stR B 26 dc 1) 25 dc (nI (at0 + 1))) 24 dc (nI v672)) 27 dc (-1)) 28 dc (-1)) 29 dc 0) 22 lt865) 23 ln866) 27 dc r867) nd md := (FrM.same hfm889 (by omega) (fun j i q1 q2 q3 => st_ne (by omega)) (fun i q => st_ne (by omega)))
            have hlr901 : lsRow ((stR (updA (updA (stR (stR (stR (stR (stR (stR B 26 dc 1) 25 dc (nI (at0 + 1))) 24 dc (nI v672)) 27 dc (-1)) 28 dc (-1)) 29 dc 0) 22 lt865) 23 ln866) 27 dc r867) 22) ((stR (updA (updA (stR (stR (stR (stR (stR (stR B 26 dc 1) 25 dc (nI (at0 + 1))) 24 dc (nI v672)) 27 dc (-1)) 28 dc (-1)) 29 dc 0) 22 lt865) 23 ln866) 27 dc r867) 23) ls864 T := hlr890
            refine lv_goto (tgt := 213) hx hb dX12_declaration_163 (by decide) ?_
            refine lv_iload_n hx hb dX12_declaration_213 rfl (lv_at hl 1 rfl) ?_
            refine lv_if_ne (tgt := 237) hx hb dX12_declaration_214 (by decide) (fun c902 => ?_) (fun c902 => absurd c902 (by decide))
            have hP : va_P G.1 pCl (mW G h0 a (upd (upd (upd (upd (upd (upd (upd (upd (upd (upd (upd (upd (upd (upd (upd F 15 0) 16 pl863) 27 (nI nd)) 31 (nI wr)) 34 (nI ls864)) 35 (nI (dc + 1))) 44 (nI fd)) 49 (nI md)) 59 (nI bk)) 60 (nI pr)) 64 (nI at861)) 65 ne0) 66 (nI lk)) 67 (nI mf)) 68 (nI mm)) (updA (stR (updA (updA (stR (stR (stR (stR (stR (stR B 26 dc 1) 25 dc (nI (at0 + 1))) 24 dc (nI v672)) 27 dc (-1)) 28 dc (-1)) 29 dc 0) 22 lt865) 23 ln866) 27 dc r867) 2 K)) _ := hP
            have hD : va_D A (mW G h0 a (upd (upd (upd (upd (upd (upd (upd (upd (upd (upd (upd (upd (upd (upd (upd F 15 0) 16 pl863) 27 (nI nd)) 31 (nI wr)) 34 (nI ls864)) 35 (nI (dc + 1))) 44 (nI fd)) 49 (nI md)) 59 (nI bk)) 60 (nI pr)) 64 (nI at861)) 65 ne0) 66 (nI lk)) 67 (nI mf)) 68 (nI mm)) (updA (stR (updA (updA (stR (stR (stR (stR (stR (stR B 26 dc 1) 25 dc (nI (at0 + 1))) 24 dc (nI v672)) 27 dc (-1)) 28 dc (-1)) 29 dc 0) 22 lt865) 23 ln866) 27 dc r867) 2 K)) := hD
            exact cut_j at861 ls864 pl863 (stR (updA (updA (stR (stR (stR (stR (stR (stR B 26 dc 1) 25 dc (nI (at0 + 1))) 24 dc (nI v672)) 27 dc (-1)) 28 dc (-1)) 29 dc 0) 22 lt865) 23 ln866) 27 dc r867) _ _ _ (by omega) (by omega) (by omega) hkq891 (PS.dec hps899 (by omega) hce893 (by omega) hce894 (by omega) hce892 (Or.inr rfl) hce895 (OrY.mono (wr := ls864) (h877.imp id (fun ⟨p, a, b⟩ => ⟨p, b, a⟩)) (by omega)) hce896 (Or.inl rfl)) hfm900 hty898 hlr901 hP hD hS (lv_sub hl [0, 2] rfl)
          · have e879 := e879
            have hkq903 : Kq B (updA (updA (stR (stR (stR (stR (stR (stR B 26 dc 1) 25 dc (nI (at0 + 1))) 24 dc (nI v672)) 27 dc (-1)) 28 dc (-1)) 29 dc 0) 22 lt865) 23 ln866) := (Kq.row (Kq.row hkq702 (by omega)) (by omega))
            have hce904 : (updA (updA (stR (stR (stR (stR (stR (stR B 26 dc 1) 25 dc (nI (at0 + 1))) 24 dc (nI v672)) 27 dc (-1)) 28 dc (-1)) 29 dc 0) 22 lt865) 23 ln866) 26 dc = 1 := hce703
            have hce905 : (updA (updA (stR (stR (stR (stR (stR (stR B 26 dc 1) 25 dc (nI (at0 + 1))) 24 dc (nI v672)) 27 dc (-1)) 28 dc (-1)) 29 dc 0) 22 lt865) 23 ln866) 25 dc = (nI (at0 + 1)) := hce704
            have hce906 : (updA (updA (stR (stR (stR (stR (stR (stR B 26 dc 1) 25 dc (nI (at0 + 1))) 24 dc (nI v672)) 27 dc (-1)) 28 dc (-1)) 29 dc 0) 22 lt865) 23 ln866) 24 dc = (nI v672) := hce705
            have hce907 : (updA (updA (stR (stR (stR (stR (stR (stR B 26 dc 1) 25 dc (nI (at0 + 1))) 24 dc (nI v672)) 27 dc (-1)) 28 dc (-1)) 29 dc 0) 22 lt865) 23 ln866) 27 dc = (-1) := hce706
            have hce908 : (updA (updA (stR (stR (stR (stR (stR (stR B 26 dc 1) 25 dc (nI (at0 + 1))) 24 dc (nI v672)) 27 dc (-1)) 28 dc (-1)) 29 dc 0) 22 lt865) 23 ln866) 28 dc = (-1) := hce707
            have hce909 : (updA (updA (stR (stR (stR (stR (stR (stR B 26 dc 1) 25 dc (nI (at0 + 1))) 24 dc (nI v672)) 27 dc (-1)) 28 dc (-1)) 29 dc 0) 22 lt865) 23 ln866) 29 dc = 0 := hce712
            have hty910 : tkRow ((updA (updA (stR (stR (stR (stR (stR (stR B 26 dc 1) 25 dc (nI (at0 + 1))) 24 dc (nI v672)) 27 dc (-1)) 28 dc (-1)) 29 dc 0) 22 lt865) 23 ln866) 19) wr T := hty708
            refine r_sti (f := ((updA (updA (stR (stR (stR (stR (stR (stR B 26 dc 1) 25 dc (nI (at0 + 1))) 24 dc (nI v672)) 27 dc (-1)) 28 dc (-1)) 29 dc 0) 22 lt865) 23 ln866) 27)) (j := dc) hx hb hE hP hD hS 27 (ma_27 G a _) rfl (mas_27 G a _) (by omega) (by decide) dX12_declaration_162 (fun H locs hP hD hS => ?_)
            have hP : va_P G.1 pCl (mW G h0 a (upd (upd (upd (upd (upd (upd (upd (upd (upd (upd (upd (upd (upd (upd (upd F 15 (nI fa862)) 16 pl863) 27 (nI nd)) 31 (nI wr)) 34 (nI ls864)) 35 (nI (dc + 1))) 44 (nI fd)) 49 (nI md)) 59 (nI bk)) 60 (nI pr)) 64 (nI at861)) 65 ne0) 66 (nI lk)) 67 (nI mf)) 68 (nI mm)) (updA (stR (updA (updA (stR (stR (stR (stR (stR (stR B 26 dc 1) 25 dc (nI (at0 + 1))) 24 dc (nI v672)) 27 dc (-1)) 28 dc (-1)) 29 dc 0) 22 lt865) 23 ln866) 27 dc r867) 2 K)) _ := hP
            have hD : va_D A (mW G h0 a (upd (upd (upd (upd (upd (upd (upd (upd (upd (upd (upd (upd (upd (upd (upd F 15 (nI fa862)) 16 pl863) 27 (nI nd)) 31 (nI wr)) 34 (nI ls864)) 35 (nI (dc + 1))) 44 (nI fd)) 49 (nI md)) 59 (nI bk)) 60 (nI pr)) 64 (nI at861)) 65 ne0) 66 (nI lk)) 67 (nI mf)) 68 (nI mm)) (updA (stR (updA (updA (stR (stR (stR (stR (stR (stR B 26 dc 1) 25 dc (nI (at0 + 1))) 24 dc (nI v672)) 27 dc (-1)) 28 dc (-1)) 29 dc 0) 22 lt865) 23 ln866) 27 dc r867) 2 K)) := hD
            have hkq911 : Kq B (stR (updA (updA (stR (stR (stR (stR (stR (stR B 26 dc 1) 25 dc (nI (at0 + 1))) 24 dc (nI v672)) 27 dc (-1)) 28 dc (-1)) 29 dc 0) 22 lt865) 23 ln866) 27 dc r867) := (Kq.st hkq903 (by omega))
            have hce912 : (stR (updA (updA (stR (stR (stR (stR (stR (stR B 26 dc 1) 25 dc (nI (at0 + 1))) 24 dc (nI v672)) 27 dc (-1)) 28 dc (-1)) 29 dc 0) 22 lt865) 23 ln866) 27 dc r867) 26 dc = 1 := ((st_ne (by omega)).trans hce904)
            have hce913 : (stR (updA (updA (stR (stR (stR (stR (stR (stR B 26 dc 1) 25 dc (nI (at0 + 1))) 24 dc (nI v672)) 27 dc (-1)) 28 dc (-1)) 29 dc 0) 22 lt865) 23 ln866) 27 dc r867) 25 dc = (nI (at0 + 1)) := ((st_ne (by omega)).trans hce905)
            have hce914 : (stR (updA (updA (stR (stR (stR (stR (stR (stR B 26 dc 1) 25 dc (nI (at0 + 1))) 24 dc (nI v672)) 27 dc (-1)) 28 dc (-1)) 29 dc 0) 22 lt865) 23 ln866) 27 dc r867) 24 dc = (nI v672) := ((st_ne (by omega)).trans hce906)
            have hce915 : (stR (updA (updA (stR (stR (stR (stR (stR (stR B 26 dc 1) 25 dc (nI (at0 + 1))) 24 dc (nI v672)) 27 dc (-1)) 28 dc (-1)) 29 dc 0) 22 lt865) 23 ln866) 27 dc r867) 27 dc = r867 := st_eq
            have hce916 : (stR (updA (updA (stR (stR (stR (stR (stR (stR B 26 dc 1) 25 dc (nI (at0 + 1))) 24 dc (nI v672)) 27 dc (-1)) 28 dc (-1)) 29 dc 0) 22 lt865) 23 ln866) 27 dc r867) 28 dc = (-1) := ((st_ne (by omega)).trans hce908)
            have hce917 : (stR (updA (updA (stR (stR (stR (stR (stR (stR B 26 dc 1) 25 dc (nI (at0 + 1))) 24 dc (nI v672)) 27 dc (-1)) 28 dc (-1)) 29 dc 0) 22 lt865) 23 ln866) 27 dc r867) 29 dc = 0 := ((st_ne (by omega)).trans hce909)
            have hty918 : tkRow ((stR (updA (updA (stR (stR (stR (stR (stR (stR B 26 dc 1) 25 dc (nI (at0 + 1))) 24 dc (nI v672)) 27 dc (-1)) 28 dc (-1)) 29 dc 0) 22 lt865) 23 ln866) 27 dc r867) 19) wr T := hty910
            refine lv_goto (tgt := 213) hx hb dX12_declaration_163 (by decide) ?_
            refine lv_iload_n hx hb dX12_declaration_213 rfl (lv_at hl 1 rfl) ?_
            refine lv_if_ne (tgt := 237) hx hb dX12_declaration_214 (by decide) (fun c919 => ?_) (fun c919 => absurd c919 (by decide))
            refine lv_aload_n hx hb dX12_declaration_237 rfl (lv_at hl 2 rfl) ?_
            refine lv_bipush (v := 123) hx hb dX12_declaration_238 (by decide) ?_
            have hP : va_P G.1 pCl (mW G h0 a (upd (upd (upd (upd (upd (upd (upd (upd (upd (upd (upd (upd (upd (upd (upd (upd (upd F 15 (nI fa862)) 16 pl863) 27 (nI nd)) 31 (nI wr)) 34 (nI ls864)) 35 (nI (dc + 1))) 44 (nI fd)) 49 (nI md)) 59 (nI bk)) 60 (nI pr)) 64 (nI at861)) 65 ne0) 66 (nI lk)) 67 (nI mf)) 68 (nI mm)) 15 (nI fa862)) 64 (nI at861)) (updA (updA (stR (updA (updA (stR (stR (stR (stR (stR (stR B 26 dc 1) 25 dc (nI (at0 + 1))) 24 dc (nI v672)) 27 dc (-1)) 28 dc (-1)) 29 dc 0) 22 lt865) 23 ln866) 27 dc r867) 2 K) 2 K)) _ := hP
            have hD : va_D A (mW G h0 a (upd (upd (upd (upd (upd (upd (upd (upd (upd (upd (upd (upd (upd (upd (upd (upd (upd F 15 (nI fa862)) 16 pl863) 27 (nI nd)) 31 (nI wr)) 34 (nI ls864)) 35 (nI (dc + 1))) 44 (nI fd)) 49 (nI md)) 59 (nI bk)) 60 (nI pr)) 64 (nI at861)) 65 ne0) 66 (nI lk)) 67 (nI mf)) 68 (nI mm)) 15 (nI fa862)) 64 (nI at861)) (updA (updA (stR (updA (updA (stR (stR (stR (stR (stR (stR B 26 dc 1) 25 dc (nI (at0 + 1))) 24 dc (nI v672)) 27 dc (-1)) 28 dc (-1)) 29 dc 0) 22 lt865) 23 ln866) 27 dc r867) 2 K) 2 K)) := hD
            refine pc_V0 (G := G) (As := [.int 123]) (rest := []) hx hb hml hown hq hE hX pX0_al hP hD hS hA hl.1 (R_take l G h0 a (upd (upd (upd (upd (upd (upd (upd (upd (upd (upd (upd (upd (upd (upd (upd F 15 (nI fa862)) 16 pl863) 27 (nI nd)) 31 (nI wr)) 34 (nI ls864)) 35 (nI (dc + 1))) 44 (nI fd)) 49 (nI md)) 59 (nI bk)) 60 (nI pr)) 64 (nI at861)) 65 ne0) 66 (nI lk)) 67 (nI mf)) 68 (nI mm)) (updA (stR (updA (updA (stR (stR (stR (stR (stR (stR B 26 dc 1) 25 dc (nI (at0 + 1))) 24 dc (nI v672)) 27 dc (-1)) 28 dc (-1)) 29 dc 0) 22 lt865) 23 ln866) 27 dc r867) 2 K) at861 T fa862 K 123 (by omega) (by omega) hK (by omega) (by decide) (by decide)) (gV pw_1614 pw_1615 pw_1616 pw_1523 pw_1601) hV_X12_take 0 9 rfl rfl rfl rfl (Nat.le_of_ble_eq_true rfl) dX12_declaration_240 ⟨Nat.le_of_ble_eq_true rfl, Nat.le_of_ble_eq_true rfl⟩ ⟨Nat.le_of_ble_eq_true rfl, Nat.le_of_ble_eq_true rfl⟩ (fun v922 u920 H locs hw921 hP hD hS => ?_)
            obtain ⟨at923, fa924, pl925⟩ := u920
            obtain ⟨hw921, h926, h927, h928, h929, h930, h931, h932, h933⟩ := hw921
            replace h926 : at861 ≤ at923 := h926
            replace h927 : at923 ≤ T := h927
            replace h928 : fa862 ≤ fa924 := h928
            replace h929 : fa924 ≤ 100 := h929
            replace h930 : If (0 < fa862) (at923 = at861 ∧ fa924 = fa862) := h930
            replace h931 : at923 ≤ at861 + 1 := h931
            replace h932 : at861 + 1 ≤ at923 + fa924 := h932
            replace h933 : If (fa924 = 0) (K at861 = 123) := h933
            obtain rfl : v922 = none := hw921
            have hP : va_P G.1 pCl (mW G h0 a (upd (upd (upd (upd (upd (upd (upd (upd (upd (upd (upd (upd (upd (upd (upd F 15 (nI fa924)) 16 pl925) 27 (nI nd)) 31 (nI wr)) 34 (nI ls864)) 35 (nI (dc + 1))) 44 (nI fd)) 49 (nI md)) 59 (nI bk)) 60 (nI pr)) 64 (nI at923)) 65 ne0) 66 (nI lk)) 67 (nI mf)) 68 (nI mm)) (updA (stR (updA (updA (stR (stR (stR (stR (stR (stR B 26 dc 1) 25 dc (nI (at0 + 1))) 24 dc (nI v672)) 27 dc (-1)) 28 dc (-1)) 29 dc 0) 22 lt865) 23 ln866) 27 dc r867) 2 K)) _ := hP
            have hD : va_D A (mW G h0 a (upd (upd (upd (upd (upd (upd (upd (upd (upd (upd (upd (upd (upd (upd (upd F 15 (nI fa924)) 16 pl925) 27 (nI nd)) 31 (nI wr)) 34 (nI ls864)) 35 (nI (dc + 1))) 44 (nI fd)) 49 (nI md)) 59 (nI bk)) 60 (nI pr)) 64 (nI at923)) 65 ne0) 66 (nI lk)) 67 (nI mf)) 68 (nI mm)) (updA (stR (updA (updA (stR (stR (stR (stR (stR (stR B 26 dc 1) 25 dc (nI (at0 + 1))) 24 dc (nI v672)) 27 dc (-1)) 28 dc (-1)) 29 dc 0) 22 lt865) 23 ln866) 27 dc r867) 2 K)) := hD
            refine W.widen (k := 0) (n := 0) (Nat.le_of_ble_eq_true rfl) (Nat.le_of_ble_eq_true rfl) ?_
            refine W.eq (g2 := F0 m 243 ls []) rfl ?_
            obtain ⟨n935, n934⟩ := h930 e879
            replace n935 := n935.symm
            subst n935
            replace n934 := n934.symm
            subst n934
            refine lv_aload_n hx hb dX12_declaration_243 rfl (lv_at hl 2 rfl) ?_
            refine lv_iconst (v := 0) hx hb dX12_declaration_244 (by decide) ?_
            refine r_put (v := 0) (ty := .int) hx hb hown hq hE hP hD hS 67 390 tFX12_67 (by decide) pw_1726 (by decide) rfl rfl (ms_67 a _ _) dX12_declaration_245 (fun H locs hP hD hS => ?_)
            refine lv_aload_n hx hb dX12_declaration_248 rfl (lv_at hl 2 rfl) ?_
            refine lv_iconst (v := 0) hx hb dX12_declaration_249 (by decide) ?_
            refine r_put (v := 0) (ty := .int) hx hb hown hq hE hP hD hS 68 393 tFX12_68 (by decide) pw_1722 (by decide) rfl rfl (ms_68 a _ _) dX12_declaration_250 (fun H locs hP hD hS => ?_)
            refine lv_aload_n hx hb dX12_declaration_253 rfl (lv_at hl 2 rfl) ?_
            refine r_get (v := .int (nI fa862)) hx hb hown hq hE hP 15 350 tFX12_15 (by decide) pw_1594 rfl dX12_declaration_254 ?_
            refine lv_if_ne (tgt := 277) hx hb dX12_declaration_257 (by decide) (fun c936 => ?_) (fun c936 => (by have n937 : fa862 = 0 := (nI_eq (a := fa862) (b := 0) (by omega) (by omega)).mp c936; omega))
            refine lv_aload_n hx hb dX12_declaration_277 rfl (lv_at hl 2 rfl) ?_
            refine lv_bipush (v := 125) hx hb dX12_declaration_278 (by decide) ?_
            have hP : va_P G.1 pCl (mW G h0 a (upd (upd (upd (upd (upd (upd (upd (upd (upd (upd (upd (upd (upd (upd (upd (upd (upd F 15 (nI fa862)) 16 pl925) 27 (nI nd)) 31 (nI wr)) 34 (nI ls864)) 35 (nI (dc + 1))) 44 (nI fd)) 49 (nI md)) 59 (nI bk)) 60 (nI pr)) 64 (nI at861)) 65 ne0) 66 (nI lk)) 67 0) 68 0) 15 (nI fa862)) 64 (nI at861)) (updA (updA (stR (updA (updA (stR (stR (stR (stR (stR (stR B 26 dc 1) 25 dc (nI (at0 + 1))) 24 dc (nI v672)) 27 dc (-1)) 28 dc (-1)) 29 dc 0) 22 lt865) 23 ln866) 27 dc r867) 2 K) 2 K)) _ := hP
            have hD : va_D A (mW G h0 a (upd (upd (upd (upd (upd (upd (upd (upd (upd (upd (upd (upd (upd (upd (upd (upd (upd F 15 (nI fa862)) 16 pl925) 27 (nI nd)) 31 (nI wr)) 34 (nI ls864)) 35 (nI (dc + 1))) 44 (nI fd)) 49 (nI md)) 59 (nI bk)) 60 (nI pr)) 64 (nI at861)) 65 ne0) 66 (nI lk)) 67 0) 68 0) 15 (nI fa862)) 64 (nI at861)) (updA (updA (stR (updA (updA (stR (stR (stR (stR (stR (stR B 26 dc 1) 25 dc (nI (at0 + 1))) 24 dc (nI v672)) 27 dc (-1)) 28 dc (-1)) 29 dc 0) 22 lt865) 23 ln866) 27 dc r867) 2 K) 2 K)) := hD
            refine pc_V0 (G := G) (As := [.int 125]) (rest := []) hx hb hml hown hq hE hX pX0_al hP hD hS hA hl.1 (R_take l G h0 a (upd (upd (upd (upd (upd (upd (upd (upd (upd (upd (upd (upd (upd (upd (upd F 15 (nI fa862)) 16 pl925) 27 (nI nd)) 31 (nI wr)) 34 (nI ls864)) 35 (nI (dc + 1))) 44 (nI fd)) 49 (nI md)) 59 (nI bk)) 60 (nI pr)) 64 (nI at861)) 65 ne0) 66 (nI lk)) 67 0) 68 0) (updA (stR (updA (updA (stR (stR (stR (stR (stR (stR B 26 dc 1) 25 dc (nI (at0 + 1))) 24 dc (nI v672)) 27 dc (-1)) 28 dc (-1)) 29 dc 0) 22 lt865) 23 ln866) 27 dc r867) 2 K) at861 T fa862 K 125 (by omega) (by omega) hK (by omega) (by decide) (by decide)) (gV pw_1614 pw_1615 pw_1616 pw_1523 pw_1601) hV_X12_take 0 9 rfl rfl rfl rfl (Nat.le_of_ble_eq_true rfl) dX12_declaration_280 ⟨Nat.le_of_ble_eq_true rfl, Nat.le_of_ble_eq_true rfl⟩ ⟨Nat.le_of_ble_eq_true rfl, Nat.le_of_ble_eq_true rfl⟩ (fun v940 u938 H locs hw939 hP hD hS => ?_)
            obtain ⟨at941, fa942, pl943⟩ := u938
            obtain ⟨hw939, h944, h945, h946, h947, h948, h949, h950, h951⟩ := hw939
            replace h944 : at861 ≤ at941 := h944
            replace h945 : at941 ≤ T := h945
            replace h946 : fa862 ≤ fa942 := h946
            replace h947 : fa942 ≤ 100 := h947
            replace h948 : If (0 < fa862) (at941 = at861 ∧ fa942 = fa862) := h948
            replace h949 : at941 ≤ at861 + 1 := h949
            replace h950 : at861 + 1 ≤ at941 + fa942 := h950
            replace h951 : If (fa942 = 0) (K at861 = 125) := h951
            obtain rfl : v940 = none := hw939
            have hP : va_P G.1 pCl (mW G h0 a (upd (upd (upd (upd (upd (upd (upd (upd (upd (upd (upd (upd (upd (upd (upd F 15 (nI fa942)) 16 pl943) 27 (nI nd)) 31 (nI wr)) 34 (nI ls864)) 35 (nI (dc + 1))) 44 (nI fd)) 49 (nI md)) 59 (nI bk)) 60 (nI pr)) 64 (nI at941)) 65 ne0) 66 (nI lk)) 67 0) 68 0) (updA (stR (updA (updA (stR (stR (stR (stR (stR (stR B 26 dc 1) 25 dc (nI (at0 + 1))) 24 dc (nI v672)) 27 dc (-1)) 28 dc (-1)) 29 dc 0) 22 lt865) 23 ln866) 27 dc r867) 2 K)) _ := hP
            have hD : va_D A (mW G h0 a (upd (upd (upd (upd (upd (upd (upd (upd (upd (upd (upd (upd (upd (upd (upd F 15 (nI fa942)) 16 pl943) 27 (nI nd)) 31 (nI wr)) 34 (nI ls864)) 35 (nI (dc + 1))) 44 (nI fd)) 49 (nI md)) 59 (nI bk)) 60 (nI pr)) 64 (nI at941)) 65 ne0) 66 (nI lk)) 67 0) 68 0) (updA (stR (updA (updA (stR (stR (stR (stR (stR (stR B 26 dc 1) 25 dc (nI (at0 + 1))) 24 dc (nI v672)) 27 dc (-1)) 28 dc (-1)) 29 dc 0) 22 lt865) 23 ln866) 27 dc r867) 2 K)) := hD
            refine W.widen (k := 0) (n := 0) (Nat.le_of_ble_eq_true rfl) (Nat.le_of_ble_eq_true rfl) ?_
            refine W.eq (g2 := F0 m 283 ls []) rfl ?_
            obtain ⟨n953, n952⟩ := h948 e879
            replace n953 := n953.symm
            subst n953
            replace n952 := n952.symm
            subst n952
            have hz954 : at0 ≤ at861 := (by omega)
            have hz955 : at861 ≤ T := (by omega)
            have hz956 : fa862 ≤ 100 := (by omega)
            have hz957 : at0 + 1 ≤ at861 + fa862 := (by omega)
            have hz958 : Kq B (stR (updA (updA (stR (stR (stR (stR (stR (stR B 26 dc 1) 25 dc (nI (at0 + 1))) 24 dc (nI v672)) 27 dc (-1)) 28 dc (-1)) 29 dc 0) 22 lt865) 23 ln866) 27 dc r867) := hkq911
            have hz959 : If (fa862 = 0) ((nd ≤ 2 * at861 ∧ wr ≤ at861 ∧ ls864 ≤ at861 ∧ pr ≤ at861 ∧ (dc + 1) ≤ 37 ∧ dc ≤ (dc + 1) ∧ bk ≤ md ∧ wr ≤ wr ∧ lz ≤ ls864) ∧ (md + 210 ≤ 30 * (dc + 1) ∧ fd + 140 ≤ 20 * (dc + 1) ∧ (dc + 1) ≤ 37 ∧ 7 ≤ (dc + 1) ∧ (dc + 1) ≤ dc + 1) ∧ PS T nm wr ls864 (dc + 1) fd md pr bk (stR (updA (updA (stR (stR (stR (stR (stR (stR B 26 dc 1) 25 dc (nI (at0 + 1))) 24 dc (nI v672)) 27 dc (-1)) 28 dc (-1)) 29 dc 0) 22 lt865) 23 ln866) 27 dc r867) ∧ FrM K T wr (stR (updA (updA (stR (stR (stR (stR (stR (stR B 26 dc 1) 25 dc (nI (at0 + 1))) 24 dc (nI v672)) 27 dc (-1)) 28 dc (-1)) 29 dc 0) 22 lt865) 23 ln866) 27 dc r867) nd md ∧ tkRow ((stR (updA (updA (stR (stR (stR (stR (stR (stR B 26 dc 1) 25 dc (nI (at0 + 1))) 24 dc (nI v672)) 27 dc (-1)) 28 dc (-1)) 29 dc 0) 22 lt865) 23 ln866) 27 dc r867) 19) wr T ∧ lsRow ((stR (updA (updA (stR (stR (stR (stR (stR (stR B 26 dc 1) 25 dc (nI (at0 + 1))) 24 dc (nI v672)) 27 dc (-1)) 28 dc (-1)) 29 dc 0) 22 lt865) 23 ln866) 27 dc r867) 22) ((stR (updA (updA (stR (stR (stR (stR (stR (stR B 26 dc 1) 25 dc (nI (at0 + 1))) 24 dc (nI v672)) 27 dc (-1)) 28 dc (-1)) 29 dc 0) 22 lt865) 23 ln866) 27 dc r867) 23) ls864 T) := (fun e => absurd e (by omega))
            have hP : va_P G.1 pCl (mW G h0 a (upd (upd (upd (upd (upd (upd (upd (upd (upd (upd (upd (upd (upd (upd (upd F 15 (nI fa862)) 16 pl943) 27 (nI nd)) 31 (nI wr)) 34 (nI ls864)) 35 (nI (dc + 1))) 44 (nI fd)) 49 (nI md)) 59 (nI bk)) 60 (nI pr)) 64 (nI at861)) 65 ne0) 66 (nI lk)) 67 (nI 0)) 68 (nI 0)) (updA (stR (updA (updA (stR (stR (stR (stR (stR (stR B 26 dc 1) 25 dc (nI (at0 + 1))) 24 dc (nI v672)) 27 dc (-1)) 28 dc (-1)) 29 dc 0) 22 lt865) 23 ln866) 27 dc r867) 2 K)) _ := hP
            have hD : va_D A (mW G h0 a (upd (upd (upd (upd (upd (upd (upd (upd (upd (upd (upd (upd (upd (upd (upd F 15 (nI fa862)) 16 pl943) 27 (nI nd)) 31 (nI wr)) 34 (nI ls864)) 35 (nI (dc + 1))) 44 (nI fd)) 49 (nI md)) 59 (nI bk)) 60 (nI pr)) 64 (nI at861)) 65 ne0) 66 (nI lk)) 67 (nI 0)) 68 (nI 0)) (updA (stR (updA (updA (stR (stR (stR (stR (stR (stR B 26 dc 1) 25 dc (nI (at0 + 1))) 24 dc (nI v672)) 27 dc (-1)) 28 dc (-1)) 29 dc 0) 22 lt865) 23 ln866) 27 dc r867) 2 K)) := hD
            exact W.vret hx hb hr (fun t9 ht9 hW9 => ⟨⟨_, (at861, fa862, pl943, nd, wr, ls864, (dc + 1), fd, md, pr, bk, 0, 0, ne0, (stR (updA (updA (stR (stR (stR (stR (stR (stR B 26 dc 1) 25 dc (nI (at0 + 1))) 24 dc (nI v672)) 27 dc (-1)) 28 dc (-1)) 29 dc 0) 22 lt865) 23 ln866) 27 dc r867)), rfl, ⟨rfl, hz954, hz955, hz956, hz957, hz958, hz959⟩, by rw [ht9]; exact hP, hD⟩, hS.F ht9⟩) hS.2.2 dX12_declaration_283
      · have e659 := e659
        refine r_sti (f := ((stR B 26 dc 1) 25)) (j := dc) hx hb hE hP hD hS 25 (ma_25 G a _) rfl (mas_25 G a _) (by omega) (by decide) dX12_declaration_82 (fun H locs hP hD hS => ?_)
        have hP : va_P G.1 pCl (mW G h0 a (upd (upd (upd (upd (upd (upd (upd (upd (upd (upd (upd (upd (upd (upd (upd F 15 (nI fa649)) 16 pl650) 27 (nI nd)) 31 (nI wr)) 34 (nI lz)) 35 (nI dc)) 44 (nI fd)) 49 (nI md)) 59 (nI bk)) 60 (nI pr)) 64 (nI at648)) 65 ne0) 66 (nI lk)) 67 (nI mf)) 68 (nI mm)) (updA (stR (stR B 26 dc 1) 25 dc (nI (at0 + 1))) 2 K)) _ := hP
        have hD : va_D A (mW G h0 a (upd (upd (upd (upd (upd (upd (upd (upd (upd (upd (upd (upd (upd (upd (upd F 15 (nI fa649)) 16 pl650) 27 (nI nd)) 31 (nI wr)) 34 (nI lz)) 35 (nI dc)) 44 (nI fd)) 49 (nI md)) 59 (nI bk)) 60 (nI pr)) 64 (nI at648)) 65 ne0) 66 (nI lk)) 67 (nI mf)) 68 (nI mm)) (updA (stR (stR B 26 dc 1) 25 dc (nI (at0 + 1))) 2 K)) := hD
        have hkq960 : Kq B (stR (stR B 26 dc 1) 25 dc (nI (at0 + 1))) := (Kq.st hkq639 (by omega))
        have hce961 : (stR (stR B 26 dc 1) 25 dc (nI (at0 + 1))) 26 dc = 1 := ((st_ne (by omega)).trans hce644)
        have hty962 : tkRow ((stR (stR B 26 dc 1) 25 dc (nI (at0 + 1))) 19) wr T := hty640
        have hce963 : (stR (stR B 26 dc 1) 25 dc (nI (at0 + 1))) 25 dc = (nI (at0 + 1)) := st_eq
        refine lv_aload_n hx hb dX12_declaration_83 rfl (lv_at hl 2 rfl) ?_
        refine r_get (v := .int (nI fa649)) hx hb hown hq hE hP 15 350 tFX12_15 (by decide) pw_1594 rfl dX12_declaration_84 ?_
        refine lv_if_le (tgt := 91) hx hb dX12_declaration_87 (by decide) (fun c964 => (by have n965 : fa649 ≤ 0 := (nI_leI (a := fa649) (b := 0) (by omega) (by omega)).mp c964; omega)) (fun c964 => ?_)
        have hz966 : at0 ≤ at648 := (by omega)
        have hz967 : at648 ≤ T := (by omega)
        have hz968 : fa649 ≤ 100 := (by omega)
        have hz969 : at0 + 1 ≤ at648 + fa649 := (by omega)
        have hz970 : Kq B (stR (stR B 26 dc 1) 25 dc (nI (at0 + 1))) := hkq960
        have hz971 : If (fa649 = 0) ((nd ≤ 2 * at648 ∧ wr ≤ at648 ∧ lz ≤ at648 ∧ pr ≤ at648 ∧ dc ≤ 37 ∧ dc ≤ dc ∧ bk ≤ md ∧ wr ≤ wr ∧ lz ≤ lz) ∧ (md + 210 ≤ 30 * dc ∧ fd + 140 ≤ 20 * dc ∧ dc ≤ 37 ∧ 7 ≤ dc ∧ dc ≤ dc + 1) ∧ PS T nm wr lz dc fd md pr bk (stR (stR B 26 dc 1) 25 dc (nI (at0 + 1))) ∧ FrM K T wr (stR (stR B 26 dc 1) 25 dc (nI (at0 + 1))) nd md ∧ tkRow ((stR (stR B 26 dc 1) 25 dc (nI (at0 + 1))) 19) wr T ∧ lsRow ((stR (stR B 26 dc 1) 25 dc (nI (at0 + 1))) 22) ((stR (stR B 26 dc 1) 25 dc (nI (at0 + 1))) 23) lz T) := (fun e => absurd e (by omega))
        have hP : va_P G.1 pCl (mW G h0 a (upd (upd (upd (upd (upd (upd (upd (upd (upd (upd (upd (upd (upd (upd (upd F 15 (nI fa649)) 16 pl650) 27 (nI nd)) 31 (nI wr)) 34 (nI lz)) 35 (nI dc)) 44 (nI fd)) 49 (nI md)) 59 (nI bk)) 60 (nI pr)) 64 (nI at648)) 65 ne0) 66 (nI lk)) 67 (nI mf)) 68 (nI mm)) (updA (stR (stR B 26 dc 1) 25 dc (nI (at0 + 1))) 2 K)) _ := hP
        have hD : va_D A (mW G h0 a (upd (upd (upd (upd (upd (upd (upd (upd (upd (upd (upd (upd (upd (upd (upd F 15 (nI fa649)) 16 pl650) 27 (nI nd)) 31 (nI wr)) 34 (nI lz)) 35 (nI dc)) 44 (nI fd)) 49 (nI md)) 59 (nI bk)) 60 (nI pr)) 64 (nI at648)) 65 ne0) 66 (nI lk)) 67 (nI mf)) 68 (nI mm)) (updA (stR (stR B 26 dc 1) 25 dc (nI (at0 + 1))) 2 K)) := hD
        exact W.vret hx hb hr (fun t9 ht9 hW9 => ⟨⟨_, (at648, fa649, pl650, nd, wr, lz, dc, fd, md, pr, bk, mf, mm, ne0, (stR (stR B 26 dc 1) 25 dc (nI (at0 + 1)))), rfl, ⟨rfl, hz966, hz967, hz968, hz969, hz970, hz971⟩, by rw [ht9]; exact hP, hD⟩, hS.F ht9⟩) hS.2.2 dX12_declaration_90
    · have n972 : dc = 37 := (nI_eq (a := dc) (b := 37) (by omega) (by omega)).mp c635
      refine lv_aload_n hx hb dX12_declaration_45 rfl (lv_at hl 1 rfl) ?_
      refine lv_iconst (v := 2) hx hb dX12_declaration_46 (by decide) ?_
      have hP : va_P G.1 pCl (mW G h0 a (upd (upd (upd (upd (upd (upd (upd (upd (upd (upd (upd (upd (upd (upd (upd (upd F 15 0) 27 (nI nd)) 31 (nI wr)) 34 (nI lz)) 35 (nI dc)) 44 (nI fd)) 49 (nI md)) 59 (nI bk)) 60 (nI pr)) 64 (nI at0)) 65 ne0) 66 (nI lk)) 67 (nI mf)) 68 (nI mm)) 15 (nI 0)) 64 (nI at0)) (updA (updA B 2 K) 2 K)) _ := hP
      have hD : va_D A (mW G h0 a (upd (upd (upd (upd (upd (upd (upd (upd (upd (upd (upd (upd (upd (upd (upd (upd F 15 0) 27 (nI nd)) 31 (nI wr)) 34 (nI lz)) 35 (nI dc)) 44 (nI fd)) 49 (nI md)) 59 (nI bk)) 60 (nI pr)) 64 (nI at0)) 65 ne0) 66 (nI lk)) 67 (nI mf)) 68 (nI mm)) 15 (nI 0)) 64 (nI at0)) (updA (updA B 2 K) 2 K)) := hD
      refine pc_V0 (G := G) (As := [.int (nI 2)]) (rest := []) hx hb hml hown hq hE hX pX0_al hP hD hS hA hl.1 (R_bad l G h0 a (upd (upd (upd (upd (upd (upd (upd (upd (upd (upd (upd (upd (upd (upd F 15 0) 27 (nI nd)) 31 (nI wr)) 34 (nI lz)) 35 (nI dc)) 44 (nI fd)) 49 (nI md)) 59 (nI bk)) 60 (nI pr)) 64 (nI at0)) 65 ne0) 66 (nI lk)) 67 (nI mf)) 68 (nI mm)) (updA B 2 K) at0 T 0 K 2 (by omega) (by omega) hK (by omega) (by omega) (by omega)) (gV pw_1602 pw_1603 pw_1604 pw_1523 pw_1596) hV_X12_bad 0 9 rfl rfl rfl rfl (Nat.le_of_ble_eq_true rfl) dX12_declaration_47 ⟨Nat.le_of_ble_eq_true rfl, Nat.le_of_ble_eq_true rfl⟩ ⟨Nat.le_of_ble_eq_true rfl, Nat.le_of_ble_eq_true rfl⟩ (fun v975 u973 H locs hw974 hP hD hS => ?_)
      obtain ⟨fa976, pl977⟩ := u973
      obtain ⟨hw974, h978, h979, h980, h981⟩ := hw974
      replace h978 : 0 ≤ fa976 := h978
      replace h979 : fa976 ≤ 0 + 2 := h979
      replace h980 : 0 < fa976 := h980
      replace h981 : If (0 < 0) (fa976 = 0) := h981
      obtain rfl : v975 = none := hw974
      have hP : va_P G.1 pCl (mW G h0 a (upd (upd (upd (upd (upd (upd (upd (upd (upd (upd (upd (upd (upd (upd (upd F 15 (nI fa976)) 16 pl977) 27 (nI nd)) 31 (nI wr)) 34 (nI lz)) 35 (nI dc)) 44 (nI fd)) 49 (nI md)) 59 (nI bk)) 60 (nI pr)) 64 (nI at0)) 65 ne0) 66 (nI lk)) 67 (nI mf)) 68 (nI mm)) (updA B 2 K)) _ := hP
      have hD : va_D A (mW G h0 a (upd (upd (upd (upd (upd (upd (upd (upd (upd (upd (upd (upd (upd (upd (upd F 15 (nI fa976)) 16 pl977) 27 (nI nd)) 31 (nI wr)) 34 (nI lz)) 35 (nI dc)) 44 (nI fd)) 49 (nI md)) 59 (nI bk)) 60 (nI pr)) 64 (nI at0)) 65 ne0) 66 (nI lk)) 67 (nI mf)) 68 (nI mm)) (updA B 2 K)) := hD
      refine W.widen (k := 0) (n := 0) (Nat.le_of_ble_eq_true rfl) (Nat.le_of_ble_eq_true rfl) ?_
      refine W.eq (g2 := F0 m 50 ls []) rfl ?_
      have hz982 : at0 ≤ at0 := (by omega)
      have hz983 : at0 ≤ T := (by omega)
      have hz984 : fa976 ≤ 100 := (by omega)
      have hz985 : at0 + 1 ≤ at0 + fa976 := (by omega)
      have hz986 : Kq B B := hkq1
      have hz987 : If (fa976 = 0) ((nd ≤ 2 * at0 ∧ wr ≤ at0 ∧ lz ≤ at0 ∧ pr ≤ at0 ∧ dc ≤ 37 ∧ dc ≤ dc ∧ bk ≤ md ∧ wr ≤ wr ∧ lz ≤ lz) ∧ (md + 210 ≤ 30 * dc ∧ fd + 140 ≤ 20 * dc ∧ dc ≤ 37 ∧ 7 ≤ dc ∧ dc ≤ dc + 1) ∧ PS T nm wr lz dc fd md pr bk B ∧ FrM K T wr B nd md ∧ tkRow (B 19) wr T ∧ lsRow (B 22) (B 23) lz T) := (fun e => absurd e (by omega))
      have hP : va_P G.1 pCl (mW G h0 a (upd (upd (upd (upd (upd (upd (upd (upd (upd (upd (upd (upd (upd (upd (upd F 15 (nI fa976)) 16 pl977) 27 (nI nd)) 31 (nI wr)) 34 (nI lz)) 35 (nI dc)) 44 (nI fd)) 49 (nI md)) 59 (nI bk)) 60 (nI pr)) 64 (nI at0)) 65 ne0) 66 (nI lk)) 67 (nI mf)) 68 (nI mm)) (updA B 2 K)) _ := hP
      have hD : va_D A (mW G h0 a (upd (upd (upd (upd (upd (upd (upd (upd (upd (upd (upd (upd (upd (upd (upd F 15 (nI fa976)) 16 pl977) 27 (nI nd)) 31 (nI wr)) 34 (nI lz)) 35 (nI dc)) 44 (nI fd)) 49 (nI md)) 59 (nI bk)) 60 (nI pr)) 64 (nI at0)) 65 ne0) 66 (nI lk)) 67 (nI mf)) 68 (nI mm)) (updA B 2 K)) := hD
      exact W.vret hx hb hr (fun t9 ht9 hW9 => ⟨⟨_, (at0, fa976, pl977, nd, wr, lz, dc, fd, md, pr, bk, mf, mm, ne0, B), rfl, ⟨rfl, hz982, hz983, hz984, hz985, hz986, hz987⟩, by rw [ht9]; exact hP, hD⟩, hS.F ht9⟩) hS.2.2 dX12_declaration_50
