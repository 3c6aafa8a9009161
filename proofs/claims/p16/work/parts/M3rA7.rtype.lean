theorem dX12_type_0 : decode cX12_type 0 = .ok (.aload_n 0, 1) := by decide +kernel
theorem dX12_type_1 : decode cX12_type 1 = .ok (.iconst 0, 1) := by decide +kernel
theorem dX12_type_2 : decode cX12_type 2 = .ok (.putfield 252, 3) := by decide +kernel
theorem dX12_type_5 : decode cX12_type 5 = .ok (.aload_n 0, 1) := by decide +kernel
theorem dX12_type_6 : decode cX12_type 6 = .ok (.getfield 649, 3) := by decide +kernel
theorem dX12_type_9 : decode cX12_type 9 = .ok (.ifCond .eq 17, 3) := by decide +kernel
theorem dX12_type_26 : decode cX12_type 26 = .ok (.iconst (-1), 1) := by decide +kernel
theorem dX12_type_27 : decode cX12_type 27 = .ok (.ireturn, 1) := by decide +kernel
theorem dX12_type_12 : decode cX12_type 12 = .ok (.iload_n 1, 1) := by decide +kernel
theorem dX12_type_13 : decode cX12_type 13 = .ok (.iconst 0, 1) := by decide +kernel
theorem dX12_type_14 : decode cX12_type 14 = .ok (.aload_n 0, 1) := by decide +kernel
theorem dX12_type_15 : decode cX12_type 15 = .ok (.getfield 384, 3) := by decide +kernel
theorem dX12_type_18 : decode cX12_type 18 = .ok (.iconst 1, 1) := by decide +kernel
theorem dX12_type_19 : decode cX12_type 19 = .ok (.isub, 1) := by decide +kernel
theorem dX12_type_20 : decode cX12_type 20 = .ok (.invokestatic 261, 3) := by decide +kernel
theorem dX12_type_23 : decode cX12_type 23 = .ok (.ifCond .ne 5, 3) := by decide +kernel
theorem dX12_type_28 : decode cX12_type 28 = .ok (.iconst 0, 1) := by decide +kernel
theorem dX12_type_29 : decode cX12_type 29 = .ok (.istore_n 3, 1) := by decide +kernel
theorem dX12_type_30 : decode cX12_type 30 = .ok (.iload_n 2, 1) := by decide +kernel
theorem dX12_type_31 : decode cX12_type 31 = .ok (.tableswitch 277 0 5 #[37, 61, 67, 204, 219, 257], 37) := by decide +kernel
theorem dX12_type_68 : decode cX12_type 68 = .ok (.iload_n 1, 1) := by decide +kernel
theorem dX12_type_69 : decode cX12_type 69 = .ok (.ifCond .eq 12, 3) := by decide +kernel
theorem dX12_type_81 : decode cX12_type 81 = .ok (.iconst (-1), 1) := by decide +kernel
theorem dX12_type_82 : decode cX12_type 82 = .ok (.goto 9, 3) := by decide +kernel
theorem dX12_type_91 : decode cX12_type 91 = .ok (.ireturn, 1) := by decide +kernel
theorem dX12_type_72 : decode cX12_type 72 = .ok (.aload_n 0, 1) := by decide +kernel
theorem dX12_type_73 : decode cX12_type 73 = .ok (.getfield 90, 3) := by decide +kernel
theorem dX12_type_76 : decode cX12_type 76 = .ok (.iload_n 1, 1) := by decide +kernel
theorem dX12_type_77 : decode cX12_type 77 = .ok (.baload, 1) := by decide +kernel
theorem dX12_type_78 : decode cX12_type 78 = .ok (.ifCond .eq 7, 3) := by decide +kernel
theorem dX12_type_85 : decode cX12_type 85 = .ok (.aload_n 0, 1) := by decide +kernel
theorem dX12_type_86 : decode cX12_type 86 = .ok (.getfield 99, 3) := by decide +kernel
theorem dX12_type_89 : decode cX12_type 89 = .ok (.iload_n 1, 1) := by decide +kernel
theorem dX12_type_90 : decode cX12_type 90 = .ok (.iaload, 1) := by decide +kernel
theorem dX12_type_92 : decode cX12_type 92 = .ok (.aload_n 0, 1) := by decide +kernel
theorem dX12_type_93 : decode cX12_type 93 = .ok (.iload_n 1, 1) := by decide +kernel
theorem dX12_type_94 : decode cX12_type 94 = .ok (.invokevirtual 680, 3) := by decide +kernel
theorem dX12_type_97 : decode cX12_type 97 = .ok (.ireturn, 1) := by decide +kernel
theorem dX12_type_98 : decode cX12_type 98 = .ok (.iconst 0, 1) := by decide +kernel
theorem dX12_type_99 : decode cX12_type 99 = .ok (.istore 4, 2) := by decide +kernel
theorem dX12_type_101 : decode cX12_type 101 = .ok (.iload 4, 2) := by decide +kernel
theorem dX12_type_103 : decode cX12_type 103 = .ok (.aload_n 0, 1) := by decide +kernel
theorem dX12_type_104 : decode cX12_type 104 = .ok (.getfield 416, 3) := by decide +kernel
theorem dX12_type_107 : decode cX12_type 107 = .ok (.if_icmp .ge 126, 3) := by decide +kernel
theorem dX12_type_233 : decode cX12_type 233 = .ok (.iload_n 3, 1) := by decide +kernel
theorem dX12_type_234 : decode cX12_type 234 = .ok (.ireturn, 1) := by decide +kernel
theorem dX12_type_110 : decode cX12_type 110 = .ok (.aload_n 0, 1) := by decide +kernel
theorem dX12_type_111 : decode cX12_type 111 = .ok (.getfield 120, 3) := by decide +kernel
theorem dX12_type_114 : decode cX12_type 114 = .ok (.iload 4, 2) := by decide +kernel
theorem dX12_type_116 : decode cX12_type 116 = .ok (.iaload, 1) := by decide +kernel
theorem dX12_type_117 : decode cX12_type 117 = .ok (.iload_n 1, 1) := by decide +kernel
theorem dX12_type_118 : decode cX12_type 118 = .ok (.if_icmp .eq 18, 3) := by decide +kernel
theorem dX12_type_136 : decode cX12_type 136 = .ok (.iconst 1, 1) := by decide +kernel
theorem dX12_type_137 : decode cX12_type 137 = .ok (.goto 4, 3) := by decide +kernel
theorem dX12_type_141 : decode cX12_type 141 = .ok (.istore 5, 2) := by decide +kernel
theorem dX12_type_143 : decode cX12_type 143 = .ok (.iconst 0, 1) := by decide +kernel
theorem dX12_type_144 : decode cX12_type 144 = .ok (.istore 6, 2) := by decide +kernel
theorem dX12_type_146 : decode cX12_type 146 = .ok (.iload 5, 2) := by decide +kernel
theorem dX12_type_148 : decode cX12_type 148 = .ok (.ifCond .eq 66, 3) := by decide +kernel
theorem dX12_type_214 : decode cX12_type 214 = .ok (.iload_n 3, 1) := by decide +kernel
theorem dX12_type_215 : decode cX12_type 215 = .ok (.iload 5, 2) := by decide +kernel
theorem dX12_type_217 : decode cX12_type 217 = .ok (.ifCond .eq 7, 3) := by decide +kernel
theorem dX12_type_224 : decode cX12_type 224 = .ok (.iconst 0, 1) := by decide +kernel
theorem dX12_type_225 : decode cX12_type 225 = .ok (.iadd, 1) := by decide +kernel
theorem dX12_type_226 : decode cX12_type 226 = .ok (.istore_n 3, 1) := by decide +kernel
theorem dX12_type_227 : decode cX12_type 227 = .ok (.iinc 4 1, 3) := by decide +kernel
theorem dX12_type_230 : decode cX12_type 230 = .ok (.goto (-129), 3) := by decide +kernel
theorem dX12_type_220 : decode cX12_type 220 = .ok (.iconst 1, 1) := by decide +kernel
theorem dX12_type_221 : decode cX12_type 221 = .ok (.goto 4, 3) := by decide +kernel
theorem dX12_type_151 : decode cX12_type 151 = .ok (.iload 6, 2) := by decide +kernel
theorem dX12_type_153 : decode cX12_type 153 = .ok (.iload 4, 2) := by decide +kernel
theorem dX12_type_155 : decode cX12_type 155 = .ok (.if_icmp .ge 59, 3) := by decide +kernel
theorem dX12_type_158 : decode cX12_type 158 = .ok (.aload_n 0, 1) := by decide +kernel
theorem dX12_type_159 : decode cX12_type 159 = .ok (.getfield 123, 3) := by decide +kernel
theorem dX12_type_162 : decode cX12_type 162 = .ok (.iload 6, 2) := by decide +kernel
theorem dX12_type_164 : decode cX12_type 164 = .ok (.iaload, 1) := by decide +kernel
theorem dX12_type_165 : decode cX12_type 165 = .ok (.aload_n 0, 1) := by decide +kernel
theorem dX12_type_166 : decode cX12_type 166 = .ok (.getfield 123, 3) := by decide +kernel
theorem dX12_type_169 : decode cX12_type 169 = .ok (.iload 4, 2) := by decide +kernel
theorem dX12_type_171 : decode cX12_type 171 = .ok (.iaload, 1) := by decide +kernel
theorem dX12_type_172 : decode cX12_type 172 = .ok (.if_icmp .ne 29, 3) := by decide +kernel
theorem dX12_type_201 : decode cX12_type 201 = .ok (.iconst 1, 1) := by decide +kernel
theorem dX12_type_202 : decode cX12_type 202 = .ok (.goto 4, 3) := by decide +kernel
theorem dX12_type_206 : decode cX12_type 206 = .ok (.istore 5, 2) := by decide +kernel
theorem dX12_type_208 : decode cX12_type 208 = .ok (.iinc 6 1, 3) := by decide +kernel
theorem dX12_type_211 : decode cX12_type 211 = .ok (.goto (-65), 3) := by decide +kernel
theorem dX12_type_175 : decode cX12_type 175 = .ok (.aload_n 0, 1) := by decide +kernel
theorem dX12_type_176 : decode cX12_type 176 = .ok (.getfield 120, 3) := by decide +kernel
theorem dX12_type_179 : decode cX12_type 179 = .ok (.iload 6, 2) := by decide +kernel
theorem dX12_type_181 : decode cX12_type 181 = .ok (.iaload, 1) := by decide +kernel
theorem dX12_type_182 : decode cX12_type 182 = .ok (.iload_n 1, 1) := by decide +kernel
theorem dX12_type_183 : decode cX12_type 183 = .ok (.if_icmp .eq 22, 3) := by decide +kernel
theorem dX12_type_205 : decode cX12_type 205 = .ok (.iconst 0, 1) := by decide +kernel
theorem dX12_type_186 : decode cX12_type 186 = .ok (.aload_n 0, 1) := by decide +kernel
theorem dX12_type_187 : decode cX12_type 187 = .ok (.aload_n 0, 1) := by decide +kernel
theorem dX12_type_188 : decode cX12_type 188 = .ok (.getfield 120, 3) := by decide +kernel
theorem dX12_type_191 : decode cX12_type 191 = .ok (.iload 6, 2) := by decide +kernel
theorem dX12_type_193 : decode cX12_type 193 = .ok (.iaload, 1) := by decide +kernel
theorem dX12_type_194 : decode cX12_type 194 = .ok (.iload_n 1, 1) := by decide +kernel
theorem dX12_type_195 : decode cX12_type 195 = .ok (.invokevirtual 518, 3) := by decide +kernel
theorem dX12_type_198 : decode cX12_type 198 = .ok (.ifCond .ne 7, 3) := by decide +kernel
theorem dX12_type_121 : decode cX12_type 121 = .ok (.aload_n 0, 1) := by decide +kernel
theorem dX12_type_122 : decode cX12_type 122 = .ok (.aload_n 0, 1) := by decide +kernel
theorem dX12_type_123 : decode cX12_type 123 = .ok (.getfield 120, 3) := by decide +kernel
theorem dX12_type_126 : decode cX12_type 126 = .ok (.iload 4, 2) := by decide +kernel
theorem dX12_type_128 : decode cX12_type 128 = .ok (.iaload, 1) := by decide +kernel
theorem dX12_type_129 : decode cX12_type 129 = .ok (.iload_n 1, 1) := by decide +kernel
theorem dX12_type_130 : decode cX12_type 130 = .ok (.invokevirtual 518, 3) := by decide +kernel
theorem dX12_type_133 : decode cX12_type 133 = .ok (.ifCond .eq 7, 3) := by decide +kernel
theorem dX12_type_140 : decode cX12_type 140 = .ok (.iconst 0, 1) := by decide +kernel
theorem dX12_type_235 : decode cX12_type 235 = .ok (.aload_n 0, 1) := by decide +kernel
theorem dX12_type_236 : decode cX12_type 236 = .ok (.getfield 90, 3) := by decide +kernel
theorem dX12_type_239 : decode cX12_type 239 = .ok (.iload_n 1, 1) := by decide +kernel
theorem dX12_type_240 : decode cX12_type 240 = .ok (.baload, 1) := by decide +kernel
theorem dX12_type_241 : decode cX12_type 241 = .ok (.ifCond .eq 7, 3) := by decide +kernel
theorem dX12_type_248 : decode cX12_type 248 = .ok (.iconst 0, 1) := by decide +kernel
theorem dX12_type_249 : decode cX12_type 249 = .ok (.ireturn, 1) := by decide +kernel
theorem dX12_type_244 : decode cX12_type 244 = .ok (.iconst 1, 1) := by decide +kernel
theorem dX12_type_245 : decode cX12_type 245 = .ok (.goto 4, 3) := by decide +kernel
theorem dX12_type_250 : decode cX12_type 250 = .ok (.iconst 0, 1) := by decide +kernel
theorem dX12_type_251 : decode cX12_type 251 = .ok (.istore 4, 2) := by decide +kernel
theorem dX12_type_253 : decode cX12_type 253 = .ok (.iload 4, 2) := by decide +kernel
theorem dX12_type_255 : decode cX12_type 255 = .ok (.aload_n 0, 1) := by decide +kernel
theorem dX12_type_256 : decode cX12_type 256 = .ok (.getfield 384, 3) := by decide +kernel
theorem dX12_type_259 : decode cX12_type 259 = .ok (.if_icmp .ge 27, 3) := by decide +kernel
theorem dX12_type_286 : decode cX12_type 286 = .ok (.iload_n 3, 1) := by decide +kernel
theorem dX12_type_287 : decode cX12_type 287 = .ok (.ireturn, 1) := by decide +kernel
theorem dX12_type_262 : decode cX12_type 262 = .ok (.iload_n 3, 1) := by decide +kernel
theorem dX12_type_263 : decode cX12_type 263 = .ok (.aload_n 0, 1) := by decide +kernel
theorem dX12_type_264 : decode cX12_type 264 = .ok (.iload 4, 2) := by decide +kernel
theorem dX12_type_266 : decode cX12_type 266 = .ok (.iload_n 1, 1) := by decide +kernel
theorem dX12_type_267 : decode cX12_type 267 = .ok (.invokevirtual 518, 3) := by decide +kernel
theorem dX12_type_270 : decode cX12_type 270 = .ok (.ifCond .eq 7, 3) := by decide +kernel
theorem dX12_type_277 : decode cX12_type 277 = .ok (.iconst 0, 1) := by decide +kernel
theorem dX12_type_278 : decode cX12_type 278 = .ok (.iadd, 1) := by decide +kernel
theorem dX12_type_279 : decode cX12_type 279 = .ok (.istore_n 3, 1) := by decide +kernel
theorem dX12_type_280 : decode cX12_type 280 = .ok (.iinc 4 1, 3) := by decide +kernel
theorem dX12_type_283 : decode cX12_type 283 = .ok (.goto (-30), 3) := by decide +kernel
theorem dX12_type_273 : decode cX12_type 273 = .ok (.iconst 1, 1) := by decide +kernel
theorem dX12_type_274 : decode cX12_type 274 = .ok (.goto 4, 3) := by decide +kernel
theorem dX12_type_288 : decode cX12_type 288 = .ok (.aload_n 0, 1) := by decide +kernel
theorem dX12_type_289 : decode cX12_type 289 = .ok (.getfield 90, 3) := by decide +kernel
theorem dX12_type_292 : decode cX12_type 292 = .ok (.iload_n 1, 1) := by decide +kernel
theorem dX12_type_293 : decode cX12_type 293 = .ok (.baload, 1) := by decide +kernel
theorem dX12_type_294 : decode cX12_type 294 = .ok (.ifCond .eq 7, 3) := by decide +kernel
theorem dX12_type_301 : decode cX12_type 301 = .ok (.aload_n 0, 1) := by decide +kernel
theorem dX12_type_302 : decode cX12_type 302 = .ok (.getfield 102, 3) := by decide +kernel
theorem dX12_type_305 : decode cX12_type 305 = .ok (.iload_n 1, 1) := by decide +kernel
theorem dX12_type_306 : decode cX12_type 306 = .ok (.iaload, 1) := by decide +kernel
theorem dX12_type_307 : decode cX12_type 307 = .ok (.ireturn, 1) := by decide +kernel
theorem dX12_type_297 : decode cX12_type 297 = .ok (.iconst (-1), 1) := by decide +kernel
theorem dX12_type_298 : decode cX12_type 298 = .ok (.goto 9, 3) := by decide +kernel
theorem dX12_type_308 : decode cX12_type 308 = .ok (.iconst (-1), 1) := by decide +kernel
theorem dX12_type_309 : decode cX12_type 309 = .ok (.ireturn, 1) := by decide +kernel
set_option maxHeartbeats 20000000 in
set_option maxRecDepth 100000 in
/-- type(k, what) -/
theorem R_type (l : Launch) (G : pT) (h0 : Nat) (a : Nat → Nat) (F : Nat → Int32) (B : Nat → Nat → Int32) (Xs : Nat → Nat → Int32) (gh : Nat → Nat → Nat) (nd : Nat) (T : Nat) (nm : Nat) (wr : Nat) (lz : Nat) (dc : Nat) (fd : Nat) (md : Nat) (pr : Nat) (bk : Nat) (M : MTb) (hp : Int32) (kq : Int32) (wq : Int32) (hpg : If (¬ hp = 0) (Pg Xs B gh nd T nm wr lz dc fd md pr bk M)) : PM l G pX0 yX12_type cX12_type 7 (some .int) ({ frames := 4, cells := 0, slots := 0, locals := 105 }) [.ref h0, .int kq, .int wq] (mW G h0 a (upd (upd (upd (upd (upd F 35 (nI dc)) 44 (nI fd)) 49 (nI md)) 59 (nI bk)) 82 hp) B) (fun (v : Option Value) (u : Int32) => v = some (.int u)) (fun u => (mW G h0 a (upd (upd (upd (upd (upd (upd F 0 0) 35 (nI dc)) 44 (nI fd)) 49 (nI md)) 59 (nI bk)) 82 hp) B)) := by
  intro sz
  refine Met.ofW (cc := cX12_type) (maxL := 7) (ret := (some .int)) (by decide) rfl ?_
  intro p e s m args below meth c s₁ B9 hml hv
  obtain ⟨rfl, hsz, hP, hD0, hE, hX⟩ := hv
  have hx := B9.exec
  have hb := B9.bytes
  have hr := B9.returns
  have hts := atoms_spec (ws := Cond.code yX12_type cX12_type 7 (some .int) :: pw) B9.pre
  have hq : ∀ w ∈ pw, w.before _ s = true := fun w h => hts w (List.mem_cons_of_mem _ h)
  have hown : s.vm.findClass RX12 = some m.cls := findClass_of_methodNamed B9.named
  have hlocks := B9.notSynchronized
  subst hsz
  have hD := hD0.self (sz := s.heap.size)
  have hA : ∀ q : Nat, s.heap.size ≤ q → va_A (mW G h0 a (upd (upd (upd (upd (upd F 35 (nI dc)) 44 (nI fd)) 49 (nI md)) 59 (nI bk)) 82 hp) B) s.heap.size q := fun q h => Or.inr h
  have hP : va_P G.1 pCl (mW G h0 a (upd (upd (upd (upd (upd F 35 (nI dc)) 44 (nI fd)) 49 (nI md)) 59 (nI bk)) 82 hp) B) s.heap := hP
  generalize va_A (mW G h0 a (upd (upd (upd (upd (upd F 35 (nI dc)) 44 (nI fd)) 49 (nI md)) 59 (nI bk)) 82 hp) B) s.heap.size = A at hD hE hA ⊢
  have hS : va_S A s.heap s.heap [] := va_S.rf
  have hl := lv_entry ([.ref h0, .int kq, .int wq]) (n := 7) (Nat.le_of_ble_eq_true rfl)
  rw [lg_entry_eq]
  generalize (lg_sl ([.ref h0, .int kq, .int wq]) ++ List.replicate (7 - (lg_sl ([.ref h0, .int kq, .int wq])).length) Slot.unset).toArray = ls at hl ⊢
  have hl : lv_has ls 7 [(0, .ref h0), (1, .int kq), (2, .int wq)] := hl
  refine lv_aload_n hx hb dX12_type_0 rfl (lv_at hl 0 rfl) ?_
  refine lv_iconst (v := 0) hx hb dX12_type_1 (by decide) ?_
  refine r_put (v := 0) (ty := .int) hx hb hown hq hE hP hD hS 0 252 tFX12_0 (by decide) pw_1515 (by decide) rfl rfl (ms_0 a _ _) dX12_type_2 (fun H locs hP hD hS => ?_)
  refine lv_aload_n hx hb dX12_type_5 rfl (lv_at hl 0 rfl) ?_
  refine r_get (v := .int hp) hx hb hown hq hE hP 82 649 tFX12_82 (by decide) pw_1922 rfl dX12_type_6 ?_
  refine lv_if_eq (tgt := 26) hx hb dX12_type_9 (by decide) (fun c1 => ?_) (fun c1 => ?_)
  · refine lv_iconst (v := (-1)) hx hb dX12_type_26 (by decide) ?_
    have hP : va_P G.1 pCl (mW G h0 a (upd (upd (upd (upd (upd (upd F 0 0) 35 (nI dc)) 44 (nI fd)) 49 (nI md)) 59 (nI bk)) 82 hp) B) _ := mW_to (F := F) (l1 := [(35, (nI dc)), (44, (nI fd)), (49, (nI md)), (59, (nI bk)), (82, hp), (0, 0)]) (l2 := [(0, 0), (35, (nI dc)), (44, (nI fd)), (49, (nI md)), (59, (nI bk)), (82, hp)]) (V := [(nI dc), (nI fd), (nI md), (nI bk), hp, 0, 0, (nI dc), (nI fd), (nI md), (nI bk), hp]) rfl rfl rfl hP
    have hD : va_D A (mW G h0 a (upd (upd (upd (upd (upd (upd F 0 0) 35 (nI dc)) 44 (nI fd)) 49 (nI md)) 59 (nI bk)) 82 hp) B) := mW_D hD
    exact W.iret (v := (-1)) hx hb hr (fun t9 ht9 hW9 => ⟨⟨_, ((-1) : Int32), rfl, rfl, by rw [ht9]; exact hP, hD⟩, hS.F ht9⟩) hS.2.2 dX12_type_27
  · have hPg := hpg c1
    have hbd := hPg.bd
    have hw31 : B 31 = Xs 31 := hPg.row 31 (by omega) (by omega) (by omega) (by omega) (by omega)
    have hw32 : B 32 = Xs 32 := hPg.row 32 (by omega) (by omega) (by omega) (by omega) (by omega)
    have hw36 : B 36 = Xs 36 := hPg.row 36 (by omega) (by omega) (by omega) (by omega) (by omega)
    have hw26 : B 26 = Xs 26 := hPg.row 26 (by omega) (by omega) (by omega) (by omega) (by omega)
    have hw29 : B 29 = Xs 29 := hPg.row 29 (by omega) (by omega) (by omega) (by omega) (by omega)
    have hfb := hPg.ab.1
    refine lv_iload_n hx hb dX12_type_12 rfl (lv_at hl 1 rfl) ?_
    refine lv_iconst (v := 0) hx hb dX12_type_13 (by decide) ?_
    refine lv_aload_n hx hb dX12_type_14 rfl (lv_at hl 0 rfl) ?_
    refine r_get (v := .int (nI dc)) hx hb hown hq hE hP 35 384 tFX12_35 (by decide) pw_1732 rfl dX12_type_15 ?_
    refine lv_iconst (v := 1) hx hb dX12_type_18 (by decide) ?_
    refine lv_isub hx hb dX12_type_19 ?_
    refine lv_topi (fun x2 e3 => ?_)
    refine pc_SN (G := G) (As := [.int kq, .int 0, .int x2]) (rest := []) hx hb hml hown hq hE hX pX0_al hP hS hA hl.1 (s_in l G kq 0 x2) (gS pw_1521 pw_1522 pw_1523 pw_1513) hS_X12_in rfl (Nat.le_of_ble_eq_true rfl) dX12_type_20 ⟨Nat.le_of_ble_eq_true rfl, Nat.le_of_ble_eq_true rfl⟩ ⟨Nat.le_of_ble_eq_true rfl, Nat.le_of_ble_eq_true rfl⟩ (fun v6 u4 H locs hw5 hP hS => ?_)
    obtain rfl : v6 = some (.int (isin kq 0 x2)) := hw5
    refine W.widen (k := 0) (n := 0) (Nat.le_of_ble_eq_true rfl) (Nat.le_of_ble_eq_true rfl) ?_
    refine W.eq (g2 := F0 m 23 ls [.int (isin kq 0 x2)]) rfl ?_
    refine lv_if_ne (tgt := 28) hx hb dX12_type_23 (by decide) (fun c7 => ?_) (fun c7 => ?_)
    · rw [e3] at c7
      obtain ⟨k9, hkk9, hlk9⟩ := isin_m (n := dc) (by omega) c7
      rw [hkk9] at hl
      refine lv_iconst (v := 0) hx hb dX12_type_28 (by decide) ?_
      refine lv_istore_n (lv' := [(3, .int 0), (0, .ref h0), (1, .int (nI k9)), (2, .int wq)]) hx hb dX12_type_29 rfl hl (by decide) rfl (fun ls hl => ?_)
      obtain ⟨wz, hwz⟩ : ∃ z : Int32, wq = z := ⟨_, rfl⟩
      rw [hwz] at hl
      refine lv_iload_n hx hb dX12_type_30 rfl (lv_at hl 3 rfl) ?_
      by_cases h8 : wz = 0
      · subst h8
        refine lv_tableIn (tgt := 68) (off := 37) hx hb dX12_type_31 (by decide) (by decide) (by decide) (by decide) ?_
        refine lv_iload_n hx hb dX12_type_68 rfl (lv_at hl 2 rfl) ?_
        refine lv_if_eq (tgt := 81) hx hb dX12_type_69 (by decide) (fun c9 => ?_) (fun c9 => ?_)
        · have n10 : k9 = 0 := (nI_eq (a := k9) (b := 0) (by omega) (by omega)).mp c9
          refine lv_iconst (v := (-1)) hx hb dX12_type_81 (by decide) ?_
          refine lv_goto (tgt := 91) hx hb dX12_type_82 (by decide) ?_
          have hP : va_P G.1 pCl (mW G h0 a (upd (upd (upd (upd (upd (upd F 0 0) 35 (nI dc)) 44 (nI fd)) 49 (nI md)) 59 (nI bk)) 82 hp) B) _ := hP
          have hD : va_D A (mW G h0 a (upd (upd (upd (upd (upd (upd F 0 0) 35 (nI dc)) 44 (nI fd)) 49 (nI md)) 59 (nI bk)) 82 hp) B) := mW_D hD
          exact W.iret (v := (-1)) hx hb hr (fun t9 ht9 hW9 => ⟨⟨_, ((-1) : Int32), rfl, rfl, by rw [ht9]; exact hP, hD⟩, hS.F ht9⟩) hS.2.2 dX12_type_91
        · have n11 : ¬ (k9 = 0) := fun h9 => c9 ((nI_eq (a := k9) (b := 0) (by omega) (by omega)).mpr h9)
          refine lv_aload_n hx hb dX12_type_72 rfl (lv_at hl 1 rfl) ?_
          refine r_get (v := .ref (a 26)) hx hb hown hq hE hP 38 90 tFX12_38 (by decide) pw_1457 rfl dX12_type_73 ?_
          refine lv_iload_n hx hb dX12_type_76 rfl (lv_at hl 2 rfl) ?_
          refine r_ldz (f := (B 26)) (j := k9) hx hb hE hP 26 (ma_26 G a _) rfl (by omega) (by decide) dX12_type_77 ?_
          refine lv_if_eq (tgt := 85) hx hb dX12_type_78 (by decide) (fun c12 => ?_) (fun c12 => ?_)
          · refine lv_aload_n hx hb dX12_type_85 rfl (lv_at hl 1 rfl) ?_
            refine r_get (v := .ref (a 29)) hx hb hown hq hE hP 41 99 tFX12_41 (by decide) pw_1460 rfl dX12_type_86 ?_
            refine lv_iload_n hx hb dX12_type_89 rfl (lv_at hl 2 rfl) ?_
            refine r_ldi (f := (B 29)) (j := k9) hx hb hE hP 29 (ma_29 G a _) rfl (by omega) (by decide) dX12_type_90 ?_
            have hP : va_P G.1 pCl (mW G h0 a (upd (upd (upd (upd (upd (upd F 0 0) 35 (nI dc)) 44 (nI fd)) 49 (nI md)) 59 (nI bk)) 82 hp) B) _ := hP
            have hD : va_D A (mW G h0 a (upd (upd (upd (upd (upd (upd F 0 0) 35 (nI dc)) 44 (nI fd)) 49 (nI md)) 59 (nI bk)) 82 hp) B) := mW_D hD
            exact W.iret (v := ((B 29) k9)) hx hb hr (fun t9 ht9 hW9 => ⟨⟨_, ((B 29) k9), rfl, rfl, by rw [ht9]; exact hP, hD⟩, hS.F ht9⟩) hS.2.2 dX12_type_91
          · refine lv_iconst (v := (-1)) hx hb dX12_type_81 (by decide) ?_
            refine lv_goto (tgt := 91) hx hb dX12_type_82 (by decide) ?_
            have hP : va_P G.1 pCl (mW G h0 a (upd (upd (upd (upd (upd (upd F 0 0) 35 (nI dc)) 44 (nI fd)) 49 (nI md)) 59 (nI bk)) 82 hp) B) _ := hP
            have hD : va_D A (mW G h0 a (upd (upd (upd (upd (upd (upd F 0 0) 35 (nI dc)) 44 (nI fd)) 49 (nI md)) 59 (nI bk)) 82 hp) B) := mW_D hD
            exact W.iret (v := (-1)) hx hb hr (fun t9 ht9 hW9 => ⟨⟨_, ((-1) : Int32), rfl, rfl, by rw [ht9]; exact hP, hD⟩, hS.F ht9⟩) hS.2.2 dX12_type_91
      by_cases h13 : wz = 1
      · subst h13
        refine lv_tableIn (tgt := 92) (off := 61) hx hb dX12_type_31 (by decide) (by decide) (by decide) (by decide) ?_
        refine lv_aload_n hx hb dX12_type_92 rfl (lv_at hl 1 rfl) ?_
        refine lv_iload_n hx hb dX12_type_93 rfl (lv_at hl 2 rfl) ?_
        have hP : va_P G.1 pCl (mW G h0 a (upd (upd (upd (upd (upd (upd (upd F 0 0) 35 (nI dc)) 44 (nI fd)) 49 (nI md)) 59 (nI bk)) 82 hp) 44 (nI fd)) B) _ := hP
        have hD : va_D A (mW G h0 a (upd (upd (upd (upd (upd (upd (upd F 0 0) 35 (nI dc)) 44 (nI fd)) 49 (nI md)) 59 (nI bk)) 82 hp) 44 (nI fd)) B) := mW_D hD
        refine pc_V0 (G := G) (As := [.int (nI k9)]) (rest := []) hx hb hml hown hq hE hX pX0_al hP hD hS hA hl.1 (R_fieldsOf l G h0 a (upd (upd (upd (upd (upd (upd F 0 0) 35 (nI dc)) 44 (nI fd)) 49 (nI md)) 59 (nI bk)) 82 hp) B k9 dc fd (by omega) (by omega) (by omega) (by rw [hw31]; exact hfb) (fun f h => by obtain ⟨⟨d, d1, d2, d3⟩, _⟩ := hPg.ps.2.1 f h; exact ⟨d, by rw [hw32]; exact d1, d3⟩)) (gV pw_1946 pw_1947 pw_1948 pw_1523 pw_1911) hV_X12_fieldsOf 0 9 rfl rfl rfl rfl (Nat.le_of_ble_eq_true rfl) dX12_type_94 ⟨Nat.le_of_ble_eq_true rfl, Nat.le_of_ble_eq_true rfl⟩ ⟨Nat.le_of_ble_eq_true rfl, Nat.le_of_ble_eq_true rfl⟩ (fun v16 u14 H locs hw15 hP hD hS => ?_)
        obtain rfl : v16 = some (.int (nI (cfF B k9 fd))) := hw15
        have hP : va_P G.1 pCl (mW G h0 a (upd (upd (upd (upd (upd (upd F 0 0) 35 (nI dc)) 44 (nI fd)) 49 (nI md)) 59 (nI bk)) 82 hp) B) _ := mW_to (F := F) (l1 := [(0, 0), (35, (nI dc)), (44, (nI fd)), (49, (nI md)), (59, (nI bk)), (82, hp), (44, (nI fd))]) (l2 := [(0, 0), (35, (nI dc)), (44, (nI fd)), (49, (nI md)), (59, (nI bk)), (82, hp)]) (V := [0, (nI dc), (nI fd), (nI md), (nI bk), hp, (nI fd), 0, (nI dc), (nI fd), (nI md), (nI bk), hp]) rfl rfl rfl hP
        have hD : va_D A (mW G h0 a (upd (upd (upd (upd (upd (upd F 0 0) 35 (nI dc)) 44 (nI fd)) 49 (nI md)) 59 (nI bk)) 82 hp) B) := mW_D hD
        refine W.widen (k := 0) (n := 0) (Nat.le_of_ble_eq_true rfl) (Nat.le_of_ble_eq_true rfl) ?_
        refine W.eq (g2 := F0 m 97 ls [.int (nI (cfF B k9 fd))]) rfl ?_
        have hP : va_P G.1 pCl (mW G h0 a (upd (upd (upd (upd (upd (upd F 0 0) 35 (nI dc)) 44 (nI fd)) 49 (nI md)) 59 (nI bk)) 82 hp) B) _ := hP
        have hD : va_D A (mW G h0 a (upd (upd (upd (upd (upd (upd F 0 0) 35 (nI dc)) 44 (nI fd)) 49 (nI md)) 59 (nI bk)) 82 hp) B) := mW_D hD
        exact W.iret (v := (nI (cfF B k9 fd))) hx hb hr (fun t9 ht9 hW9 => ⟨⟨_, (nI (cfF B k9 fd)), rfl, rfl, by rw [ht9]; exact hP, hD⟩, hS.F ht9⟩) hS.2.2 dX12_type_97
      by_cases h17 : wz = 2
      · subst h17
        refine lv_tableIn (tgt := 98) (off := 67) hx hb dX12_type_31 (by decide) (by decide) (by decide) (by decide) ?_
        refine lv_iconst (v := 0) hx hb dX12_type_98 (by decide) ?_
        refine lv_istore (lv' := [(4, .int 0), (3, .int 0), (0, .ref h0), (1, .int (nI k9)), (2, .int 2)]) hx hb dX12_type_99 hl (by decide) rfl (fun ls hl => ?_)
        have loop_m : ∀ (n_m : Nat) (m2 : Nat) (n2 : Int32) (H : Heap) (locs : List Loc) (ls : Array Slot), m2 ≤ md → md + 1 ≤ m2 + n_m → va_P G.1 pCl (mW G h0 a (upd (upd (upd (upd (upd (upd F 0 0) 35 (nI dc)) 44 (nI fd)) 49 (nI md)) 59 (nI bk)) 82 hp) B) H → va_D A (mW G h0 a (upd (upd (upd (upd (upd (upd F 0 0) 35 (nI dc)) 44 (nI fd)) 49 (nI md)) 59 (nI bk)) 82 hp) B) → va_S A s.heap H locs → lv_has ls 7 [(4, .int (nI m2)), (3, .int n2), (2, .int 2), (1, .int (nI k9)), (0, .ref h0)] → W p l e (headSpec (Cond.code yX12_type cX12_type 7 (some .int) :: pw) ({ frames := 4, cells := 0, slots := 0, locals := 105 } : Room)).room s m ([.ref h0, .int kq, .int wq] : List Value).toArray below meth c H locs 0 0 (MQ below (pQ G A (fun (v : Option Value) (u : Int32) => v = some (.int u)) (fun u => (mW G h0 a (upd (upd (upd (upd (upd (upd F 0 0) 35 (nI dc)) 44 (nI fd)) 49 (nI md)) 59 (nI bk)) 82 hp) B))) ([.ref h0, .int kq, .int wq] : List Value).toArray s ({ frames := 4, cells := 0, slots := 0, locals := 105 } : Room).cells ({ frames := 4, cells := 0, slots := 0, locals := 105 } : Room).slots A) (F0 m 101 ls []) := by
          intro n_m
          induction n_m with
          | zero => intro m2 n2 H locs ls hk_m hn_m; omega
          | succ n_m ih_m =>
            intro m2 n2 H locs ls hk_m hn_m hP hD hS hl
            refine lv_iload hx hb dX12_type_101 (lv_at hl 0 rfl) ?_
            refine lv_aload_n hx hb dX12_type_103 rfl (lv_at hl 4 rfl) ?_
            refine r_get (v := .int (nI md)) hx hb hown hq hE hP 49 416 tFX12_49 (by decide) pw_1721 rfl dX12_type_104 ?_
            refine lv_icmp_ge (tgt := 233) hx hb dX12_type_107 (by decide) (fun c18 => ?_) (fun c18 => ?_)
            · have n19 : md ≤ m2 := (nI_leI (a := md) (b := m2) (by omega) (by omega)).mp c18
              refine lv_iload_n hx hb dX12_type_233 rfl (lv_at hl 1 rfl) ?_
              have hP : va_P G.1 pCl (mW G h0 a (upd (upd (upd (upd (upd (upd F 0 0) 35 (nI dc)) 44 (nI fd)) 49 (nI md)) 59 (nI bk)) 82 hp) B) _ := hP
              have hD : va_D A (mW G h0 a (upd (upd (upd (upd (upd (upd F 0 0) 35 (nI dc)) 44 (nI fd)) 49 (nI md)) 59 (nI bk)) 82 hp) B) := mW_D hD
              exact W.iret (v := n2) hx hb hr (fun t9 ht9 hW9 => ⟨⟨_, n2, rfl, rfl, by rw [ht9]; exact hP, hD⟩, hS.F ht9⟩) hS.2.2 dX12_type_234
            · have n20 : ¬ (md ≤ m2) := fun h9 => c18 ((nI_leI (a := md) (b := m2) (by omega) (by omega)).mpr h9)
              refine lv_aload_n hx hb dX12_type_110 rfl (lv_at hl 4 rfl) ?_
              refine r_get (v := .ref (a 36)) hx hb hown hq hE hP 50 120 tFX12_50 (by decide) pw_1467 rfl dX12_type_111 ?_
              refine lv_iload hx hb dX12_type_114 (lv_at hl 0 rfl) ?_
              refine r_ldi (f := (B 36)) (j := m2) hx hb hE hP 36 (ma_36 G a _) rfl (by omega) (by decide) dX12_type_116 ?_
              obtain ⟨d21, e22, -, h23, -⟩ := hPg.ps.2.2.1 m2 (by omega)
              refine lv_topi (fun x24 e25 => ?_)
              obtain rfl : x24 = nI d21 := e25.trans ((congrFun hw36 _).trans e22)
              refine lv_iload_n hx hb dX12_type_117 rfl (lv_at hl 3 rfl) ?_
              refine lv_icmp_eq (tgt := 136) hx hb dX12_type_118 (by decide) (fun c26 => ?_) (fun c26 => ?_)
              · have n27 : d21 = k9 := (nI_eq (a := d21) (b := k9) (by omega) (by omega)).mp c26
                refine lv_iconst (v := 1) hx hb dX12_type_136 (by decide) ?_
                refine lv_goto (tgt := 141) hx hb dX12_type_137 (by decide) ?_
                refine lv_istore (lv' := [(5, .int 1), (4, .int (nI m2)), (3, .int n2), (2, .int 2), (1, .int (nI k9)), (0, .ref h0)]) hx hb dX12_type_141 hl (by decide) rfl (fun ls hl => ?_)
                refine lv_iconst (v := 0) hx hb dX12_type_143 (by decide) ?_
                refine lv_istore (lv' := [(6, .int 0), (5, .int 1), (4, .int (nI m2)), (3, .int n2), (2, .int 2), (1, .int (nI k9)), (0, .ref h0)]) hx hb dX12_type_144 hl (by decide) rfl (fun ls hl => ?_)
                have loop_o : ∀ (n_o : Nat) (o2 : Nat) (fi2 : Int32) (H : Heap) (locs : List Loc) (ls : Array Slot), o2 ≤ m2 → m2 + 1 ≤ o2 + n_o → va_P G.1 pCl (mW G h0 a (upd (upd (upd (upd (upd (upd F 0 0) 35 (nI dc)) 44 (nI fd)) 49 (nI md)) 59 (nI bk)) 82 hp) B) H → va_D A (mW G h0 a (upd (upd (upd (upd (upd (upd F 0 0) 35 (nI dc)) 44 (nI fd)) 49 (nI md)) 59 (nI bk)) 82 hp) B) → va_S A s.heap H locs → lv_has ls 7 [(6, .int (nI o2)), (5, .int fi2), (4, .int (nI m2)), (3, .int n2), (2, .int 2), (1, .int (nI k9)), (0, .ref h0)] → W p l e (headSpec (Cond.code yX12_type cX12_type 7 (some .int) :: pw) ({ frames := 4, cells := 0, slots := 0, locals := 105 } : Room)).room s m ([.ref h0, .int kq, .int wq] : List Value).toArray below meth c H locs 0 0 (MQ below (pQ G A (fun (v : Option Value) (u : Int32) => v = some (.int u)) (fun u => (mW G h0 a (upd (upd (upd (upd (upd (upd F 0 0) 35 (nI dc)) 44 (nI fd)) 49 (nI md)) 59 (nI bk)) 82 hp) B))) ([.ref h0, .int kq, .int wq] : List Value).toArray s ({ frames := 4, cells := 0, slots := 0, locals := 105 } : Room).cells ({ frames := 4, cells := 0, slots := 0, locals := 105 } : Room).slots A) (F0 m 146 ls []) := by
                  intro n_o
                  induction n_o with
                  | zero => intro o2 fi2 H locs ls hk_o hn_o; omega
                  | succ n_o ih_o =>
                    intro o2 fi2 H locs ls hk_o hn_o hP hD hS hl
                    refine lv_iload hx hb dX12_type_146 (lv_at hl 1 rfl) ?_
                    refine lv_if_eq (tgt := 214) hx hb dX12_type_148 (by decide) (fun c28 => ?_) (fun c28 => ?_)
                    · refine lv_iload_n hx hb dX12_type_214 rfl (lv_at hl 3 rfl) ?_
                      refine lv_iload hx hb dX12_type_215 (lv_at hl 1 rfl) ?_
                      refine lv_if_eq (tgt := 224) hx hb dX12_type_217 (by decide) (fun c29 => ?_) (fun c29 => ?_)
                      · refine lv_iconst (v := 0) hx hb dX12_type_224 (by decide) ?_
                        refine lv_iadd hx hb dX12_type_225 ?_
                        refine lv_topi (fun x30 e31 => ?_)
                        refine lv_istore_n (lv' := [(3, .int x30), (6, .int (nI o2)), (5, .int fi2), (4, .int (nI m2)), (2, .int 2), (1, .int (nI k9)), (0, .ref h0)]) hx hb dX12_type_226 rfl hl (by decide) rfl (fun ls hl => ?_)
                        refine lv_iinc (v := (nI (m2 + 1))) (lv' := [(4, .int (nI (m2 + 1))), (3, .int x30), (6, .int (nI o2)), (5, .int fi2), (2, .int 2), (1, .int (nI k9)), (0, .ref h0)]) hx hb dX12_type_227 hl (k := 3) rfl (nI_1 m2) (by decide) rfl (fun ls hl => ?_)
                        refine lv_goto (tgt := 101) hx hb dX12_type_230 (by decide) ?_
                        have hP : va_P G.1 pCl (mW G h0 a (upd (upd (upd (upd (upd (upd F 0 0) 35 (nI dc)) 44 (nI fd)) 49 (nI md)) 59 (nI bk)) 82 hp) B) _ := hP
                        have hD : va_D A (mW G h0 a (upd (upd (upd (upd (upd (upd F 0 0) 35 (nI dc)) 44 (nI fd)) 49 (nI md)) 59 (nI bk)) 82 hp) B) := mW_D hD
                        exact ih_m (m2 + 1) x30 _ _ _ (by omega) (by omega) hP hD hS (lv_sub hl [0, 1, 4, 5, 6] rfl)
                      · refine lv_iconst (v := 1) hx hb dX12_type_220 (by decide) ?_
                        refine lv_goto (tgt := 225) hx hb dX12_type_221 (by decide) ?_
                        refine lv_iadd hx hb dX12_type_225 ?_
                        refine lv_topi (fun x32 e33 => ?_)
                        refine lv_istore_n (lv' := [(3, .int x32), (6, .int (nI o2)), (5, .int fi2), (4, .int (nI m2)), (2, .int 2), (1, .int (nI k9)), (0, .ref h0)]) hx hb dX12_type_226 rfl hl (by decide) rfl (fun ls hl => ?_)
                        refine lv_iinc (v := (nI (m2 + 1))) (lv' := [(4, .int (nI (m2 + 1))), (3, .int x32), (6, .int (nI o2)), (5, .int fi2), (2, .int 2), (1, .int (nI k9)), (0, .ref h0)]) hx hb dX12_type_227 hl (k := 3) rfl (nI_1 m2) (by decide) rfl (fun ls hl => ?_)
                        refine lv_goto (tgt := 101) hx hb dX12_type_230 (by decide) ?_
                        have hP : va_P G.1 pCl (mW G h0 a (upd (upd (upd (upd (upd (upd F 0 0) 35 (nI dc)) 44 (nI fd)) 49 (nI md)) 59 (nI bk)) 82 hp) B) _ := hP
                        have hD : va_D A (mW G h0 a (upd (upd (upd (upd (upd (upd F 0 0) 35 (nI dc)) 44 (nI fd)) 49 (nI md)) 59 (nI bk)) 82 hp) B) := mW_D hD
                        exact ih_m (m2 + 1) x32 _ _ _ (by omega) (by omega) hP hD hS (lv_sub hl [0, 1, 4, 5, 6] rfl)
                    · refine lv_iload hx hb dX12_type_151 (lv_at hl 0 rfl) ?_
                      refine lv_iload hx hb dX12_type_153 (lv_at hl 2 rfl) ?_
                      refine lv_icmp_ge (tgt := 214) hx hb dX12_type_155 (by decide) (fun c34 => ?_) (fun c34 => ?_)
                      · have n35 : m2 ≤ o2 := (nI_leI (a := m2) (b := o2) (by omega) (by omega)).mp c34
                        refine lv_iload_n hx hb dX12_type_214 rfl (lv_at hl 3 rfl) ?_
                        refine lv_iload hx hb dX12_type_215 (lv_at hl 1 rfl) ?_
                        refine lv_if_eq (tgt := 224) hx hb dX12_type_217 (by decide) (fun c36 => ?_) (fun c36 => ?_)
                        · refine lv_iconst (v := 0) hx hb dX12_type_224 (by decide) ?_
                          refine lv_iadd hx hb dX12_type_225 ?_
                          refine lv_topi (fun x37 e38 => ?_)
                          refine lv_istore_n (lv' := [(3, .int x37), (6, .int (nI o2)), (5, .int fi2), (4, .int (nI m2)), (2, .int 2), (1, .int (nI k9)), (0, .ref h0)]) hx hb dX12_type_226 rfl hl (by decide) rfl (fun ls hl => ?_)
                          refine lv_iinc (v := (nI (m2 + 1))) (lv' := [(4, .int (nI (m2 + 1))), (3, .int x37), (6, .int (nI o2)), (5, .int fi2), (2, .int 2), (1, .int (nI k9)), (0, .ref h0)]) hx hb dX12_type_227 hl (k := 3) rfl (nI_1 m2) (by decide) rfl (fun ls hl => ?_)
                          refine lv_goto (tgt := 101) hx hb dX12_type_230 (by decide) ?_
                          have hP : va_P G.1 pCl (mW G h0 a (upd (upd (upd (upd (upd (upd F 0 0) 35 (nI dc)) 44 (nI fd)) 49 (nI md)) 59 (nI bk)) 82 hp) B) _ := hP
                          have hD : va_D A (mW G h0 a (upd (upd (upd (upd (upd (upd F 0 0) 35 (nI dc)) 44 (nI fd)) 49 (nI md)) 59 (nI bk)) 82 hp) B) := mW_D hD
                          exact ih_m (m2 + 1) x37 _ _ _ (by omega) (by omega) hP hD hS (lv_sub hl [0, 1, 4, 5, 6] rfl)
                        · refine lv_iconst (v := 1) hx hb dX12_type_220 (by decide) ?_
                          refine lv_goto (tgt := 225) hx hb dX12_type_221 (by decide) ?_
                          refine lv_iadd hx hb dX12_type_225 ?_
                          refine lv_topi (fun x39 e40 => ?_)
                          refine lv_istore_n (lv' := [(3, .int x39), (6, .int (nI o2)), (5, .int fi2), (4, .int (nI m2)), (2, .int 2), (1, .int (nI k9)), (0, .ref h0)]) hx hb dX12_type_226 rfl hl (by decide) rfl (fun ls hl => ?_)
                          refine lv_iinc (v := (nI (m2 + 1))) (lv' := [(4, .int (nI (m2 + 1))), (3, .int x39), (6, .int (nI o2)), (5, .int fi2), (2, .int 2), (1, .int (nI k9)), (0, .ref h0)]) hx hb dX12_type_227 hl (k := 3) rfl (nI_1 m2) (by decide) rfl (fun ls hl => ?_)
                          refine lv_goto (tgt := 101) hx hb dX12_type_230 (by decide) ?_
                          have hP : va_P G.1 pCl (mW G h0 a (upd (upd (upd (upd (upd (upd F 0 0) 35 (nI dc)) 44 (nI fd)) 49 (nI md)) 59 (nI bk)) 82 hp) B) _ := hP
                          have hD : va_D A (mW G h0 a (upd (upd (upd (upd (upd (upd F 0 0) 35 (nI dc)) 44 (nI fd)) 49 (nI md)) 59 (nI bk)) 82 hp) B) := mW_D hD
                          exact ih_m (m2 + 1) x39 _ _ _ (by omega) (by omega) hP hD hS (lv_sub hl [0, 1, 4, 5, 6] rfl)
                      · have n41 : ¬ (m2 ≤ o2) := fun h9 => c34 ((nI_leI (a := m2) (b := o2) (by omega) (by omega)).mpr h9)
                        refine lv_aload_n hx hb dX12_type_158 rfl (lv_at hl 6 rfl) ?_
                        refine r_get (v := .ref (a 37)) hx hb hown hq hE hP 51 123 tFX12_51 (by decide) pw_1468 rfl dX12_type_159 ?_
                        refine lv_iload hx hb dX12_type_162 (lv_at hl 0 rfl) ?_
                        refine r_ldi (f := (B 37)) (j := o2) hx hb hE hP 37 (ma_37 G a _) rfl (by omega) (by decide) dX12_type_164 ?_
                        refine lv_aload_n hx hb dX12_type_165 rfl (lv_at hl 6 rfl) ?_
                        refine r_get (v := .ref (a 37)) hx hb hown hq hE hP 51 123 tFX12_51 (by decide) pw_1468 rfl dX12_type_166 ?_
                        refine lv_iload hx hb dX12_type_169 (lv_at hl 2 rfl) ?_
                        refine r_ldi (f := (B 37)) (j := m2) hx hb hE hP 37 (ma_37 G a _) rfl (by omega) (by decide) dX12_type_171 ?_
                        refine lv_icmp_ne (tgt := 201) hx hb dX12_type_172 (by decide) (fun c42 => ?_) (fun c42 => ?_)
                        · refine lv_iconst (v := 1) hx hb dX12_type_201 (by decide) ?_
                          refine lv_goto (tgt := 206) hx hb dX12_type_202 (by decide) ?_
                          refine lv_istore (lv' := [(5, .int 1), (6, .int (nI o2)), (4, .int (nI m2)), (3, .int n2), (2, .int 2), (1, .int (nI k9)), (0, .ref h0)]) hx hb dX12_type_206 hl (by decide) rfl (fun ls hl => ?_)
                          refine lv_iinc (v := (nI (o2 + 1))) (lv' := [(6, .int (nI (o2 + 1))), (5, .int 1), (4, .int (nI m2)), (3, .int n2), (2, .int 2), (1, .int (nI k9)), (0, .ref h0)]) hx hb dX12_type_208 hl (k := 1) rfl (nI_1 o2) (by decide) rfl (fun ls hl => ?_)
                          refine lv_goto (tgt := 146) hx hb dX12_type_211 (by decide) ?_
                          have hP : va_P G.1 pCl (mW G h0 a (upd (upd (upd (upd (upd (upd F 0 0) 35 (nI dc)) 44 (nI fd)) 49 (nI md)) 59 (nI bk)) 82 hp) B) _ := hP
                          have hD : va_D A (mW G h0 a (upd (upd (upd (upd (upd (upd F 0 0) 35 (nI dc)) 44 (nI fd)) 49 (nI md)) 59 (nI bk)) 82 hp) B) := mW_D hD
                          exact ih_o (o2 + 1) 1 _ _ _ (by omega) (by omega) hP hD hS (lv_sub hl [0, 1, 2, 3, 4, 5, 6] rfl)
                        · refine lv_aload_n hx hb dX12_type_175 rfl (lv_at hl 6 rfl) ?_
                          refine r_get (v := .ref (a 36)) hx hb hown hq hE hP 50 120 tFX12_50 (by decide) pw_1467 rfl dX12_type_176 ?_
                          refine lv_iload hx hb dX12_type_179 (lv_at hl 0 rfl) ?_
                          refine r_ldi (f := (B 36)) (j := o2) hx hb hE hP 36 (ma_36 G a _) rfl (by omega) (by decide) dX12_type_181 ?_
                          obtain ⟨d43, e44, -, h45, -⟩ := hPg.ps.2.2.1 o2 (by omega)
                          refine lv_topi (fun x46 e47 => ?_)
                          obtain rfl : x46 = nI d43 := e47.trans ((congrFun hw36 _).trans e44)
                          refine lv_iload_n hx hb dX12_type_182 rfl (lv_at hl 5 rfl) ?_
                          refine lv_icmp_eq (tgt := 205) hx hb dX12_type_183 (by decide) (fun c48 => ?_) (fun c48 => ?_)
                          · have n49 : d43 = k9 := (nI_eq (a := d43) (b := k9) (by omega) (by omega)).mp c48
                            refine lv_iconst (v := 0) hx hb dX12_type_205 (by decide) ?_
                            refine lv_istore (lv' := [(5, .int 0), (6, .int (nI o2)), (4, .int (nI m2)), (3, .int n2), (2, .int 2), (1, .int (nI k9)), (0, .ref h0)]) hx hb dX12_type_206 hl (by decide) rfl (fun ls hl => ?_)
                            refine lv_iinc (v := (nI (o2 + 1))) (lv' := [(6, .int (nI (o2 + 1))), (5, .int 0), (4, .int (nI m2)), (3, .int n2), (2, .int 2), (1, .int (nI k9)), (0, .ref h0)]) hx hb dX12_type_208 hl (k := 1) rfl (nI_1 o2) (by decide) rfl (fun ls hl => ?_)
                            refine lv_goto (tgt := 146) hx hb dX12_type_211 (by decide) ?_
                            have hP : va_P G.1 pCl (mW G h0 a (upd (upd (upd (upd (upd (upd F 0 0) 35 (nI dc)) 44 (nI fd)) 49 (nI md)) 59 (nI bk)) 82 hp) B) _ := hP
                            have hD : va_D A (mW G h0 a (upd (upd (upd (upd (upd (upd F 0 0) 35 (nI dc)) 44 (nI fd)) 49 (nI md)) 59 (nI bk)) 82 hp) B) := mW_D hD
                            exact ih_o (o2 + 1) 0 _ _ _ (by omega) (by omega) hP hD hS (lv_sub hl [0, 1, 2, 3, 4, 5, 6] rfl)
                          · have n50 : ¬ (d43 = k9) := fun h9 => c48 ((nI_eq (a := d43) (b := k9) (by omega) (by omega)).mpr h9)
                            refine lv_aload_n hx hb dX12_type_186 rfl (lv_at hl 6 rfl) ?_
                            refine lv_aload_n hx hb dX12_type_187 rfl (lv_at hl 6 rfl) ?_
                            refine r_get (v := .ref (a 36)) hx hb hown hq hE hP 50 120 tFX12_50 (by decide) pw_1467 rfl dX12_type_188 ?_
                            refine lv_iload hx hb dX12_type_191 (lv_at hl 0 rfl) ?_
                            refine r_ldi (f := (B 36)) (j := o2) hx hb hE hP 36 (ma_36 G a _) rfl (by omega) (by decide) dX12_type_193 ?_
                            obtain ⟨d51, e52, -, h53, -⟩ := hPg.ps.2.2.1 o2 (by omega)
                            refine lv_topi (fun x54 e55 => ?_)
                            obtain rfl : x54 = nI d51 := e55.trans ((congrFun hw36 _).trans e52)
                            refine lv_iload_n hx hb dX12_type_194 rfl (lv_at hl 5 rfl) ?_
                            have hP : va_P G.1 pCl (mW G h0 a (upd (upd (upd (upd (upd (upd F 0 0) 35 (nI dc)) 44 (nI fd)) 49 (nI md)) 59 (nI bk)) 82 hp) (updA B 31 (B 31))) _ := mW_to (F := F) (l1 := [(0, 0), (35, (nI dc)), (44, (nI fd)), (49, (nI md)), (59, (nI bk)), (82, hp)]) (l2 := [(0, 0), (35, (nI dc)), (44, (nI fd)), (49, (nI md)), (59, (nI bk)), (82, hp)]) (V := [0, (nI dc), (nI fd), (nI md), (nI bk), hp, 0, (nI dc), (nI fd), (nI md), (nI bk), hp]) rfl rfl (show B = (updA B 31 (B 31)) from updsA_eq2 (F := B) (l1 := []) (l2 := [(31, (B 31))]) (V := [(B 31)]) rfl rfl) hP
                            have hD : va_D A (mW G h0 a (upd (upd (upd (upd (upd (upd F 0 0) 35 (nI dc)) 44 (nI fd)) 49 (nI md)) 59 (nI bk)) 82 hp) (updA B 31 (B 31))) := mW_D hD
                            refine pc_V0 (G := G) (As := [.int (nI d51), .int (nI k9)]) (rest := []) hx hb hml hown hq hE hX pX0_al hP hD hS hA hl.1 (R_isAbove l G h0 a (upd (upd (upd (upd (upd (upd F 0 0) 35 (nI dc)) 44 (nI fd)) 49 (nI md)) 59 (nI bk)) 82 hp) B d51 k9 (B 31) (by omega) (by show ∀ i : Nat, i < 1600 → B 31 i = 0 ∨ B 31 i = 1; rw [hw31]; exact hfb)) (gV pw_1772 pw_1773 pw_1774 pw_1523 pw_1760) hV_X12_isAbove 0 9 rfl rfl rfl rfl (Nat.le_of_ble_eq_true rfl) dX12_type_195 ⟨Nat.le_of_ble_eq_true rfl, Nat.le_of_ble_eq_true rfl⟩ ⟨Nat.le_of_ble_eq_true rfl, Nat.le_of_ble_eq_true rfl⟩ (fun v58 u56 H locs hw57 hP hD hS => ?_)
                            obtain rfl : v58 = some (.int ((B 31) (40 * d51 + k9))) := hw57
                            have hP : va_P G.1 pCl (mW G h0 a (upd (upd (upd (upd (upd (upd F 0 0) 35 (nI dc)) 44 (nI fd)) 49 (nI md)) 59 (nI bk)) 82 hp) B) _ := mW_to (F := F) (l1 := [(0, 0), (35, (nI dc)), (44, (nI fd)), (49, (nI md)), (59, (nI bk)), (82, hp)]) (l2 := [(0, 0), (35, (nI dc)), (44, (nI fd)), (49, (nI md)), (59, (nI bk)), (82, hp)]) (V := [0, (nI dc), (nI fd), (nI md), (nI bk), hp, 0, (nI dc), (nI fd), (nI md), (nI bk), hp]) rfl rfl (show (updA B 31 (B 31)) = B from updsA_eq2 (F := B) (l1 := [(31, (B 31))]) (l2 := []) (V := [(B 31)]) rfl rfl) hP
                            have hD : va_D A (mW G h0 a (upd (upd (upd (upd (upd (upd F 0 0) 35 (nI dc)) 44 (nI fd)) 49 (nI md)) 59 (nI bk)) 82 hp) B) := mW_D hD
                            refine W.widen (k := 0) (n := 0) (Nat.le_of_ble_eq_true rfl) (Nat.le_of_ble_eq_true rfl) ?_
                            refine W.eq (g2 := F0 m 198 ls [.int ((B 31) (40 * d51 + k9))]) rfl ?_
                            refine lv_if_ne (tgt := 205) hx hb dX12_type_198 (by decide) (fun c59 => ?_) (fun c59 => ?_)
                            · refine lv_iconst (v := 0) hx hb dX12_type_205 (by decide) ?_
                              refine lv_istore (lv' := [(5, .int 0), (6, .int (nI o2)), (4, .int (nI m2)), (3, .int n2), (2, .int 2), (1, .int (nI k9)), (0, .ref h0)]) hx hb dX12_type_206 hl (by decide) rfl (fun ls hl => ?_)
                              refine lv_iinc (v := (nI (o2 + 1))) (lv' := [(6, .int (nI (o2 + 1))), (5, .int 0), (4, .int (nI m2)), (3, .int n2), (2, .int 2), (1, .int (nI k9)), (0, .ref h0)]) hx hb dX12_type_208 hl (k := 1) rfl (nI_1 o2) (by decide) rfl (fun ls hl => ?_)
                              refine lv_goto (tgt := 146) hx hb dX12_type_211 (by decide) ?_
                              have hP : va_P G.1 pCl (mW G h0 a (upd (upd (upd (upd (upd (upd F 0 0) 35 (nI dc)) 44 (nI fd)) 49 (nI md)) 59 (nI bk)) 82 hp) B) _ := hP
                              have hD : va_D A (mW G h0 a (upd (upd (upd (upd (upd (upd F 0 0) 35 (nI dc)) 44 (nI fd)) 49 (nI md)) 59 (nI bk)) 82 hp) B) := mW_D hD
                              exact ih_o (o2 + 1) 0 _ _ _ (by omega) (by omega) hP hD hS (lv_sub hl [0, 1, 2, 3, 4, 5, 6] rfl)
                            · refine lv_iconst (v := 1) hx hb dX12_type_201 (by decide) ?_
                              refine lv_goto (tgt := 206) hx hb dX12_type_202 (by decide) ?_
                              refine lv_istore (lv' := [(5, .int 1), (6, .int (nI o2)), (4, .int (nI m2)), (3, .int n2), (2, .int 2), (1, .int (nI k9)), (0, .ref h0)]) hx hb dX12_type_206 hl (by decide) rfl (fun ls hl => ?_)
                              refine lv_iinc (v := (nI (o2 + 1))) (lv' := [(6, .int (nI (o2 + 1))), (5, .int 1), (4, .int (nI m2)), (3, .int n2), (2, .int 2), (1, .int (nI k9)), (0, .ref h0)]) hx hb dX12_type_208 hl (k := 1) rfl (nI_1 o2) (by decide) rfl (fun ls hl => ?_)
                              refine lv_goto (tgt := 146) hx hb dX12_type_211 (by decide) ?_
                              have hP : va_P G.1 pCl (mW G h0 a (upd (upd (upd (upd (upd (upd F 0 0) 35 (nI dc)) 44 (nI fd)) 49 (nI md)) 59 (nI bk)) 82 hp) B) _ := hP
                              have hD : va_D A (mW G h0 a (upd (upd (upd (upd (upd (upd F 0 0) 35 (nI dc)) 44 (nI fd)) 49 (nI md)) 59 (nI bk)) 82 hp) B) := mW_D hD
                              exact ih_o (o2 + 1) 1 _ _ _ (by omega) (by omega) hP hD hS (lv_sub hl [0, 1, 2, 3, 4, 5, 6] rfl)
                have hP : va_P G.1 pCl (mW G h0 a (upd (upd (upd (upd (upd (upd F 0 0) 35 (nI dc)) 44 (nI fd)) 49 (nI md)) 59 (nI bk)) 82 hp) B) _ := hP
                have hD : va_D A (mW G h0 a (upd (upd (upd (upd (upd (upd F 0 0) 35 (nI dc)) 44 (nI fd)) 49 (nI md)) 59 (nI bk)) 82 hp) B) := mW_D hD
                exact loop_o (m2 + 1) 0 1 _ _ _ (by omega) (by omega) hP hD hS (lv_sub hl [0, 1, 2, 3, 4, 5, 6] rfl)
              · have n60 : ¬ (d21 = k9) := fun h9 => c26 ((nI_eq (a := d21) (b := k9) (by omega) (by omega)).mpr h9)
                refine lv_aload_n hx hb dX12_type_121 rfl (lv_at hl 4 rfl) ?_
                refine lv_aload_n hx hb dX12_type_122 rfl (lv_at hl 4 rfl) ?_
                refine r_get (v := .ref (a 36)) hx hb hown hq hE hP 50 120 tFX12_50 (by decide) pw_1467 rfl dX12_type_123 ?_
                refine lv_iload hx hb dX12_type_126 (lv_at hl 0 rfl) ?_
                refine r_ldi (f := (B 36)) (j := m2) hx hb hE hP 36 (ma_36 G a _) rfl (by omega) (by decide) dX12_type_128 ?_
                obtain ⟨d61, e62, -, h63, -⟩ := hPg.ps.2.2.1 m2 (by omega)
                refine lv_topi (fun x64 e65 => ?_)
                obtain rfl : x64 = nI d61 := e65.trans ((congrFun hw36 _).trans e62)
                refine lv_iload_n hx hb dX12_type_129 rfl (lv_at hl 3 rfl) ?_
                have hP : va_P G.1 pCl (mW G h0 a (upd (upd (upd (upd (upd (upd F 0 0) 35 (nI dc)) 44 (nI fd)) 49 (nI md)) 59 (nI bk)) 82 hp) (updA B 31 (B 31))) _ := mW_to (F := F) (l1 := [(0, 0), (35, (nI dc)), (44, (nI fd)), (49, (nI md)), (59, (nI bk)), (82, hp)]) (l2 := [(0, 0), (35, (nI dc)), (44, (nI fd)), (49, (nI md)), (59, (nI bk)), (82, hp)]) (V := [0, (nI dc), (nI fd), (nI md), (nI bk), hp, 0, (nI dc), (nI fd), (nI md), (nI bk), hp]) rfl rfl (show B = (updA B 31 (B 31)) from updsA_eq2 (F := B) (l1 := []) (l2 := [(31, (B 31))]) (V := [(B 31)]) rfl rfl) hP
                have hD : va_D A (mW G h0 a (upd (upd (upd (upd (upd (upd F 0 0) 35 (nI dc)) 44 (nI fd)) 49 (nI md)) 59 (nI bk)) 82 hp) (updA B 31 (B 31))) := mW_D hD
                refine pc_V0 (G := G) (As := [.int (nI d61), .int (nI k9)]) (rest := []) hx hb hml hown hq hE hX pX0_al hP hD hS hA hl.1 (R_isAbove l G h0 a (upd (upd (upd (upd (upd (upd F 0 0) 35 (nI dc)) 44 (nI fd)) 49 (nI md)) 59 (nI bk)) 82 hp) B d61 k9 (B 31) (by omega) (by show ∀ i : Nat, i < 1600 → B 31 i = 0 ∨ B 31 i = 1; rw [hw31]; exact hfb)) (gV pw_1772 pw_1773 pw_1774 pw_1523 pw_1760) hV_X12_isAbove 0 9 rfl rfl rfl rfl (Nat.le_of_ble_eq_true rfl) dX12_type_130 ⟨Nat.le_of_ble_eq_true rfl, Nat.le_of_ble_eq_true rfl⟩ ⟨Nat.le_of_ble_eq_true rfl, Nat.le_of_ble_eq_true rfl⟩ (fun v68 u66 H locs hw67 hP hD hS => ?_)
                obtain rfl : v68 = some (.int ((B 31) (40 * d61 + k9))) := hw67
                have hP : va_P G.1 pCl (mW G h0 a (upd (upd (upd (upd (upd (upd F 0 0) 35 (nI dc)) 44 (nI fd)) 49 (nI md)) 59 (nI bk)) 82 hp) B) _ := mW_to (F := F) (l1 := [(0, 0), (35, (nI dc)), (44, (nI fd)), (49, (nI md)), (59, (nI bk)), (82, hp)]) (l2 := [(0, 0), (35, (nI dc)), (44, (nI fd)), (49, (nI md)), (59, (nI bk)), (82, hp)]) (V := [0, (nI dc), (nI fd), (nI md), (nI bk), hp, 0, (nI dc), (nI fd), (nI md), (nI bk), hp]) rfl rfl (show (updA B 31 (B 31)) = B from updsA_eq2 (F := B) (l1 := [(31, (B 31))]) (l2 := []) (V := [(B 31)]) rfl rfl) hP
                have hD : va_D A (mW G h0 a (upd (upd (upd (upd (upd (upd F 0 0) 35 (nI dc)) 44 (nI fd)) 49 (nI md)) 59 (nI bk)) 82 hp) B) := mW_D hD
                refine W.widen (k := 0) (n := 0) (Nat.le_of_ble_eq_true rfl) (Nat.le_of_ble_eq_true rfl) ?_
                refine W.eq (g2 := F0 m 133 ls [.int ((B 31) (40 * d61 + k9))]) rfl ?_
                refine lv_if_eq (tgt := 140) hx hb dX12_type_133 (by decide) (fun c69 => ?_) (fun c69 => ?_)
                · refine lv_iconst (v := 0) hx hb dX12_type_140 (by decide) ?_
                  refine lv_istore (lv' := [(5, .int 0), (4, .int (nI m2)), (3, .int n2), (2, .int 2), (1, .int (nI k9)), (0, .ref h0)]) hx hb dX12_type_141 hl (by decide) rfl (fun ls hl => ?_)
                  refine lv_iconst (v := 0) hx hb dX12_type_143 (by decide) ?_
                  refine lv_istore (lv' := [(6, .int 0), (5, .int 0), (4, .int (nI m2)), (3, .int n2), (2, .int 2), (1, .int (nI k9)), (0, .ref h0)]) hx hb dX12_type_144 hl (by decide) rfl (fun ls hl => ?_)
                  have loop_o : ∀ (n_o : Nat) (o2 : Nat) (fi2 : Int32) (H : Heap) (locs : List Loc) (ls : Array Slot), o2 ≤ m2 → m2 + 1 ≤ o2 + n_o → va_P G.1 pCl (mW G h0 a (upd (upd (upd (upd (upd (upd F 0 0) 35 (nI dc)) 44 (nI fd)) 49 (nI md)) 59 (nI bk)) 82 hp) B) H → va_D A (mW G h0 a (upd (upd (upd (upd (upd (upd F 0 0) 35 (nI dc)) 44 (nI fd)) 49 (nI md)) 59 (nI bk)) 82 hp) B) → va_S A s.heap H locs → lv_has ls 7 [(6, .int (nI o2)), (5, .int fi2), (4, .int (nI m2)), (3, .int n2), (2, .int 2), (1, .int (nI k9)), (0, .ref h0)] → W p l e (headSpec (Cond.code yX12_type cX12_type 7 (some .int) :: pw) ({ frames := 4, cells := 0, slots := 0, locals := 105 } : Room)).room s m ([.ref h0, .int kq, .int wq] : List Value).toArray below meth c H locs 0 0 (MQ below (pQ G A (fun (v : Option Value) (u : Int32) => v = some (.int u)) (fun u => (mW G h0 a (upd (upd (upd (upd (upd (upd F 0 0) 35 (nI dc)) 44 (nI fd)) 49 (nI md)) 59 (nI bk)) 82 hp) B))) ([.ref h0, .int kq, .int wq] : List Value).toArray s ({ frames := 4, cells := 0, slots := 0, locals := 105 } : Room).cells ({ frames := 4, cells := 0, slots := 0, locals := 105 } : Room).slots A) (F0 m 146 ls []) := by
                    intro n_o
                    induction n_o with
                    | zero => intro o2 fi2 H locs ls hk_o hn_o; omega
                    | succ n_o ih_o =>
                      intro o2 fi2 H locs ls hk_o hn_o hP hD hS hl
                      refine lv_iload hx hb dX12_type_146 (lv_at hl 1 rfl) ?_
                      refine lv_if_eq (tgt := 214) hx hb dX12_type_148 (by decide) (fun c70 => ?_) (fun c70 => ?_)
                      · refine lv_iload_n hx hb dX12_type_214 rfl (lv_at hl 3 rfl) ?_
                        refine lv_iload hx hb dX12_type_215 (lv_at hl 1 rfl) ?_
                        refine lv_if_eq (tgt := 224) hx hb dX12_type_217 (by decide) (fun c71 => ?_) (fun c71 => ?_)
                        · refine lv_iconst (v := 0) hx hb dX12_type_224 (by decide) ?_
                          refine lv_iadd hx hb dX12_type_225 ?_
                          refine lv_topi (fun x72 e73 => ?_)
                          refine lv_istore_n (lv' := [(3, .int x72), (6, .int (nI o2)), (5, .int fi2), (4, .int (nI m2)), (2, .int 2), (1, .int (nI k9)), (0, .ref h0)]) hx hb dX12_type_226 rfl hl (by decide) rfl (fun ls hl => ?_)
                          refine lv_iinc (v := (nI (m2 + 1))) (lv' := [(4, .int (nI (m2 + 1))), (3, .int x72), (6, .int (nI o2)), (5, .int fi2), (2, .int 2), (1, .int (nI k9)), (0, .ref h0)]) hx hb dX12_type_227 hl (k := 3) rfl (nI_1 m2) (by decide) rfl (fun ls hl => ?_)
                          refine lv_goto (tgt := 101) hx hb dX12_type_230 (by decide) ?_
                          have hP : va_P G.1 pCl (mW G h0 a (upd (upd (upd (upd (upd (upd F 0 0) 35 (nI dc)) 44 (nI fd)) 49 (nI md)) 59 (nI bk)) 82 hp) B) _ := hP
                          have hD : va_D A (mW G h0 a (upd (upd (upd (upd (upd (upd F 0 0) 35 (nI dc)) 44 (nI fd)) 49 (nI md)) 59 (nI bk)) 82 hp) B) := mW_D hD
                          exact ih_m (m2 + 1) x72 _ _ _ (by omega) (by omega) hP hD hS (lv_sub hl [0, 1, 4, 5, 6] rfl)
                        · refine lv_iconst (v := 1) hx hb dX12_type_220 (by decide) ?_
                          refine lv_goto (tgt := 225) hx hb dX12_type_221 (by decide) ?_
                          refine lv_iadd hx hb dX12_type_225 ?_
                          refine lv_topi (fun x74 e75 => ?_)
                          refine lv_istore_n (lv' := [(3, .int x74), (6, .int (nI o2)), (5, .int fi2), (4, .int (nI m2)), (2, .int 2), (1, .int (nI k9)), (0, .ref h0)]) hx hb dX12_type_226 rfl hl (by decide) rfl (fun ls hl => ?_)
                          refine lv_iinc (v := (nI (m2 + 1))) (lv' := [(4, .int (nI (m2 + 1))), (3, .int x74), (6, .int (nI o2)), (5, .int fi2), (2, .int 2), (1, .int (nI k9)), (0, .ref h0)]) hx hb dX12_type_227 hl (k := 3) rfl (nI_1 m2) (by decide) rfl (fun ls hl => ?_)
                          refine lv_goto (tgt := 101) hx hb dX12_type_230 (by decide) ?_
                          have hP : va_P G.1 pCl (mW G h0 a (upd (upd (upd (upd (upd (upd F 0 0) 35 (nI dc)) 44 (nI fd)) 49 (nI md)) 59 (nI bk)) 82 hp) B) _ := hP
                          have hD : va_D A (mW G h0 a (upd (upd (upd (upd (upd (upd F 0 0) 35 (nI dc)) 44 (nI fd)) 49 (nI md)) 59 (nI bk)) 82 hp) B) := mW_D hD
                          exact ih_m (m2 + 1) x74 _ _ _ (by omega) (by omega) hP hD hS (lv_sub hl [0, 1, 4, 5, 6] rfl)
                      · refine lv_iload hx hb dX12_type_151 (lv_at hl 0 rfl) ?_
                        refine lv_iload hx hb dX12_type_153 (lv_at hl 2 rfl) ?_
                        refine lv_icmp_ge (tgt := 214) hx hb dX12_type_155 (by decide) (fun c76 => ?_) (fun c76 => ?_)
                        · have n77 : m2 ≤ o2 := (nI_leI (a := m2) (b := o2) (by omega) (by omega)).mp c76
                          refine lv_iload_n hx hb dX12_type_214 rfl (lv_at hl 3 rfl) ?_
                          refine lv_iload hx hb dX12_type_215 (lv_at hl 1 rfl) ?_
                          refine lv_if_eq (tgt := 224) hx hb dX12_type_217 (by decide) (fun c78 => ?_) (fun c78 => ?_)
                          · refine lv_iconst (v := 0) hx hb dX12_type_224 (by decide) ?_
                            refine lv_iadd hx hb dX12_type_225 ?_
                            refine lv_topi (fun x79 e80 => ?_)
                            refine lv_istore_n (lv' := [(3, .int x79), (6, .int (nI o2)), (5, .int fi2), (4, .int (nI m2)), (2, .int 2), (1, .int (nI k9)), (0, .ref h0)]) hx hb dX12_type_226 rfl hl (by decide) rfl (fun ls hl => ?_)
                            refine lv_iinc (v := (nI (m2 + 1))) (lv' := [(4, .int (nI (m2 + 1))), (3, .int x79), (6, .int (nI o2)), (5, .int fi2), (2, .int 2), (1, .int (nI k9)), (0, .ref h0)]) hx hb dX12_type_227 hl (k := 3) rfl (nI_1 m2) (by decide) rfl (fun ls hl => ?_)
                            refine lv_goto (tgt := 101) hx hb dX12_type_230 (by decide) ?_
                            have hP : va_P G.1 pCl (mW G h0 a (upd (upd (upd (upd (upd (upd F 0 0) 35 (nI dc)) 44 (nI fd)) 49 (nI md)) 59 (nI bk)) 82 hp) B) _ := hP
                            have hD : va_D A (mW G h0 a (upd (upd (upd (upd (upd (upd F 0 0) 35 (nI dc)) 44 (nI fd)) 49 (nI md)) 59 (nI bk)) 82 hp) B) := mW_D hD
                            exact ih_m (m2 + 1) x79 _ _ _ (by omega) (by omega) hP hD hS (lv_sub hl [0, 1, 4, 5, 6] rfl)
                          · refine lv_iconst (v := 1) hx hb dX12_type_220 (by decide) ?_
                            refine lv_goto (tgt := 225) hx hb dX12_type_221 (by decide) ?_
                            refine lv_iadd hx hb dX12_type_225 ?_
                            refine lv_topi (fun x81 e82 => ?_)
                            refine lv_istore_n (lv' := [(3, .int x81), (6, .int (nI o2)), (5, .int fi2), (4, .int (nI m2)), (2, .int 2), (1, .int (nI k9)), (0, .ref h0)]) hx hb dX12_type_226 rfl hl (by decide) rfl (fun ls hl => ?_)
                            refine lv_iinc (v := (nI (m2 + 1))) (lv' := [(4, .int (nI (m2 + 1))), (3, .int x81), (6, .int (nI o2)), (5, .int fi2), (2, .int 2), (1, .int (nI k9)), (0, .ref h0)]) hx hb dX12_type_227 hl (k := 3) rfl (nI_1 m2) (by decide) rfl (fun ls hl => ?_)
                            refine lv_goto (tgt := 101) hx hb dX12_type_230 (by decide) ?_
                            have hP : va_P G.1 pCl (mW G h0 a (upd (upd (upd (upd (upd (upd F 0 0) 35 (nI dc)) 44 (nI fd)) 49 (nI md)) 59 (nI bk)) 82 hp) B) _ := hP
                            have hD : va_D A (mW G h0 a (upd (upd (upd (upd (upd (upd F 0 0) 35 (nI dc)) 44 (nI fd)) 49 (nI md)) 59 (nI bk)) 82 hp) B) := mW_D hD
                            exact ih_m (m2 + 1) x81 _ _ _ (by omega) (by omega) hP hD hS (lv_sub hl [0, 1, 4, 5, 6] rfl)
                        · have n83 : ¬ (m2 ≤ o2) := fun h9 => c76 ((nI_leI (a := m2) (b := o2) (by omega) (by omega)).mpr h9)
                          refine lv_aload_n hx hb dX12_type_158 rfl (lv_at hl 6 rfl) ?_
                          refine r_get (v := .ref (a 37)) hx hb hown hq hE hP 51 123 tFX12_51 (by decide) pw_1468 rfl dX12_type_159 ?_
                          refine lv_iload hx hb dX12_type_162 (lv_at hl 0 rfl) ?_
                          refine r_ldi (f := (B 37)) (j := o2) hx hb hE hP 37 (ma_37 G a _) rfl (by omega) (by decide) dX12_type_164 ?_
                          refine lv_aload_n hx hb dX12_type_165 rfl (lv_at hl 6 rfl) ?_
                          refine r_get (v := .ref (a 37)) hx hb hown hq hE hP 51 123 tFX12_51 (by decide) pw_1468 rfl dX12_type_166 ?_
                          refine lv_iload hx hb dX12_type_169 (lv_at hl 2 rfl) ?_
                          refine r_ldi (f := (B 37)) (j := m2) hx hb hE hP 37 (ma_37 G a _) rfl (by omega) (by decide) dX12_type_171 ?_
                          refine lv_icmp_ne (tgt := 201) hx hb dX12_type_172 (by decide) (fun c84 => ?_) (fun c84 => ?_)
                          · refine lv_iconst (v := 1) hx hb dX12_type_201 (by decide) ?_
                            refine lv_goto (tgt := 206) hx hb dX12_type_202 (by decide) ?_
                            refine lv_istore (lv' := [(5, .int 1), (6, .int (nI o2)), (4, .int (nI m2)), (3, .int n2), (2, .int 2), (1, .int (nI k9)), (0, .ref h0)]) hx hb dX12_type_206 hl (by decide) rfl (fun ls hl => ?_)
                            refine lv_iinc (v := (nI (o2 + 1))) (lv' := [(6, .int (nI (o2 + 1))), (5, .int 1), (4, .int (nI m2)), (3, .int n2), (2, .int 2), (1, .int (nI k9)), (0, .ref h0)]) hx hb dX12_type_208 hl (k := 1) rfl (nI_1 o2) (by decide) rfl (fun ls hl => ?_)
                            refine lv_goto (tgt := 146) hx hb dX12_type_211 (by decide) ?_
                            have hP : va_P G.1 pCl (mW G h0 a (upd (upd (upd (upd (upd (upd F 0 0) 35 (nI dc)) 44 (nI fd)) 49 (nI md)) 59 (nI bk)) 82 hp) B) _ := hP
                            have hD : va_D A (mW G h0 a (upd (upd (upd (upd (upd (upd F 0 0) 35 (nI dc)) 44 (nI fd)) 49 (nI md)) 59 (nI bk)) 82 hp) B) := mW_D hD
                            exact ih_o (o2 + 1) 1 _ _ _ (by omega) (by omega) hP hD hS (lv_sub hl [0, 1, 2, 3, 4, 5, 6] rfl)
                          · refine lv_aload_n hx hb dX12_type_175 rfl (lv_at hl 6 rfl) ?_
                            refine r_get (v := .ref (a 36)) hx hb hown hq hE hP 50 120 tFX12_50 (by decide) pw_1467 rfl dX12_type_176 ?_
                            refine lv_iload hx hb dX12_type_179 (lv_at hl 0 rfl) ?_
                            refine r_ldi (f := (B 36)) (j := o2) hx hb hE hP 36 (ma_36 G a _) rfl (by omega) (by decide) dX12_type_181 ?_
                            obtain ⟨d85, e86, -, h87, -⟩ := hPg.ps.2.2.1 o2 (by omega)
                            refine lv_topi (fun x88 e89 => ?_)
                            obtain rfl : x88 = nI d85 := e89.trans ((congrFun hw36 _).trans e86)
                            refine lv_iload_n hx hb dX12_type_182 rfl (lv_at hl 5 rfl) ?_
                            refine lv_icmp_eq (tgt := 205) hx hb dX12_type_183 (by decide) (fun c90 => ?_) (fun c90 => ?_)
                            · have n91 : d85 = k9 := (nI_eq (a := d85) (b := k9) (by omega) (by omega)).mp c90
                              refine lv_iconst (v := 0) hx hb dX12_type_205 (by decide) ?_
                              refine lv_istore (lv' := [(5, .int 0), (6, .int (nI o2)), (4, .int (nI m2)), (3, .int n2), (2, .int 2), (1, .int (nI k9)), (0, .ref h0)]) hx hb dX12_type_206 hl (by decide) rfl (fun ls hl => ?_)
                              refine lv_iinc (v := (nI (o2 + 1))) (lv' := [(6, .int (nI (o2 + 1))), (5, .int 0), (4, .int (nI m2)), (3, .int n2), (2, .int 2), (1, .int (nI k9)), (0, .ref h0)]) hx hb dX12_type_208 hl (k := 1) rfl (nI_1 o2) (by decide) rfl (fun ls hl => ?_)
                              refine lv_goto (tgt := 146) hx hb dX12_type_211 (by decide) ?_
                              have hP : va_P G.1 pCl (mW G h0 a (upd (upd (upd (upd (upd (upd F 0 0) 35 (nI dc)) 44 (nI fd)) 49 (nI md)) 59 (nI bk)) 82 hp) B) _ := hP
                              have hD : va_D A (mW G h0 a (upd (upd (upd (upd (upd (upd F 0 0) 35 (nI dc)) 44 (nI fd)) 49 (nI md)) 59 (nI bk)) 82 hp) B) := mW_D hD
                              exact ih_o (o2 + 1) 0 _ _ _ (by omega) (by omega) hP hD hS (lv_sub hl [0, 1, 2, 3, 4, 5, 6] rfl)
                            · have n92 : ¬ (d85 = k9) := fun h9 => c90 ((nI_eq (a := d85) (b := k9) (by omega) (by omega)).mpr h9)
                              refine lv_aload_n hx hb dX12_type_186 rfl (lv_at hl 6 rfl) ?_
                              refine lv_aload_n hx hb dX12_type_187 rfl (lv_at hl 6 rfl) ?_
                              refine r_get (v := .ref (a 36)) hx hb hown hq hE hP 50 120 tFX12_50 (by decide) pw_1467 rfl dX12_type_188 ?_
                              refine lv_iload hx hb dX12_type_191 (lv_at hl 0 rfl) ?_
                              refine r_ldi (f := (B 36)) (j := o2) hx hb hE hP 36 (ma_36 G a _) rfl (by omega) (by decide) dX12_type_193 ?_
                              obtain ⟨d93, e94, -, h95, -⟩ := hPg.ps.2.2.1 o2 (by omega)
                              refine lv_topi (fun x96 e97 => ?_)
                              obtain rfl : x96 = nI d93 := e97.trans ((congrFun hw36 _).trans e94)
                              refine lv_iload_n hx hb dX12_type_194 rfl (lv_at hl 5 rfl) ?_
                              have hP : va_P G.1 pCl (mW G h0 a (upd (upd (upd (upd (upd (upd F 0 0) 35 (nI dc)) 44 (nI fd)) 49 (nI md)) 59 (nI bk)) 82 hp) (updA B 31 (B 31))) _ := mW_to (F := F) (l1 := [(0, 0), (35, (nI dc)), (44, (nI fd)), (49, (nI md)), (59, (nI bk)), (82, hp)]) (l2 := [(0, 0), (35, (nI dc)), (44, (nI fd)), (49, (nI md)), (59, (nI bk)), (82, hp)]) (V := [0, (nI dc), (nI fd), (nI md), (nI bk), hp, 0, (nI dc), (nI fd), (nI md), (nI bk), hp]) rfl rfl (show B = (updA B 31 (B 31)) from updsA_eq2 (F := B) (l1 := []) (l2 := [(31, (B 31))]) (V := [(B 31)]) rfl rfl) hP
                              have hD : va_D A (mW G h0 a (upd (upd (upd (upd (upd (upd F 0 0) 35 (nI dc)) 44 (nI fd)) 49 (nI md)) 59 (nI bk)) 82 hp) (updA B 31 (B 31))) := mW_D hD
                              refine pc_V0 (G := G) (As := [.int (nI d93), .int (nI k9)]) (rest := []) hx hb hml hown hq hE hX pX0_al hP hD hS hA hl.1 (R_isAbove l G h0 a (upd (upd (upd (upd (upd (upd F 0 0) 35 (nI dc)) 44 (nI fd)) 49 (nI md)) 59 (nI bk)) 82 hp) B d93 k9 (B 31) (by omega) (by show ∀ i : Nat, i < 1600 → B 31 i = 0 ∨ B 31 i = 1; rw [hw31]; exact hfb)) (gV pw_1772 pw_1773 pw_1774 pw_1523 pw_1760) hV_X12_isAbove 0 9 rfl rfl rfl rfl (Nat.le_of_ble_eq_true rfl) dX12_type_195 ⟨Nat.le_of_ble_eq_true rfl, Nat.le_of_ble_eq_true rfl⟩ ⟨Nat.le_of_ble_eq_true rfl, Nat.le_of_ble_eq_true rfl⟩ (fun v100 u98 H locs hw99 hP hD hS => ?_)
                              obtain rfl : v100 = some (.int ((B 31) (40 * d93 + k9))) := hw99
                              have hP : va_P G.1 pCl (mW G h0 a (upd (upd (upd (upd (upd (upd F 0 0) 35 (nI dc)) 44 (nI fd)) 49 (nI md)) 59 (nI bk)) 82 hp) B) _ := mW_to (F := F) (l1 := [(0, 0), (35, (nI dc)), (44, (nI fd)), (49, (nI md)), (59, (nI bk)), (82, hp)]) (l2 := [(0, 0), (35, (nI dc)), (44, (nI fd)), (49, (nI md)), (59, (nI bk)), (82, hp)]) (V := [0, (nI dc), (nI fd), (nI md), (nI bk), hp, 0, (nI dc), (nI fd), (nI md), (nI bk), hp]) rfl rfl (show (updA B 31 (B 31)) = B from updsA_eq2 (F := B) (l1 := [(31, (B 31))]) (l2 := []) (V := [(B 31)]) rfl rfl) hP
                              have hD : va_D A (mW G h0 a (upd (upd (upd (upd (upd (upd F 0 0) 35 (nI dc)) 44 (nI fd)) 49 (nI md)) 59 (nI bk)) 82 hp) B) := mW_D hD
                              refine W.widen (k := 0) (n := 0) (Nat.le_of_ble_eq_true rfl) (Nat.le_of_ble_eq_true rfl) ?_
                              refine W.eq (g2 := F0 m 198 ls [.int ((B 31) (40 * d93 + k9))]) rfl ?_
                              refine lv_if_ne (tgt := 205) hx hb dX12_type_198 (by decide) (fun c101 => ?_) (fun c101 => ?_)
                              · refine lv_iconst (v := 0) hx hb dX12_type_205 (by decide) ?_
                                refine lv_istore (lv' := [(5, .int 0), (6, .int (nI o2)), (4, .int (nI m2)), (3, .int n2), (2, .int 2), (1, .int (nI k9)), (0, .ref h0)]) hx hb dX12_type_206 hl (by decide) rfl (fun ls hl => ?_)
                                refine lv_iinc (v := (nI (o2 + 1))) (lv' := [(6, .int (nI (o2 + 1))), (5, .int 0), (4, .int (nI m2)), (3, .int n2), (2, .int 2), (1, .int (nI k9)), (0, .ref h0)]) hx hb dX12_type_208 hl (k := 1) rfl (nI_1 o2) (by decide) rfl (fun ls hl => ?_)
                                refine lv_goto (tgt := 146) hx hb dX12_type_211 (by decide) ?_
                                have hP : va_P G.1 pCl (mW G h0 a (upd (upd (upd (upd (upd (upd F 0 0) 35 (nI dc)) 44 (nI fd)) 49 (nI md)) 59 (nI bk)) 82 hp) B) _ := hP
                                have hD : va_D A (mW G h0 a (upd (upd (upd (upd (upd (upd F 0 0) 35 (nI dc)) 44 (nI fd)) 49 (nI md)) 59 (nI bk)) 82 hp) B) := mW_D hD
                                exact ih_o (o2 + 1) 0 _ _ _ (by omega) (by omega) hP hD hS (lv_sub hl [0, 1, 2, 3, 4, 5, 6] rfl)
                              · refine lv_iconst (v := 1) hx hb dX12_type_201 (by decide) ?_
                                refine lv_goto (tgt := 206) hx hb dX12_type_202 (by decide) ?_
                                refine lv_istore (lv' := [(5, .int 1), (6, .int (nI o2)), (4, .int (nI m2)), (3, .int n2), (2, .int 2), (1, .int (nI k9)), (0, .ref h0)]) hx hb dX12_type_206 hl (by decide) rfl (fun ls hl => ?_)
                                refine lv_iinc (v := (nI (o2 + 1))) (lv' := [(6, .int (nI (o2 + 1))), (5, .int 1), (4, .int (nI m2)), (3, .int n2), (2, .int 2), (1, .int (nI k9)), (0, .ref h0)]) hx hb dX12_type_208 hl (k := 1) rfl (nI_1 o2) (by decide) rfl (fun ls hl => ?_)
                                refine lv_goto (tgt := 146) hx hb dX12_type_211 (by decide) ?_
                                have hP : va_P G.1 pCl (mW G h0 a (upd (upd (upd (upd (upd (upd F 0 0) 35 (nI dc)) 44 (nI fd)) 49 (nI md)) 59 (nI bk)) 82 hp) B) _ := hP
                                have hD : va_D A (mW G h0 a (upd (upd (upd (upd (upd (upd F 0 0) 35 (nI dc)) 44 (nI fd)) 49 (nI md)) 59 (nI bk)) 82 hp) B) := mW_D hD
                                exact ih_o (o2 + 1) 1 _ _ _ (by omega) (by omega) hP hD hS (lv_sub hl [0, 1, 2, 3, 4, 5, 6] rfl)
                  have hP : va_P G.1 pCl (mW G h0 a (upd (upd (upd (upd (upd (upd F 0 0) 35 (nI dc)) 44 (nI fd)) 49 (nI md)) 59 (nI bk)) 82 hp) B) _ := hP
                  have hD : va_D A (mW G h0 a (upd (upd (upd (upd (upd (upd F 0 0) 35 (nI dc)) 44 (nI fd)) 49 (nI md)) 59 (nI bk)) 82 hp) B) := mW_D hD
                  exact loop_o (m2 + 1) 0 0 _ _ _ (by omega) (by omega) hP hD hS (lv_sub hl [0, 1, 2, 3, 4, 5, 6] rfl)
                · refine lv_iconst (v := 1) hx hb dX12_type_136 (by decide) ?_
                  refine lv_goto (tgt := 141) hx hb dX12_type_137 (by decide) ?_
                  refine lv_istore (lv' := [(5, .int 1), (4, .int (nI m2)), (3, .int n2), (2, .int 2), (1, .int (nI k9)), (0, .ref h0)]) hx hb dX12_type_141 hl (by decide) rfl (fun ls hl => ?_)
                  refine lv_iconst (v := 0) hx hb dX12_type_143 (by decide) ?_
                  refine lv_istore (lv' := [(6, .int 0), (5, .int 1), (4, .int (nI m2)), (3, .int n2), (2, .int 2), (1, .int (nI k9)), (0, .ref h0)]) hx hb dX12_type_144 hl (by decide) rfl (fun ls hl => ?_)
                  have loop_o : ∀ (n_o : Nat) (o2 : Nat) (fi2 : Int32) (H : Heap) (locs : List Loc) (ls : Array Slot), o2 ≤ m2 → m2 + 1 ≤ o2 + n_o → va_P G.1 pCl (mW G h0 a (upd (upd (upd (upd (upd (upd F 0 0) 35 (nI dc)) 44 (nI fd)) 49 (nI md)) 59 (nI bk)) 82 hp) B) H → va_D A (mW G h0 a (upd (upd (upd (upd (upd (upd F 0 0) 35 (nI dc)) 44 (nI fd)) 49 (nI md)) 59 (nI bk)) 82 hp) B) → va_S A s.heap H locs → lv_has ls 7 [(6, .int (nI o2)), (5, .int fi2), (4, .int (nI m2)), (3, .int n2), (2, .int 2), (1, .int (nI k9)), (0, .ref h0)] → W p l e (headSpec (Cond.code yX12_type cX12_type 7 (some .int) :: pw) ({ frames := 4, cells := 0, slots := 0, locals := 105 } : Room)).room s m ([.ref h0, .int kq, .int wq] : List Value).toArray below meth c H locs 0 0 (MQ below (pQ G A (fun (v : Option Value) (u : Int32) => v = some (.int u)) (fun u => (mW G h0 a (upd (upd (upd (upd (upd (upd F 0 0) 35 (nI dc)) 44 (nI fd)) 49 (nI md)) 59 (nI bk)) 82 hp) B))) ([.ref h0, .int kq, .int wq] : List Value).toArray s ({ frames := 4, cells := 0, slots := 0, locals := 105 } : Room).cells ({ frames := 4, cells := 0, slots := 0, locals := 105 } : Room).slots A) (F0 m 146 ls []) := by
                    intro n_o
                    induction n_o with
                    | zero => intro o2 fi2 H locs ls hk_o hn_o; omega
                    | succ n_o ih_o =>
                      intro o2 fi2 H locs ls hk_o hn_o hP hD hS hl
                      refine lv_iload hx hb dX12_type_146 (lv_at hl 1 rfl) ?_
                      refine lv_if_eq (tgt := 214) hx hb dX12_type_148 (by decide) (fun c102 => ?_) (fun c102 => ?_)
                      · refine lv_iload_n hx hb dX12_type_214 rfl (lv_at hl 3 rfl) ?_
                        refine lv_iload hx hb dX12_type_215 (lv_at hl 1 rfl) ?_
                        refine lv_if_eq (tgt := 224) hx hb dX12_type_217 (by decide) (fun c103 => ?_) (fun c103 => ?_)
                        · refine lv_iconst (v := 0) hx hb dX12_type_224 (by decide) ?_
                          refine lv_iadd hx hb dX12_type_225 ?_
                          refine lv_topi (fun x104 e105 => ?_)
                          refine lv_istore_n (lv' := [(3, .int x104), (6, .int (nI o2)), (5, .int fi2), (4, .int (nI m2)), (2, .int 2), (1, .int (nI k9)), (0, .ref h0)]) hx hb dX12_type_226 rfl hl (by decide) rfl (fun ls hl => ?_)
                          refine lv_iinc (v := (nI (m2 + 1))) (lv' := [(4, .int (nI (m2 + 1))), (3, .int x104), (6, .int (nI o2)), (5, .int fi2), (2, .int 2), (1, .int (nI k9)), (0, .ref h0)]) hx hb dX12_type_227 hl (k := 3) rfl (nI_1 m2) (by decide) rfl (fun ls hl => ?_)
                          refine lv_goto (tgt := 101) hx hb dX12_type_230 (by decide) ?_
                          have hP : va_P G.1 pCl (mW G h0 a (upd (upd (upd (upd (upd (upd F 0 0) 35 (nI dc)) 44 (nI fd)) 49 (nI md)) 59 (nI bk)) 82 hp) B) _ := hP
                          have hD : va_D A (mW G h0 a (upd (upd (upd (upd (upd (upd F 0 0) 35 (nI dc)) 44 (nI fd)) 49 (nI md)) 59 (nI bk)) 82 hp) B) := mW_D hD
                          exact ih_m (m2 + 1) x104 _ _ _ (by omega) (by omega) hP hD hS (lv_sub hl [0, 1, 4, 5, 6] rfl)
                        · refine lv_iconst (v := 1) hx hb dX12_type_220 (by decide) ?_
                          refine lv_goto (tgt := 225) hx hb dX12_type_221 (by decide) ?_
                          refine lv_iadd hx hb dX12_type_225 ?_
                          refine lv_topi (fun x106 e107 => ?_)
                          refine lv_istore_n (lv' := [(3, .int x106), (6, .int (nI o2)), (5, .int fi2), (4, .int (nI m2)), (2, .int 2), (1, .int (nI k9)), (0, .ref h0)]) hx hb dX12_type_226 rfl hl (by decide) rfl (fun ls hl => ?_)
                          refine lv_iinc (v := (nI (m2 + 1))) (lv' := [(4, .int (nI (m2 + 1))), (3, .int x106), (6, .int (nI o2)), (5, .int fi2), (2, .int 2), (1, .int (nI k9)), (0, .ref h0)]) hx hb dX12_type_227 hl (k := 3) rfl (nI_1 m2) (by decide) rfl (fun ls hl => ?_)
                          refine lv_goto (tgt := 101) hx hb dX12_type_230 (by decide) ?_
                          have hP : va_P G.1 pCl (mW G h0 a (upd (upd (upd (upd (upd (upd F 0 0) 35 (nI dc)) 44 (nI fd)) 49 (nI md)) 59 (nI bk)) 82 hp) B) _ := hP
                          have hD : va_D A (mW G h0 a (upd (upd (upd (upd (upd (upd F 0 0) 35 (nI dc)) 44 (nI fd)) 49 (nI md)) 59 (nI bk)) 82 hp) B) := mW_D hD
                          exact ih_m (m2 + 1) x106 _ _ _ (by omega) (by omega) hP hD hS (lv_sub hl [0, 1, 4, 5, 6] rfl)
                      · refine lv_iload hx hb dX12_type_151 (lv_at hl 0 rfl) ?_
                        refine lv_iload hx hb dX12_type_153 (lv_at hl 2 rfl) ?_
                        refine lv_icmp_ge (tgt := 214) hx hb dX12_type_155 (by decide) (fun c108 => ?_) (fun c108 => ?_)
                        · have n109 : m2 ≤ o2 := (nI_leI (a := m2) (b := o2) (by omega) (by omega)).mp c108
                          refine lv_iload_n hx hb dX12_type_214 rfl (lv_at hl 3 rfl) ?_
                          refine lv_iload hx hb dX12_type_215 (lv_at hl 1 rfl) ?_
                          refine lv_if_eq (tgt := 224) hx hb dX12_type_217 (by decide) (fun c110 => ?_) (fun c110 => ?_)
                          · refine lv_iconst (v := 0) hx hb dX12_type_224 (by decide) ?_
                            refine lv_iadd hx hb dX12_type_225 ?_
                            refine lv_topi (fun x111 e112 => ?_)
                            refine lv_istore_n (lv' := [(3, .int x111), (6, .int (nI o2)), (5, .int fi2), (4, .int (nI m2)), (2, .int 2), (1, .int (nI k9)), (0, .ref h0)]) hx hb dX12_type_226 rfl hl (by decide) rfl (fun ls hl => ?_)
                            refine lv_iinc (v := (nI (m2 + 1))) (lv' := [(4, .int (nI (m2 + 1))), (3, .int x111), (6, .int (nI o2)), (5, .int fi2), (2, .int 2), (1, .int (nI k9)), (0, .ref h0)]) hx hb dX12_type_227 hl (k := 3) rfl (nI_1 m2) (by decide) rfl (fun ls hl => ?_)
                            refine lv_goto (tgt := 101) hx hb dX12_type_230 (by decide) ?_
                            have hP : va_P G.1 pCl (mW G h0 a (upd (upd (upd (upd (upd (upd F 0 0) 35 (nI dc)) 44 (nI fd)) 49 (nI md)) 59 (nI bk)) 82 hp) B) _ := hP
                            have hD : va_D A (mW G h0 a (upd (upd (upd (upd (upd (upd F 0 0) 35 (nI dc)) 44 (nI fd)) 49 (nI md)) 59 (nI bk)) 82 hp) B) := mW_D hD
                            exact ih_m (m2 + 1) x111 _ _ _ (by omega) (by omega) hP hD hS (lv_sub hl [0, 1, 4, 5, 6] rfl)
                          · refine lv_iconst (v := 1) hx hb dX12_type_220 (by decide) ?_
                            refine lv_goto (tgt := 225) hx hb dX12_type_221 (by decide) ?_
                            refine lv_iadd hx hb dX12_type_225 ?_
                            refine lv_topi (fun x113 e114 => ?_)
                            refine lv_istore_n (lv' := [(3, .int x113), (6, .int (nI o2)), (5, .int fi2), (4, .int (nI m2)), (2, .int 2), (1, .int (nI k9)), (0, .ref h0)]) hx hb dX12_type_226 rfl hl (by decide) rfl (fun ls hl => ?_)
                            refine lv_iinc (v := (nI (m2 + 1))) (lv' := [(4, .int (nI (m2 + 1))), (3, .int x113), (6, .int (nI o2)), (5, .int fi2), (2, .int 2), (1, .int (nI k9)), (0, .ref h0)]) hx hb dX12_type_227 hl (k := 3) rfl (nI_1 m2) (by decide) rfl (fun ls hl => ?_)
                            refine lv_goto (tgt := 101) hx hb dX12_type_230 (by decide) ?_
                            have hP : va_P G.1 pCl (mW G h0 a (upd (upd (upd (upd (upd (upd F 0 0) 35 (nI dc)) 44 (nI fd)) 49 (nI md)) 59 (nI bk)) 82 hp) B) _ := hP
                            have hD : va_D A (mW G h0 a (upd (upd (upd (upd (upd (upd F 0 0) 35 (nI dc)) 44 (nI fd)) 49 (nI md)) 59 (nI bk)) 82 hp) B) := mW_D hD
                            exact ih_m (m2 + 1) x113 _ _ _ (by omega) (by omega) hP hD hS (lv_sub hl [0, 1, 4, 5, 6] rfl)
                        · have n115 : ¬ (m2 ≤ o2) := fun h9 => c108 ((nI_leI (a := m2) (b := o2) (by omega) (by omega)).mpr h9)
                          refine lv_aload_n hx hb dX12_type_158 rfl (lv_at hl 6 rfl) ?_
                          refine r_get (v := .ref (a 37)) hx hb hown hq hE hP 51 123 tFX12_51 (by decide) pw_1468 rfl dX12_type_159 ?_
                          refine lv_iload hx hb dX12_type_162 (lv_at hl 0 rfl) ?_
                          refine r_ldi (f := (B 37)) (j := o2) hx hb hE hP 37 (ma_37 G a _) rfl (by omega) (by decide) dX12_type_164 ?_
                          refine lv_aload_n hx hb dX12_type_165 rfl (lv_at hl 6 rfl) ?_
                          refine r_get (v := .ref (a 37)) hx hb hown hq hE hP 51 123 tFX12_51 (by decide) pw_1468 rfl dX12_type_166 ?_
                          refine lv_iload hx hb dX12_type_169 (lv_at hl 2 rfl) ?_
                          refine r_ldi (f := (B 37)) (j := m2) hx hb hE hP 37 (ma_37 G a _) rfl (by omega) (by decide) dX12_type_171 ?_
                          refine lv_icmp_ne (tgt := 201) hx hb dX12_type_172 (by decide) (fun c116 => ?_) (fun c116 => ?_)
                          · refine lv_iconst (v := 1) hx hb dX12_type_201 (by decide) ?_
                            refine lv_goto (tgt := 206) hx hb dX12_type_202 (by decide) ?_
                            refine lv_istore (lv' := [(5, .int 1), (6, .int (nI o2)), (4, .int (nI m2)), (3, .int n2), (2, .int 2), (1, .int (nI k9)), (0, .ref h0)]) hx hb dX12_type_206 hl (by decide) rfl (fun ls hl => ?_)
                            refine lv_iinc (v := (nI (o2 + 1))) (lv' := [(6, .int (nI (o2 + 1))), (5, .int 1), (4, .int (nI m2)), (3, .int n2), (2, .int 2), (1, .int (nI k9)), (0, .ref h0)]) hx hb dX12_type_208 hl (k := 1) rfl (nI_1 o2) (by decide) rfl (fun ls hl => ?_)
                            refine lv_goto (tgt := 146) hx hb dX12_type_211 (by decide) ?_
                            have hP : va_P G.1 pCl (mW G h0 a (upd (upd (upd (upd (upd (upd F 0 0) 35 (nI dc)) 44 (nI fd)) 49 (nI md)) 59 (nI bk)) 82 hp) B) _ := hP
                            have hD : va_D A (mW G h0 a (upd (upd (upd (upd (upd (upd F 0 0) 35 (nI dc)) 44 (nI fd)) 49 (nI md)) 59 (nI bk)) 82 hp) B) := mW_D hD
                            exact ih_o (o2 + 1) 1 _ _ _ (by omega) (by omega) hP hD hS (lv_sub hl [0, 1, 2, 3, 4, 5, 6] rfl)
                          · refine lv_aload_n hx hb dX12_type_175 rfl (lv_at hl 6 rfl) ?_
                            refine r_get (v := .ref (a 36)) hx hb hown hq hE hP 50 120 tFX12_50 (by decide) pw_1467 rfl dX12_type_176 ?_
                            refine lv_iload hx hb dX12_type_179 (lv_at hl 0 rfl) ?_
                            refine r_ldi (f := (B 36)) (j := o2) hx hb hE hP 36 (ma_36 G a _) rfl (by omega) (by decide) dX12_type_181 ?_
                            obtain ⟨d117, e118, -, h119, -⟩ := hPg.ps.2.2.1 o2 (by omega)
                            refine lv_topi (fun x120 e121 => ?_)
                            obtain rfl : x120 = nI d117 := e121.trans ((congrFun hw36 _).trans e118)
                            refine lv_iload_n hx hb dX12_type_182 rfl (lv_at hl 5 rfl) ?_
                            refine lv_icmp_eq (tgt := 205) hx hb dX12_type_183 (by decide) (fun c122 => ?_) (fun c122 => ?_)
                            · have n123 : d117 = k9 := (nI_eq (a := d117) (b := k9) (by omega) (by omega)).mp c122
                              refine lv_iconst (v := 0) hx hb dX12_type_205 (by decide) ?_
                              refine lv_istore (lv' := [(5, .int 0), (6, .int (nI o2)), (4, .int (nI m2)), (3, .int n2), (2, .int 2), (1, .int (nI k9)), (0, .ref h0)]) hx hb dX12_type_206 hl (by decide) rfl (fun ls hl => ?_)
                              refine lv_iinc (v := (nI (o2 + 1))) (lv' := [(6, .int (nI (o2 + 1))), (5, .int 0), (4, .int (nI m2)), (3, .int n2), (2, .int 2), (1, .int (nI k9)), (0, .ref h0)]) hx hb dX12_type_208 hl (k := 1) rfl (nI_1 o2) (by decide) rfl (fun ls hl => ?_)
                              refine lv_goto (tgt := 146) hx hb dX12_type_211 (by decide) ?_
                              have hP : va_P G.1 pCl (mW G h0 a (upd (upd (upd (upd (upd (upd F 0 0) 35 (nI dc)) 44 (nI fd)) 49 (nI md)) 59 (nI bk)) 82 hp) B) _ := hP
                              have hD : va_D A (mW G h0 a (upd (upd (upd (upd (upd (upd F 0 0) 35 (nI dc)) 44 (nI fd)) 49 (nI md)) 59 (nI bk)) 82 hp) B) := mW_D hD
                              exact ih_o (o2 + 1) 0 _ _ _ (by omega) (by omega) hP hD hS (lv_sub hl [0, 1, 2, 3, 4, 5, 6] rfl)
                            · have n124 : ¬ (d117 = k9) := fun h9 => c122 ((nI_eq (a := d117) (b := k9) (by omega) (by omega)).mpr h9)
                              refine lv_aload_n hx hb dX12_type_186 rfl (lv_at hl 6 rfl) ?_
                              refine lv_aload_n hx hb dX12_type_187 rfl (lv_at hl 6 rfl) ?_
                              refine r_get (v := .ref (a 36)) hx hb hown hq hE hP 50 120 tFX12_50 (by decide) pw_1467 rfl dX12_type_188 ?_
                              refine lv_iload hx hb dX12_type_191 (lv_at hl 0 rfl) ?_
                              refine r_ldi (f := (B 36)) (j := o2) hx hb hE hP 36 (ma_36 G a _) rfl (by omega) (by decide) dX12_type_193 ?_
                              obtain ⟨d125, e126, -, h127, -⟩ := hPg.ps.2.2.1 o2 (by omega)
                              refine lv_topi (fun x128 e129 => ?_)
                              obtain rfl : x128 = nI d125 := e129.trans ((congrFun hw36 _).trans e126)
                              refine lv_iload_n hx hb dX12_type_194 rfl (lv_at hl 5 rfl) ?_
                              have hP : va_P G.1 pCl (mW G h0 a (upd (upd (upd (upd (upd (upd F 0 0) 35 (nI dc)) 44 (nI fd)) 49 (nI md)) 59 (nI bk)) 82 hp) (updA B 31 (B 31))) _ := mW_to (F := F) (l1 := [(0, 0), (35, (nI dc)), (44, (nI fd)), (49, (nI md)), (59, (nI bk)), (82, hp)]) (l2 := [(0, 0), (35, (nI dc)), (44, (nI fd)), (49, (nI md)), (59, (nI bk)), (82, hp)]) (V := [0, (nI dc), (nI fd), (nI md), (nI bk), hp, 0, (nI dc), (nI fd), (nI md), (nI bk), hp]) rfl rfl (show B = (updA B 31 (B 31)) from updsA_eq2 (F := B) (l1 := []) (l2 := [(31, (B 31))]) (V := [(B 31)]) rfl rfl) hP
                              have hD : va_D A (mW G h0 a (upd (upd (upd (upd (upd (upd F 0 0) 35 (nI dc)) 44 (nI fd)) 49 (nI md)) 59 (nI bk)) 82 hp) (updA B 31 (B 31))) := mW_D hD
                              refine pc_V0 (G := G) (As := [.int (nI d125), .int (nI k9)]) (rest := []) hx hb hml hown hq hE hX pX0_al hP hD hS hA hl.1 (R_isAbove l G h0 a (upd (upd (upd (upd (upd (upd F 0 0) 35 (nI dc)) 44 (nI fd)) 49 (nI md)) 59 (nI bk)) 82 hp) B d125 k9 (B 31) (by omega) (by show ∀ i : Nat, i < 1600 → B 31 i = 0 ∨ B 31 i = 1; rw [hw31]; exact hfb)) (gV pw_1772 pw_1773 pw_1774 pw_1523 pw_1760) hV_X12_isAbove 0 9 rfl rfl rfl rfl (Nat.le_of_ble_eq_true rfl) dX12_type_195 ⟨Nat.le_of_ble_eq_true rfl, Nat.le_of_ble_eq_true rfl⟩ ⟨Nat.le_of_ble_eq_true rfl, Nat.le_of_ble_eq_true rfl⟩ (fun v132 u130 H locs hw131 hP hD hS => ?_)
                              obtain rfl : v132 = some (.int ((B 31) (40 * d125 + k9))) := hw131
                              have hP : va_P G.1 pCl (mW G h0 a (upd (upd (upd (upd (upd (upd F 0 0) 35 (nI dc)) 44 (nI fd)) 49 (nI md)) 59 (nI bk)) 82 hp) B) _ := mW_to (F := F) (l1 := [(0, 0), (35, (nI dc)), (44, (nI fd)), (49, (nI md)), (59, (nI bk)), (82, hp)]) (l2 := [(0, 0), (35, (nI dc)), (44, (nI fd)), (49, (nI md)), (59, (nI bk)), (82, hp)]) (V := [0, (nI dc), (nI fd), (nI md), (nI bk), hp, 0, (nI dc), (nI fd), (nI md), (nI bk), hp]) rfl rfl (show (updA B 31 (B 31)) = B from updsA_eq2 (F := B) (l1 := [(31, (B 31))]) (l2 := []) (V := [(B 31)]) rfl rfl) hP
                              have hD : va_D A (mW G h0 a (upd (upd (upd (upd (upd (upd F 0 0) 35 (nI dc)) 44 (nI fd)) 49 (nI md)) 59 (nI bk)) 82 hp) B) := mW_D hD
                              refine W.widen (k := 0) (n := 0) (Nat.le_of_ble_eq_true rfl) (Nat.le_of_ble_eq_true rfl) ?_
                              refine W.eq (g2 := F0 m 198 ls [.int ((B 31) (40 * d125 + k9))]) rfl ?_
                              refine lv_if_ne (tgt := 205) hx hb dX12_type_198 (by decide) (fun c133 => ?_) (fun c133 => ?_)
                              · refine lv_iconst (v := 0) hx hb dX12_type_205 (by decide) ?_
                                refine lv_istore (lv' := [(5, .int 0), (6, .int (nI o2)), (4, .int (nI m2)), (3, .int n2), (2, .int 2), (1, .int (nI k9)), (0, .ref h0)]) hx hb dX12_type_206 hl (by decide) rfl (fun ls hl => ?_)
                                refine lv_iinc (v := (nI (o2 + 1))) (lv' := [(6, .int (nI (o2 + 1))), (5, .int 0), (4, .int (nI m2)), (3, .int n2), (2, .int 2), (1, .int (nI k9)), (0, .ref h0)]) hx hb dX12_type_208 hl (k := 1) rfl (nI_1 o2) (by decide) rfl (fun ls hl => ?_)
                                refine lv_goto (tgt := 146) hx hb dX12_type_211 (by decide) ?_
                                have hP : va_P G.1 pCl (mW G h0 a (upd (upd (upd (upd (upd (upd F 0 0) 35 (nI dc)) 44 (nI fd)) 49 (nI md)) 59 (nI bk)) 82 hp) B) _ := hP
                                have hD : va_D A (mW G h0 a (upd (upd (upd (upd (upd (upd F 0 0) 35 (nI dc)) 44 (nI fd)) 49 (nI md)) 59 (nI bk)) 82 hp) B) := mW_D hD
                                exact ih_o (o2 + 1) 0 _ _ _ (by omega) (by omega) hP hD hS (lv_sub hl [0, 1, 2, 3, 4, 5, 6] rfl)
                              · refine lv_iconst (v := 1) hx hb dX12_type_201 (by decide) ?_
                                refine lv_goto (tgt := 206) hx hb dX12_type_202 (by decide) ?_
                                refine lv_istore (lv' := [(5, .int 1), (6, .int (nI o2)), (4, .int (nI m2)), (3, .int n2), (2, .int 2), (1, .int (nI k9)), (0, .ref h0)]) hx hb dX12_type_206 hl (by decide) rfl (fun ls hl => ?_)
                                refine lv_iinc (v := (nI (o2 + 1))) (lv' := [(6, .int (nI (o2 + 1))), (5, .int 1), (4, .int (nI m2)), (3, .int n2), (2, .int 2), (1, .int (nI k9)), (0, .ref h0)]) hx hb dX12_type_208 hl (k := 1) rfl (nI_1 o2) (by decide) rfl (fun ls hl => ?_)
                                refine lv_goto (tgt := 146) hx hb dX12_type_211 (by decide) ?_
                                have hP : va_P G.1 pCl (mW G h0 a (upd (upd (upd (upd (upd (upd F 0 0) 35 (nI dc)) 44 (nI fd)) 49 (nI md)) 59 (nI bk)) 82 hp) B) _ := hP
                                have hD : va_D A (mW G h0 a (upd (upd (upd (upd (upd (upd F 0 0) 35 (nI dc)) 44 (nI fd)) 49 (nI md)) 59 (nI bk)) 82 hp) B) := mW_D hD
                                exact ih_o (o2 + 1) 1 _ _ _ (by omega) (by omega) hP hD hS (lv_sub hl [0, 1, 2, 3, 4, 5, 6] rfl)
                  have hP : va_P G.1 pCl (mW G h0 a (upd (upd (upd (upd (upd (upd F 0 0) 35 (nI dc)) 44 (nI fd)) 49 (nI md)) 59 (nI bk)) 82 hp) B) _ := hP
                  have hD : va_D A (mW G h0 a (upd (upd (upd (upd (upd (upd F 0 0) 35 (nI dc)) 44 (nI fd)) 49 (nI md)) 59 (nI bk)) 82 hp) B) := mW_D hD
                  exact loop_o (m2 + 1) 0 1 _ _ _ (by omega) (by omega) hP hD hS (lv_sub hl [0, 1, 2, 3, 4, 5, 6] rfl)
        have hP : va_P G.1 pCl (mW G h0 a (upd (upd (upd (upd (upd (upd F 0 0) 35 (nI dc)) 44 (nI fd)) 49 (nI md)) 59 (nI bk)) 82 hp) B) _ := hP
        have hD : va_D A (mW G h0 a (upd (upd (upd (upd (upd (upd F 0 0) 35 (nI dc)) 44 (nI fd)) 49 (nI md)) 59 (nI bk)) 82 hp) B) := mW_D hD
        exact loop_m (md + 1) 0 (0 : Int32) _ _ _ (by omega) (by omega) hP hD hS (lv_sub hl [0, 1, 4, 3, 2] rfl)
      by_cases h134 : wz = 3
      · subst h134
        refine lv_tableIn (tgt := 235) (off := 204) hx hb dX12_type_31 (by decide) (by decide) (by decide) (by decide) ?_
        refine lv_aload_n hx hb dX12_type_235 rfl (lv_at hl 1 rfl) ?_
        refine r_get (v := .ref (a 26)) hx hb hown hq hE hP 38 90 tFX12_38 (by decide) pw_1457 rfl dX12_type_236 ?_
        refine lv_iload_n hx hb dX12_type_239 rfl (lv_at hl 2 rfl) ?_
        refine r_ldz (f := (B 26)) (j := k9) hx hb hE hP 26 (ma_26 G a _) rfl (by omega) (by decide) dX12_type_240 ?_
        refine lv_if_eq (tgt := 248) hx hb dX12_type_241 (by decide) (fun c135 => ?_) (fun c135 => ?_)
        · refine lv_iconst (v := 0) hx hb dX12_type_248 (by decide) ?_
          have hP : va_P G.1 pCl (mW G h0 a (upd (upd (upd (upd (upd (upd F 0 0) 35 (nI dc)) 44 (nI fd)) 49 (nI md)) 59 (nI bk)) 82 hp) B) _ := hP
          have hD : va_D A (mW G h0 a (upd (upd (upd (upd (upd (upd F 0 0) 35 (nI dc)) 44 (nI fd)) 49 (nI md)) 59 (nI bk)) 82 hp) B) := mW_D hD
          exact W.iret (v := 0) hx hb hr (fun t9 ht9 hW9 => ⟨⟨_, (0 : Int32), rfl, rfl, by rw [ht9]; exact hP, hD⟩, hS.F ht9⟩) hS.2.2 dX12_type_249
        · refine lv_iconst (v := 1) hx hb dX12_type_244 (by decide) ?_
          refine lv_goto (tgt := 249) hx hb dX12_type_245 (by decide) ?_
          have hP : va_P G.1 pCl (mW G h0 a (upd (upd (upd (upd (upd (upd F 0 0) 35 (nI dc)) 44 (nI fd)) 49 (nI md)) 59 (nI bk)) 82 hp) B) _ := hP
          have hD : va_D A (mW G h0 a (upd (upd (upd (upd (upd (upd F 0 0) 35 (nI dc)) 44 (nI fd)) 49 (nI md)) 59 (nI bk)) 82 hp) B) := mW_D hD
          exact W.iret (v := 1) hx hb hr (fun t9 ht9 hW9 => ⟨⟨_, (1 : Int32), rfl, rfl, by rw [ht9]; exact hP, hD⟩, hS.F ht9⟩) hS.2.2 dX12_type_249
      by_cases h136 : wz = 4
      · subst h136
        refine lv_tableIn (tgt := 250) (off := 219) hx hb dX12_type_31 (by decide) (by decide) (by decide) (by decide) ?_
        refine lv_iconst (v := 0) hx hb dX12_type_250 (by decide) ?_
        refine lv_istore (lv' := [(4, .int 0), (3, .int 0), (0, .ref h0), (1, .int (nI k9)), (2, .int 4)]) hx hb dX12_type_251 hl (by decide) rfl (fun ls hl => ?_)
        have loop_d : ∀ (n_d : Nat) (d2 : Nat) (n2 : Int32) (H : Heap) (locs : List Loc) (ls : Array Slot), d2 ≤ dc → dc + 1 ≤ d2 + n_d → va_P G.1 pCl (mW G h0 a (upd (upd (upd (upd (upd (upd F 0 0) 35 (nI dc)) 44 (nI fd)) 49 (nI md)) 59 (nI bk)) 82 hp) B) H → va_D A (mW G h0 a (upd (upd (upd (upd (upd (upd F 0 0) 35 (nI dc)) 44 (nI fd)) 49 (nI md)) 59 (nI bk)) 82 hp) B) → va_S A s.heap H locs → lv_has ls 7 [(4, .int (nI d2)), (3, .int n2), (2, .int 4), (1, .int (nI k9)), (0, .ref h0)] → W p l e (headSpec (Cond.code yX12_type cX12_type 7 (some .int) :: pw) ({ frames := 4, cells := 0, slots := 0, locals := 105 } : Room)).room s m ([.ref h0, .int kq, .int wq] : List Value).toArray below meth c H locs 0 0 (MQ below (pQ G A (fun (v : Option Value) (u : Int32) => v = some (.int u)) (fun u => (mW G h0 a (upd (upd (upd (upd (upd (upd F 0 0) 35 (nI dc)) 44 (nI fd)) 49 (nI md)) 59 (nI bk)) 82 hp) B))) ([.ref h0, .int kq, .int wq] : List Value).toArray s ({ frames := 4, cells := 0, slots := 0, locals := 105 } : Room).cells ({ frames := 4, cells := 0, slots := 0, locals := 105 } : Room).slots A) (F0 m 253 ls []) := by
          intro n_d
          induction n_d with
          | zero => intro d2 n2 H locs ls hk_d hn_d; omega
          | succ n_d ih_d =>
            intro d2 n2 H locs ls hk_d hn_d hP hD hS hl
            refine lv_iload hx hb dX12_type_253 (lv_at hl 0 rfl) ?_
            refine lv_aload_n hx hb dX12_type_255 rfl (lv_at hl 4 rfl) ?_
            refine r_get (v := .int (nI dc)) hx hb hown hq hE hP 35 384 tFX12_35 (by decide) pw_1732 rfl dX12_type_256 ?_
            refine lv_icmp_ge (tgt := 286) hx hb dX12_type_259 (by decide) (fun c137 => ?_) (fun c137 => ?_)
            · have n138 : dc ≤ d2 := (nI_leI (a := dc) (b := d2) (by omega) (by omega)).mp c137
              refine lv_iload_n hx hb dX12_type_286 rfl (lv_at hl 1 rfl) ?_
              have hP : va_P G.1 pCl (mW G h0 a (upd (upd (upd (upd (upd (upd F 0 0) 35 (nI dc)) 44 (nI fd)) 49 (nI md)) 59 (nI bk)) 82 hp) B) _ := hP
              have hD : va_D A (mW G h0 a (upd (upd (upd (upd (upd (upd F 0 0) 35 (nI dc)) 44 (nI fd)) 49 (nI md)) 59 (nI bk)) 82 hp) B) := mW_D hD
              exact W.iret (v := n2) hx hb hr (fun t9 ht9 hW9 => ⟨⟨_, n2, rfl, rfl, by rw [ht9]; exact hP, hD⟩, hS.F ht9⟩) hS.2.2 dX12_type_287
            · have n139 : ¬ (dc ≤ d2) := fun h9 => c137 ((nI_leI (a := dc) (b := d2) (by omega) (by omega)).mpr h9)
              refine lv_iload_n hx hb dX12_type_262 rfl (lv_at hl 1 rfl) ?_
              refine lv_aload_n hx hb dX12_type_263 rfl (lv_at hl 4 rfl) ?_
              refine lv_iload hx hb dX12_type_264 (lv_at hl 0 rfl) ?_
              refine lv_iload_n hx hb dX12_type_266 rfl (lv_at hl 3 rfl) ?_
              have hP : va_P G.1 pCl (mW G h0 a (upd (upd (upd (upd (upd (upd F 0 0) 35 (nI dc)) 44 (nI fd)) 49 (nI md)) 59 (nI bk)) 82 hp) (updA B 31 (B 31))) _ := mW_to (F := F) (l1 := [(0, 0), (35, (nI dc)), (44, (nI fd)), (49, (nI md)), (59, (nI bk)), (82, hp)]) (l2 := [(0, 0), (35, (nI dc)), (44, (nI fd)), (49, (nI md)), (59, (nI bk)), (82, hp)]) (V := [0, (nI dc), (nI fd), (nI md), (nI bk), hp, 0, (nI dc), (nI fd), (nI md), (nI bk), hp]) rfl rfl (show B = (updA B 31 (B 31)) from updsA_eq2 (F := B) (l1 := []) (l2 := [(31, (B 31))]) (V := [(B 31)]) rfl rfl) hP
              have hD : va_D A (mW G h0 a (upd (upd (upd (upd (upd (upd F 0 0) 35 (nI dc)) 44 (nI fd)) 49 (nI md)) 59 (nI bk)) 82 hp) (updA B 31 (B 31))) := mW_D hD
              refine pc_V0 (G := G) (As := [.int (nI d2), .int (nI k9)]) (rest := [.int n2]) hx hb hml hown hq hE hX pX0_al hP hD hS hA hl.1 (R_isAbove l G h0 a (upd (upd (upd (upd (upd (upd F 0 0) 35 (nI dc)) 44 (nI fd)) 49 (nI md)) 59 (nI bk)) 82 hp) B d2 k9 (B 31) (by omega) (by show ∀ i : Nat, i < 1600 → B 31 i = 0 ∨ B 31 i = 1; rw [hw31]; exact hfb)) (gV pw_1772 pw_1773 pw_1774 pw_1523 pw_1760) hV_X12_isAbove 0 9 rfl rfl rfl rfl (Nat.le_of_ble_eq_true rfl) dX12_type_267 ⟨Nat.le_of_ble_eq_true rfl, Nat.le_of_ble_eq_true rfl⟩ ⟨Nat.le_of_ble_eq_true rfl, Nat.le_of_ble_eq_true rfl⟩ (fun v142 u140 H locs hw141 hP hD hS => ?_)
              obtain rfl : v142 = some (.int ((B 31) (40 * d2 + k9))) := hw141
              have hP : va_P G.1 pCl (mW G h0 a (upd (upd (upd (upd (upd (upd F 0 0) 35 (nI dc)) 44 (nI fd)) 49 (nI md)) 59 (nI bk)) 82 hp) B) _ := mW_to (F := F) (l1 := [(0, 0), (35, (nI dc)), (44, (nI fd)), (49, (nI md)), (59, (nI bk)), (82, hp)]) (l2 := [(0, 0), (35, (nI dc)), (44, (nI fd)), (49, (nI md)), (59, (nI bk)), (82, hp)]) (V := [0, (nI dc), (nI fd), (nI md), (nI bk), hp, 0, (nI dc), (nI fd), (nI md), (nI bk), hp]) rfl rfl (show (updA B 31 (B 31)) = B from updsA_eq2 (F := B) (l1 := [(31, (B 31))]) (l2 := []) (V := [(B 31)]) rfl rfl) hP
              have hD : va_D A (mW G h0 a (upd (upd (upd (upd (upd (upd F 0 0) 35 (nI dc)) 44 (nI fd)) 49 (nI md)) 59 (nI bk)) 82 hp) B) := mW_D hD
              refine W.widen (k := 0) (n := 0) (Nat.le_of_ble_eq_true rfl) (Nat.le_of_ble_eq_true rfl) ?_
              refine W.eq (g2 := F0 m 270 ls [.int ((B 31) (40 * d2 + k9)), .int n2]) rfl ?_
              refine lv_if_eq (tgt := 277) hx hb dX12_type_270 (by decide) (fun c143 => ?_) (fun c143 => ?_)
              · refine lv_iconst (v := 0) hx hb dX12_type_277 (by decide) ?_
                refine lv_iadd hx hb dX12_type_278 ?_
                refine lv_topi (fun x144 e145 => ?_)
                refine lv_istore_n (lv' := [(3, .int x144), (4, .int (nI d2)), (2, .int 4), (1, .int (nI k9)), (0, .ref h0)]) hx hb dX12_type_279 rfl hl (by decide) rfl (fun ls hl => ?_)
                refine lv_iinc (v := (nI (d2 + 1))) (lv' := [(4, .int (nI (d2 + 1))), (3, .int x144), (2, .int 4), (1, .int (nI k9)), (0, .ref h0)]) hx hb dX12_type_280 hl (k := 1) rfl (nI_1 d2) (by decide) rfl (fun ls hl => ?_)
                refine lv_goto (tgt := 253) hx hb dX12_type_283 (by decide) ?_
                have hP : va_P G.1 pCl (mW G h0 a (upd (upd (upd (upd (upd (upd F 0 0) 35 (nI dc)) 44 (nI fd)) 49 (nI md)) 59 (nI bk)) 82 hp) B) _ := hP
                have hD : va_D A (mW G h0 a (upd (upd (upd (upd (upd (upd F 0 0) 35 (nI dc)) 44 (nI fd)) 49 (nI md)) 59 (nI bk)) 82 hp) B) := mW_D hD
                exact ih_d (d2 + 1) x144 _ _ _ (by omega) (by omega) hP hD hS (lv_sub hl [0, 1, 2, 3, 4] rfl)
              · refine lv_iconst (v := 1) hx hb dX12_type_273 (by decide) ?_
                refine lv_goto (tgt := 278) hx hb dX12_type_274 (by decide) ?_
                refine lv_iadd hx hb dX12_type_278 ?_
                refine lv_topi (fun x146 e147 => ?_)
                refine lv_istore_n (lv' := [(3, .int x146), (4, .int (nI d2)), (2, .int 4), (1, .int (nI k9)), (0, .ref h0)]) hx hb dX12_type_279 rfl hl (by decide) rfl (fun ls hl => ?_)
                refine lv_iinc (v := (nI (d2 + 1))) (lv' := [(4, .int (nI (d2 + 1))), (3, .int x146), (2, .int 4), (1, .int (nI k9)), (0, .ref h0)]) hx hb dX12_type_280 hl (k := 1) rfl (nI_1 d2) (by decide) rfl (fun ls hl => ?_)
                refine lv_goto (tgt := 253) hx hb dX12_type_283 (by decide) ?_
                have hP : va_P G.1 pCl (mW G h0 a (upd (upd (upd (upd (upd (upd F 0 0) 35 (nI dc)) 44 (nI fd)) 49 (nI md)) 59 (nI bk)) 82 hp) B) _ := hP
                have hD : va_D A (mW G h0 a (upd (upd (upd (upd (upd (upd F 0 0) 35 (nI dc)) 44 (nI fd)) 49 (nI md)) 59 (nI bk)) 82 hp) B) := mW_D hD
                exact ih_d (d2 + 1) x146 _ _ _ (by omega) (by omega) hP hD hS (lv_sub hl [0, 1, 2, 3, 4] rfl)
        have hP : va_P G.1 pCl (mW G h0 a (upd (upd (upd (upd (upd (upd F 0 0) 35 (nI dc)) 44 (nI fd)) 49 (nI md)) 59 (nI bk)) 82 hp) B) _ := hP
        have hD : va_D A (mW G h0 a (upd (upd (upd (upd (upd (upd F 0 0) 35 (nI dc)) 44 (nI fd)) 49 (nI md)) 59 (nI bk)) 82 hp) B) := mW_D hD
        exact loop_d (dc + 1) 0 (0 : Int32) _ _ _ (by omega) (by omega) hP hD hS (lv_sub hl [0, 1, 4, 3, 2] rfl)
      by_cases h148 : wz = 5
      · subst h148
        refine lv_tableIn (tgt := 288) (off := 257) hx hb dX12_type_31 (by decide) (by decide) (by decide) (by decide) ?_
        refine lv_aload_n hx hb dX12_type_288 rfl (lv_at hl 1 rfl) ?_
        refine r_get (v := .ref (a 26)) hx hb hown hq hE hP 38 90 tFX12_38 (by decide) pw_1457 rfl dX12_type_289 ?_
        refine lv_iload_n hx hb dX12_type_292 rfl (lv_at hl 2 rfl) ?_
        refine r_ldz (f := (B 26)) (j := k9) hx hb hE hP 26 (ma_26 G a _) rfl (by omega) (by decide) dX12_type_293 ?_
        refine lv_if_eq (tgt := 301) hx hb dX12_type_294 (by decide) (fun c149 => ?_) (fun c149 => ?_)
        · refine lv_aload_n hx hb dX12_type_301 rfl (lv_at hl 1 rfl) ?_
          refine r_get (v := .ref (a 30)) hx hb hown hq hE hP 42 102 tFX12_42 (by decide) pw_1461 rfl dX12_type_302 ?_
          refine lv_iload_n hx hb dX12_type_305 rfl (lv_at hl 2 rfl) ?_
          refine r_ldi (f := (B 30)) (j := k9) hx hb hE hP 30 (ma_30 G a _) rfl (by omega) (by decide) dX12_type_306 ?_
          have hP : va_P G.1 pCl (mW G h0 a (upd (upd (upd (upd (upd (upd F 0 0) 35 (nI dc)) 44 (nI fd)) 49 (nI md)) 59 (nI bk)) 82 hp) B) _ := hP
          have hD : va_D A (mW G h0 a (upd (upd (upd (upd (upd (upd F 0 0) 35 (nI dc)) 44 (nI fd)) 49 (nI md)) 59 (nI bk)) 82 hp) B) := mW_D hD
          exact W.iret (v := ((B 30) k9)) hx hb hr (fun t9 ht9 hW9 => ⟨⟨_, ((B 30) k9), rfl, rfl, by rw [ht9]; exact hP, hD⟩, hS.F ht9⟩) hS.2.2 dX12_type_307
        · refine lv_iconst (v := (-1)) hx hb dX12_type_297 (by decide) ?_
          refine lv_goto (tgt := 307) hx hb dX12_type_298 (by decide) ?_
          have hP : va_P G.1 pCl (mW G h0 a (upd (upd (upd (upd (upd (upd F 0 0) 35 (nI dc)) 44 (nI fd)) 49 (nI md)) 59 (nI bk)) 82 hp) B) _ := hP
          have hD : va_D A (mW G h0 a (upd (upd (upd (upd (upd (upd F 0 0) 35 (nI dc)) 44 (nI fd)) 49 (nI md)) 59 (nI bk)) 82 hp) B) := mW_D hD
          exact W.iret (v := (-1)) hx hb hr (fun t9 ht9 hW9 => ⟨⟨_, ((-1) : Int32), rfl, rfl, by rw [ht9]; exact hP, hD⟩, hS.F ht9⟩) hS.2.2 dX12_type_307
      refine lv_tableOut (tgt := 308) hx hb dX12_type_31 (sw_out5 h8 h13 h17 h134 h136 h148) (by decide) ?_
      refine lv_iconst (v := (-1)) hx hb dX12_type_308 (by decide) ?_
      have hP : va_P G.1 pCl (mW G h0 a (upd (upd (upd (upd (upd (upd F 0 0) 35 (nI dc)) 44 (nI fd)) 49 (nI md)) 59 (nI bk)) 82 hp) B) _ := mW_to (F := F) (l1 := [(35, (nI dc)), (44, (nI fd)), (49, (nI md)), (59, (nI bk)), (82, hp), (0, 0)]) (l2 := [(0, 0), (35, (nI dc)), (44, (nI fd)), (49, (nI md)), (59, (nI bk)), (82, hp)]) (V := [(nI dc), (nI fd), (nI md), (nI bk), hp, 0, 0, (nI dc), (nI fd), (nI md), (nI bk), hp]) rfl rfl rfl hP
      have hD : va_D A (mW G h0 a (upd (upd (upd (upd (upd (upd F 0 0) 35 (nI dc)) 44 (nI fd)) 49 (nI md)) 59 (nI bk)) 82 hp) B) := mW_D hD
      exact W.iret (v := (-1)) hx hb hr (fun t9 ht9 hW9 => ⟨⟨_, ((-1) : Int32), rfl, rfl, by rw [ht9]; exact hP, hD⟩, hS.F ht9⟩) hS.2.2 dX12_type_309
    · refine lv_iconst (v := (-1)) hx hb dX12_type_26 (by decide) ?_
      have hP : va_P G.1 pCl (mW G h0 a (upd (upd (upd (upd (upd (upd F 0 0) 35 (nI dc)) 44 (nI fd)) 49 (nI md)) 59 (nI bk)) 82 hp) B) _ := mW_to (F := F) (l1 := [(35, (nI dc)), (44, (nI fd)), (49, (nI md)), (59, (nI bk)), (82, hp), (0, 0)]) (l2 := [(0, 0), (35, (nI dc)), (44, (nI fd)), (49, (nI md)), (59, (nI bk)), (82, hp)]) (V := [(nI dc), (nI fd), (nI md), (nI bk), hp, 0, 0, (nI dc), (nI fd), (nI md), (nI bk), hp]) rfl rfl rfl hP
      have hD : va_D A (mW G h0 a (upd (upd (upd (upd (upd (upd F 0 0) 35 (nI dc)) 44 (nI fd)) 49 (nI md)) 59 (nI bk)) 82 hp) B) := mW_D hD
      exact W.iret (v := (-1)) hx hb hr (fun t9 ht9 hW9 => ⟨⟨_, ((-1) : Int32), rfl, rfl, by rw [ht9]; exact hP, hD⟩, hS.F ht9⟩) hS.2.2 dX12_type_27
