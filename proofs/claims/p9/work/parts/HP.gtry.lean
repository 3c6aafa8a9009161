theorem MmO.be {K K1 : PK} {g : Nat → Nat → Nat} {q t k : Nat} {o : Option Nat} (hb : BdE K K1) (h : MmO K g q o t k) : MmO K1 g q o t k := fun x hx => ⟨hb.T (h x hx).1 (by decide), (h x hx).2⟩
theorem dX0_tryStatement_0 : decode cX0_tryStatement 0 = .ok (.aload_n 1, 1) := by decide +kernel
theorem dX0_tryStatement_1 : decode cX0_tryStatement 1 = .ok (.getfield 247, 3) := by decide +kernel
theorem dX0_tryStatement_4 : decode cX0_tryStatement 4 = .ok (.ifnull 7, 3) := by decide +kernel
theorem dX0_tryStatement_11 : decode cX0_tryStatement 11 = .ok (.iconst 0, 1) := by decide +kernel
theorem dX0_tryStatement_12 : decode cX0_tryStatement 12 = .ok (.istore_n 2, 1) := by decide +kernel
theorem dX0_tryStatement_13 : decode cX0_tryStatement 13 = .ok (.iload_n 2, 1) := by decide +kernel
theorem dX0_tryStatement_14 : decode cX0_tryStatement 14 = .ok (.ifCond .eq 8, 3) := by decide +kernel
theorem dX0_tryStatement_22 : decode cX0_tryStatement 22 = .ok (.bipush 6, 2) := by decide +kernel
theorem dX0_tryStatement_24 : decode cX0_tryStatement 24 = .ok (.istore_n 3, 1) := by decide +kernel
theorem dX0_tryStatement_25 : decode cX0_tryStatement 25 = .ok (.aload_n 0, 1) := by decide +kernel
theorem dX0_tryStatement_26 : decode cX0_tryStatement 26 = .ok (.getfield 15, 3) := by decide +kernel
theorem dX0_tryStatement_29 : decode cX0_tryStatement 29 = .ok (.getfield 158, 3) := by decide +kernel
theorem dX0_tryStatement_32 : decode cX0_tryStatement 32 = .ok (.istore 4, 2) := by decide +kernel
theorem dX0_tryStatement_34 : decode cX0_tryStatement 34 = .ok (.aload_n 0, 1) := by decide +kernel
theorem dX0_tryStatement_35 : decode cX0_tryStatement 35 = .ok (.getfield 94, 3) := by decide +kernel
theorem dX0_tryStatement_38 : decode cX0_tryStatement 38 = .ok (.istore 5, 2) := by decide +kernel
theorem dX0_tryStatement_40 : decode cX0_tryStatement 40 = .ok (.aload_n 0, 1) := by decide +kernel
theorem dX0_tryStatement_41 : decode cX0_tryStatement 41 = .ok (.dup, 1) := by decide +kernel
theorem dX0_tryStatement_42 : decode cX0_tryStatement 42 = .ok (.getfield 88, 3) := by decide +kernel
theorem dX0_tryStatement_45 : decode cX0_tryStatement 45 = .ok (.iload_n 2, 1) := by decide +kernel
theorem dX0_tryStatement_46 : decode cX0_tryStatement 46 = .ok (.ifCond .eq 7, 3) := by decide +kernel
theorem dX0_tryStatement_53 : decode cX0_tryStatement 53 = .ok (.iconst 0, 1) := by decide +kernel
theorem dX0_tryStatement_54 : decode cX0_tryStatement 54 = .ok (.iadd, 1) := by decide +kernel
theorem dX0_tryStatement_55 : decode cX0_tryStatement 55 = .ok (.putfield 88, 3) := by decide +kernel
theorem dX0_tryStatement_58 : decode cX0_tryStatement 58 = .ok (.aload_n 0, 1) := by decide +kernel
theorem dX0_tryStatement_59 : decode cX0_tryStatement 59 = .ok (.getfield 15, 3) := by decide +kernel
theorem dX0_tryStatement_62 : decode cX0_tryStatement 62 = .ok (.getfield 99, 3) := by decide +kernel
theorem dX0_tryStatement_65 : decode cX0_tryStatement 65 = .ok (.istore 6, 2) := by decide +kernel
theorem dX0_tryStatement_67 : decode cX0_tryStatement 67 = .ok (.aload_n 0, 1) := by decide +kernel
theorem dX0_tryStatement_68 : decode cX0_tryStatement 68 = .ok (.aload_n 1, 1) := by decide +kernel
theorem dX0_tryStatement_69 : decode cX0_tryStatement 69 = .ok (.getfield 165, 3) := by decide +kernel
theorem dX0_tryStatement_72 : decode cX0_tryStatement 72 = .ok (.invokevirtual 77, 3) := by decide +kernel
theorem dX0_tryStatement_75 : decode cX0_tryStatement 75 = .ok (.aload_n 0, 1) := by decide +kernel
theorem dX0_tryStatement_76 : decode cX0_tryStatement 76 = .ok (.getfield 15, 3) := by decide +kernel
theorem dX0_tryStatement_79 : decode cX0_tryStatement 79 = .ok (.getfield 99, 3) := by decide +kernel
theorem dX0_tryStatement_82 : decode cX0_tryStatement 82 = .ok (.istore 7, 2) := by decide +kernel
theorem dX0_tryStatement_84 : decode cX0_tryStatement 84 = .ok (.aload_n 0, 1) := by decide +kernel
theorem dX0_tryStatement_85 : decode cX0_tryStatement 85 = .ok (.getfield 15, 3) := by decide +kernel
theorem dX0_tryStatement_88 : decode cX0_tryStatement 88 = .ok (.iload_n 3, 1) := by decide +kernel
theorem dX0_tryStatement_89 : decode cX0_tryStatement 89 = .ok (.iconst (-1), 1) := by decide +kernel
theorem dX0_tryStatement_90 : decode cX0_tryStatement 90 = .ok (.iload 4, 2) := by decide +kernel
theorem dX0_tryStatement_92 : decode cX0_tryStatement 92 = .ok (.invokevirtual 243, 3) := by decide +kernel
theorem dX0_tryStatement_95 : decode cX0_tryStatement 95 = .ok (.istore 8, 2) := by decide +kernel
theorem dX0_tryStatement_97 : decode cX0_tryStatement 97 = .ok (.aload_n 0, 1) := by decide +kernel
theorem dX0_tryStatement_98 : decode cX0_tryStatement 98 = .ok (.getfield 94, 3) := by decide +kernel
theorem dX0_tryStatement_101 : decode cX0_tryStatement 101 = .ok (.istore 9, 2) := by decide +kernel
theorem dX0_tryStatement_109 : decode cX0_tryStatement 109 = .ok (.aload 10, 2) := by decide +kernel
theorem dX0_tryStatement_111 : decode cX0_tryStatement 111 = .ok (.ifnull 73, 3) := by decide +kernel
theorem dX0_tryStatement_184 : decode cX0_tryStatement 184 = .ok (.aload_n 0, 1) := by decide +kernel
theorem dX0_tryStatement_185 : decode cX0_tryStatement 185 = .ok (.dup, 1) := by decide +kernel
theorem dX0_tryStatement_186 : decode cX0_tryStatement 186 = .ok (.getfield 88, 3) := by decide +kernel
theorem dX0_tryStatement_189 : decode cX0_tryStatement 189 = .ok (.iload_n 2, 1) := by decide +kernel
theorem dX0_tryStatement_190 : decode cX0_tryStatement 190 = .ok (.ifCond .eq 7, 3) := by decide +kernel
theorem dX0_tryStatement_197 : decode cX0_tryStatement 197 = .ok (.iconst 0, 1) := by decide +kernel
theorem dX0_tryStatement_198 : decode cX0_tryStatement 198 = .ok (.isub, 1) := by decide +kernel
theorem dX0_tryStatement_199 : decode cX0_tryStatement 199 = .ok (.putfield 88, 3) := by decide +kernel
theorem dX0_tryStatement_202 : decode cX0_tryStatement 202 = .ok (.aload_n 0, 1) := by decide +kernel
theorem dX0_tryStatement_203 : decode cX0_tryStatement 203 = .ok (.getfield 15, 3) := by decide +kernel
theorem dX0_tryStatement_206 : decode cX0_tryStatement 206 = .ok (.iload 8, 2) := by decide +kernel
theorem dX0_tryStatement_208 : decode cX0_tryStatement 208 = .ok (.invokevirtual 250, 3) := by decide +kernel
theorem dX0_tryStatement_211 : decode cX0_tryStatement 211 = .ok (.aload_n 0, 1) := by decide +kernel
theorem dX0_tryStatement_212 : decode cX0_tryStatement 212 = .ok (.iload 9, 2) := by decide +kernel
theorem dX0_tryStatement_214 : decode cX0_tryStatement 214 = .ok (.putfield 94, 3) := by decide +kernel
theorem dX0_tryStatement_217 : decode cX0_tryStatement 217 = .ok (.iload_n 2, 1) := by decide +kernel
theorem dX0_tryStatement_218 : decode cX0_tryStatement 218 = .ok (.ifCond .eq 49, 3) := by decide +kernel
theorem dX0_tryStatement_267 : decode cX0_tryStatement 267 = .ok (.return_, 1) := by decide +kernel
theorem dX0_tryStatement_114 : decode cX0_tryStatement 114 = .ok (.aload_n 0, 1) := by decide +kernel
theorem dX0_tryStatement_115 : decode cX0_tryStatement 115 = .ok (.getfield 15, 3) := by decide +kernel
theorem dX0_tryStatement_118 : decode cX0_tryStatement 118 = .ok (.iload 6, 2) := by decide +kernel
theorem dX0_tryStatement_120 : decode cX0_tryStatement 120 = .ok (.iload 7, 2) := by decide +kernel
theorem dX0_tryStatement_122 : decode cX0_tryStatement 122 = .ok (.aload_n 0, 1) := by decide +kernel
theorem dX0_tryStatement_123 : decode cX0_tryStatement 123 = .ok (.getfield 9, 3) := by decide +kernel
theorem dX0_tryStatement_126 : decode cX0_tryStatement 126 = .ok (.aload 10, 2) := by decide +kernel
theorem dX0_tryStatement_128 : decode cX0_tryStatement 128 = .ok (.getfield 117, 3) := by decide +kernel
theorem dX0_tryStatement_131 : decode cX0_tryStatement 131 = .ok (.invokevirtual 120, 3) := by decide +kernel
theorem dX0_tryStatement_134 : decode cX0_tryStatement 134 = .ok (.iload 4, 2) := by decide +kernel
theorem dX0_tryStatement_136 : decode cX0_tryStatement 136 = .ok (.invokevirtual 284, 3) := by decide +kernel
theorem dX0_tryStatement_139 : decode cX0_tryStatement 139 = .ok (.aload_n 0, 1) := by decide +kernel
theorem dX0_tryStatement_140 : decode cX0_tryStatement 140 = .ok (.iload 5, 2) := by decide +kernel
theorem dX0_tryStatement_142 : decode cX0_tryStatement 142 = .ok (.putfield 94, 3) := by decide +kernel
theorem dX0_tryStatement_145 : decode cX0_tryStatement 145 = .ok (.aload_n 0, 1) := by decide +kernel
theorem dX0_tryStatement_146 : decode cX0_tryStatement 146 = .ok (.aload 10, 2) := by decide +kernel
theorem dX0_tryStatement_148 : decode cX0_tryStatement 148 = .ok (.invokevirtual 288, 3) := by decide +kernel
theorem dX0_tryStatement_151 : decode cX0_tryStatement 151 = .ok (.aload_n 0, 1) := by decide +kernel
theorem dX0_tryStatement_152 : decode cX0_tryStatement 152 = .ok (.getfield 15, 3) := by decide +kernel
theorem dX0_tryStatement_155 : decode cX0_tryStatement 155 = .ok (.iload_n 3, 1) := by decide +kernel
theorem dX0_tryStatement_156 : decode cX0_tryStatement 156 = .ok (.iload 8, 2) := by decide +kernel
theorem dX0_tryStatement_158 : decode cX0_tryStatement 158 = .ok (.iload 4, 2) := by decide +kernel
theorem dX0_tryStatement_160 : decode cX0_tryStatement 160 = .ok (.invokevirtual 243, 3) := by decide +kernel
theorem dX0_tryStatement_163 : decode cX0_tryStatement 163 = .ok (.istore 8, 2) := by decide +kernel
theorem dX0_tryStatement_165 : decode cX0_tryStatement 165 = .ok (.iload 9, 2) := by decide +kernel
theorem dX0_tryStatement_167 : decode cX0_tryStatement 167 = .ok (.aload_n 0, 1) := by decide +kernel
theorem dX0_tryStatement_168 : decode cX0_tryStatement 168 = .ok (.getfield 94, 3) := by decide +kernel
theorem dX0_tryStatement_171 : decode cX0_tryStatement 171 = .ok (.iand, 1) := by decide +kernel
theorem dX0_tryStatement_172 : decode cX0_tryStatement 172 = .ok (.istore 9, 2) := by decide +kernel
theorem dX0_tryStatement_174 : decode cX0_tryStatement 174 = .ok (.aload 10, 2) := by decide +kernel
theorem dX0_tryStatement_176 : decode cX0_tryStatement 176 = .ok (.getfield 172, 3) := by decide +kernel
theorem dX0_tryStatement_179 : decode cX0_tryStatement 179 = .ok (.astore 10, 2) := by decide +kernel
theorem dX0_tryStatement_181 : decode cX0_tryStatement 181 = .ok (.goto (-72), 3) := by decide +kernel
theorem dX0_tryStatement_103 : decode cX0_tryStatement 103 = .ok (.aload_n 1, 1) := by decide +kernel
theorem dX0_tryStatement_104 : decode cX0_tryStatement 104 = .ok (.getfield 202, 3) := by decide +kernel
theorem dX0_tryStatement_107 : decode cX0_tryStatement 107 = .ok (.astore 10, 2) := by decide +kernel
theorem hV_X1_addRegion : yX1_addRegion.cls = RX1 ∧ yX1_addRegion.cls ≠ "java/lang/invoke/MethodHandle" ∧ yX1_addRegion.cls ≠ "java/lang/invoke/VarHandle" ∧ (parseMethodDescriptor yX1_addRegion.desc).map (fun d => d.parameters.length) = some 4 := by decide +kernel
theorem hV_X0_catchBlock : yX0_catchBlock.cls = RX0 ∧ yX0_catchBlock.cls ≠ "java/lang/invoke/MethodHandle" ∧ yX0_catchBlock.cls ≠ "java/lang/invoke/VarHandle" ∧ (parseMethodDescriptor yX0_catchBlock.desc).map (fun d => d.parameters.length) = some 1 := by decide +kernel
set_option maxHeartbeats 40000000 in
set_option maxRecDepth 100000 in
theorem B_tryN (l : Launch) (G : pT) (h0 : Nat) (a : Nat → Nat) (F : Nat → Int32) (R : Nat → Value) (Z : Int64) (B : Nat → Nat → Int32) (J : Nat → Nat → Int64) (K : PK) (w : va_W) (pq : Nat) (dr : Nat) (ml : Nat) (nd : Nat) (nm : Nat) (cp : Nat) (it : Nat → Nat) (s9 : Nat) (q : Nat) (mq : Nat) (cs : Nat) (vr : Nat) (sz : Nat) (n : Nat) (q1 : Nat) (hd : Nat) (dp : Nat) (rg : Nat) (ls9 : Int32) (lo : Option Nat) (g : Nat → Nat → Nat) (rk : Nat → Nat) (hsz : sz ≤ 5000) (hwp : WPr G K g) (hps : PgT G K g (a 1) pq dr ml nd nm cp it s9) (hrk : RkO K rk) (hcs : cs ≤ 10000) (hvr : vr ≤ 30) (hng : Nng (B 18)) (hmq : K.1 mq = 3) (hqT : K.1 q = 1) (hqL : 1 ≤ g 0 q ∧ g 0 q ≤ n) (hc0 : K.2.2.1 0 q = some q1) (ht0 : K.1 q1 = 1) (hv0 : 1 ≤ g 0 q1 ∧ g 0 q1 + 1 ≤ n) (hdp : dp ≤ 1000) (hrg : rg ≤ 625) (hhd : hd + 2 * n + 30 ≤ 900 + vr) (hlo : LpO K lo) (hkd : K.2.1 0 q = 32) (hc2 : K.2.2.1 2 q = none) (ist : IhT l G n) (ihv : IhV l G n) (hO : OKP G h0 a (upd (upd (upd (upd (upd (upd (upd F 2 (nI sz)) 5 (nI cs)) 6 (nI rg)) 7 (nI hd)) 8 (nI dp)) 12 (nI vr)) 16 ls9) (updR (updR (updR R 2 (.ref pq)) 3 (.ref mq)) 4 (va_rf lo)) Z B J K w) (hl0 : l.stackTraces = false) : PBn l G pX0 yX0_tryStatement cX0_tryStatement 11 none ({ frames := (5 * n + 46), cells := ((rE (g 2 q) - rS (g 2 q)) + 1), slots := (6 * (rE (g 2 q) - rS (g 2 q)) + 6), locals := (200 * n + 1120) }) [.ref (a 4), .ref q] w (fun (v : Option Value) (u : va_W × (PK × (Nat → Nat → Int32) × Nat × Int32 × Int32 × Int32 × Nat × Nat × Int32)) => v = none ∧ (BdE K u.2.1) ∧ (Bth B u.2.2.1) ∧ (u.2.2.2.1 ≤ 10000 ∧ u.2.2.2.2.2.2.2.2.1 ≤ 625 ∧ u.2.2.2.2.2.2.2.1 ≤ 1000) ∧ (OKP G h0 a (upd (upd (upd (upd (upd (upd (upd (upd (upd (upd F 2 (nI sz)) 5 (nI u.2.2.2.1)) 6 (nI u.2.2.2.2.2.2.2.2.1)) 7 (nI hd)) 8 (nI u.2.2.2.2.2.2.2.1)) 12 (nI vr)) 13 u.2.2.2.2.1) 14 u.2.2.2.2.2.1) 15 u.2.2.2.2.2.2.1) 16 u.2.2.2.2.2.2.2.2.2) (updR (updR (updR R 2 (.ref pq)) 3 (.ref mq)) 4 (va_rf lo)) Z u.2.2.1 J u.2.1 u.1)) (fun u => u.1) (fun (u : va_W × (PK × (Nat → Nat → Int32) × Nat × Int32 × Int32 × Int32 × Nat × Nat × Int32)) => (rE (g 2 q) - rS (g 2 q))) (fun (u : va_W × (PK × (Nat → Nat → Int32) × Nat × Int32 × Int32 × Int32 × Nat × Nat × Int32)) => (6 * (rE (g 2 q) - rS (g 2 q)))) (fun (u : va_W × (Nat → Int32) × (Nat → Value) × (Nat → Nat → Int32)) => ThQ G h0 a (upd (upd (upd (upd (upd (upd (upd F 2 (nI sz)) 5 (nI cs)) 6 (nI rg)) 7 (nI hd)) 8 (nI dp)) 12 (nI vr)) 16 ls9) (updR (updR (updR R 2 (.ref pq)) 3 (.ref mq)) 4 (va_rf lo)) Z B J u) (fun u => u.1) := by
  intro sz
  refine vx_ofW (cc := cX0_tryStatement) (maxL := 11) (ret := none) (by decide) rfl ?_
  intro p e s m args below meth c s₁ B9 hml hnt hv
  obtain ⟨rfl, hsz, hP, hD0, hE, hX⟩ := hv
  have hx := B9.exec
  have hb := B9.bytes
  have hr := B9.returns
  have hts := atoms_spec (ws := Cond.code yX0_tryStatement cX0_tryStatement 11 none :: pw) B9.pre
  have hq : ∀ w ∈ pw, w.before _ s = true := fun w h => hts w (List.mem_cons_of_mem _ h)
  have hown : s.vm.findClass RX0 = some m.cls := findClass_of_methodNamed B9.named
  have hlocks := B9.notSynchronized
  subst hsz
  have hD := hD0.self (sz := s.heap.size)
  have hA : ∀ q : Nat, s.heap.size ≤ q → va_A w s.heap.size q := fun q h => Or.inr h
  generalize va_A w s.heap.size = A at hD hE hA ⊢
  have hS : va_S A s.heap s.heap [] := va_S.rf
  have hl := lv_entry ([.ref (a 4), .ref q]) (n := 11) (Nat.le_of_ble_eq_true rfl)
  rw [lg_entry_eq]
  generalize (lg_sl ([.ref (a 4), .ref q]) ++ List.replicate (11 - (lg_sl ([.ref (a 4), .ref q])).length) Slot.unset).toArray = ls at hl ⊢
  have hl : lv_has ls 11 [(0, .ref (a 4)), (1, .ref q)] := hl
  have hpg := hps.1
  have hp1 := hpg.1
  have hp2 := hpg.2.1
  have hp3 := hpg.2.2.1
  have hp4 := hpg.2.2.2.1
  have hp5 := hpg.2.2.2.2.1
  have hp6 := hpg.2.2.2.2.2.1
  have hp8 := hpg.2.2.2.2.2.2.2.1
  have hp9 := hpg.2.2.2.2.2.2.2.2
  have hnd := hwp.1 q hqT hqL.1
  have hiq := hnd.it
  have hri0 := NdO.iv32a hnd hkd hc0
  have hrx0 := (hwp.1 q1 ht0 hv0.1).it
  have hk1 := NdO.k32 hnd hkd (by decide) (by decide) hc0
  refine lv_aload_n hx hb dX0_tryStatement_0 rfl (lv_at hl 1 rfl) ?_
  refine p_get (v := .null) (C := RX7) (Tc := TX7) (N := 11) (ci := 13) hx hb hq pin_wsX70 hown hE hP hO (by rw [hqT]; decide) (rep_1 hqT) rfl 8 (by decide) (hq _ pw_196) (fun _ h9 => h9) (congrArg (fun z => some (va_rf z)) hc2) dX0_tryStatement_1 ?_
  refine lv_ifnullN (tgt := 11) hx hb dX0_tryStatement_4 (by decide) ?_
  refine lv_iconst (v := 0) hx hb dX0_tryStatement_11 (by decide) ?_
  refine lv_istore_n (lv' := [(2, .int 0), (0, .ref (a 4)), (1, .ref q)]) hx hb dX0_tryStatement_12 rfl hl (by decide) rfl (fun ls hl => ?_)
  refine lv_iload_n hx hb dX0_tryStatement_13 rfl (lv_at hl 0 rfl) ?_
  refine lv_if_eq (tgt := 22) hx hb dX0_tryStatement_14 (by decide) (fun c1 => ?_) (fun c1 => absurd c1 (by decide))
  refine lv_bipush (v := 6) hx hb dX0_tryStatement_22 (by decide) ?_
  refine lv_istore_n (lv' := [(3, .int 6), (2, .int 0), (0, .ref (a 4)), (1, .ref q)]) hx hb dX0_tryStatement_24 rfl hl (by decide) rfl (fun ls hl => ?_)
  refine lv_aload_n hx hb dX0_tryStatement_25 rfl (lv_at hl 2 rfl) ?_
  refine c_get (v := .ref (a 2)) (C := RX0) (Tc := TX0) (N := 13) (ci := 0) hx hb hq pin_wsX00 hown hE hP hO 24 (sg_24 G h0 a _ _ _ _ _) rfl 1 (by decide) (hq _ pw_5) (fun _ h9 => h9) rfl dX0_tryStatement_26 ?_
  refine c_get (v := .int (nI hd)) (C := RX1) (Tc := TX1) (N := 13) (ci := 1) hx hb hq pin_wsX10 hown hE hP hO 13 (sg_13 G h0 a _ _ _ _ _) rfl 11 (by decide) (hq _ pw_54) (fun _ h9 => h9) rfl dX0_tryStatement_29 ?_
  refine lv_istore (lv' := [(4, .int (nI hd)), (3, .int 6), (2, .int 0), (0, .ref (a 4)), (1, .ref q)]) hx hb dX0_tryStatement_32 hl (by decide) rfl (fun ls hl => ?_)
  refine lv_aload_n hx hb dX0_tryStatement_34 rfl (lv_at hl 3 rfl) ?_
  refine c_get (v := .int (F 13)) (C := RX0) (Tc := TX0) (N := 13) (ci := 0) hx hb hq pin_wsX00 hown hE hP hO 24 (sg_24 G h0 a _ _ _ _ _) rfl 8 (by decide) (hq _ pw_55) (fun _ h9 => h9) rfl dX0_tryStatement_35 ?_
  refine lv_istore (lv' := [(5, .int (F 13)), (4, .int (nI hd)), (3, .int 6), (2, .int 0), (0, .ref (a 4)), (1, .ref q)]) hx hb dX0_tryStatement_38 hl (by decide) rfl (fun ls hl => ?_)
  refine lv_aload_n hx hb dX0_tryStatement_40 rfl (lv_at hl 4 rfl) ?_
  refine lv_dup hx hb dX0_tryStatement_41 rfl ?_
  refine c_get (v := .int ls9) (C := RX0) (Tc := TX0) (N := 13) (ci := 0) hx hb hq pin_wsX00 hown hE hP hO 24 (sg_24 G h0 a _ _ _ _ _) rfl 12 (by decide) (hq _ pw_74) (fun _ h9 => h9) rfl dX0_tryStatement_42 ?_
  refine lv_iload_n hx hb dX0_tryStatement_45 rfl (lv_at hl 3 rfl) ?_
  refine lv_if_eq (tgt := 53) hx hb dX0_tryStatement_46 (by decide) (fun c2 => ?_) (fun c2 => absurd c2 (by decide))
  refine lv_iconst (v := 0) hx hb dX0_tryStatement_53 (by decide) ?_
  refine lv_iadd hx hb dX0_tryStatement_54 ?_
  refine lv_topi (fun x3 e4 => ?_)
  refine c_put (v := .int x3) (ty := .int) (C := RX0) (Tc := TX0) (N := 13) (ci := 0) hx hb hq pin_wsX00 tyX0 tyX0_ok nmX0 hown hE hP hD hS hO 24 (sg_24 G h0 a _ _ _ _ _) rfl 12 (by decide) (hq _ pw_74) (fun _ h9 => h9) rfl (by decide +kernel) rfl rfl (Nat.le_of_ble_eq_true rfl) (sf_16 G h0 a _ _ _ _ _ x3) dX0_tryStatement_55 (fun H locs w hP hD hS hO => ?_)
  refine lv_aload_n hx hb dX0_tryStatement_58 rfl (lv_at hl 4 rfl) ?_
  refine c_get (v := .ref (a 2)) (C := RX0) (Tc := TX0) (N := 13) (ci := 0) hx hb hq pin_wsX00 hown hE hP hO 24 (sg_24 G h0 a _ _ _ _ _) rfl 1 (by decide) (hq _ pw_5) (fun _ h9 => h9) rfl dX0_tryStatement_59 ?_
  refine c_get (v := .int (nI cs)) (C := RX1) (Tc := TX1) (N := 13) (ci := 1) hx hb hq pin_wsX10 hown hE hP hO 13 (sg_13 G h0 a _ _ _ _ _) rfl 4 (by decide) (hq _ pw_75) (fun _ h9 => h9) rfl dX0_tryStatement_62 ?_
  refine lv_istore (lv' := [(6, .int (nI cs)), (5, .int (F 13)), (4, .int (nI hd)), (3, .int 6), (2, .int 0), (0, .ref (a 4)), (1, .ref q)]) hx hb dX0_tryStatement_65 hl (by decide) rfl (fun ls hl => ?_)
  refine lv_aload_n hx hb dX0_tryStatement_67 rfl (lv_at hl 5 rfl) ?_
  refine lv_aload_n hx hb dX0_tryStatement_68 rfl (lv_at hl 6 rfl) ?_
  refine p_get (v := .ref q1) (C := RX7) (Tc := TX7) (N := 11) (ci := 13) hx hb hq pin_wsX70 hown hE hP hO (by rw [hqT]; decide) (rep_1 hqT) rfl 6 (by decide) (hq _ pw_180) (fun _ h9 => h9) (congrArg (fun z => some (va_rf z)) hc0) dX0_tryStatement_69 ?_
  have hO : OKP G h0 a (upd (upd (upd (upd (upd (upd (upd (upd (upd (upd (upd (upd (upd (upd (upd F 2 (nI sz)) 5 (nI cs)) 6 (nI rg)) 7 (nI hd)) 8 (nI dp)) 12 (nI vr)) 16 ls9) 16 x3) 2 (nI sz)) 5 (nI cs)) 6 (nI rg)) 7 (nI hd)) 8 (nI dp)) 12 (nI vr)) 16 x3) (updR (updR (updR (updR (updR (updR R 2 (.ref pq)) 3 (.ref mq)) 4 (va_rf lo)) 2 (.ref pq)) 3 (.ref mq)) 4 (va_rf lo)) Z B J K w := hO.to rfl
  obtain ⟨_, qr8, hqr9⟩ := hO.2.1 24 _ (sg_24 G h0 a _ _ _ _ _)
  refine pn_V0 (G := G) (As := [.ref q1]) (rest := []) hx hb hml hown hq hE hX pX0_al hP hD hS hA hl.1 (B_block l G h0 a (upd (upd (upd (upd (upd (upd (upd (upd F 2 (nI sz)) 5 (nI cs)) 6 (nI rg)) 7 (nI hd)) 8 (nI dp)) 12 (nI vr)) 16 ls9) 16 x3) (updR (updR (updR R 2 (.ref pq)) 3 (.ref mq)) 4 (va_rf lo)) Z B J K w pq dr ml nd nm cp it s9 q1 mq cs vr sz (n - 1) hd dp rg x3 lo g rk (by omega) (BdE.wp BdE.rfl hwp) (BdE.pt BdE.rfl hwp hps) (BdE.rko BdE.rfl hrk) (by omega) (by omega) hng hmq ht0 ⟨hv0.1, (by have z9 := hv0; omega)⟩ (by omega) (by omega) (by omega) (LpO.be BdE.rfl hlo) hk1 (IhT.lo ist) (IhV.all l G _) hO hl0) (gV pw_307 pw_308 pw_309 pw_63 pw_358) hV_X0_block qr8 0 hqr9 rfl rfl rfl (Nat.le_of_ble_eq_true rfl) dX0_tryStatement_72 ⟨(by show 0 + ((rE (g 2 q1) - rS (g 2 q1) - 2) + 1) ≤ ((rE (g 2 q) - rS (g 2 q)) + 1); omega), (by show 0 + (6 * (rE (g 2 q1) - rS (g 2 q1) - 2) + 6) ≤ (6 * (rE (g 2 q) - rS (g 2 q)) + 6); omega)⟩ ⟨(by show (5 * (n - 1) + 46) + 1 ≤ (5 * n + 46); omega), (by show 8 + (5 + 11) + (200 * (n - 1) + 1120) ≤ (200 * n + 1120); omega)⟩ (fun v7 u5 H locs hw6 hP hD hS => ?_) (fun ux ce9 q9 H9 locs9 hux hP9 hD9 hS9 hce hcv hcl => pb_out ux (ThQ.up (Thx.same (Thx.same (Thx.same (Thx.same (Thx.same (Thx.same (Thx.same (Thx.f Thx.rfl (by omega)) rfl) rfl) rfl) rfl) rfl) rfl) rfl) (show RhX (updR (updR (updR R 2 (.ref pq)) 3 (.ref mq)) 4 (va_rf lo)) (updR (updR (updR (updR (updR (updR R 2 (.ref pq)) 3 (.ref mq)) 4 (va_rf lo)) 2 (.ref pq)) 3 (.ref mq)) 4 (va_rf lo)) from fun k9 hk9 => by unfold updR; simp only [show ¬ k9 = 1 by omega, show ¬ k9 = 2 by omega, show ¬ k9 = 3 by omega, show ¬ k9 = 4 by omega, if_false]) hux) hnt hlocks hce hcv hcl hP9 hD9 hS9 (by show 0 + ((rE (g 2 q1) - rS (g 2 q1) - 2) + 1) ≤ ((rE (g 2 q) - rS (g 2 q)) + 1); omega) (by show 0 + (6 * (rE (g 2 q1) - rS (g 2 q1) - 2) + 6) ≤ (6 * (rE (g 2 q) - rS (g 2 q)) + 6); omega))
  obtain ⟨w, K10, B11, cs12, as13, wt14, wf15, dp16, rg17, ls18⟩ := u5
  obtain ⟨hw6, h19, h20, h21, hO⟩ := hw6
  have h19 : BdE K K10 := h19
  have h20 : Bth B B11 := h20
  have h21 : cs12 ≤ 10000 ∧ rg17 ≤ 625 ∧ dp16 ≤ 1000 := h21
  obtain rfl : v7 = none := hw6
  have hf22 : K10.1 pq = 7 := (BdE.T h19 hp1 (by decide))
  have hf23 : K10.2.2.1 18 pq = some (a 1) := (BdE.C h19 (by rw [hp1]; decide) 18).trans hp2
  have hf24 : K10.2.2.1 14 pq = some dr := (BdE.C h19 (by rw [hp1]; decide) 14).trans hp3
  have hf25 : K10.1 dr = 8 := (BdE.T h19 hp4 (by decide))
  have hf26 : K10.2.2.1 15 pq = some ml := (BdE.C h19 (by rw [hp1]; decide) 15).trans hp5
  have hf27 : K10.1 ml = 5 := (BdE.T h19 hp6 (by decide))
  have hf28 : K10.2.1 24 pq = (nI nd) := (BdE.I h19 (by rw [hp1]; decide) (by decide) (by decide)).trans hp8
  have hf29 : K10.1 q = 1 := (BdE.T h19 hqT (by decide))
  have hf30 : K10.1 mq = 3 := (BdE.T h19 hmq (by decide))
  have hf31 : K10.2.2.1 0 q = some q1 := (BdE.C h19 (by rw [hqT]; decide) 0).trans hc0
  have hf32 : K10.1 q1 = 1 := (BdE.T h19 ht0 (by decide))
  have hf33 : K10.2.1 0 q1 = 21 := (BdE.I h19 (by rw [ht0]; decide) (by decide) (by decide)).trans hk1
  have hf34 : K10.2.2.1 2 q = none := (BdE.C h19 (by rw [hqT]; decide) 2).trans hc2
  have hf35 : K10.2.1 0 q = 32 := (BdE.I h19 (by rw [hqT]; decide) (by decide) (by decide)).trans hkd
  have hO : OKP G h0 a (upd (upd (upd (upd (upd (upd (upd (upd (upd (upd F 2 (nI sz)) 5 (nI cs12)) 6 (nI rg17)) 7 (nI hd)) 8 (nI dp16)) 12 (nI vr)) 13 as13) 14 wt14) 15 wf15) 16 ls18) (updR (updR (updR R 2 (.ref pq)) 3 (.ref mq)) 4 (va_rf lo)) Z B11 J K10 w := hO.to rfl
  refine W.widen (k := (rE (g 2 q1) - rS (g 2 q1) - 2)) (n := (6 * (rE (g 2 q1) - rS (g 2 q1) - 2))) (by show 0 + (rE (g 2 q1) - rS (g 2 q1) - 2) ≤ (rE (g 2 q1) - rS (g 2 q1) - 2); omega) (by show 0 + (6 * (rE (g 2 q1) - rS (g 2 q1) - 2)) ≤ (6 * (rE (g 2 q1) - rS (g 2 q1) - 2)); omega) ?_
  refine W.eq (g2 := F0 m 75 ls []) rfl ?_
  have hbe36 := BdE.trans BdE.rfl h19
  have hbb37 : Bth B B11 := Bth.trans (show Thx (upd (upd (upd (upd (upd (upd (upd F 2 (nI sz)) 5 (nI cs)) 6 (nI rg)) 7 (nI hd)) 8 (nI dp)) 12 (nI vr)) 16 ls9) (upd (upd (upd (upd (upd (upd (upd (upd F 2 (nI sz)) 5 (nI cs)) 6 (nI rg)) 7 (nI hd)) 8 (nI dp)) 12 (nI vr)) 16 ls9) 16 x3) B B from (Thx.f Thx.rfl (by omega))).2 h20
  have hng38 : Nng (B11 18) := h20.2 hng
  refine lv_aload_n hx hb dX0_tryStatement_75 rfl (lv_at hl 5 rfl) ?_
  refine c_get (v := .ref (a 2)) (C := RX0) (Tc := TX0) (N := 13) (ci := 0) hx hb hq pin_wsX00 hown hE hP hO 24 (sg_24 G h0 a _ _ _ _ _) rfl 1 (by decide) (hq _ pw_5) (fun _ h9 => h9) rfl dX0_tryStatement_76 ?_
  refine c_get (v := .int (nI cs12)) (C := RX1) (Tc := TX1) (N := 13) (ci := 1) hx hb hq pin_wsX10 hown hE hP hO 13 (sg_13 G h0 a _ _ _ _ _) rfl 4 (by decide) (hq _ pw_75) (fun _ h9 => h9) rfl dX0_tryStatement_79 ?_
  refine lv_istore (lv' := [(7, .int (nI cs12)), (6, .int (nI cs)), (5, .int (F 13)), (4, .int (nI hd)), (3, .int 6), (2, .int 0), (0, .ref (a 4)), (1, .ref q)]) hx hb dX0_tryStatement_82 hl (by decide) rfl (fun ls hl => ?_)
  refine lv_aload_n hx hb dX0_tryStatement_84 rfl (lv_at hl 6 rfl) ?_
  refine c_get (v := .ref (a 2)) (C := RX0) (Tc := TX0) (N := 13) (ci := 0) hx hb hq pin_wsX00 hown hE hP hO 24 (sg_24 G h0 a _ _ _ _ _) rfl 1 (by decide) (hq _ pw_5) (fun _ h9 => h9) rfl dX0_tryStatement_85 ?_
  refine lv_iload_n hx hb dX0_tryStatement_88 rfl (lv_at hl 4 rfl) ?_
  refine lv_iconst (v := (-1)) hx hb dX0_tryStatement_89 (by decide) ?_
  refine lv_iload hx hb dX0_tryStatement_90 (lv_at hl 3 rfl) ?_
  have hO : OKW G h0 a (upd (upd (upd (upd (upd (upd (upd (upd (upd (upd (upd F 2 (nI sz)) 5 (nI cs12)) 6 (nI rg17)) 7 (nI hd)) 8 (nI dp16)) 12 (nI vr)) 13 as13) 14 wt14) 15 wf15) 16 ls18) 5 (nI cs12)) (updR (updR (updR R 2 (.ref pq)) 3 (.ref mq)) 4 (va_rf lo)) Z B11 J K10.1 (fun q99 x99 => x99 = rep G a K10 q99) w := hO.to rfl
  obtain ⟨_, qr42, hqr43⟩ := hO.2.1 13 _ (sg_13 G h0 a _ _ _ _ _)
  refine pc_V0 (G := G) (As := [.int 6, .int (-1), .int (nI hd)]) (rest := []) hx hb hml hown hq hE hX pX0_al hP hD hS hA hl.1 (K_jump l G h0 a (upd (upd (upd (upd (upd (upd (upd (upd (upd (upd F 2 (nI sz)) 5 (nI cs12)) 6 (nI rg17)) 7 (nI hd)) 8 (nI dp16)) 12 (nI vr)) 13 as13) 14 wt14) 15 wf15) 16 ls18) (updR (updR (updR R 2 (.ref pq)) 3 (.ref mq)) 4 (va_rf lo)) Z B11 J K10.1 (fun q99 x99 => x99 = rep G a K10 q99) w 6 (-1) hd cs12 (by omega) (by omega) hng38 hO) (gV pw_197 pw_198 pw_199 pw_70 pw_132) hV_X1_jump qr42 1 hqr43 rfl rfl rfl (Nat.le_of_ble_eq_true rfl) dX0_tryStatement_92 ⟨(by show (rE (g 2 q1) - rS (g 2 q1) - 2) + 0 ≤ ((rE (g 2 q) - rS (g 2 q)) + 1); omega), (by show (6 * (rE (g 2 q1) - rS (g 2 q1) - 2)) + 0 ≤ (6 * (rE (g 2 q) - rS (g 2 q)) + 6); omega)⟩ ⟨(by show 3 + 1 ≤ (5 * n + 46); omega), (by show 8 + (4 + 11) + 83 ≤ (200 * n + 1120); omega)⟩ (fun v41 u39 H locs hw40 hP hD hS => ?_)
  obtain ⟨w, cs44, f45, f46, f47, f48, r49⟩ := u39
  obtain ⟨hw40, h50, h51, hO⟩ := hw40
  have h50 : cs12 ≤ cs44 ∧ cs44 ≤ cs12 + 1 ∧ cs44 ≤ 10000 := h50
  have h51 : Nng f47 := h51
  obtain rfl : v41 = some (.int r49) := hw40
  have hO : OKP G h0 a (upd (upd (upd (upd (upd (upd (upd (upd (upd (upd F 2 (nI sz)) 5 (nI cs44)) 6 (nI rg17)) 7 (nI hd)) 8 (nI dp16)) 12 (nI vr)) 13 as13) 14 wt14) 15 wf15) 16 ls18) (updR (updR (updR R 2 (.ref pq)) 3 (.ref mq)) 4 (va_rf lo)) Z (updA (updA (updA (updA B11 16 f45) 17 f46) 18 f47) 19 f48) J K10 w := hO.to rfl
  refine W.widen (k := (rE (g 2 q1) - rS (g 2 q1) - 2)) (n := (6 * (rE (g 2 q1) - rS (g 2 q1) - 2))) (by show (rE (g 2 q1) - rS (g 2 q1) - 2) + 0 ≤ (rE (g 2 q1) - rS (g 2 q1) - 2); omega) (by show (6 * (rE (g 2 q1) - rS (g 2 q1) - 2)) + 0 ≤ (6 * (rE (g 2 q1) - rS (g 2 q1) - 2)); omega) ?_
  refine W.eq (g2 := F0 m 95 ls [.int r49]) rfl ?_
  refine lv_istore (lv' := [(8, .int r49), (7, .int (nI cs12)), (6, .int (nI cs)), (5, .int (F 13)), (4, .int (nI hd)), (3, .int 6), (2, .int 0), (0, .ref (a 4)), (1, .ref q)]) hx hb dX0_tryStatement_95 hl (by decide) rfl (fun ls hl => ?_)
  refine lv_aload_n hx hb dX0_tryStatement_97 rfl (lv_at hl 7 rfl) ?_
  refine c_get (v := .int as13) (C := RX0) (Tc := TX0) (N := 13) (ci := 0) hx hb hq pin_wsX00 hown hE hP hO 24 (sg_24 G h0 a _ _ _ _ _) rfl 8 (by decide) (hq _ pw_55) (fun _ h9 => h9) rfl dX0_tryStatement_98 ?_
  refine lv_istore (lv' := [(9, .int as13), (8, .int r49), (7, .int (nI cs12)), (6, .int (nI cs)), (5, .int (F 13)), (4, .int (nI hd)), (3, .int 6), (2, .int 0), (0, .ref (a 4)), (1, .ref q)]) hx hb dX0_tryStatement_101 hl (by decide) rfl (fun ls hl => ?_)
  have loop_g : ∀ (n_g : Nat) (k2 : Nat) (o2 : Option Nat) (K2 : PK) (B2 : Nat → Nat → Int32) (cs2 : Nat) (as2 : Int32) (wt2 : Int32) (wf2 : Int32) (dp2 : Nat) (rg2 : Nat) (ls2 : Int32) (t2 : Nat) (c2 : Nat) (b5 : Int32) (b6 : Int32) (b7 : Int32) (b8 : Int32) (b9 : Int32) (H : Heap) (locs : List Loc) (ls : Array Slot) (w : va_W), k2 ≤ 100000000000000000001 → 100000000000000000001 + 1 ≤ k2 + n_g → (BdE K K2) → (Bth B B2) → (Nng (B2 18)) → (cs2 ≤ 10000 ∧ rg2 ≤ 625 ∧ dp2 ≤ 1000) → (MmO K2 g q o2 t2 k2) → (c2 + rS (g 2 q) ≤ t2 ∧ t2 ≤ rN (g 2 q)) → va_P G.1 pCl w H → va_D A w → va_S A s.heap H locs → OKP G h0 a (upd (upd (upd (upd (upd (upd (upd (upd (upd (upd F 2 (nI sz)) 5 (nI cs2)) 6 (nI rg2)) 7 (nI hd)) 8 (nI dp2)) 12 (nI vr)) 13 as2) 14 wt2) 15 wf2) 16 ls2) (updR (updR (updR R 2 (.ref pq)) 3 (.ref mq)) 4 (va_rf lo)) Z B2 J K2 w → lv_has ls 11 [(10, va_rf o2), (9, .int b9), (8, .int b8), (7, .int b7), (6, .int b6), (5, .int b5), (4, .int (nI hd)), (3, .int 6), (2, .int 0), (1, .ref q), (0, .ref (a 4))] → W p l e (headSpec (Cond.code yX0_tryStatement cX0_tryStatement 11 none :: pw) ({ frames := (5 * n + 46), cells := ((rE (g 2 q) - rS (g 2 q)) + 1), slots := (6 * (rE (g 2 q) - rS (g 2 q)) + 6), locals := (200 * n + 1120) } : Room)).room s m ([.ref (a 4), .ref q] : List Value).toArray below meth c H locs c2 (6 * c2) (vx_MQ below (pQn G A (fun (v : Option Value) (u : va_W × (PK × (Nat → Nat → Int32) × Nat × Int32 × Int32 × Int32 × Nat × Nat × Int32)) => v = none ∧ (BdE K u.2.1) ∧ (Bth B u.2.2.1) ∧ (u.2.2.2.1 ≤ 10000 ∧ u.2.2.2.2.2.2.2.2.1 ≤ 625 ∧ u.2.2.2.2.2.2.2.1 ≤ 1000) ∧ (OKP G h0 a (upd (upd (upd (upd (upd (upd (upd (upd (upd (upd F 2 (nI sz)) 5 (nI u.2.2.2.1)) 6 (nI u.2.2.2.2.2.2.2.2.1)) 7 (nI hd)) 8 (nI u.2.2.2.2.2.2.2.1)) 12 (nI vr)) 13 u.2.2.2.2.1) 14 u.2.2.2.2.2.1) 15 u.2.2.2.2.2.2.1) 16 u.2.2.2.2.2.2.2.2.2) (updR (updR (updR R 2 (.ref pq)) 3 (.ref mq)) 4 (va_rf lo)) Z u.2.2.1 J u.2.1 u.1)) (fun u => u.1) (fun (u : va_W × (PK × (Nat → Nat → Int32) × Nat × Int32 × Int32 × Int32 × Nat × Nat × Int32)) => (rE (g 2 q) - rS (g 2 q))) (fun (u : va_W × (PK × (Nat → Nat → Int32) × Nat × Int32 × Int32 × Int32 × Nat × Nat × Int32)) => (6 * (rE (g 2 q) - rS (g 2 q))))) (pXX G A (fun (u : va_W × (Nat → Int32) × (Nat → Value) × (Nat → Nat → Int32)) => ThQ G h0 a (upd (upd (upd (upd (upd (upd (upd F 2 (nI sz)) 5 (nI cs)) 6 (nI rg)) 7 (nI hd)) 8 (nI dp)) 12 (nI vr)) 16 ls9) (updR (updR (updR R 2 (.ref pq)) 3 (.ref mq)) 4 (va_rf lo)) Z B J u) (fun u => u.1)) ([.ref (a 4), .ref q] : List Value).toArray s ({ frames := (5 * n + 46), cells := ((rE (g 2 q) - rS (g 2 q)) + 1), slots := (6 * (rE (g 2 q) - rS (g 2 q)) + 6), locals := (200 * n + 1120) } : Room).cells ({ frames := (5 * n + 46), cells := ((rE (g 2 q) - rS (g 2 q)) + 1), slots := (6 * (rE (g 2 q) - rS (g 2 q)) + 6), locals := (200 * n + 1120) } : Room).slots A) (F0 m 109 ls []) := by
    intro n_g
    induction n_g with
    | zero => intro k2 o2 K2 B2 cs2 as2 wt2 wf2 dp2 rg2 ls2 t2 c2 b5 b6 b7 b8 b9 H locs ls w hk_g hn_g; omega
    | succ n_g ih_g =>
      intro k2 o2 K2 B2 cs2 as2 wt2 wf2 dp2 rg2 ls2 t2 c2 b5 b6 b7 b8 b9 H locs ls w hk_g hn_g hbe2 hbb2 hng2 hcs2 hmm2 hc29 hP hD hS hO hl
      have hf52 : K2.1 pq = 7 := (BdE.T hbe2 hp1 (by decide))
      have hf53 : K2.2.2.1 18 pq = some (a 1) := (BdE.C hbe2 (by rw [hp1]; decide) 18).trans hp2
      have hf54 : K2.2.2.1 14 pq = some dr := (BdE.C hbe2 (by rw [hp1]; decide) 14).trans hp3
      have hf55 : K2.1 dr = 8 := (BdE.T hbe2 hp4 (by decide))
      have hf56 : K2.2.2.1 15 pq = some ml := (BdE.C hbe2 (by rw [hp1]; decide) 15).trans hp5
      have hf57 : K2.1 ml = 5 := (BdE.T hbe2 hp6 (by decide))
      have hf58 : K2.2.1 24 pq = (nI nd) := (BdE.I hbe2 (by rw [hp1]; decide) (by decide) (by decide)).trans hp8
      have hf59 : K2.1 q = 1 := (BdE.T hbe2 hqT (by decide))
      have hf60 : K2.1 mq = 3 := (BdE.T hbe2 hmq (by decide))
      have hf61 : K2.2.2.1 0 q = some q1 := (BdE.C hbe2 (by rw [hqT]; decide) 0).trans hc0
      have hf62 : K2.1 q1 = 1 := (BdE.T hbe2 ht0 (by decide))
      have hf63 : K2.2.1 0 q1 = 21 := (BdE.I hbe2 (by rw [ht0]; decide) (by decide) (by decide)).trans hk1
      have hf64 : K2.2.2.1 2 q = none := (BdE.C hbe2 (by rw [hqT]; decide) 2).trans hc2
      have hf65 : K2.2.1 0 q = 32 := (BdE.I hbe2 (by rw [hqT]; decide) (by decide) (by decide)).trans hkd
      rcases o2 with _ | x9
      · have hl : lv_has ls 11 [(10, .null), (9, .int b9), (8, .int b8), (7, .int b7), (6, .int b6), (5, .int b5), (4, .int (nI hd)), (3, .int 6), (2, .int 0), (1, .ref q), (0, .ref (a 4))] := hl
        refine W.eq (g2 := F0 m 109 ls []) rfl ?_
        refine lv_aloadN hx hb dX0_tryStatement_109 (lv_at hl 0 rfl) ?_
        refine lv_ifnullN (tgt := 184) hx hb dX0_tryStatement_111 (by decide) ?_
        refine lv_aload_n hx hb dX0_tryStatement_184 rfl (lv_at hl 10 rfl) ?_
        refine lv_dup hx hb dX0_tryStatement_185 rfl ?_
        refine c_get (v := .int ls2) (C := RX0) (Tc := TX0) (N := 13) (ci := 0) hx hb hq pin_wsX00 hown hE hP hO 24 (sg_24 G h0 a _ _ _ _ _) rfl 12 (by decide) (hq _ pw_74) (fun _ h9 => h9) rfl dX0_tryStatement_186 ?_
        refine lv_iload_n hx hb dX0_tryStatement_189 rfl (lv_at hl 8 rfl) ?_
        refine lv_if_eq (tgt := 197) hx hb dX0_tryStatement_190 (by decide) (fun c66 => ?_) (fun c66 => absurd c66 (by decide))
        refine lv_iconst (v := 0) hx hb dX0_tryStatement_197 (by decide) ?_
        refine lv_isub hx hb dX0_tryStatement_198 ?_
        refine lv_topi (fun x67 e68 => ?_)
        refine c_put (v := .int x67) (ty := .int) (C := RX0) (Tc := TX0) (N := 13) (ci := 0) hx hb hq pin_wsX00 tyX0 tyX0_ok nmX0 hown hE hP hD hS hO 24 (sg_24 G h0 a _ _ _ _ _) rfl 12 (by decide) (hq _ pw_74) (fun _ h9 => h9) rfl (by decide +kernel) rfl rfl (Nat.le_of_ble_eq_true rfl) (sf_16 G h0 a _ _ _ _ _ x67) dX0_tryStatement_199 (fun H locs w hP hD hS hO => ?_)
        refine lv_aload_n hx hb dX0_tryStatement_202 rfl (lv_at hl 10 rfl) ?_
        refine c_get (v := .ref (a 2)) (C := RX0) (Tc := TX0) (N := 13) (ci := 0) hx hb hq pin_wsX00 hown hE hP hO 24 (sg_24 G h0 a _ _ _ _ _) rfl 1 (by decide) (hq _ pw_5) (fun _ h9 => h9) rfl dX0_tryStatement_203 ?_
        refine lv_iload hx hb dX0_tryStatement_206 (lv_at hl 2 rfl) ?_
        have hO : OKW G h0 a (upd (upd (upd (upd (upd (upd (upd (upd (upd (upd (upd F 2 (nI sz)) 5 (nI cs2)) 6 (nI rg2)) 7 (nI hd)) 8 (nI dp2)) 12 (nI vr)) 13 as2) 14 wt2) 15 wf2) 16 x67) 5 (nI cs2)) (updR (updR (updR R 2 (.ref pq)) 3 (.ref mq)) 4 (va_rf lo)) Z B2 J K2.1 (fun q99 x99 => x99 = rep G a K2 q99) w := hO.to rfl
        obtain ⟨_, qr72, hqr73⟩ := hO.2.1 13 _ (sg_13 G h0 a _ _ _ _ _)
        refine pc_V0 (G := G) (As := [.int b8]) (rest := []) hx hb hml hown hq hE hX pX0_al hP hD hS hA hl.1 (K_land l G h0 a (upd (upd (upd (upd (upd (upd (upd (upd (upd (upd F 2 (nI sz)) 5 (nI cs2)) 6 (nI rg2)) 7 (nI hd)) 8 (nI dp2)) 12 (nI vr)) 13 as2) 14 wt2) 15 wf2) 16 x67) (updR (updR (updR R 2 (.ref pq)) 3 (.ref mq)) 4 (va_rf lo)) Z B2 J K2.1 (fun q99 x99 => x99 = rep G a K2 q99) w b8 cs2 (by omega) hO) (gV pw_200 pw_201 pw_202 pw_70 pw_134) hV_X1_land qr72 1 hqr73 rfl rfl rfl (Nat.le_of_ble_eq_true rfl) dX0_tryStatement_208 ⟨(by show c2 + 0 ≤ ((rE (g 2 q) - rS (g 2 q)) + 1); omega), (by show (6 * c2) + 0 ≤ (6 * (rE (g 2 q) - rS (g 2 q)) + 6); omega)⟩ ⟨(by show 2 + 1 ≤ (5 * n + 46); omega), (by show 8 + (5 + 11) + 60 ≤ (200 * n + 1120); omega)⟩ (fun v71 u69 H locs hw70 hP hD hS => ?_)
        obtain ⟨w, f74⟩ := u69
        obtain ⟨hw70, hO⟩ := hw70
        obtain rfl : v71 = none := hw70
        have hO : OKP G h0 a (upd (upd (upd (upd (upd (upd (upd (upd (upd (upd F 2 (nI sz)) 5 (nI cs2)) 6 (nI rg2)) 7 (nI hd)) 8 (nI dp2)) 12 (nI vr)) 13 as2) 14 wt2) 15 wf2) 16 x67) (updR (updR (updR R 2 (.ref pq)) 3 (.ref mq)) 4 (va_rf lo)) Z (updA B2 17 f74) J K2 w := hO.to rfl
        refine W.widen (k := c2) (n := (6 * c2)) (by show c2 + 0 ≤ c2; omega) (by show (6 * c2) + 0 ≤ (6 * c2); omega) ?_
        refine W.eq (g2 := F0 m 211 ls []) rfl ?_
        refine lv_aload_n hx hb dX0_tryStatement_211 rfl (lv_at hl 10 rfl) ?_
        refine lv_iload hx hb dX0_tryStatement_212 (lv_at hl 1 rfl) ?_
        refine c_put (v := .int b9) (ty := .int) (C := RX0) (Tc := TX0) (N := 13) (ci := 0) hx hb hq pin_wsX00 tyX0 tyX0_ok nmX0 hown hE hP hD hS hO 24 (sg_24 G h0 a _ _ _ _ _) rfl 8 (by decide) (hq _ pw_55) (fun _ h9 => h9) rfl (by decide +kernel) rfl rfl (Nat.le_of_ble_eq_true rfl) (sf_13 G h0 a _ _ _ _ _ b9) dX0_tryStatement_214 (fun H locs w hP hD hS hO => ?_)
        refine lv_iload_n hx hb dX0_tryStatement_217 rfl (lv_at hl 8 rfl) ?_
        refine lv_if_eq (tgt := 267) hx hb dX0_tryStatement_218 (by decide) (fun c75 => ?_) (fun c75 => absurd c75 (by decide))
        refine W_size (fun hz1 hz2 => ?_)
        refine vx_ret ?_
        have hz76 : BdE K K2 := hbe2
        have hz77 : Bth B (updA B2 17 f74) := (show Thx (upd (upd (upd (upd (upd (upd (upd F 2 (nI sz)) 5 (nI cs)) 6 (nI rg)) 7 (nI hd)) 8 (nI dp)) 12 (nI vr)) 16 ls9) (upd (upd (upd (upd (upd (upd (upd (upd (upd (upd (upd (upd (upd (upd F 2 (nI sz)) 5 (nI cs)) 6 (nI rg)) 7 (nI hd)) 8 (nI dp)) 12 (nI vr)) 16 ls9) 5 (nI cs2)) 6 (nI rg2)) 8 (nI dp2)) 13 b9) 14 wt2) 15 wf2) 16 x67) B (updA B2 17 f74) from (Thx.b (Thx.f (Thx.f (Thx.f (Thx.f (Thx.f (Thx.f (Thx.f (Bth.thx hbb2) (by omega)) (by omega)) (by omega)) (by omega)) (by omega)) (by omega)) (by omega)) (by omega) (by decide))).2
        have hz78 : cs2 ≤ 10000 ∧ rg2 ≤ 625 ∧ dp2 ≤ 1000 := (by omega)
        have hO : OKP G h0 a (upd (upd (upd (upd (upd (upd (upd (upd (upd (upd F 2 (nI sz)) 5 (nI cs2)) 6 (nI rg2)) 7 (nI hd)) 8 (nI dp2)) 12 (nI vr)) 13 b9) 14 wt2) 15 wf2) 16 x67) (updR (updR (updR R 2 (.ref pq)) 3 (.ref mq)) 4 (va_rf lo)) Z (updA B2 17 f74) J K2 w := hO.to rfl
        refine W.widen (k := ((rE (g 2 q) - rS (g 2 q)) + 1)) (n := (6 * (rE (g 2 q) - rS (g 2 q)) + 6)) (by omega) (by omega) ?_
        have hzz1 : H.size ≤ s.heap.size + ((rE (g 2 q) - rS (g 2 q))) := (by have z : c2 ≤ (rE (g 2 q) - rS (g 2 q)) := (by omega); omega)
        have hzz2 : hSl H ≤ hSl s.heap + ((6 * (rE (g 2 q) - rS (g 2 q)))) := (by have z : (6 * c2) ≤ (6 * (rE (g 2 q) - rS (g 2 q))) := (by omega); omega)
        exact W.vret hx hb hr (fun t99 ht99 hW99 => ⟨⟨_, (w, (K2, (updA B2 17 f74), cs2, b9, wt2, wf2, dp2, rg2, x67)), rfl, ⟨rfl, hz76, hz77, hz78, hO⟩, by rw [ht99]; exact hP, hD, by rw [ht99]; exact hzz1, by rw [ht99]; exact hzz2⟩, hS.F ht99⟩) hS.2.2 dX0_tryStatement_267
      · have hl : lv_has ls 11 [(10, .ref x9), (9, .int b9), (8, .int b8), (7, .int b7), (6, .int b6), (5, .int b5), (4, .int (nI hd)), (3, .int 6), (2, .int 0), (1, .ref q), (0, .ref (a 4))] := hl
        refine W.eq (g2 := F0 m 109 ls []) rfl ?_
        have hxd := hmm2 x9 rfl
        have hxT := hxd.1
        have hxv : 1 ≤ g 0 x9 ∧ g 0 x9 + 1 ≤ n := ⟨hxd.2.1, (by have z := hxd.2.2.1; omega)⟩
        have hxe := MmO.end32 (BdE.wp hbe2 hwp).1 hqL.1 hf65 hxT hxd.2.1 hxd.2.2.2.1
        have hxe1 : rE (g 2 x9) ≤ rN (g 2 q) ∧ rS (g 2 x9) ≤ rE (g 2 x9) ∧ g 2 x9 ≤ 100000000000000000000 := ⟨hxe.1, hxe.2.1, hxe.2.2.1⟩
        have hxt := hxd.2.2.2.2
        have hxk := hxe.2.2.2
        have hxw := (BdE.wp hbe2 hwp).1 x9 hxT hxd.2.1
        obtain ⟨xb, hxb0, hxbT, hxbl⟩ := NdO.ch hxw (f := 0) (by decide) (hxw.1.1 (by rw [hxk]; decide))
        have hxbv : 1 ≤ g 0 xb ∧ g 0 xb + 1 ≤ n - 1 := ⟨hxbl.1, (by have z := hxbl.2; omega)⟩
        refine lv_aload hx hb dX0_tryStatement_109 (lv_at hl 0 rfl) ?_
        refine lv_ifnull hx hb dX0_tryStatement_111 ?_
        refine lv_aload_n hx hb dX0_tryStatement_114 rfl (lv_at hl 10 rfl) ?_
        refine c_get (v := .ref (a 2)) (C := RX0) (Tc := TX0) (N := 13) (ci := 0) hx hb hq pin_wsX00 hown hE hP hO 24 (sg_24 G h0 a _ _ _ _ _) rfl 1 (by decide) (hq _ pw_5) (fun _ h9 => h9) rfl dX0_tryStatement_115 ?_
        refine lv_iload hx hb dX0_tryStatement_118 (lv_at hl 4 rfl) ?_
        refine lv_iload hx hb dX0_tryStatement_120 (lv_at hl 3 rfl) ?_
        refine lv_aload_n hx hb dX0_tryStatement_122 rfl (lv_at hl 10 rfl) ?_
        refine c_get (v := .ref (a 1)) (C := RX0) (Tc := TX0) (N := 13) (ci := 0) hx hb hq pin_wsX00 hown hE hP hO 24 (sg_24 G h0 a _ _ _ _ _) rfl 0 (by decide) (hq _ pw_4) (fun _ h9 => h9) rfl dX0_tryStatement_123 ?_
        refine lv_aload hx hb dX0_tryStatement_126 (lv_at hl 0 rfl) ?_
        refine p_get (v := .int (K2.2.1 2 x9)) (C := RX7) (Tc := TX7) (N := 11) (ci := 13) hx hb hq pin_wsX70 hown hE hP hO (by rw [hxT]; decide) (rep_1 hxT) rfl 2 (by decide) (hq _ pw_82) (fun _ h9 => h9) rfl dX0_tryStatement_128 ?_
        have hO : OKW G h0 a (upd (upd (upd (upd (upd (upd (upd (upd (upd (upd (upd F 2 (nI sz)) 5 (nI cs2)) 6 (nI rg2)) 7 (nI hd)) 8 (nI dp2)) 12 (nI vr)) 13 as2) 14 wt2) 15 wf2) 16 ls2) 2 (nI sz)) (updR (updR (updR R 2 (.ref pq)) 3 (.ref mq)) 4 (va_rf lo)) Z B2 J K2.1 (fun q99 x99 => x99 = rep G a K2 q99) w := hO.to rfl
        obtain ⟨_, qr82, hqr83⟩ := hO.2.1 2 _ (sg_2 G h0 a _ _ _ _ _)
        refine pc_V0 (G := G) (As := [.int (K2.2.1 2 x9)]) (rest := [.int b7, .int b6, .ref (a 2)]) hx hb hml hown hq hE hX pX0_al hP hD hS hA hl.1 (K_typeAt l G h0 a (upd (upd (upd (upd (upd (upd (upd (upd (upd (upd F 2 (nI sz)) 5 (nI cs2)) 6 (nI rg2)) 7 (nI hd)) 8 (nI dp2)) 12 (nI vr)) 13 as2) 14 wt2) 15 wf2) 16 ls2) (updR (updR (updR R 2 (.ref pq)) 3 (.ref mq)) 4 (va_rf lo)) Z B2 J K2.1 (fun q99 x99 => x99 = rep G a K2 q99) w (K2.2.1 2 x9) sz (by omega) hO) (gV pw_92 pw_93 pw_94 pw_59 pw_36) hV_X10_typeAt qr82 7 hqr83 rfl rfl rfl (Nat.le_of_ble_eq_true rfl) dX0_tryStatement_131 ⟨(by show c2 + 0 ≤ ((rE (g 2 q) - rS (g 2 q)) + 1); omega), (by show (6 * c2) + 0 ≤ (6 * (rE (g 2 q) - rS (g 2 q)) + 6); omega)⟩ ⟨(by show 2 + 1 ≤ (5 * n + 46); omega), (by show 8 + (2 + 11) + 60 ≤ (200 * n + 1120); omega)⟩ (fun v81 u79 H locs hw80 hP hD hS => ?_)
        obtain ⟨w, r84⟩ := u79
        obtain ⟨hw80, hO⟩ := hw80
        obtain rfl : v81 = some (.int r84) := hw80
        have hO : OKP G h0 a (upd (upd (upd (upd (upd (upd (upd (upd (upd (upd F 2 (nI sz)) 5 (nI cs2)) 6 (nI rg2)) 7 (nI hd)) 8 (nI dp2)) 12 (nI vr)) 13 as2) 14 wt2) 15 wf2) 16 ls2) (updR (updR (updR R 2 (.ref pq)) 3 (.ref mq)) 4 (va_rf lo)) Z B2 J K2 w := hO.to rfl
        refine W.widen (k := c2) (n := (6 * c2)) (by show c2 + 0 ≤ c2; omega) (by show (6 * c2) + 0 ≤ (6 * c2); omega) ?_
        refine W.eq (g2 := F0 m 134 ls [.int r84, .int b7, .int b6, .ref (a 2)]) rfl ?_
        refine lv_iload hx hb dX0_tryStatement_134 (lv_at hl 6 rfl) ?_
        have hO : OKW G h0 a (upd (upd (upd (upd (upd (upd (upd (upd (upd (upd (upd F 2 (nI sz)) 5 (nI cs2)) 6 (nI rg2)) 7 (nI hd)) 8 (nI dp2)) 12 (nI vr)) 13 as2) 14 wt2) 15 wf2) 16 ls2) 6 (nI rg2)) (updR (updR (updR R 2 (.ref pq)) 3 (.ref mq)) 4 (va_rf lo)) Z B2 J K2.1 (fun q99 x99 => x99 = rep G a K2 q99) w := hO.to rfl
        obtain ⟨_, qr88, hqr89⟩ := hO.2.1 13 _ (sg_13 G h0 a _ _ _ _ _)
        refine pc_V0 (G := G) (As := [.int b6, .int b7, .int r84, .int (nI hd)]) (rest := []) hx hb hml hown hq hE hX pX0_al hP hD hS hA hl.1 (K_addRegion l G h0 a (upd (upd (upd (upd (upd (upd (upd (upd (upd (upd F 2 (nI sz)) 5 (nI cs2)) 6 (nI rg2)) 7 (nI hd)) 8 (nI dp2)) 12 (nI vr)) 13 as2) 14 wt2) 15 wf2) 16 ls2) (updR (updR (updR R 2 (.ref pq)) 3 (.ref mq)) 4 (va_rf lo)) Z B2 J K2.1 (fun q99 x99 => x99 = rep G a K2 q99) w b6 b7 r84 (nI hd) rg2 (by omega) hO) (gV pw_349 pw_350 pw_351 pw_70 pw_294) hV_X1_addRegion qr88 1 hqr89 rfl rfl rfl (Nat.le_of_ble_eq_true rfl) dX0_tryStatement_136 ⟨(by show c2 + 0 ≤ ((rE (g 2 q) - rS (g 2 q)) + 1); omega), (by show (6 * c2) + 0 ≤ (6 * (rE (g 2 q) - rS (g 2 q)) + 6); omega)⟩ ⟨(by show 2 + 1 ≤ (5 * n + 46); omega), (by show 8 + (5 + 11) + 60 ≤ (200 * n + 1120); omega)⟩ (fun v87 u85 H locs hw86 hP hD hS => ?_)
        obtain ⟨w, rg90, f91, f92, f93, f94, f95⟩ := u85
        obtain ⟨hw86, h96, hO⟩ := hw86
        have h96 : rg2 ≤ rg90 ∧ rg90 ≤ 625 := h96
        obtain rfl : v87 = none := hw86
        have hO : OKP G h0 a (upd (upd (upd (upd (upd (upd (upd (upd (upd (upd F 2 (nI sz)) 5 (nI cs2)) 6 (nI rg90)) 7 (nI hd)) 8 (nI dp2)) 12 (nI vr)) 13 as2) 14 wt2) 15 wf2) 16 ls2) (updR (updR (updR R 2 (.ref pq)) 3 (.ref mq)) 4 (va_rf lo)) Z (updA (updA (updA (updA (updA B2 20 f91) 21 f92) 22 f93) 23 f94) 24 f95) J K2 w := hO.to rfl
        refine W.widen (k := c2) (n := (6 * c2)) (by show c2 + 0 ≤ c2; omega) (by show (6 * c2) + 0 ≤ (6 * c2); omega) ?_
        refine W.eq (g2 := F0 m 139 ls []) rfl ?_
        refine lv_aload_n hx hb dX0_tryStatement_139 rfl (lv_at hl 10 rfl) ?_
        refine lv_iload hx hb dX0_tryStatement_140 (lv_at hl 5 rfl) ?_
        refine c_put (v := .int b5) (ty := .int) (C := RX0) (Tc := TX0) (N := 13) (ci := 0) hx hb hq pin_wsX00 tyX0 tyX0_ok nmX0 hown hE hP hD hS hO 24 (sg_24 G h0 a _ _ _ _ _) rfl 8 (by decide) (hq _ pw_55) (fun _ h9 => h9) rfl (by decide +kernel) rfl rfl (Nat.le_of_ble_eq_true rfl) (sf_13 G h0 a _ _ _ _ _ b5) dX0_tryStatement_142 (fun H locs w hP hD hS hO => ?_)
        refine lv_aload_n hx hb dX0_tryStatement_145 rfl (lv_at hl 10 rfl) ?_
        refine lv_aload hx hb dX0_tryStatement_146 (lv_at hl 0 rfl) ?_
        have hO : OKP G h0 a (upd (upd (upd (upd (upd (upd (upd (upd (upd (upd (upd (upd (upd (upd (upd (upd (upd (upd (upd (upd (upd F 2 (nI sz)) 5 (nI cs)) 6 (nI rg)) 7 (nI hd)) 8 (nI dp)) 12 (nI vr)) 16 ls9) 5 (nI cs2)) 6 (nI rg90)) 8 (nI dp2)) 13 b5) 14 wt2) 15 wf2) 16 ls2) 2 (nI sz)) 5 (nI cs2)) 6 (nI rg90)) 7 (nI hd)) 8 (nI dp2)) 12 (nI vr)) 16 ls2) (updR (updR (updR (updR (updR (updR R 2 (.ref pq)) 3 (.ref mq)) 4 (va_rf lo)) 2 (.ref pq)) 3 (.ref mq)) 4 (va_rf lo)) Z (updA (updA (updA (updA (updA B2 20 f91) 21 f92) 22 f93) 23 f94) 24 f95) J K2 w := hO.to rfl
        obtain ⟨_, qr100, hqr101⟩ := hO.2.1 24 _ (sg_24 G h0 a _ _ _ _ _)
        refine pn_V0 (G := G) (As := [.ref x9]) (rest := []) hx hb hml hown hq hE hX pX0_al hP hD hS hA hl.1 (B_catch l G h0 a (upd (upd (upd (upd (upd (upd (upd (upd (upd (upd (upd (upd (upd (upd F 2 (nI sz)) 5 (nI cs)) 6 (nI rg)) 7 (nI hd)) 8 (nI dp)) 12 (nI vr)) 16 ls9) 5 (nI cs2)) 6 (nI rg90)) 8 (nI dp2)) 13 b5) 14 wt2) 15 wf2) 16 ls2) (updR (updR (updR R 2 (.ref pq)) 3 (.ref mq)) 4 (va_rf lo)) Z (updA (updA (updA (updA (updA B2 20 f91) 21 f92) 22 f93) 23 f94) 24 f95) J K2 w pq dr ml nd nm cp it s9 x9 mq cs2 vr sz (n - 1) xb hd dp2 rg90 ls2 lo g rk (by omega) (BdE.wp hbe2 hwp) (BdE.pt hbe2 hwp hps) (BdE.rko hbe2 hrk) (by omega) (by omega) hng2 hf60 hxT ⟨hxv.1, (by have z9 := hxv; omega)⟩ hxb0 hxbT hxbv (by omega) (by omega) (by omega) (LpO.be hbe2 hlo) hxk (IhT.lo ist) (IhV.all l G _) hO hl0) (gV pw_352 pw_353 pw_354 pw_63 pw_306) hV_X0_catchBlock qr100 0 hqr101 rfl rfl rfl (Nat.le_of_ble_eq_true rfl) dX0_tryStatement_148 ⟨(by show c2 + ((rE (g 2 x9) - rS (g 2 x9)) + 1) ≤ ((rE (g 2 q) - rS (g 2 q)) + 1); omega), (by show (6 * c2) + (6 * (rE (g 2 x9) - rS (g 2 x9)) + 6) ≤ (6 * (rE (g 2 q) - rS (g 2 q)) + 6); omega)⟩ ⟨(by show (5 * (n - 1) + 46) + 1 ≤ (5 * n + 46); omega), (by show 8 + (5 + 11) + (200 * (n - 1) + 1120) ≤ (200 * n + 1120); omega)⟩ (fun v99 u97 H locs hw98 hP hD hS => ?_) (fun ux ce9 q9 H9 locs9 hux hP9 hD9 hS9 hce hcv hcl => pb_out ux (ThQ.up (Thx.same (Thx.same (Thx.same (Thx.same (Thx.same (Thx.same (Thx.same (Thx.b (Thx.b (Thx.b (Thx.b (Thx.b (Thx.f (Thx.f (Thx.f (Thx.f (Thx.f (Thx.f (Thx.f (Bth.thx hbb2) (by omega)) (by omega)) (by omega)) (by omega)) (by omega)) (by omega)) (by omega)) (by omega) (by decide)) (by omega) (by decide)) (by omega) (by decide)) (by omega) (by decide)) (by omega) (by decide)) rfl) rfl) rfl) rfl) rfl) rfl) rfl) (show RhX (updR (updR (updR R 2 (.ref pq)) 3 (.ref mq)) 4 (va_rf lo)) (updR (updR (updR (updR (updR (updR R 2 (.ref pq)) 3 (.ref mq)) 4 (va_rf lo)) 2 (.ref pq)) 3 (.ref mq)) 4 (va_rf lo)) from fun k9 hk9 => by unfold updR; simp only [show ¬ k9 = 1 by omega, show ¬ k9 = 2 by omega, show ¬ k9 = 3 by omega, show ¬ k9 = 4 by omega, if_false]) hux) hnt hlocks hce hcv hcl hP9 hD9 hS9 (by show c2 + ((rE (g 2 x9) - rS (g 2 x9)) + 1) ≤ ((rE (g 2 q) - rS (g 2 q)) + 1); omega) (by show (6 * c2) + (6 * (rE (g 2 x9) - rS (g 2 x9)) + 6) ≤ (6 * (rE (g 2 q) - rS (g 2 q)) + 6); omega))
        obtain ⟨w, K102, B103, cs104, as105, wt106, wf107, dp108, rg109, ls110⟩ := u97
        obtain ⟨hw98, h111, h112, h113, hO⟩ := hw98
        have h111 : BdE K2 K102 := h111
        have h112 : Bth (updA (updA (updA (updA (updA B2 20 f91) 21 f92) 22 f93) 23 f94) 24 f95) B103 := h112
        have h113 : cs104 ≤ 10000 ∧ rg109 ≤ 625 ∧ dp108 ≤ 1000 := h113
        obtain rfl : v99 = none := hw98
        have hf114 : K102.1 pq = 7 := (BdE.T h111 hf52 (by decide))
        have hf115 : K102.2.2.1 18 pq = some (a 1) := (BdE.C h111 (by rw [hf52]; decide) 18).trans hf53
        have hf116 : K102.2.2.1 14 pq = some dr := (BdE.C h111 (by rw [hf52]; decide) 14).trans hf54
        have hf117 : K102.1 dr = 8 := (BdE.T h111 hf55 (by decide))
        have hf118 : K102.2.2.1 15 pq = some ml := (BdE.C h111 (by rw [hf52]; decide) 15).trans hf56
        have hf119 : K102.1 ml = 5 := (BdE.T h111 hf57 (by decide))
        have hf120 : K102.2.1 24 pq = (nI nd) := (BdE.I h111 (by rw [hf52]; decide) (by decide) (by decide)).trans hf58
        have hf121 : K102.1 q = 1 := (BdE.T h111 hf59 (by decide))
        have hf122 : K102.1 mq = 3 := (BdE.T h111 hf60 (by decide))
        have hf123 : K102.2.2.1 0 q = some q1 := (BdE.C h111 (by rw [hf59]; decide) 0).trans hf61
        have hf124 : K102.1 q1 = 1 := (BdE.T h111 hf62 (by decide))
        have hf125 : K102.2.1 0 q1 = 21 := (BdE.I h111 (by rw [hf62]; decide) (by decide) (by decide)).trans hf63
        have hf126 : K102.2.2.1 2 q = none := (BdE.C h111 (by rw [hf59]; decide) 2).trans hf64
        have hf127 : K102.2.1 0 q = 32 := (BdE.I h111 (by rw [hf59]; decide) (by decide) (by decide)).trans hf65
        have hf128 : K102.1 x9 = 1 := (BdE.T h111 hxT (by decide))
        have hf129 : K102.2.1 0 x9 = 35 := (BdE.I h111 (by rw [hxT]; decide) (by decide) (by decide)).trans hxk
        have hf130 : K102.2.2.1 0 x9 = some xb := (BdE.C h111 (by rw [hxT]; decide) 0).trans hxb0
        have hf131 : K102.1 xb = 1 := (BdE.T h111 hxbT (by decide))
        have hO : OKP G h0 a (upd (upd (upd (upd (upd (upd (upd (upd (upd (upd F 2 (nI sz)) 5 (nI cs104)) 6 (nI rg109)) 7 (nI hd)) 8 (nI dp108)) 12 (nI vr)) 13 as105) 14 wt106) 15 wf107) 16 ls110) (updR (updR (updR R 2 (.ref pq)) 3 (.ref mq)) 4 (va_rf lo)) Z B103 J K102 w := hO.to rfl
        refine W.widen (k := (c2 + (rE (g 2 x9) - rS (g 2 x9)))) (n := ((6 * c2) + (6 * (rE (g 2 x9) - rS (g 2 x9))))) (by show c2 + (rE (g 2 x9) - rS (g 2 x9)) ≤ (c2 + (rE (g 2 x9) - rS (g 2 x9))); omega) (by show (6 * c2) + (6 * (rE (g 2 x9) - rS (g 2 x9))) ≤ ((6 * c2) + (6 * (rE (g 2 x9) - rS (g 2 x9)))); omega) ?_
        refine W.eq (g2 := F0 m 151 ls []) rfl ?_
        have hbe132 := BdE.trans hbe2 h111
        have hbb133 : Bth B B103 := Bth.trans (show Thx (upd (upd (upd (upd (upd (upd (upd F 2 (nI sz)) 5 (nI cs)) 6 (nI rg)) 7 (nI hd)) 8 (nI dp)) 12 (nI vr)) 16 ls9) (upd (upd (upd (upd (upd (upd (upd (upd (upd (upd (upd (upd (upd (upd F 2 (nI sz)) 5 (nI cs)) 6 (nI rg)) 7 (nI hd)) 8 (nI dp)) 12 (nI vr)) 16 ls9) 5 (nI cs2)) 6 (nI rg90)) 8 (nI dp2)) 13 b5) 14 wt2) 15 wf2) 16 ls2) B (updA (updA (updA (updA (updA B2 20 f91) 21 f92) 22 f93) 23 f94) 24 f95) from (Thx.b (Thx.b (Thx.b (Thx.b (Thx.b (Thx.f (Thx.f (Thx.f (Thx.f (Thx.f (Thx.f (Thx.f (Bth.thx hbb2) (by omega)) (by omega)) (by omega)) (by omega)) (by omega)) (by omega)) (by omega)) (by omega) (by decide)) (by omega) (by decide)) (by omega) (by decide)) (by omega) (by decide)) (by omega) (by decide))).2 h112
        have hng134 : Nng (B103 18) := h112.2 hng2
        refine lv_aload_n hx hb dX0_tryStatement_151 rfl (lv_at hl 10 rfl) ?_
        refine c_get (v := .ref (a 2)) (C := RX0) (Tc := TX0) (N := 13) (ci := 0) hx hb hq pin_wsX00 hown hE hP hO 24 (sg_24 G h0 a _ _ _ _ _) rfl 1 (by decide) (hq _ pw_5) (fun _ h9 => h9) rfl dX0_tryStatement_152 ?_
        refine lv_iload_n hx hb dX0_tryStatement_155 rfl (lv_at hl 7 rfl) ?_
        refine lv_iload hx hb dX0_tryStatement_156 (lv_at hl 2 rfl) ?_
        refine lv_iload hx hb dX0_tryStatement_158 (lv_at hl 6 rfl) ?_
        have hO : OKW G h0 a (upd (upd (upd (upd (upd (upd (upd (upd (upd (upd (upd F 2 (nI sz)) 5 (nI cs104)) 6 (nI rg109)) 7 (nI hd)) 8 (nI dp108)) 12 (nI vr)) 13 as105) 14 wt106) 15 wf107) 16 ls110) 5 (nI cs104)) (updR (updR (updR R 2 (.ref pq)) 3 (.ref mq)) 4 (va_rf lo)) Z B103 J K102.1 (fun q99 x99 => x99 = rep G a K102 q99) w := hO.to rfl
        obtain ⟨_, qr138, hqr139⟩ := hO.2.1 13 _ (sg_13 G h0 a _ _ _ _ _)
        refine pc_V0 (G := G) (As := [.int 6, .int b8, .int (nI hd)]) (rest := []) hx hb hml hown hq hE hX pX0_al hP hD hS hA hl.1 (K_jump l G h0 a (upd (upd (upd (upd (upd (upd (upd (upd (upd (upd F 2 (nI sz)) 5 (nI cs104)) 6 (nI rg109)) 7 (nI hd)) 8 (nI dp108)) 12 (nI vr)) 13 as105) 14 wt106) 15 wf107) 16 ls110) (updR (updR (updR R 2 (.ref pq)) 3 (.ref mq)) 4 (va_rf lo)) Z B103 J K102.1 (fun q99 x99 => x99 = rep G a K102 q99) w 6 b8 hd cs104 (by omega) (by omega) hng134 hO) (gV pw_197 pw_198 pw_199 pw_70 pw_132) hV_X1_jump qr138 1 hqr139 rfl rfl rfl (Nat.le_of_ble_eq_true rfl) dX0_tryStatement_160 ⟨(by show (c2 + (rE (g 2 x9) - rS (g 2 x9))) + 0 ≤ ((rE (g 2 q) - rS (g 2 q)) + 1); omega), (by show ((6 * c2) + (6 * (rE (g 2 x9) - rS (g 2 x9)))) + 0 ≤ (6 * (rE (g 2 q) - rS (g 2 q)) + 6); omega)⟩ ⟨(by show 3 + 1 ≤ (5 * n + 46); omega), (by show 8 + (4 + 11) + 83 ≤ (200 * n + 1120); omega)⟩ (fun v137 u135 H locs hw136 hP hD hS => ?_)
        obtain ⟨w, cs140, f141, f142, f143, f144, r145⟩ := u135
        obtain ⟨hw136, h146, h147, hO⟩ := hw136
        have h146 : cs104 ≤ cs140 ∧ cs140 ≤ cs104 + 1 ∧ cs140 ≤ 10000 := h146
        have h147 : Nng f143 := h147
        obtain rfl : v137 = some (.int r145) := hw136
        have hO : OKP G h0 a (upd (upd (upd (upd (upd (upd (upd (upd (upd (upd F 2 (nI sz)) 5 (nI cs140)) 6 (nI rg109)) 7 (nI hd)) 8 (nI dp108)) 12 (nI vr)) 13 as105) 14 wt106) 15 wf107) 16 ls110) (updR (updR (updR R 2 (.ref pq)) 3 (.ref mq)) 4 (va_rf lo)) Z (updA (updA (updA (updA B103 16 f141) 17 f142) 18 f143) 19 f144) J K102 w := hO.to rfl
        refine W.widen (k := (c2 + (rE (g 2 x9) - rS (g 2 x9)))) (n := ((6 * c2) + (6 * (rE (g 2 x9) - rS (g 2 x9))))) (by show (c2 + (rE (g 2 x9) - rS (g 2 x9))) + 0 ≤ (c2 + (rE (g 2 x9) - rS (g 2 x9))); omega) (by show ((6 * c2) + (6 * (rE (g 2 x9) - rS (g 2 x9)))) + 0 ≤ ((6 * c2) + (6 * (rE (g 2 x9) - rS (g 2 x9)))); omega) ?_
        refine W.eq (g2 := F0 m 163 ls [.int r145]) rfl ?_
        refine lv_istore (lv' := [(8, .int r145), (10, .ref x9), (9, .int b9), (7, .int b7), (6, .int b6), (5, .int b5), (4, .int (nI hd)), (3, .int 6), (2, .int 0), (1, .ref q), (0, .ref (a 4))]) hx hb dX0_tryStatement_163 hl (by decide) rfl (fun ls hl => ?_)
        refine lv_iload hx hb dX0_tryStatement_165 (lv_at hl 2 rfl) ?_
        refine lv_aload_n hx hb dX0_tryStatement_167 rfl (lv_at hl 10 rfl) ?_
        refine c_get (v := .int as105) (C := RX0) (Tc := TX0) (N := 13) (ci := 0) hx hb hq pin_wsX00 hown hE hP hO 24 (sg_24 G h0 a _ _ _ _ _) rfl 8 (by decide) (hq _ pw_55) (fun _ h9 => h9) rfl dX0_tryStatement_168 ?_
        refine lv_iand hx hb dX0_tryStatement_171 ?_
        refine lv_topi (fun x148 e149 => ?_)
        refine lv_istore (lv' := [(9, .int x148), (8, .int r145), (10, .ref x9), (7, .int b7), (6, .int b6), (5, .int b5), (4, .int (nI hd)), (3, .int 6), (2, .int 0), (1, .ref q), (0, .ref (a 4))]) hx hb dX0_tryStatement_172 hl (by decide) rfl (fun ls hl => ?_)
        refine lv_aload hx hb dX0_tryStatement_174 (lv_at hl 2 rfl) ?_
        rcases ho151 : K102.2.2.1 4 x9 with _ | o150
        · skip
          refine p_get (v := .null) (C := RX7) (Tc := TX7) (N := 11) (ci := 13) hx hb hq pin_wsX70 hown hE hP hO (by rw [hf128]; decide) (rep_1 hf128) rfl 10 (by decide) (hq _ pw_170) (fun _ h9 => h9) (congrArg (fun z => some (va_rf z)) ho151) dX0_tryStatement_176 ?_
          refine lv_astoreN (lv' := [(10, .null), (9, .int x148), (8, .int r145), (7, .int b7), (6, .int b6), (5, .int b5), (4, .int (nI hd)), (3, .int 6), (2, .int 0), (1, .ref q), (0, .ref (a 4))]) hx hb dX0_tryStatement_179 hl (by decide) rfl (fun ls hl => ?_)
          refine lv_goto (tgt := 109) hx hb dX0_tryStatement_181 (by decide) ?_
          refine W.widen (k := (c2 + (rE (g 2 x9) - rS (g 2 x9)))) (n := (6 * (c2 + (rE (g 2 x9) - rS (g 2 x9))))) (by show (c2 + (rE (g 2 x9) - rS (g 2 x9))) ≤ _; omega) (by show ((6 * c2) + (6 * (rE (g 2 x9) - rS (g 2 x9)))) ≤ _; omega) ?_
          have hO : OKP G h0 a (upd (upd (upd (upd (upd (upd (upd (upd (upd (upd F 2 (nI sz)) 5 (nI cs140)) 6 (nI rg109)) 7 (nI hd)) 8 (nI dp108)) 12 (nI vr)) 13 as105) 14 wt106) 15 wf107) 16 ls110) (updR (updR (updR R 2 (.ref pq)) 3 (.ref mq)) 4 (va_rf lo)) Z (updA (updA (updA (updA B103 16 f141) 17 f142) 18 f143) 19 f144) J K102 w := hO.to rfl
          exact ih_g (g 2 x9 + 1) none K102 (updA (updA (updA (updA B103 16 f141) 17 f142) 18 f143) 19 f144) cs140 as105 wt106 wf107 dp108 rg109 ls110 (rE (g 2 x9)) (c2 + (rE (g 2 x9) - rS (g 2 x9))) b5 b6 b7 r145 x148 _ _ _ _ (by omega) (by omega) hbe132 ((show Thx (upd (upd (upd (upd (upd (upd (upd F 2 (nI sz)) 5 (nI cs)) 6 (nI rg)) 7 (nI hd)) 8 (nI dp)) 12 (nI vr)) 16 ls9) (upd (upd (upd (upd (upd (upd (upd (upd (upd (upd (upd (upd (upd (upd F 2 (nI sz)) 5 (nI cs)) 6 (nI rg)) 7 (nI hd)) 8 (nI dp)) 12 (nI vr)) 16 ls9) 5 (nI cs140)) 6 (nI rg109)) 8 (nI dp108)) 13 as105) 14 wt106) 15 wf107) 16 ls110) B (updA (updA (updA (updA B103 16 f141) 17 f142) 18 f143) 19 f144) from (Thx.b (Thx.b8 (Thx.b (Thx.b (Thx.f (Thx.f (Thx.f (Thx.f (Thx.f (Thx.f (Thx.f (Bth.thx hbb133) (by omega)) (by omega)) (by omega)) (by omega)) (by omega)) (by omega)) (by omega)) (by omega) (by decide)) (by omega) (by decide)) h147) (by omega) (by decide))).2) h147 (by omega) (MmO.next (BdE.wp hbe132 hwp).1 hqL.1 hf128 hxd.2.1 hxd.2.2.2.1 ho151) (by omega) hP hD hS hO (lv_sub hl [0, 1, 2, 3, 4, 5, 6, 7, 8, 9, 10] rfl)
        · skip
          refine p_get (v := .ref o150) (C := RX7) (Tc := TX7) (N := 11) (ci := 13) hx hb hq pin_wsX70 hown hE hP hO (by rw [hf128]; decide) (rep_1 hf128) rfl 10 (by decide) (hq _ pw_170) (fun _ h9 => h9) (congrArg (fun z => some (va_rf z)) ho151) dX0_tryStatement_176 ?_
          refine lv_astore (lv' := [(10, .ref o150), (9, .int x148), (8, .int r145), (7, .int b7), (6, .int b6), (5, .int b5), (4, .int (nI hd)), (3, .int 6), (2, .int 0), (1, .ref q), (0, .ref (a 4))]) hx hb dX0_tryStatement_179 hl (by decide) rfl (fun ls hl => ?_)
          refine lv_goto (tgt := 109) hx hb dX0_tryStatement_181 (by decide) ?_
          refine W.widen (k := (c2 + (rE (g 2 x9) - rS (g 2 x9)))) (n := (6 * (c2 + (rE (g 2 x9) - rS (g 2 x9))))) (by show (c2 + (rE (g 2 x9) - rS (g 2 x9))) ≤ _; omega) (by show ((6 * c2) + (6 * (rE (g 2 x9) - rS (g 2 x9)))) ≤ _; omega) ?_
          have hO : OKP G h0 a (upd (upd (upd (upd (upd (upd (upd (upd (upd (upd F 2 (nI sz)) 5 (nI cs140)) 6 (nI rg109)) 7 (nI hd)) 8 (nI dp108)) 12 (nI vr)) 13 as105) 14 wt106) 15 wf107) 16 ls110) (updR (updR (updR R 2 (.ref pq)) 3 (.ref mq)) 4 (va_rf lo)) Z (updA (updA (updA (updA B103 16 f141) 17 f142) 18 f143) 19 f144) J K102 w := hO.to rfl
          exact ih_g (g 2 x9 + 1) (some o150) K102 (updA (updA (updA (updA B103 16 f141) 17 f142) 18 f143) 19 f144) cs140 as105 wt106 wf107 dp108 rg109 ls110 (rE (g 2 x9)) (c2 + (rE (g 2 x9) - rS (g 2 x9))) b5 b6 b7 r145 x148 _ _ _ _ (by omega) (by omega) hbe132 ((show Thx (upd (upd (upd (upd (upd (upd (upd F 2 (nI sz)) 5 (nI cs)) 6 (nI rg)) 7 (nI hd)) 8 (nI dp)) 12 (nI vr)) 16 ls9) (upd (upd (upd (upd (upd (upd (upd (upd (upd (upd (upd (upd (upd (upd F 2 (nI sz)) 5 (nI cs)) 6 (nI rg)) 7 (nI hd)) 8 (nI dp)) 12 (nI vr)) 16 ls9) 5 (nI cs140)) 6 (nI rg109)) 8 (nI dp108)) 13 as105) 14 wt106) 15 wf107) 16 ls110) B (updA (updA (updA (updA B103 16 f141) 17 f142) 18 f143) 19 f144) from (Thx.b (Thx.b8 (Thx.b (Thx.b (Thx.f (Thx.f (Thx.f (Thx.f (Thx.f (Thx.f (Thx.f (Bth.thx hbb133) (by omega)) (by omega)) (by omega)) (by omega)) (by omega)) (by omega)) (by omega)) (by omega) (by decide)) (by omega) (by decide)) h147) (by omega) (by decide))).2) h147 (by omega) (MmO.next (BdE.wp hbe132 hwp).1 hqL.1 hf128 hxd.2.1 hxd.2.2.2.1 ho151) (by omega) hP hD hS hO (lv_sub hl [0, 1, 2, 3, 4, 5, 6, 7, 8, 9, 10] rfl)
  refine lv_aload_n hx hb dX0_tryStatement_103 rfl (lv_at hl 9 rfl) ?_
  rcases ho153 : K10.2.2.1 1 q with _ | o152
  · skip
    refine p_get (v := .null) (C := RX7) (Tc := TX7) (N := 11) (ci := 13) hx hb hq pin_wsX70 hown hE hP hO (by rw [hf29]; decide) (rep_1 hf29) rfl 7 (by decide) (hq _ pw_169) (fun _ h9 => h9) (congrArg (fun z => some (va_rf z)) ho153) dX0_tryStatement_104 ?_
    refine lv_astoreN (lv' := [(10, .null), (9, .int as13), (8, .int r49), (7, .int (nI cs12)), (6, .int (nI cs)), (5, .int (F 13)), (4, .int (nI hd)), (3, .int 6), (2, .int 0), (0, .ref (a 4)), (1, .ref q)]) hx hb dX0_tryStatement_107 hl (by decide) rfl (fun ls hl => ?_)
    refine W.widen (k := (rE (g 2 q1) - rS (g 2 q1) - 2)) (n := (6 * (rE (g 2 q1) - rS (g 2 q1) - 2))) (by show (rE (g 2 q1) - rS (g 2 q1) - 2) ≤ _; omega) (by show (6 * (rE (g 2 q1) - rS (g 2 q1) - 2)) ≤ _; omega) ?_
    have hO : OKP G h0 a (upd (upd (upd (upd (upd (upd (upd (upd (upd (upd F 2 (nI sz)) 5 (nI cs44)) 6 (nI rg17)) 7 (nI hd)) 8 (nI dp16)) 12 (nI vr)) 13 as13) 14 wt14) 15 wf15) 16 ls18) (updR (updR (updR R 2 (.ref pq)) 3 (.ref mq)) 4 (va_rf lo)) Z (updA (updA (updA (updA B11 16 f45) 17 f46) 18 f47) 19 f48) J K10 w := hO.to rfl
    exact loop_g (100000000000000000001 + 1) 0 none K10 (updA (updA (updA (updA B11 16 f45) 17 f46) 18 f47) 19 f48) cs44 as13 wt14 wf15 dp16 rg17 ls18 (rM (g 2 q)) (rE (g 2 q1) - rS (g 2 q1) - 2) (F 13) (nI cs) (nI cs12) r49 as13 _ _ _ _ (by omega) (by omega) hbe36 ((show Thx (upd (upd (upd (upd (upd (upd (upd F 2 (nI sz)) 5 (nI cs)) 6 (nI rg)) 7 (nI hd)) 8 (nI dp)) 12 (nI vr)) 16 ls9) (upd (upd (upd (upd (upd (upd (upd (upd (upd (upd (upd (upd (upd (upd F 2 (nI sz)) 5 (nI cs)) 6 (nI rg)) 7 (nI hd)) 8 (nI dp)) 12 (nI vr)) 16 ls9) 5 (nI cs44)) 6 (nI rg17)) 8 (nI dp16)) 13 as13) 14 wt14) 15 wf15) 16 ls18) B (updA (updA (updA (updA B11 16 f45) 17 f46) 18 f47) 19 f48) from (Thx.b (Thx.b8 (Thx.b (Thx.b (Thx.f (Thx.f (Thx.f (Thx.f (Thx.f (Thx.f (Thx.f (Bth.thx hbb37) (by omega)) (by omega)) (by omega)) (by omega)) (by omega)) (by omega)) (by omega)) (by omega) (by decide)) (by omega) (by decide)) h51) (by omega) (by decide))).2) h51 (by omega) (MmO.first32 (BdE.wp hbe36 hwp).1 hf29 hqL.1 hf35 ho153) (by omega) hP hD hS hO (lv_sub hl [0, 1, 2, 3, 4, 5, 6, 7, 8, 10, 9] rfl)
  · skip
    refine p_get (v := .ref o152) (C := RX7) (Tc := TX7) (N := 11) (ci := 13) hx hb hq pin_wsX70 hown hE hP hO (by rw [hf29]; decide) (rep_1 hf29) rfl 7 (by decide) (hq _ pw_169) (fun _ h9 => h9) (congrArg (fun z => some (va_rf z)) ho153) dX0_tryStatement_104 ?_
    refine lv_astore (lv' := [(10, .ref o152), (9, .int as13), (8, .int r49), (7, .int (nI cs12)), (6, .int (nI cs)), (5, .int (F 13)), (4, .int (nI hd)), (3, .int 6), (2, .int 0), (0, .ref (a 4)), (1, .ref q)]) hx hb dX0_tryStatement_107 hl (by decide) rfl (fun ls hl => ?_)
    refine W.widen (k := (rE (g 2 q1) - rS (g 2 q1) - 2)) (n := (6 * (rE (g 2 q1) - rS (g 2 q1) - 2))) (by show (rE (g 2 q1) - rS (g 2 q1) - 2) ≤ _; omega) (by show (6 * (rE (g 2 q1) - rS (g 2 q1) - 2)) ≤ _; omega) ?_
    have hO : OKP G h0 a (upd (upd (upd (upd (upd (upd (upd (upd (upd (upd F 2 (nI sz)) 5 (nI cs44)) 6 (nI rg17)) 7 (nI hd)) 8 (nI dp16)) 12 (nI vr)) 13 as13) 14 wt14) 15 wf15) 16 ls18) (updR (updR (updR R 2 (.ref pq)) 3 (.ref mq)) 4 (va_rf lo)) Z (updA (updA (updA (updA B11 16 f45) 17 f46) 18 f47) 19 f48) J K10 w := hO.to rfl
    exact loop_g (100000000000000000001 + 1) 0 (some o152) K10 (updA (updA (updA (updA B11 16 f45) 17 f46) 18 f47) 19 f48) cs44 as13 wt14 wf15 dp16 rg17 ls18 (rM (g 2 q)) (rE (g 2 q1) - rS (g 2 q1) - 2) (F 13) (nI cs) (nI cs12) r49 as13 _ _ _ _ (by omega) (by omega) hbe36 ((show Thx (upd (upd (upd (upd (upd (upd (upd F 2 (nI sz)) 5 (nI cs)) 6 (nI rg)) 7 (nI hd)) 8 (nI dp)) 12 (nI vr)) 16 ls9) (upd (upd (upd (upd (upd (upd (upd (upd (upd (upd (upd (upd (upd (upd F 2 (nI sz)) 5 (nI cs)) 6 (nI rg)) 7 (nI hd)) 8 (nI dp)) 12 (nI vr)) 16 ls9) 5 (nI cs44)) 6 (nI rg17)) 8 (nI dp16)) 13 as13) 14 wt14) 15 wf15) 16 ls18) B (updA (updA (updA (updA B11 16 f45) 17 f46) 18 f47) 19 f48) from (Thx.b (Thx.b8 (Thx.b (Thx.b (Thx.f (Thx.f (Thx.f (Thx.f (Thx.f (Thx.f (Thx.f (Bth.thx hbb37) (by omega)) (by omega)) (by omega)) (by omega)) (by omega)) (by omega)) (by omega)) (by omega) (by decide)) (by omega) (by decide)) h51) (by omega) (by decide))).2) h51 (by omega) (MmO.first32 (BdE.wp hbe36 hwp).1 hf29 hqL.1 hf35 ho153) (by omega) hP hD hS hO (lv_sub hl [0, 1, 2, 3, 4, 5, 6, 7, 8, 10, 9] rfl)
theorem dX0_tryStatement_7 : decode cX0_tryStatement 7 = .ok (.iconst 1, 1) := by decide +kernel
theorem dX0_tryStatement_8 : decode cX0_tryStatement 8 = .ok (.goto 4, 3) := by decide +kernel
theorem dX0_tryStatement_17 : decode cX0_tryStatement 17 = .ok (.bipush 29, 2) := by decide +kernel
theorem dX0_tryStatement_19 : decode cX0_tryStatement 19 = .ok (.goto 5, 3) := by decide +kernel
theorem dX0_tryStatement_49 : decode cX0_tryStatement 49 = .ok (.iconst 1, 1) := by decide +kernel
theorem dX0_tryStatement_50 : decode cX0_tryStatement 50 = .ok (.goto 4, 3) := by decide +kernel
theorem dX0_tryStatement_193 : decode cX0_tryStatement 193 = .ok (.iconst 1, 1) := by decide +kernel
theorem dX0_tryStatement_194 : decode cX0_tryStatement 194 = .ok (.goto 4, 3) := by decide +kernel
theorem dX0_tryStatement_221 : decode cX0_tryStatement 221 = .ok (.aload_n 0, 1) := by decide +kernel
theorem dX0_tryStatement_222 : decode cX0_tryStatement 222 = .ok (.getfield 15, 3) := by decide +kernel
theorem dX0_tryStatement_225 : decode cX0_tryStatement 225 = .ok (.iload 6, 2) := by decide +kernel
theorem dX0_tryStatement_227 : decode cX0_tryStatement 227 = .ok (.aload_n 0, 1) := by decide +kernel
theorem dX0_tryStatement_228 : decode cX0_tryStatement 228 = .ok (.getfield 15, 3) := by decide +kernel
theorem dX0_tryStatement_231 : decode cX0_tryStatement 231 = .ok (.getfield 99, 3) := by decide +kernel
theorem dX0_tryStatement_234 : decode cX0_tryStatement 234 = .ok (.iconst (-1), 1) := by decide +kernel
theorem dX0_tryStatement_235 : decode cX0_tryStatement 235 = .ok (.iload 4, 2) := by decide +kernel
theorem dX0_tryStatement_237 : decode cX0_tryStatement 237 = .ok (.invokevirtual 284, 3) := by decide +kernel
theorem dX0_tryStatement_240 : decode cX0_tryStatement 240 = .ok (.aload_n 0, 1) := by decide +kernel
theorem dX0_tryStatement_241 : decode cX0_tryStatement 241 = .ok (.iload 5, 2) := by decide +kernel
theorem dX0_tryStatement_243 : decode cX0_tryStatement 243 = .ok (.putfield 94, 3) := by decide +kernel
theorem dX0_tryStatement_246 : decode cX0_tryStatement 246 = .ok (.aload_n 0, 1) := by decide +kernel
theorem dX0_tryStatement_247 : decode cX0_tryStatement 247 = .ok (.aload_n 1, 1) := by decide +kernel
theorem dX0_tryStatement_248 : decode cX0_tryStatement 248 = .ok (.getfield 247, 3) := by decide +kernel
theorem dX0_tryStatement_251 : decode cX0_tryStatement 251 = .ok (.iload 4, 2) := by decide +kernel
theorem dX0_tryStatement_253 : decode cX0_tryStatement 253 = .ok (.invokevirtual 291, 3) := by decide +kernel
theorem dX0_tryStatement_256 : decode cX0_tryStatement 256 = .ok (.aload_n 0, 1) := by decide +kernel
theorem dX0_tryStatement_257 : decode cX0_tryStatement 257 = .ok (.dup, 1) := by decide +kernel
theorem dX0_tryStatement_258 : decode cX0_tryStatement 258 = .ok (.getfield 94, 3) := by decide +kernel
theorem dX0_tryStatement_261 : decode cX0_tryStatement 261 = .ok (.iload 9, 2) := by decide +kernel
theorem dX0_tryStatement_263 : decode cX0_tryStatement 263 = .ok (.ior, 1) := by decide +kernel
theorem dX0_tryStatement_264 : decode cX0_tryStatement 264 = .ok (.putfield 94, 3) := by decide +kernel
theorem hV_X0_last : yX0_last.cls = RX0 ∧ yX0_last.cls ≠ "java/lang/invoke/MethodHandle" ∧ yX0_last.cls ≠ "java/lang/invoke/VarHandle" ∧ (parseMethodDescriptor yX0_last.desc).map (fun d => d.parameters.length) = some 2 := by decide +kernel
set_option maxHeartbeats 40000000 in
set_option maxRecDepth 100000 in
theorem B_tryL (l : Launch) (G : pT) (h0 : Nat) (a : Nat → Nat) (F : Nat → Int32) (R : Nat → Value) (Z : Int64) (B : Nat → Nat → Int32) (J : Nat → Nat → Int64) (K : PK) (w : va_W) (pq : Nat) (dr : Nat) (ml : Nat) (nd : Nat) (nm : Nat) (cp : Nat) (it : Nat → Nat) (s9 : Nat) (q : Nat) (mq : Nat) (cs : Nat) (vr : Nat) (sz : Nat) (n : Nat) (q1 : Nat) (q3 : Nat) (hd : Nat) (dp : Nat) (rg : Nat) (ls9 : Int32) (lo : Option Nat) (g : Nat → Nat → Nat) (rk : Nat → Nat) (hsz : sz ≤ 5000) (hwp : WPr G K g) (hps : PgT G K g (a 1) pq dr ml nd nm cp it s9) (hrk : RkO K rk) (hcs : cs ≤ 10000) (hvr : vr ≤ 30) (hng : Nng (B 18)) (hmq : K.1 mq = 3) (hqT : K.1 q = 1) (hqL : 1 ≤ g 0 q ∧ g 0 q ≤ n) (hc0 : K.2.2.1 0 q = some q1) (ht0 : K.1 q1 = 1) (hv0 : 1 ≤ g 0 q1 ∧ g 0 q1 + 1 ≤ n) (hc2 : K.2.2.1 2 q = some q3) (ht2 : K.1 q3 = 1) (hv2 : 1 ≤ g 0 q3 ∧ g 0 q3 + 1 ≤ n) (hdp : dp ≤ 1000) (hrg : rg ≤ 625) (hhd : hd + 2 * n + 30 ≤ 900 + vr) (hlo : LpO K lo) (hkd : K.2.1 0 q = 32) (ist : IhT l G n) (ihv : IhV l G n) (hO : OKP G h0 a (upd (upd (upd (upd (upd (upd (upd F 2 (nI sz)) 5 (nI cs)) 6 (nI rg)) 7 (nI hd)) 8 (nI dp)) 12 (nI vr)) 16 ls9) (updR (updR (updR R 2 (.ref pq)) 3 (.ref mq)) 4 (va_rf lo)) Z B J K w) (hl0 : l.stackTraces = false) : PBn l G pX0 yX0_tryStatement cX0_tryStatement 11 none ({ frames := (5 * n + 46), cells := ((rE (g 2 q) - rS (g 2 q)) + 1), slots := (6 * (rE (g 2 q) - rS (g 2 q)) + 6), locals := (200 * n + 1120) }) [.ref (a 4), .ref q] w (fun (v : Option Value) (u : va_W × (PK × (Nat → Nat → Int32) × Nat × Int32 × Int32 × Int32 × Nat × Nat × Int32)) => v = none ∧ (BdE K u.2.1) ∧ (Bth B u.2.2.1) ∧ (u.2.2.2.1 ≤ 10000 ∧ u.2.2.2.2.2.2.2.2.1 ≤ 625 ∧ u.2.2.2.2.2.2.2.1 ≤ 1000) ∧ (OKP G h0 a (upd (upd (upd (upd (upd (upd (upd (upd (upd (upd F 2 (nI sz)) 5 (nI u.2.2.2.1)) 6 (nI u.2.2.2.2.2.2.2.2.1)) 7 (nI hd)) 8 (nI u.2.2.2.2.2.2.2.1)) 12 (nI vr)) 13 u.2.2.2.2.1) 14 u.2.2.2.2.2.1) 15 u.2.2.2.2.2.2.1) 16 u.2.2.2.2.2.2.2.2.2) (updR (updR (updR R 2 (.ref pq)) 3 (.ref mq)) 4 (va_rf lo)) Z u.2.2.1 J u.2.1 u.1)) (fun u => u.1) (fun (u : va_W × (PK × (Nat → Nat → Int32) × Nat × Int32 × Int32 × Int32 × Nat × Nat × Int32)) => (rE (g 2 q) - rS (g 2 q))) (fun (u : va_W × (PK × (Nat → Nat → Int32) × Nat × Int32 × Int32 × Int32 × Nat × Nat × Int32)) => (6 * (rE (g 2 q) - rS (g 2 q)))) (fun (u : va_W × (Nat → Int32) × (Nat → Value) × (Nat → Nat → Int32)) => ThQ G h0 a (upd (upd (upd (upd (upd (upd (upd F 2 (nI sz)) 5 (nI cs)) 6 (nI rg)) 7 (nI hd)) 8 (nI dp)) 12 (nI vr)) 16 ls9) (updR (updR (updR R 2 (.ref pq)) 3 (.ref mq)) 4 (va_rf lo)) Z B J u) (fun u => u.1) := by
  intro sz
  refine vx_ofW (cc := cX0_tryStatement) (maxL := 11) (ret := none) (by decide) rfl ?_
  intro p e s m args below meth c s₁ B9 hml hnt hv
  obtain ⟨rfl, hsz, hP, hD0, hE, hX⟩ := hv
  have hx := B9.exec
  have hb := B9.bytes
  have hr := B9.returns
  have hts := atoms_spec (ws := Cond.code yX0_tryStatement cX0_tryStatement 11 none :: pw) B9.pre
  have hq : ∀ w ∈ pw, w.before _ s = true := fun w h => hts w (List.mem_cons_of_mem _ h)
  have hown : s.vm.findClass RX0 = some m.cls := findClass_of_methodNamed B9.named
  have hlocks := B9.notSynchronized
  subst hsz
  have hD := hD0.self (sz := s.heap.size)
  have hA : ∀ q : Nat, s.heap.size ≤ q → va_A w s.heap.size q := fun q h => Or.inr h
  generalize va_A w s.heap.size = A at hD hE hA ⊢
  have hS : va_S A s.heap s.heap [] := va_S.rf
  have hl := lv_entry ([.ref (a 4), .ref q]) (n := 11) (Nat.le_of_ble_eq_true rfl)
  rw [lg_entry_eq]
  generalize (lg_sl ([.ref (a 4), .ref q]) ++ List.replicate (11 - (lg_sl ([.ref (a 4), .ref q])).length) Slot.unset).toArray = ls at hl ⊢
  have hl : lv_has ls 11 [(0, .ref (a 4)), (1, .ref q)] := hl
  have hpg := hps.1
  have hp1 := hpg.1
  have hp2 := hpg.2.1
  have hp3 := hpg.2.2.1
  have hp4 := hpg.2.2.2.1
  have hp5 := hpg.2.2.2.2.1
  have hp6 := hpg.2.2.2.2.2.1
  have hp8 := hpg.2.2.2.2.2.2.2.1
  have hp9 := hpg.2.2.2.2.2.2.2.2
  have hnd := hwp.1 q hqT hqL.1
  have hiq := hnd.it
  have hri0 := NdO.iv32a hnd hkd hc0
  have hrx0 := (hwp.1 q1 ht0 hv0.1).it
  have hk1 := NdO.k32 hnd hkd (by decide) (by decide) hc0
  have hri2 := NdO.iv32c hnd hkd hc2
  have hrx2 := (hwp.1 q3 ht2 hv2.1).it
  have hk3 := NdO.k32 hnd hkd (by decide) (by decide) hc2
  refine lv_aload_n hx hb dX0_tryStatement_0 rfl (lv_at hl 1 rfl) ?_
  refine p_get (v := .ref q3) (C := RX7) (Tc := TX7) (N := 11) (ci := 13) hx hb hq pin_wsX70 hown hE hP hO (by rw [hqT]; decide) (rep_1 hqT) rfl 8 (by decide) (hq _ pw_196) (fun _ h9 => h9) (congrArg (fun z => some (va_rf z)) hc2) dX0_tryStatement_1 ?_
  refine lv_ifnull hx hb dX0_tryStatement_4 ?_
  refine lv_iconst (v := 1) hx hb dX0_tryStatement_7 (by decide) ?_
  refine lv_goto (tgt := 12) hx hb dX0_tryStatement_8 (by decide) ?_
  refine lv_istore_n (lv' := [(2, .int 1), (0, .ref (a 4)), (1, .ref q)]) hx hb dX0_tryStatement_12 rfl hl (by decide) rfl (fun ls hl => ?_)
  refine lv_iload_n hx hb dX0_tryStatement_13 rfl (lv_at hl 0 rfl) ?_
  refine lv_if_eq (tgt := 22) hx hb dX0_tryStatement_14 (by decide) (fun c1 => absurd c1 (by decide)) (fun c1 => ?_)
  refine lv_bipush (v := 29) hx hb dX0_tryStatement_17 (by decide) ?_
  refine lv_goto (tgt := 24) hx hb dX0_tryStatement_19 (by decide) ?_
  refine lv_istore_n (lv' := [(3, .int 29), (2, .int 1), (0, .ref (a 4)), (1, .ref q)]) hx hb dX0_tryStatement_24 rfl hl (by decide) rfl (fun ls hl => ?_)
  refine lv_aload_n hx hb dX0_tryStatement_25 rfl (lv_at hl 2 rfl) ?_
  refine c_get (v := .ref (a 2)) (C := RX0) (Tc := TX0) (N := 13) (ci := 0) hx hb hq pin_wsX00 hown hE hP hO 24 (sg_24 G h0 a _ _ _ _ _) rfl 1 (by decide) (hq _ pw_5) (fun _ h9 => h9) rfl dX0_tryStatement_26 ?_
  refine c_get (v := .int (nI hd)) (C := RX1) (Tc := TX1) (N := 13) (ci := 1) hx hb hq pin_wsX10 hown hE hP hO 13 (sg_13 G h0 a _ _ _ _ _) rfl 11 (by decide) (hq _ pw_54) (fun _ h9 => h9) rfl dX0_tryStatement_29 ?_
  refine lv_istore (lv' := [(4, .int (nI hd)), (3, .int 29), (2, .int 1), (0, .ref (a 4)), (1, .ref q)]) hx hb dX0_tryStatement_32 hl (by decide) rfl (fun ls hl => ?_)
  refine lv_aload_n hx hb dX0_tryStatement_34 rfl (lv_at hl 3 rfl) ?_
  refine c_get (v := .int (F 13)) (C := RX0) (Tc := TX0) (N := 13) (ci := 0) hx hb hq pin_wsX00 hown hE hP hO 24 (sg_24 G h0 a _ _ _ _ _) rfl 8 (by decide) (hq _ pw_55) (fun _ h9 => h9) rfl dX0_tryStatement_35 ?_
  refine lv_istore (lv' := [(5, .int (F 13)), (4, .int (nI hd)), (3, .int 29), (2, .int 1), (0, .ref (a 4)), (1, .ref q)]) hx hb dX0_tryStatement_38 hl (by decide) rfl (fun ls hl => ?_)
  refine lv_aload_n hx hb dX0_tryStatement_40 rfl (lv_at hl 4 rfl) ?_
  refine lv_dup hx hb dX0_tryStatement_41 rfl ?_
  refine c_get (v := .int ls9) (C := RX0) (Tc := TX0) (N := 13) (ci := 0) hx hb hq pin_wsX00 hown hE hP hO 24 (sg_24 G h0 a _ _ _ _ _) rfl 12 (by decide) (hq _ pw_74) (fun _ h9 => h9) rfl dX0_tryStatement_42 ?_
  refine lv_iload_n hx hb dX0_tryStatement_45 rfl (lv_at hl 3 rfl) ?_
  refine lv_if_eq (tgt := 53) hx hb dX0_tryStatement_46 (by decide) (fun c2 => absurd c2 (by decide)) (fun c2 => ?_)
  refine lv_iconst (v := 1) hx hb dX0_tryStatement_49 (by decide) ?_
  refine lv_goto (tgt := 54) hx hb dX0_tryStatement_50 (by decide) ?_
  refine lv_iadd hx hb dX0_tryStatement_54 ?_
  refine lv_topi (fun x3 e4 => ?_)
  refine c_put (v := .int x3) (ty := .int) (C := RX0) (Tc := TX0) (N := 13) (ci := 0) hx hb hq pin_wsX00 tyX0 tyX0_ok nmX0 hown hE hP hD hS hO 24 (sg_24 G h0 a _ _ _ _ _) rfl 12 (by decide) (hq _ pw_74) (fun _ h9 => h9) rfl (by decide +kernel) rfl rfl (Nat.le_of_ble_eq_true rfl) (sf_16 G h0 a _ _ _ _ _ x3) dX0_tryStatement_55 (fun H locs w hP hD hS hO => ?_)
  refine lv_aload_n hx hb dX0_tryStatement_58 rfl (lv_at hl 4 rfl) ?_
  refine c_get (v := .ref (a 2)) (C := RX0) (Tc := TX0) (N := 13) (ci := 0) hx hb hq pin_wsX00 hown hE hP hO 24 (sg_24 G h0 a _ _ _ _ _) rfl 1 (by decide) (hq _ pw_5) (fun _ h9 => h9) rfl dX0_tryStatement_59 ?_
  refine c_get (v := .int (nI cs)) (C := RX1) (Tc := TX1) (N := 13) (ci := 1) hx hb hq pin_wsX10 hown hE hP hO 13 (sg_13 G h0 a _ _ _ _ _) rfl 4 (by decide) (hq _ pw_75) (fun _ h9 => h9) rfl dX0_tryStatement_62 ?_
  refine lv_istore (lv' := [(6, .int (nI cs)), (5, .int (F 13)), (4, .int (nI hd)), (3, .int 29), (2, .int 1), (0, .ref (a 4)), (1, .ref q)]) hx hb dX0_tryStatement_65 hl (by decide) rfl (fun ls hl => ?_)
  refine lv_aload_n hx hb dX0_tryStatement_67 rfl (lv_at hl 5 rfl) ?_
  refine lv_aload_n hx hb dX0_tryStatement_68 rfl (lv_at hl 6 rfl) ?_
  refine p_get (v := .ref q1) (C := RX7) (Tc := TX7) (N := 11) (ci := 13) hx hb hq pin_wsX70 hown hE hP hO (by rw [hqT]; decide) (rep_1 hqT) rfl 6 (by decide) (hq _ pw_180) (fun _ h9 => h9) (congrArg (fun z => some (va_rf z)) hc0) dX0_tryStatement_69 ?_
  have hO : OKP G h0 a (upd (upd (upd (upd (upd (upd (upd (upd (upd (upd (upd (upd (upd (upd (upd F 2 (nI sz)) 5 (nI cs)) 6 (nI rg)) 7 (nI hd)) 8 (nI dp)) 12 (nI vr)) 16 ls9) 16 x3) 2 (nI sz)) 5 (nI cs)) 6 (nI rg)) 7 (nI hd)) 8 (nI dp)) 12 (nI vr)) 16 x3) (updR (updR (updR (updR (updR (updR R 2 (.ref pq)) 3 (.ref mq)) 4 (va_rf lo)) 2 (.ref pq)) 3 (.ref mq)) 4 (va_rf lo)) Z B J K w := hO.to rfl
  obtain ⟨_, qr8, hqr9⟩ := hO.2.1 24 _ (sg_24 G h0 a _ _ _ _ _)
  refine pn_V0 (G := G) (As := [.ref q1]) (rest := []) hx hb hml hown hq hE hX pX0_al hP hD hS hA hl.1 (B_block l G h0 a (upd (upd (upd (upd (upd (upd (upd (upd F 2 (nI sz)) 5 (nI cs)) 6 (nI rg)) 7 (nI hd)) 8 (nI dp)) 12 (nI vr)) 16 ls9) 16 x3) (updR (updR (updR R 2 (.ref pq)) 3 (.ref mq)) 4 (va_rf lo)) Z B J K w pq dr ml nd nm cp it s9 q1 mq cs vr sz (n - 1) hd dp rg x3 lo g rk (by omega) (BdE.wp BdE.rfl hwp) (BdE.pt BdE.rfl hwp hps) (BdE.rko BdE.rfl hrk) (by omega) (by omega) hng hmq ht0 ⟨hv0.1, (by have z9 := hv0; omega)⟩ (by omega) (by omega) (by omega) (LpO.be BdE.rfl hlo) hk1 (IhT.lo ist) (IhV.all l G _) hO hl0) (gV pw_307 pw_308 pw_309 pw_63 pw_358) hV_X0_block qr8 0 hqr9 rfl rfl rfl (Nat.le_of_ble_eq_true rfl) dX0_tryStatement_72 ⟨(by show 0 + ((rE (g 2 q1) - rS (g 2 q1) - 2) + 1) ≤ ((rE (g 2 q) - rS (g 2 q)) + 1); omega), (by show 0 + (6 * (rE (g 2 q1) - rS (g 2 q1) - 2) + 6) ≤ (6 * (rE (g 2 q) - rS (g 2 q)) + 6); omega)⟩ ⟨(by show (5 * (n - 1) + 46) + 1 ≤ (5 * n + 46); omega), (by show 8 + (5 + 11) + (200 * (n - 1) + 1120) ≤ (200 * n + 1120); omega)⟩ (fun v7 u5 H locs hw6 hP hD hS => ?_) (fun ux ce9 q9 H9 locs9 hux hP9 hD9 hS9 hce hcv hcl => pb_out ux (ThQ.up (Thx.same (Thx.same (Thx.same (Thx.same (Thx.same (Thx.same (Thx.same (Thx.f Thx.rfl (by omega)) rfl) rfl) rfl) rfl) rfl) rfl) rfl) (show RhX (updR (updR (updR R 2 (.ref pq)) 3 (.ref mq)) 4 (va_rf lo)) (updR (updR (updR (updR (updR (updR R 2 (.ref pq)) 3 (.ref mq)) 4 (va_rf lo)) 2 (.ref pq)) 3 (.ref mq)) 4 (va_rf lo)) from fun k9 hk9 => by unfold updR; simp only [show ¬ k9 = 1 by omega, show ¬ k9 = 2 by omega, show ¬ k9 = 3 by omega, show ¬ k9 = 4 by omega, if_false]) hux) hnt hlocks hce hcv hcl hP9 hD9 hS9 (by show 0 + ((rE (g 2 q1) - rS (g 2 q1) - 2) + 1) ≤ ((rE (g 2 q) - rS (g 2 q)) + 1); omega) (by show 0 + (6 * (rE (g 2 q1) - rS (g 2 q1) - 2) + 6) ≤ (6 * (rE (g 2 q) - rS (g 2 q)) + 6); omega))
  obtain ⟨w, K10, B11, cs12, as13, wt14, wf15, dp16, rg17, ls18⟩ := u5
  obtain ⟨hw6, h19, h20, h21, hO⟩ := hw6
  have h19 : BdE K K10 := h19
  have h20 : Bth B B11 := h20
  have h21 : cs12 ≤ 10000 ∧ rg17 ≤ 625 ∧ dp16 ≤ 1000 := h21
  obtain rfl : v7 = none := hw6
  have hf22 : K10.1 pq = 7 := (BdE.T h19 hp1 (by decide))
  have hf23 : K10.2.2.1 18 pq = some (a 1) := (BdE.C h19 (by rw [hp1]; decide) 18).trans hp2
  have hf24 : K10.2.2.1 14 pq = some dr := (BdE.C h19 (by rw [hp1]; decide) 14).trans hp3
  have hf25 : K10.1 dr = 8 := (BdE.T h19 hp4 (by decide))
  have hf26 : K10.2.2.1 15 pq = some ml := (BdE.C h19 (by rw [hp1]; decide) 15).trans hp5
  have hf27 : K10.1 ml = 5 := (BdE.T h19 hp6 (by decide))
  have hf28 : K10.2.1 24 pq = (nI nd) := (BdE.I h19 (by rw [hp1]; decide) (by decide) (by decide)).trans hp8
  have hf29 : K10.1 q = 1 := (BdE.T h19 hqT (by decide))
  have hf30 : K10.1 mq = 3 := (BdE.T h19 hmq (by decide))
  have hf31 : K10.2.2.1 0 q = some q1 := (BdE.C h19 (by rw [hqT]; decide) 0).trans hc0
  have hf32 : K10.1 q1 = 1 := (BdE.T h19 ht0 (by decide))
  have hf33 : K10.2.2.1 2 q = some q3 := (BdE.C h19 (by rw [hqT]; decide) 2).trans hc2
  have hf34 : K10.1 q3 = 1 := (BdE.T h19 ht2 (by decide))
  have hf35 : K10.2.1 0 q1 = 21 := (BdE.I h19 (by rw [ht0]; decide) (by decide) (by decide)).trans hk1
  have hf36 : K10.2.1 0 q3 = 21 := (BdE.I h19 (by rw [ht2]; decide) (by decide) (by decide)).trans hk3
  have hf37 : K10.2.1 0 q = 32 := (BdE.I h19 (by rw [hqT]; decide) (by decide) (by decide)).trans hkd
  have hO : OKP G h0 a (upd (upd (upd (upd (upd (upd (upd (upd (upd (upd F 2 (nI sz)) 5 (nI cs12)) 6 (nI rg17)) 7 (nI hd)) 8 (nI dp16)) 12 (nI vr)) 13 as13) 14 wt14) 15 wf15) 16 ls18) (updR (updR (updR R 2 (.ref pq)) 3 (.ref mq)) 4 (va_rf lo)) Z B11 J K10 w := hO.to rfl
  refine W.widen (k := (rE (g 2 q1) - rS (g 2 q1) - 2)) (n := (6 * (rE (g 2 q1) - rS (g 2 q1) - 2))) (by show 0 + (rE (g 2 q1) - rS (g 2 q1) - 2) ≤ (rE (g 2 q1) - rS (g 2 q1) - 2); omega) (by show 0 + (6 * (rE (g 2 q1) - rS (g 2 q1) - 2)) ≤ (6 * (rE (g 2 q1) - rS (g 2 q1) - 2)); omega) ?_
  refine W.eq (g2 := F0 m 75 ls []) rfl ?_
  have hbe38 := BdE.trans BdE.rfl h19
  have hbb39 : Bth B B11 := Bth.trans (show Thx (upd (upd (upd (upd (upd (upd (upd F 2 (nI sz)) 5 (nI cs)) 6 (nI rg)) 7 (nI hd)) 8 (nI dp)) 12 (nI vr)) 16 ls9) (upd (upd (upd (upd (upd (upd (upd (upd F 2 (nI sz)) 5 (nI cs)) 6 (nI rg)) 7 (nI hd)) 8 (nI dp)) 12 (nI vr)) 16 ls9) 16 x3) B B from (Thx.f Thx.rfl (by omega))).2 h20
  have hng40 : Nng (B11 18) := h20.2 hng
  refine lv_aload_n hx hb dX0_tryStatement_75 rfl (lv_at hl 5 rfl) ?_
  refine c_get (v := .ref (a 2)) (C := RX0) (Tc := TX0) (N := 13) (ci := 0) hx hb hq pin_wsX00 hown hE hP hO 24 (sg_24 G h0 a _ _ _ _ _) rfl 1 (by decide) (hq _ pw_5) (fun _ h9 => h9) rfl dX0_tryStatement_76 ?_
  refine c_get (v := .int (nI cs12)) (C := RX1) (Tc := TX1) (N := 13) (ci := 1) hx hb hq pin_wsX10 hown hE hP hO 13 (sg_13 G h0 a _ _ _ _ _) rfl 4 (by decide) (hq _ pw_75) (fun _ h9 => h9) rfl dX0_tryStatement_79 ?_
  refine lv_istore (lv' := [(7, .int (nI cs12)), (6, .int (nI cs)), (5, .int (F 13)), (4, .int (nI hd)), (3, .int 29), (2, .int 1), (0, .ref (a 4)), (1, .ref q)]) hx hb dX0_tryStatement_82 hl (by decide) rfl (fun ls hl => ?_)
  refine lv_aload_n hx hb dX0_tryStatement_84 rfl (lv_at hl 6 rfl) ?_
  refine c_get (v := .ref (a 2)) (C := RX0) (Tc := TX0) (N := 13) (ci := 0) hx hb hq pin_wsX00 hown hE hP hO 24 (sg_24 G h0 a _ _ _ _ _) rfl 1 (by decide) (hq _ pw_5) (fun _ h9 => h9) rfl dX0_tryStatement_85 ?_
  refine lv_iload_n hx hb dX0_tryStatement_88 rfl (lv_at hl 4 rfl) ?_
  refine lv_iconst (v := (-1)) hx hb dX0_tryStatement_89 (by decide) ?_
  refine lv_iload hx hb dX0_tryStatement_90 (lv_at hl 3 rfl) ?_
  have hO : OKW G h0 a (upd (upd (upd (upd (upd (upd (upd (upd (upd (upd (upd F 2 (nI sz)) 5 (nI cs12)) 6 (nI rg17)) 7 (nI hd)) 8 (nI dp16)) 12 (nI vr)) 13 as13) 14 wt14) 15 wf15) 16 ls18) 5 (nI cs12)) (updR (updR (updR R 2 (.ref pq)) 3 (.ref mq)) 4 (va_rf lo)) Z B11 J K10.1 (fun q99 x99 => x99 = rep G a K10 q99) w := hO.to rfl
  obtain ⟨_, qr44, hqr45⟩ := hO.2.1 13 _ (sg_13 G h0 a _ _ _ _ _)
  refine pc_V0 (G := G) (As := [.int 29, .int (-1), .int (nI hd)]) (rest := []) hx hb hml hown hq hE hX pX0_al hP hD hS hA hl.1 (K_jump l G h0 a (upd (upd (upd (upd (upd (upd (upd (upd (upd (upd F 2 (nI sz)) 5 (nI cs12)) 6 (nI rg17)) 7 (nI hd)) 8 (nI dp16)) 12 (nI vr)) 13 as13) 14 wt14) 15 wf15) 16 ls18) (updR (updR (updR R 2 (.ref pq)) 3 (.ref mq)) 4 (va_rf lo)) Z B11 J K10.1 (fun q99 x99 => x99 = rep G a K10 q99) w 29 (-1) hd cs12 (by omega) (by omega) hng40 hO) (gV pw_197 pw_198 pw_199 pw_70 pw_132) hV_X1_jump qr44 1 hqr45 rfl rfl rfl (Nat.le_of_ble_eq_true rfl) dX0_tryStatement_92 ⟨(by show (rE (g 2 q1) - rS (g 2 q1) - 2) + 0 ≤ ((rE (g 2 q) - rS (g 2 q)) + 1); omega), (by show (6 * (rE (g 2 q1) - rS (g 2 q1) - 2)) + 0 ≤ (6 * (rE (g 2 q) - rS (g 2 q)) + 6); omega)⟩ ⟨(by show 3 + 1 ≤ (5 * n + 46); omega), (by show 8 + (4 + 11) + 83 ≤ (200 * n + 1120); omega)⟩ (fun v43 u41 H locs hw42 hP hD hS => ?_)
  obtain ⟨w, cs46, f47, f48, f49, f50, r51⟩ := u41
  obtain ⟨hw42, h52, h53, hO⟩ := hw42
  have h52 : cs12 ≤ cs46 ∧ cs46 ≤ cs12 + 1 ∧ cs46 ≤ 10000 := h52
  have h53 : Nng f49 := h53
  obtain rfl : v43 = some (.int r51) := hw42
  have hO : OKP G h0 a (upd (upd (upd (upd (upd (upd (upd (upd (upd (upd F 2 (nI sz)) 5 (nI cs46)) 6 (nI rg17)) 7 (nI hd)) 8 (nI dp16)) 12 (nI vr)) 13 as13) 14 wt14) 15 wf15) 16 ls18) (updR (updR (updR R 2 (.ref pq)) 3 (.ref mq)) 4 (va_rf lo)) Z (updA (updA (updA (updA B11 16 f47) 17 f48) 18 f49) 19 f50) J K10 w := hO.to rfl
  refine W.widen (k := (rE (g 2 q1) - rS (g 2 q1) - 2)) (n := (6 * (rE (g 2 q1) - rS (g 2 q1) - 2))) (by show (rE (g 2 q1) - rS (g 2 q1) - 2) + 0 ≤ (rE (g 2 q1) - rS (g 2 q1) - 2); omega) (by show (6 * (rE (g 2 q1) - rS (g 2 q1) - 2)) + 0 ≤ (6 * (rE (g 2 q1) - rS (g 2 q1) - 2)); omega) ?_
  refine W.eq (g2 := F0 m 95 ls [.int r51]) rfl ?_
  refine lv_istore (lv' := [(8, .int r51), (7, .int (nI cs12)), (6, .int (nI cs)), (5, .int (F 13)), (4, .int (nI hd)), (3, .int 29), (2, .int 1), (0, .ref (a 4)), (1, .ref q)]) hx hb dX0_tryStatement_95 hl (by decide) rfl (fun ls hl => ?_)
  refine lv_aload_n hx hb dX0_tryStatement_97 rfl (lv_at hl 7 rfl) ?_
  refine c_get (v := .int as13) (C := RX0) (Tc := TX0) (N := 13) (ci := 0) hx hb hq pin_wsX00 hown hE hP hO 24 (sg_24 G h0 a _ _ _ _ _) rfl 8 (by decide) (hq _ pw_55) (fun _ h9 => h9) rfl dX0_tryStatement_98 ?_
  refine lv_istore (lv' := [(9, .int as13), (8, .int r51), (7, .int (nI cs12)), (6, .int (nI cs)), (5, .int (F 13)), (4, .int (nI hd)), (3, .int 29), (2, .int 1), (0, .ref (a 4)), (1, .ref q)]) hx hb dX0_tryStatement_101 hl (by decide) rfl (fun ls hl => ?_)
  have loop_g : ∀ (n_g : Nat) (k2 : Nat) (o2 : Option Nat) (K2 : PK) (B2 : Nat → Nat → Int32) (cs2 : Nat) (as2 : Int32) (wt2 : Int32) (wf2 : Int32) (dp2 : Nat) (rg2 : Nat) (ls2 : Int32) (t2 : Nat) (c2 : Nat) (b5 : Int32) (b6 : Int32) (b7 : Int32) (b8 : Int32) (b9 : Int32) (H : Heap) (locs : List Loc) (ls : Array Slot) (w : va_W), k2 ≤ 100000000000000000001 → 100000000000000000001 + 1 ≤ k2 + n_g → (BdE K K2) → (Bth B B2) → (Nng (B2 18)) → (cs2 ≤ 10000 ∧ rg2 ≤ 625 ∧ dp2 ≤ 1000) → (MmO K2 g q o2 t2 k2) → (c2 + rS (g 2 q) ≤ t2 ∧ t2 ≤ rN (g 2 q)) → va_P G.1 pCl w H → va_D A w → va_S A s.heap H locs → OKP G h0 a (upd (upd (upd (upd (upd (upd (upd (upd (upd (upd F 2 (nI sz)) 5 (nI cs2)) 6 (nI rg2)) 7 (nI hd)) 8 (nI dp2)) 12 (nI vr)) 13 as2) 14 wt2) 15 wf2) 16 ls2) (updR (updR (updR R 2 (.ref pq)) 3 (.ref mq)) 4 (va_rf lo)) Z B2 J K2 w → lv_has ls 11 [(10, va_rf o2), (9, .int b9), (8, .int b8), (7, .int b7), (6, .int b6), (5, .int b5), (4, .int (nI hd)), (3, .int 29), (2, .int 1), (1, .ref q), (0, .ref (a 4))] → W p l e (headSpec (Cond.code yX0_tryStatement cX0_tryStatement 11 none :: pw) ({ frames := (5 * n + 46), cells := ((rE (g 2 q) - rS (g 2 q)) + 1), slots := (6 * (rE (g 2 q) - rS (g 2 q)) + 6), locals := (200 * n + 1120) } : Room)).room s m ([.ref (a 4), .ref q] : List Value).toArray below meth c H locs c2 (6 * c2) (vx_MQ below (pQn G A (fun (v : Option Value) (u : va_W × (PK × (Nat → Nat → Int32) × Nat × Int32 × Int32 × Int32 × Nat × Nat × Int32)) => v = none ∧ (BdE K u.2.1) ∧ (Bth B u.2.2.1) ∧ (u.2.2.2.1 ≤ 10000 ∧ u.2.2.2.2.2.2.2.2.1 ≤ 625 ∧ u.2.2.2.2.2.2.2.1 ≤ 1000) ∧ (OKP G h0 a (upd (upd (upd (upd (upd (upd (upd (upd (upd (upd F 2 (nI sz)) 5 (nI u.2.2.2.1)) 6 (nI u.2.2.2.2.2.2.2.2.1)) 7 (nI hd)) 8 (nI u.2.2.2.2.2.2.2.1)) 12 (nI vr)) 13 u.2.2.2.2.1) 14 u.2.2.2.2.2.1) 15 u.2.2.2.2.2.2.1) 16 u.2.2.2.2.2.2.2.2.2) (updR (updR (updR R 2 (.ref pq)) 3 (.ref mq)) 4 (va_rf lo)) Z u.2.2.1 J u.2.1 u.1)) (fun u => u.1) (fun (u : va_W × (PK × (Nat → Nat → Int32) × Nat × Int32 × Int32 × Int32 × Nat × Nat × Int32)) => (rE (g 2 q) - rS (g 2 q))) (fun (u : va_W × (PK × (Nat → Nat → Int32) × Nat × Int32 × Int32 × Int32 × Nat × Nat × Int32)) => (6 * (rE (g 2 q) - rS (g 2 q))))) (pXX G A (fun (u : va_W × (Nat → Int32) × (Nat → Value) × (Nat → Nat → Int32)) => ThQ G h0 a (upd (upd (upd (upd (upd (upd (upd F 2 (nI sz)) 5 (nI cs)) 6 (nI rg)) 7 (nI hd)) 8 (nI dp)) 12 (nI vr)) 16 ls9) (updR (updR (updR R 2 (.ref pq)) 3 (.ref mq)) 4 (va_rf lo)) Z B J u) (fun u => u.1)) ([.ref (a 4), .ref q] : List Value).toArray s ({ frames := (5 * n + 46), cells := ((rE (g 2 q) - rS (g 2 q)) + 1), slots := (6 * (rE (g 2 q) - rS (g 2 q)) + 6), locals := (200 * n + 1120) } : Room).cells ({ frames := (5 * n + 46), cells := ((rE (g 2 q) - rS (g 2 q)) + 1), slots := (6 * (rE (g 2 q) - rS (g 2 q)) + 6), locals := (200 * n + 1120) } : Room).slots A) (F0 m 109 ls []) := by
    intro n_g
    induction n_g with
    | zero => intro k2 o2 K2 B2 cs2 as2 wt2 wf2 dp2 rg2 ls2 t2 c2 b5 b6 b7 b8 b9 H locs ls w hk_g hn_g; omega
    | succ n_g ih_g =>
      intro k2 o2 K2 B2 cs2 as2 wt2 wf2 dp2 rg2 ls2 t2 c2 b5 b6 b7 b8 b9 H locs ls w hk_g hn_g hbe2 hbb2 hng2 hcs2 hmm2 hc29 hP hD hS hO hl
      have hf54 : K2.1 pq = 7 := (BdE.T hbe2 hp1 (by decide))
      have hf55 : K2.2.2.1 18 pq = some (a 1) := (BdE.C hbe2 (by rw [hp1]; decide) 18).trans hp2
      have hf56 : K2.2.2.1 14 pq = some dr := (BdE.C hbe2 (by rw [hp1]; decide) 14).trans hp3
      have hf57 : K2.1 dr = 8 := (BdE.T hbe2 hp4 (by decide))
      have hf58 : K2.2.2.1 15 pq = some ml := (BdE.C hbe2 (by rw [hp1]; decide) 15).trans hp5
      have hf59 : K2.1 ml = 5 := (BdE.T hbe2 hp6 (by decide))
      have hf60 : K2.2.1 24 pq = (nI nd) := (BdE.I hbe2 (by rw [hp1]; decide) (by decide) (by decide)).trans hp8
      have hf61 : K2.1 q = 1 := (BdE.T hbe2 hqT (by decide))
      have hf62 : K2.1 mq = 3 := (BdE.T hbe2 hmq (by decide))
      have hf63 : K2.2.2.1 0 q = some q1 := (BdE.C hbe2 (by rw [hqT]; decide) 0).trans hc0
      have hf64 : K2.1 q1 = 1 := (BdE.T hbe2 ht0 (by decide))
      have hf65 : K2.2.2.1 2 q = some q3 := (BdE.C hbe2 (by rw [hqT]; decide) 2).trans hc2
      have hf66 : K2.1 q3 = 1 := (BdE.T hbe2 ht2 (by decide))
      have hf67 : K2.2.1 0 q1 = 21 := (BdE.I hbe2 (by rw [ht0]; decide) (by decide) (by decide)).trans hk1
      have hf68 : K2.2.1 0 q3 = 21 := (BdE.I hbe2 (by rw [ht2]; decide) (by decide) (by decide)).trans hk3
      have hf69 : K2.2.1 0 q = 32 := (BdE.I hbe2 (by rw [hqT]; decide) (by decide) (by decide)).trans hkd
      rcases o2 with _ | x9
      · have hl : lv_has ls 11 [(10, .null), (9, .int b9), (8, .int b8), (7, .int b7), (6, .int b6), (5, .int b5), (4, .int (nI hd)), (3, .int 29), (2, .int 1), (1, .ref q), (0, .ref (a 4))] := hl
        refine W.eq (g2 := F0 m 109 ls []) rfl ?_
        refine lv_aloadN hx hb dX0_tryStatement_109 (lv_at hl 0 rfl) ?_
        refine lv_ifnullN (tgt := 184) hx hb dX0_tryStatement_111 (by decide) ?_
        refine lv_aload_n hx hb dX0_tryStatement_184 rfl (lv_at hl 10 rfl) ?_
        refine lv_dup hx hb dX0_tryStatement_185 rfl ?_
        refine c_get (v := .int ls2) (C := RX0) (Tc := TX0) (N := 13) (ci := 0) hx hb hq pin_wsX00 hown hE hP hO 24 (sg_24 G h0 a _ _ _ _ _) rfl 12 (by decide) (hq _ pw_74) (fun _ h9 => h9) rfl dX0_tryStatement_186 ?_
        refine lv_iload_n hx hb dX0_tryStatement_189 rfl (lv_at hl 8 rfl) ?_
        refine lv_if_eq (tgt := 197) hx hb dX0_tryStatement_190 (by decide) (fun c70 => absurd c70 (by decide)) (fun c70 => ?_)
        refine lv_iconst (v := 1) hx hb dX0_tryStatement_193 (by decide) ?_
        refine lv_goto (tgt := 198) hx hb dX0_tryStatement_194 (by decide) ?_
        refine lv_isub hx hb dX0_tryStatement_198 ?_
        refine lv_topi (fun x71 e72 => ?_)
        refine c_put (v := .int x71) (ty := .int) (C := RX0) (Tc := TX0) (N := 13) (ci := 0) hx hb hq pin_wsX00 tyX0 tyX0_ok nmX0 hown hE hP hD hS hO 24 (sg_24 G h0 a _ _ _ _ _) rfl 12 (by decide) (hq _ pw_74) (fun _ h9 => h9) rfl (by decide +kernel) rfl rfl (Nat.le_of_ble_eq_true rfl) (sf_16 G h0 a _ _ _ _ _ x71) dX0_tryStatement_199 (fun H locs w hP hD hS hO => ?_)
        refine lv_aload_n hx hb dX0_tryStatement_202 rfl (lv_at hl 10 rfl) ?_
        refine c_get (v := .ref (a 2)) (C := RX0) (Tc := TX0) (N := 13) (ci := 0) hx hb hq pin_wsX00 hown hE hP hO 24 (sg_24 G h0 a _ _ _ _ _) rfl 1 (by decide) (hq _ pw_5) (fun _ h9 => h9) rfl dX0_tryStatement_203 ?_
        refine lv_iload hx hb dX0_tryStatement_206 (lv_at hl 2 rfl) ?_
        have hO : OKW G h0 a (upd (upd (upd (upd (upd (upd (upd (upd (upd (upd (upd F 2 (nI sz)) 5 (nI cs2)) 6 (nI rg2)) 7 (nI hd)) 8 (nI dp2)) 12 (nI vr)) 13 as2) 14 wt2) 15 wf2) 16 x71) 5 (nI cs2)) (updR (updR (updR R 2 (.ref pq)) 3 (.ref mq)) 4 (va_rf lo)) Z B2 J K2.1 (fun q99 x99 => x99 = rep G a K2 q99) w := hO.to rfl
        obtain ⟨_, qr76, hqr77⟩ := hO.2.1 13 _ (sg_13 G h0 a _ _ _ _ _)
        refine pc_V0 (G := G) (As := [.int b8]) (rest := []) hx hb hml hown hq hE hX pX0_al hP hD hS hA hl.1 (K_land l G h0 a (upd (upd (upd (upd (upd (upd (upd (upd (upd (upd F 2 (nI sz)) 5 (nI cs2)) 6 (nI rg2)) 7 (nI hd)) 8 (nI dp2)) 12 (nI vr)) 13 as2) 14 wt2) 15 wf2) 16 x71) (updR (updR (updR R 2 (.ref pq)) 3 (.ref mq)) 4 (va_rf lo)) Z B2 J K2.1 (fun q99 x99 => x99 = rep G a K2 q99) w b8 cs2 (by omega) hO) (gV pw_200 pw_201 pw_202 pw_70 pw_134) hV_X1_land qr76 1 hqr77 rfl rfl rfl (Nat.le_of_ble_eq_true rfl) dX0_tryStatement_208 ⟨(by show c2 + 0 ≤ ((rE (g 2 q) - rS (g 2 q)) + 1); omega), (by show (6 * c2) + 0 ≤ (6 * (rE (g 2 q) - rS (g 2 q)) + 6); omega)⟩ ⟨(by show 2 + 1 ≤ (5 * n + 46); omega), (by show 8 + (5 + 11) + 60 ≤ (200 * n + 1120); omega)⟩ (fun v75 u73 H locs hw74 hP hD hS => ?_)
        obtain ⟨w, f78⟩ := u73
        obtain ⟨hw74, hO⟩ := hw74
        obtain rfl : v75 = none := hw74
        have hO : OKP G h0 a (upd (upd (upd (upd (upd (upd (upd (upd (upd (upd F 2 (nI sz)) 5 (nI cs2)) 6 (nI rg2)) 7 (nI hd)) 8 (nI dp2)) 12 (nI vr)) 13 as2) 14 wt2) 15 wf2) 16 x71) (updR (updR (updR R 2 (.ref pq)) 3 (.ref mq)) 4 (va_rf lo)) Z (updA B2 17 f78) J K2 w := hO.to rfl
        refine W.widen (k := c2) (n := (6 * c2)) (by show c2 + 0 ≤ c2; omega) (by show (6 * c2) + 0 ≤ (6 * c2); omega) ?_
        refine W.eq (g2 := F0 m 211 ls []) rfl ?_
        refine lv_aload_n hx hb dX0_tryStatement_211 rfl (lv_at hl 10 rfl) ?_
        refine lv_iload hx hb dX0_tryStatement_212 (lv_at hl 1 rfl) ?_
        refine c_put (v := .int b9) (ty := .int) (C := RX0) (Tc := TX0) (N := 13) (ci := 0) hx hb hq pin_wsX00 tyX0 tyX0_ok nmX0 hown hE hP hD hS hO 24 (sg_24 G h0 a _ _ _ _ _) rfl 8 (by decide) (hq _ pw_55) (fun _ h9 => h9) rfl (by decide +kernel) rfl rfl (Nat.le_of_ble_eq_true rfl) (sf_13 G h0 a _ _ _ _ _ b9) dX0_tryStatement_214 (fun H locs w hP hD hS hO => ?_)
        refine lv_iload_n hx hb dX0_tryStatement_217 rfl (lv_at hl 8 rfl) ?_
        refine lv_if_eq (tgt := 267) hx hb dX0_tryStatement_218 (by decide) (fun c79 => absurd c79 (by decide)) (fun c79 => ?_)
        refine lv_aload_n hx hb dX0_tryStatement_221 rfl (lv_at hl 10 rfl) ?_
        refine c_get (v := .ref (a 2)) (C := RX0) (Tc := TX0) (N := 13) (ci := 0) hx hb hq pin_wsX00 hown hE hP hO 24 (sg_24 G h0 a _ _ _ _ _) rfl 1 (by decide) (hq _ pw_5) (fun _ h9 => h9) rfl dX0_tryStatement_222 ?_
        refine lv_iload hx hb dX0_tryStatement_225 (lv_at hl 4 rfl) ?_
        refine lv_aload_n hx hb dX0_tryStatement_227 rfl (lv_at hl 10 rfl) ?_
        refine c_get (v := .ref (a 2)) (C := RX0) (Tc := TX0) (N := 13) (ci := 0) hx hb hq pin_wsX00 hown hE hP hO 24 (sg_24 G h0 a _ _ _ _ _) rfl 1 (by decide) (hq _ pw_5) (fun _ h9 => h9) rfl dX0_tryStatement_228 ?_
        refine c_get (v := .int (nI cs2)) (C := RX1) (Tc := TX1) (N := 13) (ci := 1) hx hb hq pin_wsX10 hown hE hP hO 13 (sg_13 G h0 a _ _ _ _ _) rfl 4 (by decide) (hq _ pw_75) (fun _ h9 => h9) rfl dX0_tryStatement_231 ?_
        refine lv_iconst (v := (-1)) hx hb dX0_tryStatement_234 (by decide) ?_
        refine lv_iload hx hb dX0_tryStatement_235 (lv_at hl 6 rfl) ?_
        have hO : OKW G h0 a (upd (upd (upd (upd (upd (upd (upd (upd (upd (upd (upd F 2 (nI sz)) 5 (nI cs2)) 6 (nI rg2)) 7 (nI hd)) 8 (nI dp2)) 12 (nI vr)) 13 b9) 14 wt2) 15 wf2) 16 x71) 6 (nI rg2)) (updR (updR (updR R 2 (.ref pq)) 3 (.ref mq)) 4 (va_rf lo)) Z (updA B2 17 f78) J K2.1 (fun q99 x99 => x99 = rep G a K2 q99) w := hO.to rfl
        obtain ⟨_, qr83, hqr84⟩ := hO.2.1 13 _ (sg_13 G h0 a _ _ _ _ _)
        refine pc_V0 (G := G) (As := [.int b6, .int (nI cs2), .int (-1), .int (nI hd)]) (rest := []) hx hb hml hown hq hE hX pX0_al hP hD hS hA hl.1 (K_addRegion l G h0 a (upd (upd (upd (upd (upd (upd (upd (upd (upd (upd F 2 (nI sz)) 5 (nI cs2)) 6 (nI rg2)) 7 (nI hd)) 8 (nI dp2)) 12 (nI vr)) 13 b9) 14 wt2) 15 wf2) 16 x71) (updR (updR (updR R 2 (.ref pq)) 3 (.ref mq)) 4 (va_rf lo)) Z (updA B2 17 f78) J K2.1 (fun q99 x99 => x99 = rep G a K2 q99) w b6 (nI cs2) (-1) (nI hd) rg2 (by omega) hO) (gV pw_349 pw_350 pw_351 pw_70 pw_294) hV_X1_addRegion qr83 1 hqr84 rfl rfl rfl (Nat.le_of_ble_eq_true rfl) dX0_tryStatement_237 ⟨(by show c2 + 0 ≤ ((rE (g 2 q) - rS (g 2 q)) + 1); omega), (by show (6 * c2) + 0 ≤ (6 * (rE (g 2 q) - rS (g 2 q)) + 6); omega)⟩ ⟨(by show 2 + 1 ≤ (5 * n + 46); omega), (by show 8 + (5 + 11) + 60 ≤ (200 * n + 1120); omega)⟩ (fun v82 u80 H locs hw81 hP hD hS => ?_)
        obtain ⟨w, rg85, f86, f87, f88, f89, f90⟩ := u80
        obtain ⟨hw81, h91, hO⟩ := hw81
        have h91 : rg2 ≤ rg85 ∧ rg85 ≤ 625 := h91
        obtain rfl : v82 = none := hw81
        have hO : OKP G h0 a (upd (upd (upd (upd (upd (upd (upd (upd (upd (upd F 2 (nI sz)) 5 (nI cs2)) 6 (nI rg85)) 7 (nI hd)) 8 (nI dp2)) 12 (nI vr)) 13 b9) 14 wt2) 15 wf2) 16 x71) (updR (updR (updR R 2 (.ref pq)) 3 (.ref mq)) 4 (va_rf lo)) Z (updA (updA (updA (updA (updA (updA B2 17 f78) 20 f86) 21 f87) 22 f88) 23 f89) 24 f90) J K2 w := hO.to rfl
        refine W.widen (k := c2) (n := (6 * c2)) (by show c2 + 0 ≤ c2; omega) (by show (6 * c2) + 0 ≤ (6 * c2); omega) ?_
        refine W.eq (g2 := F0 m 240 ls []) rfl ?_
        refine lv_aload_n hx hb dX0_tryStatement_240 rfl (lv_at hl 10 rfl) ?_
        refine lv_iload hx hb dX0_tryStatement_241 (lv_at hl 5 rfl) ?_
        refine c_put (v := .int b5) (ty := .int) (C := RX0) (Tc := TX0) (N := 13) (ci := 0) hx hb hq pin_wsX00 tyX0 tyX0_ok nmX0 hown hE hP hD hS hO 24 (sg_24 G h0 a _ _ _ _ _) rfl 8 (by decide) (hq _ pw_55) (fun _ h9 => h9) rfl (by decide +kernel) rfl rfl (Nat.le_of_ble_eq_true rfl) (sf_13 G h0 a _ _ _ _ _ b5) dX0_tryStatement_243 (fun H locs w hP hD hS hO => ?_)
        refine lv_aload_n hx hb dX0_tryStatement_246 rfl (lv_at hl 10 rfl) ?_
        refine lv_aload_n hx hb dX0_tryStatement_247 rfl (lv_at hl 9 rfl) ?_
        refine p_get (v := .ref q3) (C := RX7) (Tc := TX7) (N := 11) (ci := 13) hx hb hq pin_wsX70 hown hE hP hO (by rw [hf61]; decide) (rep_1 hf61) rfl 8 (by decide) (hq _ pw_196) (fun _ h9 => h9) (congrArg (fun z => some (va_rf z)) hf65) dX0_tryStatement_248 ?_
        refine lv_iload hx hb dX0_tryStatement_251 (lv_at hl 6 rfl) ?_
        have hO : OKP G h0 a (upd (upd (upd (upd (upd (upd (upd (upd (upd (upd (upd (upd (upd (upd (upd (upd (upd (upd (upd (upd (upd F 2 (nI sz)) 5 (nI cs)) 6 (nI rg)) 7 (nI hd)) 8 (nI dp)) 12 (nI vr)) 16 ls9) 5 (nI cs2)) 6 (nI rg85)) 8 (nI dp2)) 13 b5) 14 wt2) 15 wf2) 16 x71) 2 (nI sz)) 5 (nI cs2)) 6 (nI rg85)) 7 (nI hd)) 8 (nI dp2)) 12 (nI vr)) 16 x71) (updR (updR (updR (updR (updR (updR R 2 (.ref pq)) 3 (.ref mq)) 4 (va_rf lo)) 2 (.ref pq)) 3 (.ref mq)) 4 (va_rf lo)) Z (updA (updA (updA (updA (updA (updA B2 17 f78) 20 f86) 21 f87) 22 f88) 23 f89) 24 f90) J K2 w := hO.to rfl
        obtain ⟨_, qr95, hqr96⟩ := hO.2.1 24 _ (sg_24 G h0 a _ _ _ _ _)
        refine pn_V0 (G := G) (As := [.ref q3, .int (nI hd)]) (rest := []) hx hb hml hown hq hE hX pX0_al hP hD hS hA hl.1 (B_last l G h0 a (upd (upd (upd (upd (upd (upd (upd (upd (upd (upd (upd (upd (upd (upd F 2 (nI sz)) 5 (nI cs)) 6 (nI rg)) 7 (nI hd)) 8 (nI dp)) 12 (nI vr)) 16 ls9) 5 (nI cs2)) 6 (nI rg85)) 8 (nI dp2)) 13 b5) 14 wt2) 15 wf2) 16 x71) (updR (updR (updR R 2 (.ref pq)) 3 (.ref mq)) 4 (va_rf lo)) Z (updA (updA (updA (updA (updA (updA B2 17 f78) 20 f86) 21 f87) 22 f88) 23 f89) 24 f90) J K2 w pq dr ml nd nm cp it s9 q3 mq cs2 vr sz (n - 1) hd dp2 rg85 x71 lo g rk (by omega) (BdE.wp hbe2 hwp) (BdE.pt hbe2 hwp hps) (BdE.rko hbe2 hrk) (by omega) (by omega) hng2 hf62 hf66 ⟨hv2.1, (by have z9 := hv2; omega)⟩ (by omega) (by omega) (by omega) (LpO.be hbe2 hlo) hf68 (IhT.lo ist) (IhV.all l G _) hO hl0) (gV pw_355 pw_356 pw_357 pw_63 pw_311) hV_X0_last qr95 0 hqr96 rfl rfl rfl (Nat.le_of_ble_eq_true rfl) dX0_tryStatement_253 ⟨(by show c2 + ((rE (g 2 q3) - rS (g 2 q3) - 2) + 1) ≤ ((rE (g 2 q) - rS (g 2 q)) + 1); omega), (by show (6 * c2) + (6 * (rE (g 2 q3) - rS (g 2 q3) - 2) + 6) ≤ (6 * (rE (g 2 q) - rS (g 2 q)) + 6); omega)⟩ ⟨(by show (5 * (n - 1) + 48) + 1 ≤ (5 * n + 46); omega), (by show 8 + (3 + 11) + (200 * (n - 1) + 1160) ≤ (200 * n + 1120); omega)⟩ (fun v94 u92 H locs hw93 hP hD hS => ?_) (fun ux ce9 q9 H9 locs9 hux hP9 hD9 hS9 hce hcv hcl => pb_out ux (ThQ.up (Thx.same (Thx.same (Thx.same (Thx.same (Thx.same (Thx.same (Thx.same (Thx.b (Thx.b (Thx.b (Thx.b (Thx.b (Thx.b (Thx.f (Thx.f (Thx.f (Thx.f (Thx.f (Thx.f (Thx.f (Bth.thx hbb2) (by omega)) (by omega)) (by omega)) (by omega)) (by omega)) (by omega)) (by omega)) (by omega) (by decide)) (by omega) (by decide)) (by omega) (by decide)) (by omega) (by decide)) (by omega) (by decide)) (by omega) (by decide)) rfl) rfl) rfl) rfl) rfl) rfl) rfl) (show RhX (updR (updR (updR R 2 (.ref pq)) 3 (.ref mq)) 4 (va_rf lo)) (updR (updR (updR (updR (updR (updR R 2 (.ref pq)) 3 (.ref mq)) 4 (va_rf lo)) 2 (.ref pq)) 3 (.ref mq)) 4 (va_rf lo)) from fun k9 hk9 => by unfold updR; simp only [show ¬ k9 = 1 by omega, show ¬ k9 = 2 by omega, show ¬ k9 = 3 by omega, show ¬ k9 = 4 by omega, if_false]) hux) hnt hlocks hce hcv hcl hP9 hD9 hS9 (by show c2 + ((rE (g 2 q3) - rS (g 2 q3) - 2) + 1) ≤ ((rE (g 2 q) - rS (g 2 q)) + 1); omega) (by show (6 * c2) + (6 * (rE (g 2 q3) - rS (g 2 q3) - 2) + 6) ≤ (6 * (rE (g 2 q) - rS (g 2 q)) + 6); omega))
        obtain ⟨w, K97, B98, cs99, as100, wt101, wf102, dp103, rg104, ls105⟩ := u92
        obtain ⟨hw93, h106, h107, h108, hO⟩ := hw93
        have h106 : BdE K2 K97 := h106
        have h107 : Bth (updA (updA (updA (updA (updA (updA B2 17 f78) 20 f86) 21 f87) 22 f88) 23 f89) 24 f90) B98 := h107
        have h108 : cs99 ≤ 10000 ∧ rg104 ≤ 625 ∧ dp103 ≤ 1000 := h108
        obtain rfl : v94 = none := hw93
        have hf109 : K97.1 pq = 7 := (BdE.T h106 hf54 (by decide))
        have hf110 : K97.2.2.1 18 pq = some (a 1) := (BdE.C h106 (by rw [hf54]; decide) 18).trans hf55
        have hf111 : K97.2.2.1 14 pq = some dr := (BdE.C h106 (by rw [hf54]; decide) 14).trans hf56
        have hf112 : K97.1 dr = 8 := (BdE.T h106 hf57 (by decide))
        have hf113 : K97.2.2.1 15 pq = some ml := (BdE.C h106 (by rw [hf54]; decide) 15).trans hf58
        have hf114 : K97.1 ml = 5 := (BdE.T h106 hf59 (by decide))
        have hf115 : K97.2.1 24 pq = (nI nd) := (BdE.I h106 (by rw [hf54]; decide) (by decide) (by decide)).trans hf60
        have hf116 : K97.1 q = 1 := (BdE.T h106 hf61 (by decide))
        have hf117 : K97.1 mq = 3 := (BdE.T h106 hf62 (by decide))
        have hf118 : K97.2.2.1 0 q = some q1 := (BdE.C h106 (by rw [hf61]; decide) 0).trans hf63
        have hf119 : K97.1 q1 = 1 := (BdE.T h106 hf64 (by decide))
        have hf120 : K97.2.2.1 2 q = some q3 := (BdE.C h106 (by rw [hf61]; decide) 2).trans hf65
        have hf121 : K97.1 q3 = 1 := (BdE.T h106 hf66 (by decide))
        have hf122 : K97.2.1 0 q1 = 21 := (BdE.I h106 (by rw [hf64]; decide) (by decide) (by decide)).trans hf67
        have hf123 : K97.2.1 0 q3 = 21 := (BdE.I h106 (by rw [hf66]; decide) (by decide) (by decide)).trans hf68
        have hf124 : K97.2.1 0 q = 32 := (BdE.I h106 (by rw [hf61]; decide) (by decide) (by decide)).trans hf69
        have hO : OKP G h0 a (upd (upd (upd (upd (upd (upd (upd (upd (upd (upd F 2 (nI sz)) 5 (nI cs99)) 6 (nI rg104)) 7 (nI hd)) 8 (nI dp103)) 12 (nI vr)) 13 as100) 14 wt101) 15 wf102) 16 ls105) (updR (updR (updR R 2 (.ref pq)) 3 (.ref mq)) 4 (va_rf lo)) Z B98 J K97 w := hO.to rfl
        refine W.widen (k := (c2 + (rE (g 2 q3) - rS (g 2 q3) - 2))) (n := ((6 * c2) + (6 * (rE (g 2 q3) - rS (g 2 q3) - 2)))) (by show c2 + (rE (g 2 q3) - rS (g 2 q3) - 2) ≤ (c2 + (rE (g 2 q3) - rS (g 2 q3) - 2)); omega) (by show (6 * c2) + (6 * (rE (g 2 q3) - rS (g 2 q3) - 2)) ≤ ((6 * c2) + (6 * (rE (g 2 q3) - rS (g 2 q3) - 2))); omega) ?_
        refine W.eq (g2 := F0 m 256 ls []) rfl ?_
        have hbe125 := BdE.trans hbe2 h106
        have hbb126 : Bth B B98 := Bth.trans (show Thx (upd (upd (upd (upd (upd (upd (upd F 2 (nI sz)) 5 (nI cs)) 6 (nI rg)) 7 (nI hd)) 8 (nI dp)) 12 (nI vr)) 16 ls9) (upd (upd (upd (upd (upd (upd (upd (upd (upd (upd (upd (upd (upd (upd F 2 (nI sz)) 5 (nI cs)) 6 (nI rg)) 7 (nI hd)) 8 (nI dp)) 12 (nI vr)) 16 ls9) 5 (nI cs2)) 6 (nI rg85)) 8 (nI dp2)) 13 b5) 14 wt2) 15 wf2) 16 x71) B (updA (updA (updA (updA (updA (updA B2 17 f78) 20 f86) 21 f87) 22 f88) 23 f89) 24 f90) from (Thx.b (Thx.b (Thx.b (Thx.b (Thx.b (Thx.b (Thx.f (Thx.f (Thx.f (Thx.f (Thx.f (Thx.f (Thx.f (Bth.thx hbb2) (by omega)) (by omega)) (by omega)) (by omega)) (by omega)) (by omega)) (by omega)) (by omega) (by decide)) (by omega) (by decide)) (by omega) (by decide)) (by omega) (by decide)) (by omega) (by decide)) (by omega) (by decide))).2 h107
        have hng127 : Nng (B98 18) := h107.2 hng2
        refine lv_aload_n hx hb dX0_tryStatement_256 rfl (lv_at hl 10 rfl) ?_
        refine lv_dup hx hb dX0_tryStatement_257 rfl ?_
        refine c_get (v := .int as100) (C := RX0) (Tc := TX0) (N := 13) (ci := 0) hx hb hq pin_wsX00 hown hE hP hO 24 (sg_24 G h0 a _ _ _ _ _) rfl 8 (by decide) (hq _ pw_55) (fun _ h9 => h9) rfl dX0_tryStatement_258 ?_
        refine lv_iload hx hb dX0_tryStatement_261 (lv_at hl 1 rfl) ?_
        refine lv_ior hx hb dX0_tryStatement_263 ?_
        refine lv_topi (fun x128 e129 => ?_)
        refine c_put (v := .int x128) (ty := .int) (C := RX0) (Tc := TX0) (N := 13) (ci := 0) hx hb hq pin_wsX00 tyX0 tyX0_ok nmX0 hown hE hP hD hS hO 24 (sg_24 G h0 a _ _ _ _ _) rfl 8 (by decide) (hq _ pw_55) (fun _ h9 => h9) rfl (by decide +kernel) rfl rfl (Nat.le_of_ble_eq_true rfl) (sf_13 G h0 a _ _ _ _ _ x128) dX0_tryStatement_264 (fun H locs w hP hD hS hO => ?_)
        refine W_size (fun hz1 hz2 => ?_)
        refine vx_ret ?_
        have hz130 : BdE K K97 := hbe125
        have hz131 : Bth B B98 := (show Thx (upd (upd (upd (upd (upd (upd (upd F 2 (nI sz)) 5 (nI cs)) 6 (nI rg)) 7 (nI hd)) 8 (nI dp)) 12 (nI vr)) 16 ls9) (upd (upd (upd (upd (upd (upd (upd (upd (upd (upd (upd (upd (upd (upd F 2 (nI sz)) 5 (nI cs)) 6 (nI rg)) 7 (nI hd)) 8 (nI dp)) 12 (nI vr)) 16 ls9) 5 (nI cs99)) 6 (nI rg104)) 8 (nI dp103)) 13 x128) 14 wt101) 15 wf102) 16 ls105) B B98 from (Thx.f (Thx.f (Thx.f (Thx.f (Thx.f (Thx.f (Thx.f (Bth.thx hbb126) (by omega)) (by omega)) (by omega)) (by omega)) (by omega)) (by omega)) (by omega))).2
        have hz132 : cs99 ≤ 10000 ∧ rg104 ≤ 625 ∧ dp103 ≤ 1000 := (by omega)
        have hO : OKP G h0 a (upd (upd (upd (upd (upd (upd (upd (upd (upd (upd F 2 (nI sz)) 5 (nI cs99)) 6 (nI rg104)) 7 (nI hd)) 8 (nI dp103)) 12 (nI vr)) 13 x128) 14 wt101) 15 wf102) 16 ls105) (updR (updR (updR R 2 (.ref pq)) 3 (.ref mq)) 4 (va_rf lo)) Z B98 J K97 w := hO.to rfl
        refine W.widen (k := ((rE (g 2 q) - rS (g 2 q)) + 1)) (n := (6 * (rE (g 2 q) - rS (g 2 q)) + 6)) (by omega) (by omega) ?_
        have hzz1 : H.size ≤ s.heap.size + ((rE (g 2 q) - rS (g 2 q))) := (by have z : (c2 + (rE (g 2 q3) - rS (g 2 q3) - 2)) ≤ (rE (g 2 q) - rS (g 2 q)) := (by omega); omega)
        have hzz2 : hSl H ≤ hSl s.heap + ((6 * (rE (g 2 q) - rS (g 2 q)))) := (by have z : ((6 * c2) + (6 * (rE (g 2 q3) - rS (g 2 q3) - 2))) ≤ (6 * (rE (g 2 q) - rS (g 2 q))) := (by omega); omega)
        exact W.vret hx hb hr (fun t99 ht99 hW99 => ⟨⟨_, (w, (K97, B98, cs99, x128, wt101, wf102, dp103, rg104, ls105)), rfl, ⟨rfl, hz130, hz131, hz132, hO⟩, by rw [ht99]; exact hP, hD, by rw [ht99]; exact hzz1, by rw [ht99]; exact hzz2⟩, hS.F ht99⟩) hS.2.2 dX0_tryStatement_267
      · have hl : lv_has ls 11 [(10, .ref x9), (9, .int b9), (8, .int b8), (7, .int b7), (6, .int b6), (5, .int b5), (4, .int (nI hd)), (3, .int 29), (2, .int 1), (1, .ref q), (0, .ref (a 4))] := hl
        refine W.eq (g2 := F0 m 109 ls []) rfl ?_
        have hxd := hmm2 x9 rfl
        have hxT := hxd.1
        have hxv : 1 ≤ g 0 x9 ∧ g 0 x9 + 1 ≤ n := ⟨hxd.2.1, (by have z := hxd.2.2.1; omega)⟩
        have hxe := MmO.end32 (BdE.wp hbe2 hwp).1 hqL.1 hf69 hxT hxd.2.1 hxd.2.2.2.1
        have hxe1 : rE (g 2 x9) ≤ rN (g 2 q) ∧ rS (g 2 x9) ≤ rE (g 2 x9) ∧ g 2 x9 ≤ 100000000000000000000 := ⟨hxe.1, hxe.2.1, hxe.2.2.1⟩
        have hxt := hxd.2.2.2.2
        have hxk := hxe.2.2.2
        have hxw := (BdE.wp hbe2 hwp).1 x9 hxT hxd.2.1
        obtain ⟨xb, hxb0, hxbT, hxbl⟩ := NdO.ch hxw (f := 0) (by decide) (hxw.1.1 (by rw [hxk]; decide))
        have hxbv : 1 ≤ g 0 xb ∧ g 0 xb + 1 ≤ n - 1 := ⟨hxbl.1, (by have z := hxbl.2; omega)⟩
        refine lv_aload hx hb dX0_tryStatement_109 (lv_at hl 0 rfl) ?_
        refine lv_ifnull hx hb dX0_tryStatement_111 ?_
        refine lv_aload_n hx hb dX0_tryStatement_114 rfl (lv_at hl 10 rfl) ?_
        refine c_get (v := .ref (a 2)) (C := RX0) (Tc := TX0) (N := 13) (ci := 0) hx hb hq pin_wsX00 hown hE hP hO 24 (sg_24 G h0 a _ _ _ _ _) rfl 1 (by decide) (hq _ pw_5) (fun _ h9 => h9) rfl dX0_tryStatement_115 ?_
        refine lv_iload hx hb dX0_tryStatement_118 (lv_at hl 4 rfl) ?_
        refine lv_iload hx hb dX0_tryStatement_120 (lv_at hl 3 rfl) ?_
        refine lv_aload_n hx hb dX0_tryStatement_122 rfl (lv_at hl 10 rfl) ?_
        refine c_get (v := .ref (a 1)) (C := RX0) (Tc := TX0) (N := 13) (ci := 0) hx hb hq pin_wsX00 hown hE hP hO 24 (sg_24 G h0 a _ _ _ _ _) rfl 0 (by decide) (hq _ pw_4) (fun _ h9 => h9) rfl dX0_tryStatement_123 ?_
        refine lv_aload hx hb dX0_tryStatement_126 (lv_at hl 0 rfl) ?_
        refine p_get (v := .int (K2.2.1 2 x9)) (C := RX7) (Tc := TX7) (N := 11) (ci := 13) hx hb hq pin_wsX70 hown hE hP hO (by rw [hxT]; decide) (rep_1 hxT) rfl 2 (by decide) (hq _ pw_82) (fun _ h9 => h9) rfl dX0_tryStatement_128 ?_
        have hO : OKW G h0 a (upd (upd (upd (upd (upd (upd (upd (upd (upd (upd (upd F 2 (nI sz)) 5 (nI cs2)) 6 (nI rg2)) 7 (nI hd)) 8 (nI dp2)) 12 (nI vr)) 13 as2) 14 wt2) 15 wf2) 16 ls2) 2 (nI sz)) (updR (updR (updR R 2 (.ref pq)) 3 (.ref mq)) 4 (va_rf lo)) Z B2 J K2.1 (fun q99 x99 => x99 = rep G a K2 q99) w := hO.to rfl
        obtain ⟨_, qr136, hqr137⟩ := hO.2.1 2 _ (sg_2 G h0 a _ _ _ _ _)
        refine pc_V0 (G := G) (As := [.int (K2.2.1 2 x9)]) (rest := [.int b7, .int b6, .ref (a 2)]) hx hb hml hown hq hE hX pX0_al hP hD hS hA hl.1 (K_typeAt l G h0 a (upd (upd (upd (upd (upd (upd (upd (upd (upd (upd F 2 (nI sz)) 5 (nI cs2)) 6 (nI rg2)) 7 (nI hd)) 8 (nI dp2)) 12 (nI vr)) 13 as2) 14 wt2) 15 wf2) 16 ls2) (updR (updR (updR R 2 (.ref pq)) 3 (.ref mq)) 4 (va_rf lo)) Z B2 J K2.1 (fun q99 x99 => x99 = rep G a K2 q99) w (K2.2.1 2 x9) sz (by omega) hO) (gV pw_92 pw_93 pw_94 pw_59 pw_36) hV_X10_typeAt qr136 7 hqr137 rfl rfl rfl (Nat.le_of_ble_eq_true rfl) dX0_tryStatement_131 ⟨(by show c2 + 0 ≤ ((rE (g 2 q) - rS (g 2 q)) + 1); omega), (by show (6 * c2) + 0 ≤ (6 * (rE (g 2 q) - rS (g 2 q)) + 6); omega)⟩ ⟨(by show 2 + 1 ≤ (5 * n + 46); omega), (by show 8 + (2 + 11) + 60 ≤ (200 * n + 1120); omega)⟩ (fun v135 u133 H locs hw134 hP hD hS => ?_)
        obtain ⟨w, r138⟩ := u133
        obtain ⟨hw134, hO⟩ := hw134
        obtain rfl : v135 = some (.int r138) := hw134
        have hO : OKP G h0 a (upd (upd (upd (upd (upd (upd (upd (upd (upd (upd F 2 (nI sz)) 5 (nI cs2)) 6 (nI rg2)) 7 (nI hd)) 8 (nI dp2)) 12 (nI vr)) 13 as2) 14 wt2) 15 wf2) 16 ls2) (updR (updR (updR R 2 (.ref pq)) 3 (.ref mq)) 4 (va_rf lo)) Z B2 J K2 w := hO.to rfl
        refine W.widen (k := c2) (n := (6 * c2)) (by show c2 + 0 ≤ c2; omega) (by show (6 * c2) + 0 ≤ (6 * c2); omega) ?_
        refine W.eq (g2 := F0 m 134 ls [.int r138, .int b7, .int b6, .ref (a 2)]) rfl ?_
        refine lv_iload hx hb dX0_tryStatement_134 (lv_at hl 6 rfl) ?_
        have hO : OKW G h0 a (upd (upd (upd (upd (upd (upd (upd (upd (upd (upd (upd F 2 (nI sz)) 5 (nI cs2)) 6 (nI rg2)) 7 (nI hd)) 8 (nI dp2)) 12 (nI vr)) 13 as2) 14 wt2) 15 wf2) 16 ls2) 6 (nI rg2)) (updR (updR (updR R 2 (.ref pq)) 3 (.ref mq)) 4 (va_rf lo)) Z B2 J K2.1 (fun q99 x99 => x99 = rep G a K2 q99) w := hO.to rfl
        obtain ⟨_, qr142, hqr143⟩ := hO.2.1 13 _ (sg_13 G h0 a _ _ _ _ _)
        refine pc_V0 (G := G) (As := [.int b6, .int b7, .int r138, .int (nI hd)]) (rest := []) hx hb hml hown hq hE hX pX0_al hP hD hS hA hl.1 (K_addRegion l G h0 a (upd (upd (upd (upd (upd (upd (upd (upd (upd (upd F 2 (nI sz)) 5 (nI cs2)) 6 (nI rg2)) 7 (nI hd)) 8 (nI dp2)) 12 (nI vr)) 13 as2) 14 wt2) 15 wf2) 16 ls2) (updR (updR (updR R 2 (.ref pq)) 3 (.ref mq)) 4 (va_rf lo)) Z B2 J K2.1 (fun q99 x99 => x99 = rep G a K2 q99) w b6 b7 r138 (nI hd) rg2 (by omega) hO) (gV pw_349 pw_350 pw_351 pw_70 pw_294) hV_X1_addRegion qr142 1 hqr143 rfl rfl rfl (Nat.le_of_ble_eq_true rfl) dX0_tryStatement_136 ⟨(by show c2 + 0 ≤ ((rE (g 2 q) - rS (g 2 q)) + 1); omega), (by show (6 * c2) + 0 ≤ (6 * (rE (g 2 q) - rS (g 2 q)) + 6); omega)⟩ ⟨(by show 2 + 1 ≤ (5 * n + 46); omega), (by show 8 + (5 + 11) + 60 ≤ (200 * n + 1120); omega)⟩ (fun v141 u139 H locs hw140 hP hD hS => ?_)
        obtain ⟨w, rg144, f145, f146, f147, f148, f149⟩ := u139
        obtain ⟨hw140, h150, hO⟩ := hw140
        have h150 : rg2 ≤ rg144 ∧ rg144 ≤ 625 := h150
        obtain rfl : v141 = none := hw140
        have hO : OKP G h0 a (upd (upd (upd (upd (upd (upd (upd (upd (upd (upd F 2 (nI sz)) 5 (nI cs2)) 6 (nI rg144)) 7 (nI hd)) 8 (nI dp2)) 12 (nI vr)) 13 as2) 14 wt2) 15 wf2) 16 ls2) (updR (updR (updR R 2 (.ref pq)) 3 (.ref mq)) 4 (va_rf lo)) Z (updA (updA (updA (updA (updA B2 20 f145) 21 f146) 22 f147) 23 f148) 24 f149) J K2 w := hO.to rfl
        refine W.widen (k := c2) (n := (6 * c2)) (by show c2 + 0 ≤ c2; omega) (by show (6 * c2) + 0 ≤ (6 * c2); omega) ?_
        refine W.eq (g2 := F0 m 139 ls []) rfl ?_
        refine lv_aload_n hx hb dX0_tryStatement_139 rfl (lv_at hl 10 rfl) ?_
        refine lv_iload hx hb dX0_tryStatement_140 (lv_at hl 5 rfl) ?_
        refine c_put (v := .int b5) (ty := .int) (C := RX0) (Tc := TX0) (N := 13) (ci := 0) hx hb hq pin_wsX00 tyX0 tyX0_ok nmX0 hown hE hP hD hS hO 24 (sg_24 G h0 a _ _ _ _ _) rfl 8 (by decide) (hq _ pw_55) (fun _ h9 => h9) rfl (by decide +kernel) rfl rfl (Nat.le_of_ble_eq_true rfl) (sf_13 G h0 a _ _ _ _ _ b5) dX0_tryStatement_142 (fun H locs w hP hD hS hO => ?_)
        refine lv_aload_n hx hb dX0_tryStatement_145 rfl (lv_at hl 10 rfl) ?_
        refine lv_aload hx hb dX0_tryStatement_146 (lv_at hl 0 rfl) ?_
        have hO : OKP G h0 a (upd (upd (upd (upd (upd (upd (upd (upd (upd (upd (upd (upd (upd (upd (upd (upd (upd (upd (upd (upd (upd F 2 (nI sz)) 5 (nI cs)) 6 (nI rg)) 7 (nI hd)) 8 (nI dp)) 12 (nI vr)) 16 ls9) 5 (nI cs2)) 6 (nI rg144)) 8 (nI dp2)) 13 b5) 14 wt2) 15 wf2) 16 ls2) 2 (nI sz)) 5 (nI cs2)) 6 (nI rg144)) 7 (nI hd)) 8 (nI dp2)) 12 (nI vr)) 16 ls2) (updR (updR (updR (updR (updR (updR R 2 (.ref pq)) 3 (.ref mq)) 4 (va_rf lo)) 2 (.ref pq)) 3 (.ref mq)) 4 (va_rf lo)) Z (updA (updA (updA (updA (updA B2 20 f145) 21 f146) 22 f147) 23 f148) 24 f149) J K2 w := hO.to rfl
        obtain ⟨_, qr154, hqr155⟩ := hO.2.1 24 _ (sg_24 G h0 a _ _ _ _ _)
        refine pn_V0 (G := G) (As := [.ref x9]) (rest := []) hx hb hml hown hq hE hX pX0_al hP hD hS hA hl.1 (B_catch l G h0 a (upd (upd (upd (upd (upd (upd (upd (upd (upd (upd (upd (upd (upd (upd F 2 (nI sz)) 5 (nI cs)) 6 (nI rg)) 7 (nI hd)) 8 (nI dp)) 12 (nI vr)) 16 ls9) 5 (nI cs2)) 6 (nI rg144)) 8 (nI dp2)) 13 b5) 14 wt2) 15 wf2) 16 ls2) (updR (updR (updR R 2 (.ref pq)) 3 (.ref mq)) 4 (va_rf lo)) Z (updA (updA (updA (updA (updA B2 20 f145) 21 f146) 22 f147) 23 f148) 24 f149) J K2 w pq dr ml nd nm cp it s9 x9 mq cs2 vr sz (n - 1) xb hd dp2 rg144 ls2 lo g rk (by omega) (BdE.wp hbe2 hwp) (BdE.pt hbe2 hwp hps) (BdE.rko hbe2 hrk) (by omega) (by omega) hng2 hf62 hxT ⟨hxv.1, (by have z9 := hxv; omega)⟩ hxb0 hxbT hxbv (by omega) (by omega) (by omega) (LpO.be hbe2 hlo) hxk (IhT.lo ist) (IhV.all l G _) hO hl0) (gV pw_352 pw_353 pw_354 pw_63 pw_306) hV_X0_catchBlock qr154 0 hqr155 rfl rfl rfl (Nat.le_of_ble_eq_true rfl) dX0_tryStatement_148 ⟨(by show c2 + ((rE (g 2 x9) - rS (g 2 x9)) + 1) ≤ ((rE (g 2 q) - rS (g 2 q)) + 1); omega), (by show (6 * c2) + (6 * (rE (g 2 x9) - rS (g 2 x9)) + 6) ≤ (6 * (rE (g 2 q) - rS (g 2 q)) + 6); omega)⟩ ⟨(by show (5 * (n - 1) + 46) + 1 ≤ (5 * n + 46); omega), (by show 8 + (5 + 11) + (200 * (n - 1) + 1120) ≤ (200 * n + 1120); omega)⟩ (fun v153 u151 H locs hw152 hP hD hS => ?_) (fun ux ce9 q9 H9 locs9 hux hP9 hD9 hS9 hce hcv hcl => pb_out ux (ThQ.up (Thx.same (Thx.same (Thx.same (Thx.same (Thx.same (Thx.same (Thx.same (Thx.b (Thx.b (Thx.b (Thx.b (Thx.b (Thx.f (Thx.f (Thx.f (Thx.f (Thx.f (Thx.f (Thx.f (Bth.thx hbb2) (by omega)) (by omega)) (by omega)) (by omega)) (by omega)) (by omega)) (by omega)) (by omega) (by decide)) (by omega) (by decide)) (by omega) (by decide)) (by omega) (by decide)) (by omega) (by decide)) rfl) rfl) rfl) rfl) rfl) rfl) rfl) (show RhX (updR (updR (updR R 2 (.ref pq)) 3 (.ref mq)) 4 (va_rf lo)) (updR (updR (updR (updR (updR (updR R 2 (.ref pq)) 3 (.ref mq)) 4 (va_rf lo)) 2 (.ref pq)) 3 (.ref mq)) 4 (va_rf lo)) from fun k9 hk9 => by unfold updR; simp only [show ¬ k9 = 1 by omega, show ¬ k9 = 2 by omega, show ¬ k9 = 3 by omega, show ¬ k9 = 4 by omega, if_false]) hux) hnt hlocks hce hcv hcl hP9 hD9 hS9 (by show c2 + ((rE (g 2 x9) - rS (g 2 x9)) + 1) ≤ ((rE (g 2 q) - rS (g 2 q)) + 1); omega) (by show (6 * c2) + (6 * (rE (g 2 x9) - rS (g 2 x9)) + 6) ≤ (6 * (rE (g 2 q) - rS (g 2 q)) + 6); omega))
        obtain ⟨w, K156, B157, cs158, as159, wt160, wf161, dp162, rg163, ls164⟩ := u151
        obtain ⟨hw152, h165, h166, h167, hO⟩ := hw152
        have h165 : BdE K2 K156 := h165
        have h166 : Bth (updA (updA (updA (updA (updA B2 20 f145) 21 f146) 22 f147) 23 f148) 24 f149) B157 := h166
        have h167 : cs158 ≤ 10000 ∧ rg163 ≤ 625 ∧ dp162 ≤ 1000 := h167
        obtain rfl : v153 = none := hw152
        have hf168 : K156.1 pq = 7 := (BdE.T h165 hf54 (by decide))
        have hf169 : K156.2.2.1 18 pq = some (a 1) := (BdE.C h165 (by rw [hf54]; decide) 18).trans hf55
        have hf170 : K156.2.2.1 14 pq = some dr := (BdE.C h165 (by rw [hf54]; decide) 14).trans hf56
        have hf171 : K156.1 dr = 8 := (BdE.T h165 hf57 (by decide))
        have hf172 : K156.2.2.1 15 pq = some ml := (BdE.C h165 (by rw [hf54]; decide) 15).trans hf58
        have hf173 : K156.1 ml = 5 := (BdE.T h165 hf59 (by decide))
        have hf174 : K156.2.1 24 pq = (nI nd) := (BdE.I h165 (by rw [hf54]; decide) (by decide) (by decide)).trans hf60
        have hf175 : K156.1 q = 1 := (BdE.T h165 hf61 (by decide))
        have hf176 : K156.1 mq = 3 := (BdE.T h165 hf62 (by decide))
        have hf177 : K156.2.2.1 0 q = some q1 := (BdE.C h165 (by rw [hf61]; decide) 0).trans hf63
        have hf178 : K156.1 q1 = 1 := (BdE.T h165 hf64 (by decide))
        have hf179 : K156.2.2.1 2 q = some q3 := (BdE.C h165 (by rw [hf61]; decide) 2).trans hf65
        have hf180 : K156.1 q3 = 1 := (BdE.T h165 hf66 (by decide))
        have hf181 : K156.2.1 0 q1 = 21 := (BdE.I h165 (by rw [hf64]; decide) (by decide) (by decide)).trans hf67
        have hf182 : K156.2.1 0 q3 = 21 := (BdE.I h165 (by rw [hf66]; decide) (by decide) (by decide)).trans hf68
        have hf183 : K156.2.1 0 q = 32 := (BdE.I h165 (by rw [hf61]; decide) (by decide) (by decide)).trans hf69
        have hf184 : K156.1 x9 = 1 := (BdE.T h165 hxT (by decide))
        have hf185 : K156.2.1 0 x9 = 35 := (BdE.I h165 (by rw [hxT]; decide) (by decide) (by decide)).trans hxk
        have hf186 : K156.2.2.1 0 x9 = some xb := (BdE.C h165 (by rw [hxT]; decide) 0).trans hxb0
        have hf187 : K156.1 xb = 1 := (BdE.T h165 hxbT (by decide))
        have hO : OKP G h0 a (upd (upd (upd (upd (upd (upd (upd (upd (upd (upd F 2 (nI sz)) 5 (nI cs158)) 6 (nI rg163)) 7 (nI hd)) 8 (nI dp162)) 12 (nI vr)) 13 as159) 14 wt160) 15 wf161) 16 ls164) (updR (updR (updR R 2 (.ref pq)) 3 (.ref mq)) 4 (va_rf lo)) Z B157 J K156 w := hO.to rfl
        refine W.widen (k := (c2 + (rE (g 2 x9) - rS (g 2 x9)))) (n := ((6 * c2) + (6 * (rE (g 2 x9) - rS (g 2 x9))))) (by show c2 + (rE (g 2 x9) - rS (g 2 x9)) ≤ (c2 + (rE (g 2 x9) - rS (g 2 x9))); omega) (by show (6 * c2) + (6 * (rE (g 2 x9) - rS (g 2 x9))) ≤ ((6 * c2) + (6 * (rE (g 2 x9) - rS (g 2 x9)))); omega) ?_
        refine W.eq (g2 := F0 m 151 ls []) rfl ?_
        have hbe188 := BdE.trans hbe2 h165
        have hbb189 : Bth B B157 := Bth.trans (show Thx (upd (upd (upd (upd (upd (upd (upd F 2 (nI sz)) 5 (nI cs)) 6 (nI rg)) 7 (nI hd)) 8 (nI dp)) 12 (nI vr)) 16 ls9) (upd (upd (upd (upd (upd (upd (upd (upd (upd (upd (upd (upd (upd (upd F 2 (nI sz)) 5 (nI cs)) 6 (nI rg)) 7 (nI hd)) 8 (nI dp)) 12 (nI vr)) 16 ls9) 5 (nI cs2)) 6 (nI rg144)) 8 (nI dp2)) 13 b5) 14 wt2) 15 wf2) 16 ls2) B (updA (updA (updA (updA (updA B2 20 f145) 21 f146) 22 f147) 23 f148) 24 f149) from (Thx.b (Thx.b (Thx.b (Thx.b (Thx.b (Thx.f (Thx.f (Thx.f (Thx.f (Thx.f (Thx.f (Thx.f (Bth.thx hbb2) (by omega)) (by omega)) (by omega)) (by omega)) (by omega)) (by omega)) (by omega)) (by omega) (by decide)) (by omega) (by decide)) (by omega) (by decide)) (by omega) (by decide)) (by omega) (by decide))).2 h166
        have hng190 : Nng (B157 18) := h166.2 hng2
        refine lv_aload_n hx hb dX0_tryStatement_151 rfl (lv_at hl 10 rfl) ?_
        refine c_get (v := .ref (a 2)) (C := RX0) (Tc := TX0) (N := 13) (ci := 0) hx hb hq pin_wsX00 hown hE hP hO 24 (sg_24 G h0 a _ _ _ _ _) rfl 1 (by decide) (hq _ pw_5) (fun _ h9 => h9) rfl dX0_tryStatement_152 ?_
        refine lv_iload_n hx hb dX0_tryStatement_155 rfl (lv_at hl 7 rfl) ?_
        refine lv_iload hx hb dX0_tryStatement_156 (lv_at hl 2 rfl) ?_
        refine lv_iload hx hb dX0_tryStatement_158 (lv_at hl 6 rfl) ?_
        have hO : OKW G h0 a (upd (upd (upd (upd (upd (upd (upd (upd (upd (upd (upd F 2 (nI sz)) 5 (nI cs158)) 6 (nI rg163)) 7 (nI hd)) 8 (nI dp162)) 12 (nI vr)) 13 as159) 14 wt160) 15 wf161) 16 ls164) 5 (nI cs158)) (updR (updR (updR R 2 (.ref pq)) 3 (.ref mq)) 4 (va_rf lo)) Z B157 J K156.1 (fun q99 x99 => x99 = rep G a K156 q99) w := hO.to rfl
        obtain ⟨_, qr194, hqr195⟩ := hO.2.1 13 _ (sg_13 G h0 a _ _ _ _ _)
        refine pc_V0 (G := G) (As := [.int 29, .int b8, .int (nI hd)]) (rest := []) hx hb hml hown hq hE hX pX0_al hP hD hS hA hl.1 (K_jump l G h0 a (upd (upd (upd (upd (upd (upd (upd (upd (upd (upd F 2 (nI sz)) 5 (nI cs158)) 6 (nI rg163)) 7 (nI hd)) 8 (nI dp162)) 12 (nI vr)) 13 as159) 14 wt160) 15 wf161) 16 ls164) (updR (updR (updR R 2 (.ref pq)) 3 (.ref mq)) 4 (va_rf lo)) Z B157 J K156.1 (fun q99 x99 => x99 = rep G a K156 q99) w 29 b8 hd cs158 (by omega) (by omega) hng190 hO) (gV pw_197 pw_198 pw_199 pw_70 pw_132) hV_X1_jump qr194 1 hqr195 rfl rfl rfl (Nat.le_of_ble_eq_true rfl) dX0_tryStatement_160 ⟨(by show (c2 + (rE (g 2 x9) - rS (g 2 x9))) + 0 ≤ ((rE (g 2 q) - rS (g 2 q)) + 1); omega), (by show ((6 * c2) + (6 * (rE (g 2 x9) - rS (g 2 x9)))) + 0 ≤ (6 * (rE (g 2 q) - rS (g 2 q)) + 6); omega)⟩ ⟨(by show 3 + 1 ≤ (5 * n + 46); omega), (by show 8 + (4 + 11) + 83 ≤ (200 * n + 1120); omega)⟩ (fun v193 u191 H locs hw192 hP hD hS => ?_)
        obtain ⟨w, cs196, f197, f198, f199, f200, r201⟩ := u191
        obtain ⟨hw192, h202, h203, hO⟩ := hw192
        have h202 : cs158 ≤ cs196 ∧ cs196 ≤ cs158 + 1 ∧ cs196 ≤ 10000 := h202
        have h203 : Nng f199 := h203
        obtain rfl : v193 = some (.int r201) := hw192
        have hO : OKP G h0 a (upd (upd (upd (upd (upd (upd (upd (upd (upd (upd F 2 (nI sz)) 5 (nI cs196)) 6 (nI rg163)) 7 (nI hd)) 8 (nI dp162)) 12 (nI vr)) 13 as159) 14 wt160) 15 wf161) 16 ls164) (updR (updR (updR R 2 (.ref pq)) 3 (.ref mq)) 4 (va_rf lo)) Z (updA (updA (updA (updA B157 16 f197) 17 f198) 18 f199) 19 f200) J K156 w := hO.to rfl
        refine W.widen (k := (c2 + (rE (g 2 x9) - rS (g 2 x9)))) (n := ((6 * c2) + (6 * (rE (g 2 x9) - rS (g 2 x9))))) (by show (c2 + (rE (g 2 x9) - rS (g 2 x9))) + 0 ≤ (c2 + (rE (g 2 x9) - rS (g 2 x9))); omega) (by show ((6 * c2) + (6 * (rE (g 2 x9) - rS (g 2 x9)))) + 0 ≤ ((6 * c2) + (6 * (rE (g 2 x9) - rS (g 2 x9)))); omega) ?_
        refine W.eq (g2 := F0 m 163 ls [.int r201]) rfl ?_
        refine lv_istore (lv' := [(8, .int r201), (10, .ref x9), (9, .int b9), (7, .int b7), (6, .int b6), (5, .int b5), (4, .int (nI hd)), (3, .int 29), (2, .int 1), (1, .ref q), (0, .ref (a 4))]) hx hb dX0_tryStatement_163 hl (by decide) rfl (fun ls hl => ?_)
        refine lv_iload hx hb dX0_tryStatement_165 (lv_at hl 2 rfl) ?_
        refine lv_aload_n hx hb dX0_tryStatement_167 rfl (lv_at hl 10 rfl) ?_
        refine c_get (v := .int as159) (C := RX0) (Tc := TX0) (N := 13) (ci := 0) hx hb hq pin_wsX00 hown hE hP hO 24 (sg_24 G h0 a _ _ _ _ _) rfl 8 (by decide) (hq _ pw_55) (fun _ h9 => h9) rfl dX0_tryStatement_168 ?_
        refine lv_iand hx hb dX0_tryStatement_171 ?_
        refine lv_topi (fun x204 e205 => ?_)
        refine lv_istore (lv' := [(9, .int x204), (8, .int r201), (10, .ref x9), (7, .int b7), (6, .int b6), (5, .int b5), (4, .int (nI hd)), (3, .int 29), (2, .int 1), (1, .ref q), (0, .ref (a 4))]) hx hb dX0_tryStatement_172 hl (by decide) rfl (fun ls hl => ?_)
        refine lv_aload hx hb dX0_tryStatement_174 (lv_at hl 2 rfl) ?_
        rcases ho207 : K156.2.2.1 4 x9 with _ | o206
        · skip
          refine p_get (v := .null) (C := RX7) (Tc := TX7) (N := 11) (ci := 13) hx hb hq pin_wsX70 hown hE hP hO (by rw [hf184]; decide) (rep_1 hf184) rfl 10 (by decide) (hq _ pw_170) (fun _ h9 => h9) (congrArg (fun z => some (va_rf z)) ho207) dX0_tryStatement_176 ?_
          refine lv_astoreN (lv' := [(10, .null), (9, .int x204), (8, .int r201), (7, .int b7), (6, .int b6), (5, .int b5), (4, .int (nI hd)), (3, .int 29), (2, .int 1), (1, .ref q), (0, .ref (a 4))]) hx hb dX0_tryStatement_179 hl (by decide) rfl (fun ls hl => ?_)
          refine lv_goto (tgt := 109) hx hb dX0_tryStatement_181 (by decide) ?_
          refine W.widen (k := (c2 + (rE (g 2 x9) - rS (g 2 x9)))) (n := (6 * (c2 + (rE (g 2 x9) - rS (g 2 x9))))) (by show (c2 + (rE (g 2 x9) - rS (g 2 x9))) ≤ _; omega) (by show ((6 * c2) + (6 * (rE (g 2 x9) - rS (g 2 x9)))) ≤ _; omega) ?_
          have hO : OKP G h0 a (upd (upd (upd (upd (upd (upd (upd (upd (upd (upd F 2 (nI sz)) 5 (nI cs196)) 6 (nI rg163)) 7 (nI hd)) 8 (nI dp162)) 12 (nI vr)) 13 as159) 14 wt160) 15 wf161) 16 ls164) (updR (updR (updR R 2 (.ref pq)) 3 (.ref mq)) 4 (va_rf lo)) Z (updA (updA (updA (updA B157 16 f197) 17 f198) 18 f199) 19 f200) J K156 w := hO.to rfl
          exact ih_g (g 2 x9 + 1) none K156 (updA (updA (updA (updA B157 16 f197) 17 f198) 18 f199) 19 f200) cs196 as159 wt160 wf161 dp162 rg163 ls164 (rE (g 2 x9)) (c2 + (rE (g 2 x9) - rS (g 2 x9))) b5 b6 b7 r201 x204 _ _ _ _ (by omega) (by omega) hbe188 ((show Thx (upd (upd (upd (upd (upd (upd (upd F 2 (nI sz)) 5 (nI cs)) 6 (nI rg)) 7 (nI hd)) 8 (nI dp)) 12 (nI vr)) 16 ls9) (upd (upd (upd (upd (upd (upd (upd (upd (upd (upd (upd (upd (upd (upd F 2 (nI sz)) 5 (nI cs)) 6 (nI rg)) 7 (nI hd)) 8 (nI dp)) 12 (nI vr)) 16 ls9) 5 (nI cs196)) 6 (nI rg163)) 8 (nI dp162)) 13 as159) 14 wt160) 15 wf161) 16 ls164) B (updA (updA (updA (updA B157 16 f197) 17 f198) 18 f199) 19 f200) from (Thx.b (Thx.b8 (Thx.b (Thx.b (Thx.f (Thx.f (Thx.f (Thx.f (Thx.f (Thx.f (Thx.f (Bth.thx hbb189) (by omega)) (by omega)) (by omega)) (by omega)) (by omega)) (by omega)) (by omega)) (by omega) (by decide)) (by omega) (by decide)) h203) (by omega) (by decide))).2) h203 (by omega) (MmO.next (BdE.wp hbe188 hwp).1 hqL.1 hf184 hxd.2.1 hxd.2.2.2.1 ho207) (by omega) hP hD hS hO (lv_sub hl [0, 1, 2, 3, 4, 5, 6, 7, 8, 9, 10] rfl)
        · skip
          refine p_get (v := .ref o206) (C := RX7) (Tc := TX7) (N := 11) (ci := 13) hx hb hq pin_wsX70 hown hE hP hO (by rw [hf184]; decide) (rep_1 hf184) rfl 10 (by decide) (hq _ pw_170) (fun _ h9 => h9) (congrArg (fun z => some (va_rf z)) ho207) dX0_tryStatement_176 ?_
          refine lv_astore (lv' := [(10, .ref o206), (9, .int x204), (8, .int r201), (7, .int b7), (6, .int b6), (5, .int b5), (4, .int (nI hd)), (3, .int 29), (2, .int 1), (1, .ref q), (0, .ref (a 4))]) hx hb dX0_tryStatement_179 hl (by decide) rfl (fun ls hl => ?_)
          refine lv_goto (tgt := 109) hx hb dX0_tryStatement_181 (by decide) ?_
          refine W.widen (k := (c2 + (rE (g 2 x9) - rS (g 2 x9)))) (n := (6 * (c2 + (rE (g 2 x9) - rS (g 2 x9))))) (by show (c2 + (rE (g 2 x9) - rS (g 2 x9))) ≤ _; omega) (by show ((6 * c2) + (6 * (rE (g 2 x9) - rS (g 2 x9)))) ≤ _; omega) ?_
          have hO : OKP G h0 a (upd (upd (upd (upd (upd (upd (upd (upd (upd (upd F 2 (nI sz)) 5 (nI cs196)) 6 (nI rg163)) 7 (nI hd)) 8 (nI dp162)) 12 (nI vr)) 13 as159) 14 wt160) 15 wf161) 16 ls164) (updR (updR (updR R 2 (.ref pq)) 3 (.ref mq)) 4 (va_rf lo)) Z (updA (updA (updA (updA B157 16 f197) 17 f198) 18 f199) 19 f200) J K156 w := hO.to rfl
          exact ih_g (g 2 x9 + 1) (some o206) K156 (updA (updA (updA (updA B157 16 f197) 17 f198) 18 f199) 19 f200) cs196 as159 wt160 wf161 dp162 rg163 ls164 (rE (g 2 x9)) (c2 + (rE (g 2 x9) - rS (g 2 x9))) b5 b6 b7 r201 x204 _ _ _ _ (by omega) (by omega) hbe188 ((show Thx (upd (upd (upd (upd (upd (upd (upd F 2 (nI sz)) 5 (nI cs)) 6 (nI rg)) 7 (nI hd)) 8 (nI dp)) 12 (nI vr)) 16 ls9) (upd (upd (upd (upd (upd (upd (upd (upd (upd (upd (upd (upd (upd (upd F 2 (nI sz)) 5 (nI cs)) 6 (nI rg)) 7 (nI hd)) 8 (nI dp)) 12 (nI vr)) 16 ls9) 5 (nI cs196)) 6 (nI rg163)) 8 (nI dp162)) 13 as159) 14 wt160) 15 wf161) 16 ls164) B (updA (updA (updA (updA B157 16 f197) 17 f198) 18 f199) 19 f200) from (Thx.b (Thx.b8 (Thx.b (Thx.b (Thx.f (Thx.f (Thx.f (Thx.f (Thx.f (Thx.f (Thx.f (Bth.thx hbb189) (by omega)) (by omega)) (by omega)) (by omega)) (by omega)) (by omega)) (by omega)) (by omega) (by decide)) (by omega) (by decide)) h203) (by omega) (by decide))).2) h203 (by omega) (MmO.next (BdE.wp hbe188 hwp).1 hqL.1 hf184 hxd.2.1 hxd.2.2.2.1 ho207) (by omega) hP hD hS hO (lv_sub hl [0, 1, 2, 3, 4, 5, 6, 7, 8, 9, 10] rfl)
  refine lv_aload_n hx hb dX0_tryStatement_103 rfl (lv_at hl 9 rfl) ?_
  rcases ho209 : K10.2.2.1 1 q with _ | o208
  · skip
    refine p_get (v := .null) (C := RX7) (Tc := TX7) (N := 11) (ci := 13) hx hb hq pin_wsX70 hown hE hP hO (by rw [hf29]; decide) (rep_1 hf29) rfl 7 (by decide) (hq _ pw_169) (fun _ h9 => h9) (congrArg (fun z => some (va_rf z)) ho209) dX0_tryStatement_104 ?_
    refine lv_astoreN (lv' := [(10, .null), (9, .int as13), (8, .int r51), (7, .int (nI cs12)), (6, .int (nI cs)), (5, .int (F 13)), (4, .int (nI hd)), (3, .int 29), (2, .int 1), (0, .ref (a 4)), (1, .ref q)]) hx hb dX0_tryStatement_107 hl (by decide) rfl (fun ls hl => ?_)
    refine W.widen (k := (rE (g 2 q1) - rS (g 2 q1) - 2)) (n := (6 * (rE (g 2 q1) - rS (g 2 q1) - 2))) (by show (rE (g 2 q1) - rS (g 2 q1) - 2) ≤ _; omega) (by show (6 * (rE (g 2 q1) - rS (g 2 q1) - 2)) ≤ _; omega) ?_
    have hO : OKP G h0 a (upd (upd (upd (upd (upd (upd (upd (upd (upd (upd F 2 (nI sz)) 5 (nI cs46)) 6 (nI rg17)) 7 (nI hd)) 8 (nI dp16)) 12 (nI vr)) 13 as13) 14 wt14) 15 wf15) 16 ls18) (updR (updR (updR R 2 (.ref pq)) 3 (.ref mq)) 4 (va_rf lo)) Z (updA (updA (updA (updA B11 16 f47) 17 f48) 18 f49) 19 f50) J K10 w := hO.to rfl
    exact loop_g (100000000000000000001 + 1) 0 none K10 (updA (updA (updA (updA B11 16 f47) 17 f48) 18 f49) 19 f50) cs46 as13 wt14 wf15 dp16 rg17 ls18 (rM (g 2 q)) (rE (g 2 q1) - rS (g 2 q1) - 2) (F 13) (nI cs) (nI cs12) r51 as13 _ _ _ _ (by omega) (by omega) hbe38 ((show Thx (upd (upd (upd (upd (upd (upd (upd F 2 (nI sz)) 5 (nI cs)) 6 (nI rg)) 7 (nI hd)) 8 (nI dp)) 12 (nI vr)) 16 ls9) (upd (upd (upd (upd (upd (upd (upd (upd (upd (upd (upd (upd (upd (upd F 2 (nI sz)) 5 (nI cs)) 6 (nI rg)) 7 (nI hd)) 8 (nI dp)) 12 (nI vr)) 16 ls9) 5 (nI cs46)) 6 (nI rg17)) 8 (nI dp16)) 13 as13) 14 wt14) 15 wf15) 16 ls18) B (updA (updA (updA (updA B11 16 f47) 17 f48) 18 f49) 19 f50) from (Thx.b (Thx.b8 (Thx.b (Thx.b (Thx.f (Thx.f (Thx.f (Thx.f (Thx.f (Thx.f (Thx.f (Bth.thx hbb39) (by omega)) (by omega)) (by omega)) (by omega)) (by omega)) (by omega)) (by omega)) (by omega) (by decide)) (by omega) (by decide)) h53) (by omega) (by decide))).2) h53 (by omega) (MmO.first32 (BdE.wp hbe38 hwp).1 hf29 hqL.1 hf37 ho209) (by omega) hP hD hS hO (lv_sub hl [0, 1, 2, 3, 4, 5, 6, 7, 8, 10, 9] rfl)
  · skip
    refine p_get (v := .ref o208) (C := RX7) (Tc := TX7) (N := 11) (ci := 13) hx hb hq pin_wsX70 hown hE hP hO (by rw [hf29]; decide) (rep_1 hf29) rfl 7 (by decide) (hq _ pw_169) (fun _ h9 => h9) (congrArg (fun z => some (va_rf z)) ho209) dX0_tryStatement_104 ?_
    refine lv_astore (lv' := [(10, .ref o208), (9, .int as13), (8, .int r51), (7, .int (nI cs12)), (6, .int (nI cs)), (5, .int (F 13)), (4, .int (nI hd)), (3, .int 29), (2, .int 1), (0, .ref (a 4)), (1, .ref q)]) hx hb dX0_tryStatement_107 hl (by decide) rfl (fun ls hl => ?_)
    refine W.widen (k := (rE (g 2 q1) - rS (g 2 q1) - 2)) (n := (6 * (rE (g 2 q1) - rS (g 2 q1) - 2))) (by show (rE (g 2 q1) - rS (g 2 q1) - 2) ≤ _; omega) (by show (6 * (rE (g 2 q1) - rS (g 2 q1) - 2)) ≤ _; omega) ?_
    have hO : OKP G h0 a (upd (upd (upd (upd (upd (upd (upd (upd (upd (upd F 2 (nI sz)) 5 (nI cs46)) 6 (nI rg17)) 7 (nI hd)) 8 (nI dp16)) 12 (nI vr)) 13 as13) 14 wt14) 15 wf15) 16 ls18) (updR (updR (updR R 2 (.ref pq)) 3 (.ref mq)) 4 (va_rf lo)) Z (updA (updA (updA (updA B11 16 f47) 17 f48) 18 f49) 19 f50) J K10 w := hO.to rfl
    exact loop_g (100000000000000000001 + 1) 0 (some o208) K10 (updA (updA (updA (updA B11 16 f47) 17 f48) 18 f49) 19 f50) cs46 as13 wt14 wf15 dp16 rg17 ls18 (rM (g 2 q)) (rE (g 2 q1) - rS (g 2 q1) - 2) (F 13) (nI cs) (nI cs12) r51 as13 _ _ _ _ (by omega) (by omega) hbe38 ((show Thx (upd (upd (upd (upd (upd (upd (upd F 2 (nI sz)) 5 (nI cs)) 6 (nI rg)) 7 (nI hd)) 8 (nI dp)) 12 (nI vr)) 16 ls9) (upd (upd (upd (upd (upd (upd (upd (upd (upd (upd (upd (upd (upd (upd F 2 (nI sz)) 5 (nI cs)) 6 (nI rg)) 7 (nI hd)) 8 (nI dp)) 12 (nI vr)) 16 ls9) 5 (nI cs46)) 6 (nI rg17)) 8 (nI dp16)) 13 as13) 14 wt14) 15 wf15) 16 ls18) B (updA (updA (updA (updA B11 16 f47) 17 f48) 18 f49) 19 f50) from (Thx.b (Thx.b8 (Thx.b (Thx.b (Thx.f (Thx.f (Thx.f (Thx.f (Thx.f (Thx.f (Thx.f (Bth.thx hbb39) (by omega)) (by omega)) (by omega)) (by omega)) (by omega)) (by omega)) (by omega)) (by omega) (by decide)) (by omega) (by decide)) h53) (by omega) (by decide))).2) h53 (by omega) (MmO.first32 (BdE.wp hbe38 hwp).1 hf29 hqL.1 hf37 ho209) (by omega) hP hD hS hO (lv_sub hl [0, 1, 2, 3, 4, 5, 6, 7, 8, 10, 9] rfl)
