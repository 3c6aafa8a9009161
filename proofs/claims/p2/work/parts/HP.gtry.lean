theorem MmO.be {K K1 : PK} {g : Nat → Nat → Nat} {q t k : Nat} {o : Option Nat} (hb : BdE K K1) (h : MmO K g q o t k) : MmO K1 g q o t k := fun x hx => ⟨hb.T (h x hx).1 (by decide), (h x hx).2⟩
theorem dX0_tryStatement_0 : decode cX0_tryStatement 0 = .ok (.aload_n 1, 1) := by decide +kernel
theorem dX0_tryStatement_1 : decode cX0_tryStatement 1 = .ok (.getfield 247, 3) := by decide +kernel
theorem dX0_tryStatement_4 : decode cX0_tryStatement 4 = .ok (.ifnull 7, 3) := by decide +kernel
theorem dX0_tryStatement_11 : decode cX0_tryStatement 11 = .ok (.iconst 0, 1) := by decide +kernel
theorem dX0_tryStatement_12 : decode cX0_tryStatement 12 = .ok (.istore_n 2, 1) := by decide +kernel
theorem dX0_tryStatement_13 : decode cX0_tryStatement 13 = .ok (.iload_n 2, 1) := by decide +kernel
theorem dX0_tryStatement_14 : decode cX0_tryStatement 14 = .ok (.ifCond .eq 8, 3) := by decide +kernel
theorem dX0_tryStatement_22 : decode cX0_tryStatement 22 = .ok (.bipush 6, 2) := by decide +kernel
theorem dX0_tryStatement_24 : decode cX0_tryStatement 24 = .ok (.istore_n 3, 1) := by decide +kernel
theorem dX0_tryStatement_25 : decode cX0_tryStatement 25 = .ok (.aload_n 0, 1) := by decide +kernel
theorem dX0_tryStatement_26 : decode cX0_tryStatement 26 = .ok (.getfield 15, 3) := by decide +kernel
theorem dX0_tryStatement_29 : decode cX0_tryStatement 29 = .ok (.getfield 158, 3) := by decide +kernel
theorem dX0_tryStatement_32 : decode cX0_tryStatement 32 = .ok (.istore 4, 2) := by decide +kernel
theorem dX0_tryStatement_34 : decode cX0_tryStatement 34 = .ok (.aload_n 0, 1) := by decide +kernel
theorem dX0_tryStatement_35 : decode cX0_tryStatement 35 = .ok (.getfield 94, 3) := by decide +kernel
theorem dX0_tryStatement_38 : decode cX0_tryStatement 38 = .ok (.istore 5, 2) := by decide +kernel
theorem dX0_tryStatement_40 : decode cX0_tryStatement 40 = .ok (.aload_n 0, 1) := by decide +kernel
theorem dX0_tryStatement_41 : decode cX0_tryStatement 41 = .ok (.dup, 1) := by decide +kernel
theorem dX0_tryStatement_42 : decode cX0_tryStatement 42 = .ok (.getfield 88, 3) := by decide +kernel
theorem dX0_tryStatement_45 : decode cX0_tryStatement 45 = .ok (.iload_n 2, 1) := by decide +kernel
theorem dX0_tryStatement_46 : decode cX0_tryStatement 46 = .ok (.ifCond .eq 7, 3) := by decide +kernel
theorem dX0_tryStatement_53 : decode cX0_tryStatement 53 = .ok (.iconst 0, 1) := by decide +kernel
theorem dX0_tryStatement_54 : decode cX0_tryStatement 54 = .ok (.iadd, 1) := by decide +kernel
theorem dX0_tryStatement_55 : decode cX0_tryStatement 55 = .ok (.putfield 88, 3) := by decide +kernel
theorem dX0_tryStatement_58 : decode cX0_tryStatement 58 = .ok (.aload_n 0, 1) := by decide +kernel
theorem dX0_tryStatement_59 : decode cX0_tryStatement 59 = .ok (.getfield 15, 3) := by decide +kernel
theorem dX0_tryStatement_62 : decode cX0_tryStatement 62 = .ok (.getfield 99, 3) := by decide +kernel
theorem dX0_tryStatement_65 : decode cX0_tryStatement 65 = .ok (.istore 6, 2) := by decide +kernel
theorem dX0_tryStatement_67 : decode cX0_tryStatement 67 = .ok (.aload_n 0, 1) := by decide +kernel
theorem dX0_tryStatement_68 : decode cX0_tryStatement 68 = .ok (.aload_n 1, 1) := by decide +kernel
theorem dX0_tryStatement_69 : decode cX0_tryStatement 69 = .ok (.getfield 165, 3) := by decide +kernel
theorem dX0_tryStatement_72 : decode cX0_tryStatement 72 = .ok (.invokevirtual 77, 3) := by decide +kernel
theorem dX0_tryStatement_75 : decode cX0_tryStatement 75 = .ok (.aload_n 0, 1) := by decide +kernel
theorem dX0_tryStatement_76 : decode cX0_tryStatement 76 = .ok (.getfield 15, 3) := by decide +kernel
theorem dX0_tryStatement_79 : decode cX0_tryStatement 79 = .ok (.getfield 99, 3) := by decide +kernel
theorem dX0_tryStatement_82 : decode cX0_tryStatement 82 = .ok (.istore 7, 2) := by decide +kernel
theorem dX0_tryStatement_84 : decode cX0_tryStatement 84 = .ok (.aload_n 0, 1) := by decide +kernel
theorem dX0_tryStatement_85 : decode cX0_tryStatement 85 = .ok (.getfield 15, 3) := by decide +kernel
theorem dX0_tryStatement_88 : decode cX0_tryStatement 88 = .ok (.iload_n 3, 1) := by decide +kernel
theorem dX0_tryStatement_89 : decode cX0_tryStatement 89 = .ok (.iconst (-1), 1) := by decide +kernel
theorem dX0_tryStatement_90 : decode cX0_tryStatement 90 = .ok (.iload 4, 2) := by decide +kernel
theorem dX0_tryStatement_92 : decode cX0_tryStatement 92 = .ok (.invokevirtual 243, 3) := by decide +kernel
theorem dX0_tryStatement_95 : decode cX0_tryStatement 95 = .ok (.istore 8, 2) := by decide +kernel
theorem dX0_tryStatement_97 : decode cX0_tryStatement 97 = .ok (.aload_n 0, 1) := by decide +kernel
theorem dX0_tryStatement_98 : decode cX0_tryStatement 98 = .ok (.getfield 94, 3) := by decide +kernel
theorem dX0_tryStatement_101 : decode cX0_tryStatement 101 = .ok (.istore 9, 2) := by decide +kernel
theorem dX0_tryStatement_103 : decode cX0_tryStatement 103 = .ok (.aload_n 1, 1) := by decide +kernel
theorem dX0_tryStatement_104 : decode cX0_tryStatement 104 = .ok (.getfield 202, 3) := by decide +kernel
theorem dX0_tryStatement_107 : decode cX0_tryStatement 107 = .ok (.astore 10, 2) := by decide +kernel
theorem dX0_tryStatement_109 : decode cX0_tryStatement 109 = .ok (.aload 10, 2) := by decide +kernel
theorem dX0_tryStatement_111 : decode cX0_tryStatement 111 = .ok (.ifnull 73, 3) := by decide +kernel
theorem dX0_tryStatement_184 : decode cX0_tryStatement 184 = .ok (.aload_n 0, 1) := by decide +kernel
theorem dX0_tryStatement_185 : decode cX0_tryStatement 185 = .ok (.dup, 1) := by decide +kernel
theorem dX0_tryStatement_186 : decode cX0_tryStatement 186 = .ok (.getfield 88, 3) := by decide +kernel
theorem dX0_tryStatement_189 : decode cX0_tryStatement 189 = .ok (.iload_n 2, 1) := by decide +kernel
theorem dX0_tryStatement_190 : decode cX0_tryStatement 190 = .ok (.ifCond .eq 7, 3) := by decide +kernel
theorem dX0_tryStatement_197 : decode cX0_tryStatement 197 = .ok (.iconst 0, 1) := by decide +kernel
theorem dX0_tryStatement_198 : decode cX0_tryStatement 198 = .ok (.isub, 1) := by decide +kernel
theorem dX0_tryStatement_199 : decode cX0_tryStatement 199 = .ok (.putfield 88, 3) := by decide +kernel
theorem dX0_tryStatement_202 : decode cX0_tryStatement 202 = .ok (.aload_n 0, 1) := by decide +kernel
theorem dX0_tryStatement_203 : decode cX0_tryStatement 203 = .ok (.getfield 15, 3) := by decide +kernel
theorem dX0_tryStatement_206 : decode cX0_tryStatement 206 = .ok (.iload 8, 2) := by decide +kernel
theorem dX0_tryStatement_208 : decode cX0_tryStatement 208 = .ok (.invokevirtual 250, 3) := by decide +kernel
theorem dX0_tryStatement_211 : decode cX0_tryStatement 211 = .ok (.aload_n 0, 1) := by decide +kernel
theorem dX0_tryStatement_212 : decode cX0_tryStatement 212 = .ok (.iload 9, 2) := by decide +kernel
theorem dX0_tryStatement_214 : decode cX0_tryStatement 214 = .ok (.putfield 94, 3) := by decide +kernel
theorem dX0_tryStatement_217 : decode cX0_tryStatement 217 = .ok (.iload_n 2, 1) := by decide +kernel
theorem dX0_tryStatement_218 : decode cX0_tryStatement 218 = .ok (.ifCond .eq 49, 3) := by decide +kernel
theorem dX0_tryStatement_267 : decode cX0_tryStatement 267 = .ok (.return_, 1) := by decide +kernel
theorem dX0_tryStatement_114 : decode cX0_tryStatement 114 = .ok (.aload_n 0, 1) := by decide +kernel
theorem dX0_tryStatement_115 : decode cX0_tryStatement 115 = .ok (.getfield 15, 3) := by decide +kernel
theorem dX0_tryStatement_118 : decode cX0_tryStatement 118 = .ok (.iload 6, 2) := by decide +kernel
theorem dX0_tryStatement_120 : decode cX0_tryStatement 120 = .ok (.iload 7, 2) := by decide +kernel
theorem dX0_tryStatement_122 : decode cX0_tryStatement 122 = .ok (.aload_n 0, 1) := by decide +kernel
theorem dX0_tryStatement_123 : decode cX0_tryStatement 123 = .ok (.getfield 9, 3) := by decide +kernel
theorem dX0_tryStatement_126 : decode cX0_tryStatement 126 = .ok (.aload 10, 2) := by decide +kernel
theorem dX0_tryStatement_128 : decode cX0_tryStatement 128 = .ok (.getfield 117, 3) := by decide +kernel
theorem dX0_tryStatement_131 : decode cX0_tryStatement 131 = .ok (.invokevirtual 120, 3) := by decide +kernel
theorem dX0_tryStatement_134 : decode cX0_tryStatement 134 = .ok (.iload 4, 2) := by decide +kernel
theorem dX0_tryStatement_136 : decode cX0_tryStatement 136 = .ok (.invokevirtual 284, 3) := by decide +kernel
theorem dX0_tryStatement_139 : decode cX0_tryStatement 139 = .ok (.aload_n 0, 1) := by decide +kernel
theorem dX0_tryStatement_140 : decode cX0_tryStatement 140 = .ok (.iload 5, 2) := by decide +kernel
theorem dX0_tryStatement_142 : decode cX0_tryStatement 142 = .ok (.putfield 94, 3) := by decide +kernel
theorem dX0_tryStatement_145 : decode cX0_tryStatement 145 = .ok (.aload_n 0, 1) := by decide +kernel
theorem dX0_tryStatement_146 : decode cX0_tryStatement 146 = .ok (.aload 10, 2) := by decide +kernel
theorem dX0_tryStatement_148 : decode cX0_tryStatement 148 = .ok (.invokevirtual 288, 3) := by decide +kernel
theorem dX0_tryStatement_151 : decode cX0_tryStatement 151 = .ok (.aload_n 0, 1) := by decide +kernel
theorem dX0_tryStatement_152 : decode cX0_tryStatement 152 = .ok (.getfield 15, 3) := by decide +kernel
theorem dX0_tryStatement_155 : decode cX0_tryStatement 155 = .ok (.iload_n 3, 1) := by decide +kernel
theorem dX0_tryStatement_156 : decode cX0_tryStatement 156 = .ok (.iload 8, 2) := by decide +kernel
theorem dX0_tryStatement_158 : decode cX0_tryStatement 158 = .ok (.iload 4, 2) := by decide +kernel
theorem dX0_tryStatement_160 : decode cX0_tryStatement 160 = .ok (.invokevirtual 243, 3) := by decide +kernel
theorem dX0_tryStatement_163 : decode cX0_tryStatement 163 = .ok (.istore 8, 2) := by decide +kernel
theorem dX0_tryStatement_165 : decode cX0_tryStatement 165 = .ok (.iload 9, 2) := by decide +kernel
theorem dX0_tryStatement_167 : decode cX0_tryStatement 167 = .ok (.aload_n 0, 1) := by decide +kernel
theorem dX0_tryStatement_168 : decode cX0_tryStatement 168 = .ok (.getfield 94, 3) := by decide +kernel
theorem dX0_tryStatement_171 : decode cX0_tryStatement 171 = .ok (.iand, 1) := by decide +kernel
theorem dX0_tryStatement_172 : decode cX0_tryStatement 172 = .ok (.istore 9, 2) := by decide +kernel
theorem dX0_tryStatement_174 : decode cX0_tryStatement 174 = .ok (.aload 10, 2) := by decide +kernel
theorem dX0_tryStatement_176 : decode cX0_tryStatement 176 = .ok (.getfield 172, 3) := by decide +kernel
theorem dX0_tryStatement_179 : decode cX0_tryStatement 179 = .ok (.astore 10, 2) := by decide +kernel
theorem dX0_tryStatement_181 : decode cX0_tryStatement 181 = .ok (.goto (-72), 3) := by decide +kernel
theorem hV_X1_addRegion : yX1_addRegion.cls = RX1 ∧ yX1_addRegion.cls ≠ "java/lang/invoke/MethodHandle" ∧ yX1_addRegion.cls ≠ "java/lang/invoke/VarHandle" ∧ (parseMethodDescriptor yX1_addRegion.desc).map (fun d => d.parameters.length) = some 4 := by decide +kernel
theorem hV_X0_catchBlock : yX0_catchBlock.cls = RX0 ∧ yX0_catchBlock.cls ≠ "java/lang/invoke/MethodHandle" ∧ yX0_catchBlock.cls ≠ "java/lang/invoke/VarHandle" ∧ (parseMethodDescriptor yX0_catchBlock.desc).map (fun d => d.parameters.length) = some 1 := by decide +kernel
set_option maxHeartbeats 40000000 in
set_option maxRecDepth 100000 in
theorem B_tryN (l : Launch) (G : pT) (h0 : Nat) (a : Nat → Nat) (F : Nat → Int32) (R : Nat → Value) (Z : Int64) (B : Nat → Nat → Int32) (J : Nat → Nat → Int64) (K : PK) (w : va_W) (pq : Nat) (dr : Nat) (ml : Nat) (nd : Nat) (nm : Nat) (cp : Nat) (it : Nat → Nat) (s9 : Nat) (q : Nat) (mq : Nat) (cs : Nat) (vr : Nat) (sz : Nat) (n : Nat) (q1 : Nat) (hd : Nat) (dp : Nat) (rg : Nat) (ls9 : Int32) (lo : Option Nat) (g : Nat → Nat → Nat) (rk : Nat → Nat) (hsz : sz ≤ 5000) (hwp : WPr G K g) (hps : PgT G K g (a 1) pq dr ml nd nm cp it s9) (hrk : RkO K rk) (hcs : cs ≤ 10000) (hvr : vr ≤ 30) (hng : Nng (B 18)) (hmq : K.1 mq = 3) (hqT : K.1 q = 1) (hqL : 1 ≤ g 0 q ∧ g 0 q ≤ n) (hc0 : K.2.2.1 0 q = some q1) (ht0 : K.1 q1 = 1) (hv0 : 1 ≤ g 0 q1 ∧ g 0 q1 + 1 ≤ n) (hdp : dp ≤ 1000) (hrg : rg ≤ 625) (hhd : hd + 2 * n + 30 ≤ 900 + vr) (hlo : LpO K lo) (hkd : K.2.1 0 q = 32) (hc2 : K.2.2.1 2 q = none) (ist : IhT l G n) (ihv : IhV l G n) (hO : OKP G h0 a (upd (upd (upd (upd (upd (upd (upd F 2 (nI sz)) 5 (nI cs)) 6 (nI rg)) 7 (nI hd)) 8 (nI dp)) 12 (nI vr)) 16 ls9) (updR (updR (updR R 2 (.ref pq)) 3 (.ref mq)) 4 (va_rf lo)) Z B J K w) (hl0 : l.stackTraces = false) : PBn l G pX0 yX0_tryStatement cX0_tryStatement 11 none ({ frames := (5 * n + 46), cells := ((rE (g 2 q) - rS (g 2 q)) + 1), slots := (6 * (rE (g 2 q) - rS (g 2 q)) + 6), locals := (200 * n + 1120) }) [.ref (a 4), .ref q] w (fun (v : Option Value) (u : va_W × (PK × (Nat → Nat → Int32) × Nat × Int32 × Int32 × Int32 × Nat × Nat × Nat × Nat × Int32)) => v = none ∧ (BdE K u.2.1) ∧ (Bth B u.2.2.1) ∧ (u.2.2.2.1 ≤ 10000 ∧ u.2.2.2.2.2.2.2.2.2.2.1 ≤ 625 ∧ u.2.2.2.2.2.2.2.2.2.1 ≤ 1000) ∧ (vr ≤ u.2.2.2.2.2.2.2.1 ∧ u.2.2.2.2.2.2.2.1 ≤ 30 ∧ u.2.2.2.2.2.2.2.2.1 + vr = hd + u.2.2.2.2.2.2.2.1) ∧ (OKP G h0 a (upd (upd (upd (upd (upd (upd (upd (upd (upd (upd F 2 (nI sz)) 5 (nI u.2.2.2.1)) 6 (nI u.2.2.2.2.2.2.2.2.2.2.1)) 7 (nI u.2.2.2.2.2.2.2.2.1)) 8 (nI u.2.2.2.2.2.2.2.2.2.1)) 12 (nI u.2.2.2.2.2.2.2.1)) 13 u.2.2.2.2.1) 14 u.2.2.2.2.2.1) 15 u.2.2.2.2.2.2.1) 16 u.2.2.2.2.2.2.2.2.2.2.2) (updR (updR (updR R 2 (.ref pq)) 3 (.ref mq)) 4 (va_rf lo)) Z u.2.2.1 J u.2.1 u.1)) (fun u => u.1) (fun (u : va_W × (PK × (Nat → Nat → Int32) × Nat × Int32 × Int32 × Int32 × Nat × Nat × Nat × Nat × Int32)) => (rE (g 2 q) - rS (g 2 q))) (fun (u : va_W × (PK × (Nat → Nat → Int32) × Nat × Int32 × Int32 × Int32 × Nat × Nat × Nat × Nat × Int32)) => (6 * (rE (g 2 q) - rS (g 2 q)))) (fun (u : va_W × (Nat → Int32) × (Nat → Value) × (Nat → Nat → Int32)) => ThQ G h0 a (upd (upd (upd (upd (upd (upd (upd F 2 (nI sz)) 5 (nI cs)) 6 (nI rg)) 7 (nI hd)) 8 (nI dp)) 12 (nI vr)) 16 ls9) Z B J u) (fun u => u.1) := by
  intro sz
  refine vx_ofW (cc := cX0_tryStatement) (maxL := 11) (ret := none) (by decide) rfl ?_
  intro p e s m args below meth c s₁ B9 hml hnt hv
  obtain ⟨rfl, hsz, hP, hD0, hE, hX⟩ := hv
  have hx := B9.exec
  have hb := B9.bytes
  have hr := B9.returns
  have hts := atoms_spec (ws := Cond.code yX0_tryStatement cX0_tryStatement 11 none :: pw) B9.pre
  have hq : ∀ w ∈ pw, w.before _ s = true := fun w h => hts w (List.mem_cons_of_mem _ h)
  have hown : s.vm.findClass RX0 = some m.cls := findClass_of_methodNamed B9.named
  have hlocks := B9.notSynchronized
  subst hsz
  have hD := hD0.self (sz := s.heap.size)
  have hA : ∀ q : Nat, s.heap.size ≤ q → va_A w s.heap.size q := fun q h => Or.inr h
  generalize va_A w s.heap.size = A at hD hE hA ⊢
  have hS : va_S A s.heap s.heap [] := va_S.rf
  have hl := lv_entry ([.ref (a 4), .ref q]) (n := 11) (Nat.le_of_ble_eq_true rfl)
  rw [lg_entry_eq]
  generalize (lg_sl ([.ref (a 4), .ref q]) ++ List.replicate (11 - (lg_sl ([.ref (a 4), .ref q])).length) Slot.unset).toArray = ls at hl ⊢
  have hl : lv_has ls 11 [(0, .ref (a 4)), (1, .ref q)] := hl
  have hpg := hps.1
  have hp1 := hpg.1
  have hp2 := hpg.2.1
  have hp3 := hpg.2.2.1
  have hp4 := hpg.2.2.2.1
  have hp5 := hpg.2.2.2.2.1
  have hp6 := hpg.2.2.2.2.2.1
  have hp8 := hpg.2.2.2.2.2.2.2.1
  have hp9 := hpg.2.2.2.2.2.2.2.2
  have hnd := hwp.1 q hqT hqL.1
  have hiq := hnd.it
  have hri0 := NdO.iv32a hnd hkd hc0
  have hrx0 := (hwp.1 q1 ht0 hv0.1).it
  have hk1 := NdO.k32 hnd hkd (by decide) (by decide) hc0
  obtain ⟨ob, hob⟩ : ∃ z : Option Nat, K.2.2.1 1 q = z := ⟨_, rfl⟩
  refine lv_aload_n hx hb dX0_tryStatement_0 rfl (lv_at hl 1 rfl) ?_
  refine p_get (v := .null) (C := RX7) (Tc := TX7) (N := 11) (ci := 13) hx hb hq pin_wsX70 hown hE hP hO (by rw [hqT]; decide) (rep_1 hqT) rfl 8 (by decide) (hq _ pw_196) (fun _ h9 => h9) (congrArg (fun z => some (va_rf z)) hc2) dX0_tryStatement_1 ?_
  refine lv_ifnullN (tgt := 11) hx hb dX0_tryStatement_4 (by decide) ?_
  refine lv_iconst (v := 0) hx hb dX0_tryStatement_11 (by decide) ?_
  refine lv_istore_n (lv' := [(2, .int 0), (0, .ref (a 4)), (1, .ref q)]) hx hb dX0_tryStatement_12 rfl hl (by decide) rfl (fun ls hl => ?_)
  refine lv_iload_n hx hb dX0_tryStatement_13 rfl (lv_at hl 0 rfl) ?_
  refine lv_if_eq (tgt := 22) hx hb dX0_tryStatement_14 (by decide) (fun c1 => ?_) (fun c1 => absurd c1 (by decide))
  refine lv_bipush (v := 6) hx hb dX0_tryStatement_22 (by decide) ?_
  refine lv_istore_n (lv' := [(3, .int 6), (2, .int 0), (0, .ref (a 4)), (1, .ref q)]) hx hb dX0_tryStatement_24 rfl hl (by decide) rfl (fun ls hl => ?_)
  refine lv_aload_n hx hb dX0_tryStatement_25 rfl (lv_at hl 2 rfl) ?_
  refine c_get (v := .ref (a 2)) (C := RX0) (Tc := TX0) (N := 13) (ci := 0) hx hb hq pin_wsX00 hown hE hP hO 24 (sg_24 G h0 a _ _ _ _ _) rfl 1 (by decide) (hq _ pw_5) (fun _ h9 => h9) rfl dX0_tryStatement_26 ?_
  refine c_get (v := .int (nI hd)) (C := RX1) (Tc := TX1) (N := 13) (ci := 1) hx hb hq pin_wsX10 hown hE hP hO 13 (sg_13 G h0 a _ _ _ _ _) rfl 11 (by decide) (hq _ pw_54) (fun _ h9 => h9) rfl dX0_tryStatement_29 ?_
  refine lv_istore (lv' := [(4, .int (nI hd)), (3, .int 6), (2, .int 0), (0, .ref (a 4)), (1, .ref q)]) hx hb dX0_tryStatement_32 hl (by decide) rfl (fun ls hl => ?_)
  refine lv_aload_n hx hb dX0_tryStatement_34 rfl (lv_at hl 3 rfl) ?_
  refine c_get (v := .int (F 13)) (C := RX0) (Tc := TX0) (N := 13) (ci := 0) hx hb hq pin_wsX00 hown hE hP hO 24 (sg_24 G h0 a _ _ _ _ _) rfl 8 (by decide) (hq _ pw_55) (fun _ h9 => h9) rfl dX0_tryStatement_35 ?_
  refine lv_istore (lv' := [(5, .int (F 13)), (4, .int (nI hd)), (3, .int 6), (2, .int 0), (0, .ref (a 4)), (1, .ref q)]) hx hb dX0_tryStatement_38 hl (by decide) rfl (fun ls hl => ?_)
  refine lv_aload_n hx hb dX0_tryStatement_40 rfl (lv_at hl 4 rfl) ?_
  refine lv_dup hx hb dX0_tryStatement_41 rfl ?_
  refine c_get (v := .int ls9) (C := RX0) (Tc := TX0) (N := 13) (ci := 0) hx hb hq pin_wsX00 hown hE hP hO 24 (sg_24 G h0 a _ _ _ _ _) rfl 12 (by decide) (hq _ pw_74) (fun _ h9 => h9) rfl dX0_tryStatement_42 ?_
  refine lv_iload_n hx hb dX0_tryStatement_45 rfl (lv_at hl 3 rfl) ?_
  refine lv_if_eq (tgt := 53) hx hb dX0_tryStatement_46 (by decide) (fun c2 => ?_) (fun c2 => absurd c2 (by decide))
  refine lv_iconst (v := 0) hx hb dX0_tryStatement_53 (by decide) ?_
  refine lv_iadd hx hb dX0_tryStatement_54 ?_
  refine lv_topi (fun x3 e4 => ?_)
  refine c_put (v := .int x3) (ty := .int) (C := RX0) (Tc := TX0) (N := 13) (ci := 0) hx hb hq pin_wsX00 tyX0 tyX0_ok nmX0 hown hE hP hD hS hO 24 (sg_24 G h0 a _ _ _ _ _) rfl 12 (by decide) (hq _ pw_74) (fun _ h9 => h9) rfl (by decide +kernel) rfl rfl (Nat.le_of_ble_eq_true rfl) (sf_16 G h0 a _ _ _ _ _ x3) dX0_tryStatement_55 (fun H locs w hP hD hS hO => ?_)
  refine lv_aload_n hx hb dX0_tryStatement_58 rfl (lv_at hl 4 rfl) ?_
  refine c_get (v := .ref (a 2)) (C := RX0) (Tc := TX0) (N := 13) (ci := 0) hx hb hq pin_wsX00 hown hE hP hO 24 (sg_24 G h0 a _ _ _ _ _) rfl 1 (by decide) (hq _ pw_5) (fun _ h9 => h9) rfl dX0_tryStatement_59 ?_
  refine c_get (v := .int (nI cs)) (C := RX1) (Tc := TX1) (N := 13) (ci := 1) hx hb hq pin_wsX10 hown hE hP hO 13 (sg_13 G h0 a _ _ _ _ _) rfl 4 (by decide) (hq _ pw_75) (fun _ h9 => h9) rfl dX0_tryStatement_62 ?_
  refine lv_istore (lv' := [(6, .int (nI cs)), (5, .int (F 13)), (4, .int (nI hd)), (3, .int 6), (2, .int 0), (0, .ref (a 4)), (1, .ref q)]) hx hb dX0_tryStatement_65 hl (by decide) rfl (fun ls hl => ?_)
  refine lv_aload_n hx hb dX0_tryStatement_67 rfl (lv_at hl 5 rfl) ?_
  refine lv_aload_n hx hb dX0_tryStatement_68 rfl (lv_at hl 6 rfl) ?_
  refine p_get (v := .ref q1) (C := RX7) (Tc := TX7) (N := 11) (ci := 13) hx hb hq pin_wsX70 hown hE hP hO (by rw [hqT]; decide) (rep_1 hqT) rfl 6 (by decide) (hq _ pw_180) (fun _ h9 => h9) (congrArg (fun z => some (va_rf z)) hc0) dX0_tryStatement_69 ?_
  have hO : OKP G h0 a (upd (upd (upd (upd (upd (upd (upd (upd (upd (upd (upd (upd (upd (upd (upd F 2 (nI sz)) 5 (nI cs)) 6 (nI rg)) 7 (nI hd)) 8 (nI dp)) 12 (nI vr)) 16 ls9) 16 x3) 2 (nI sz)) 5 (nI cs)) 6 (nI rg)) 7 (nI hd)) 8 (nI dp)) 12 (nI vr)) 16 x3) (updR (updR (updR (updR (updR (updR R 2 (.ref pq)) 3 (.ref mq)) 4 (va_rf lo)) 2 (.ref pq)) 3 (.ref mq)) 4 (va_rf lo)) Z B J K w := hO.to rfl
  obtain ⟨_, qr8, hqr9⟩ := hO.2.1 24 _ (sg_24 G h0 a _ _ _ _ _)
  refine pn_V0 (G := G) (As := [.ref q1]) (rest := []) hx hb hml hown hq hE hX pX0_al hP hD hS hA hl.1 (B_block l G h0 a (upd (upd (upd (upd (upd (upd (upd (upd F 2 (nI sz)) 5 (nI cs)) 6 (nI rg)) 7 (nI hd)) 8 (nI dp)) 12 (nI vr)) 16 ls9) 16 x3) (updR (updR (updR R 2 (.ref pq)) 3 (.ref mq)) 4 (va_rf lo)) Z B J K w pq dr ml nd nm cp it s9 q1 mq cs vr sz (n - 1) hd dp rg x3 lo g rk (by omega) (BdE.wp BdE.rfl hwp) (BdE.pt BdE.rfl hwp hps) (BdE.rko BdE.rfl hrk) (by omega) (by omega) hng hmq ht0 ⟨hv0.1, (by have z9 := hv0; omega)⟩ (by omega) (by omega) (by omega) (LpO.be BdE.rfl hlo) hk1 (IhT.lo ist) (IhV.all l G _) hO hl0) (gV pw_307 pw_308 pw_309 pw_63 pw_358) hV_X0_block qr8 0 hqr9 rfl rfl rfl (Nat.le_of_ble_eq_true rfl) dX0_tryStatement_72 ⟨(by show 0 + ((rE (g 2 q1) - rS (g 2 q1) - 2) + 1) ≤ ((rE (g 2 q) - rS (g 2 q)) + 1); omega), (by show 0 + (6 * (rE (g 2 q1) - rS (g 2 q1) - 2) + 6) ≤ (6 * (rE (g 2 q) - rS (g 2 q)) + 6); omega)⟩ ⟨(by show (5 * (n - 1) + 46) + 1 ≤ (5 * n + 46); omega), (by show 8 + (5 + 11) + (200 * (n - 1) + 1120) ≤ (200 * n + 1120); omega)⟩ (fun v7 u5 H locs hw6 hP hD hS => ?_) (fun ux ce9 q9 H9 locs9 hux hP9 hD9 hS9 hce hcv hcl => pb_out ux (ThQ.up (Thx.same (Thx.same (Thx.same (Thx.same (Thx.same (Thx.same (Thx.same (Thx.f Thx.rfl (by omega)) rfl) rfl) rfl) rfl) rfl) rfl) rfl) hux) hnt hlocks hce hcv hcl hP9 hD9 hS9 (by show 0 + ((rE (g 2 q1) - rS (g 2 q1) - 2) + 1) ≤ ((rE (g 2 q) - rS (g 2 q)) + 1); omega) (by show 0 + (6 * (rE (g 2 q1) - rS (g 2 q1) - 2) + 6) ≤ (6 * (rE (g 2 q) - rS (g 2 q)) + 6); omega))
  obtain ⟨w, K10, B11, cs12, as13, wt14, wf15, vr16, hd17, dp18, rg19, ls20⟩ := u5
  obtain ⟨hw6, h21, h22, h23, h24, hO⟩ := hw6
  have h21 : BdE K K10 := h21
  have h22 : Bth B B11 := h22
  have h23 : cs12 ≤ 10000 ∧ rg19 ≤ 625 ∧ dp18 ≤ 1000 := h23
  have h24 : vr ≤ vr16 ∧ vr16 ≤ 30 ∧ hd17 + vr = hd + vr16 := h24
  obtain rfl : v7 = none := hw6
  have hf25 : K10.1 pq = 7 := (BdE.T h21 hp1 (by decide))
  have hf26 : K10.2.2.1 18 pq = some (a 1) := (BdE.C h21 (by rw [hp1]; decide) 18).trans hp2
  have hf27 : K10.2.2.1 14 pq = some dr := (BdE.C h21 (by rw [hp1]; decide) 14).trans hp3
  have hf28 : K10.1 dr = 8 := (BdE.T h21 hp4 (by decide))
  have hf29 : K10.2.2.1 15 pq = some ml := (BdE.C h21 (by rw [hp1]; decide) 15).trans hp5
  have hf30 : K10.1 ml = 5 := (BdE.T h21 hp6 (by decide))
  have hf31 : K10.2.1 24 pq = (nI nd) := (BdE.I h21 (by rw [hp1]; decide) (by decide) (by decide)).trans hp8
  have hf32 : K10.1 q = 1 := (BdE.T h21 hqT (by decide))
  have hf33 : K10.1 mq = 3 := (BdE.T h21 hmq (by decide))
  have hf34 : K10.2.2.1 0 q = some q1 := (BdE.C h21 (by rw [hqT]; decide) 0).trans hc0
  have hf35 : K10.1 q1 = 1 := (BdE.T h21 ht0 (by decide))
  have hf36 : K10.2.1 0 q1 = 21 := (BdE.I h21 (by rw [ht0]; decide) (by decide) (by decide)).trans hk1
  have hf37 : K10.2.2.1 2 q = none := (BdE.C h21 (by rw [hqT]; decide) 2).trans hc2
  have hf38 : K10.2.2.1 1 q = ob := (BdE.C h21 (by rw [hqT]; decide) 1).trans hob
  have hf39 : K10.2.1 0 q = 32 := (BdE.I h21 (by rw [hqT]; decide) (by decide) (by decide)).trans hkd
  have hO : OKP G h0 a (upd (upd (upd (upd (upd (upd (upd (upd (upd (upd F 2 (nI sz)) 5 (nI cs12)) 6 (nI rg19)) 7 (nI hd17)) 8 (nI dp18)) 12 (nI vr16)) 13 as13) 14 wt14) 15 wf15) 16 ls20) (updR (updR (updR R 2 (.ref pq)) 3 (.ref mq)) 4 (va_rf lo)) Z B11 J K10 w := hO.to rfl
  refine W.widen (k := (rE (g 2 q1) - rS (g 2 q1) - 2)) (n := (6 * (rE (g 2 q1) - rS (g 2 q1) - 2))) (by show 0 + (rE (g 2 q1) - rS (g 2 q1) - 2) ≤ (rE (g 2 q1) - rS (g 2 q1) - 2); omega) (by show 0 + (6 * (rE (g 2 q1) - rS (g 2 q1) - 2)) ≤ (6 * (rE (g 2 q1) - rS (g 2 q1) - 2)); omega) ?_
  refine W.eq (g2 := F0 m 75 ls []) rfl ?_
  have hbe40 := BdE.trans BdE.rfl h21
  have hbb41 : Bth B B11 := Bth.trans (show Thx (upd (upd (upd (upd (upd (upd (upd F 2 (nI sz)) 5 (nI cs)) 6 (nI rg)) 7 (nI hd)) 8 (nI dp)) 12 (nI vr)) 16 ls9) (upd (upd (upd (upd (upd (upd (upd (upd F 2 (nI sz)) 5 (nI cs)) 6 (nI rg)) 7 (nI hd)) 8 (nI dp)) 12 (nI vr)) 16 ls9) 16 x3) B B from (Thx.f Thx.rfl (by omega))).2 h22
  have hng42 : Nng (B11 18) := h22.2 hng
  refine lv_aload_n hx hb dX0_tryStatement_75 rfl (lv_at hl 5 rfl) ?_
  refine c_get (v := .ref (a 2)) (C := RX0) (Tc := TX0) (N := 13) (ci := 0) hx hb hq pin_wsX00 hown hE hP hO 24 (sg_24 G h0 a _ _ _ _ _) rfl 1 (by decide) (hq _ pw_5) (fun _ h9 => h9) rfl dX0_tryStatement_76 ?_
  refine c_get (v := .int (nI cs12)) (C := RX1) (Tc := TX1) (N := 13) (ci := 1) hx hb hq pin_wsX10 hown hE hP hO 13 (sg_13 G h0 a _ _ _ _ _) rfl 4 (by decide) (hq _ pw_75) (fun _ h9 => h9) rfl dX0_tryStatement_79 ?_
  refine lv_istore (lv' := [(7, .int (nI cs12)), (6, .int (nI cs)), (5, .int (F 13)), (4, .int (nI hd)), (3, .int 6), (2, .int 0), (0, .ref (a 4)), (1, .ref q)]) hx hb dX0_tryStatement_82 hl (by decide) rfl (fun ls hl => ?_)
  refine lv_aload_n hx hb dX0_tryStatement_84 rfl (lv_at hl 6 rfl) ?_
  refine c_get (v := .ref (a 2)) (C := RX0) (Tc := TX0) (N := 13) (ci := 0) hx hb hq pin_wsX00 hown hE hP hO 24 (sg_24 G h0 a _ _ _ _ _) rfl 1 (by decide) (hq _ pw_5) (fun _ h9 => h9) rfl dX0_tryStatement_85 ?_
  refine lv_iload_n hx hb dX0_tryStatement_88 rfl (lv_at hl 4 rfl) ?_
  refine lv_iconst (v := (-1)) hx hb dX0_tryStatement_89 (by decide) ?_
  refine lv_iload hx hb dX0_tryStatement_90 (lv_at hl 3 rfl) ?_
  have hO : OKW G h0 a (upd (upd (upd (upd (upd (upd (upd (upd (upd (upd (upd F 2 (nI sz)) 5 (nI cs12)) 6 (nI rg19)) 7 (nI hd17)) 8 (nI dp18)) 12 (nI vr16)) 13 as13) 14 wt14) 15 wf15) 16 ls20) 5 (nI cs12)) (updR (updR (updR R 2 (.ref pq)) 3 (.ref mq)) 4 (va_rf lo)) Z B11 J K10.1 (fun q99 x99 => x99 = rep G a K10 q99) w := hO.to rfl
  obtain ⟨_, qr46, hqr47⟩ := hO.2.1 13 _ (sg_13 G h0 a _ _ _ _ _)
  refine pc_V0 (G := G) (As := [.int 6, .int (-1), .int (nI hd)]) (rest := []) hx hb hml hown hq hE hX pX0_al hP hD hS hA hl.1 (K_jump l G h0 a (upd (upd (upd (upd (upd (upd (upd (upd (upd (upd F 2 (nI sz)) 5 (nI cs12)) 6 (nI rg19)) 7 (nI hd17)) 8 (nI dp18)) 12 (nI vr16)) 13 as13) 14 wt14) 15 wf15) 16 ls20) (updR (updR (updR R 2 (.ref pq)) 3 (.ref mq)) 4 (va_rf lo)) Z B11 J K10.1 (fun q99 x99 => x99 = rep G a K10 q99) w 6 (-1) hd cs12 (by omega) (by omega) hng42 hO) (gV pw_197 pw_198 pw_199 pw_70 pw_132) hV_X1_jump qr46 1 hqr47 rfl rfl rfl (Nat.le_of_ble_eq_true rfl) dX0_tryStatement_92 ⟨(by show (rE (g 2 q1) - rS (g 2 q1) - 2) + 0 ≤ ((rE (g 2 q) - rS (g 2 q)) + 1); omega), (by show (6 * (rE (g 2 q1) - rS (g 2 q1) - 2)) + 0 ≤ (6 * (rE (g 2 q) - rS (g 2 q)) + 6); omega)⟩ ⟨(by show 3 + 1 ≤ (5 * n + 46); omega), (by show 8 + (4 + 11) + 83 ≤ (200 * n + 1120); omega)⟩ (fun v45 u43 H locs hw44 hP hD hS => ?_)
  obtain ⟨w, cs48, f49, f50, f51, f52, r53⟩ := u43
  obtain ⟨hw44, h54, h55, hO⟩ := hw44
  have h54 : cs12 ≤ cs48 ∧ cs48 ≤ cs12 + 1 ∧ cs48 ≤ 10000 := h54
  have h55 : Nng f51 := h55
  obtain rfl : v45 = some (.int r53) := hw44
  have hO : OKP G h0 a (upd (upd (upd (upd (upd (upd (upd (upd (upd (upd F 2 (nI sz)) 5 (nI cs48)) 6 (nI rg19)) 7 (nI hd17)) 8 (nI dp18)) 12 (nI vr16)) 13 as13) 14 wt14) 15 wf15) 16 ls20) (updR (updR (updR R 2 (.ref pq)) 3 (.ref mq)) 4 (va_rf lo)) Z (updA (updA (updA (updA B11 16 f49) 17 f50) 18 f51) 19 f52) J K10 w := hO.to rfl
  refine W.widen (k := (rE (g 2 q1) - rS (g 2 q1) - 2)) (n := (6 * (rE (g 2 q1) - rS (g 2 q1) - 2))) (by show (rE (g 2 q1) - rS (g 2 q1) - 2) + 0 ≤ (rE (g 2 q1) - rS (g 2 q1) - 2); omega) (by show (6 * (rE (g 2 q1) - rS (g 2 q1) - 2)) + 0 ≤ (6 * (rE (g 2 q1) - rS (g 2 q1) - 2)); omega) ?_
  refine W.eq (g2 := F0 m 95 ls [.int r53]) rfl ?_
  refine lv_istore (lv' := [(8, .int r53), (7, .int (nI cs12)), (6, .int (nI cs)), (5, .int (F 13)), (4, .int (nI hd)), (3, .int 6), (2, .int 0), (0, .ref (a 4)), (1, .ref q)]) hx hb dX0_tryStatement_95 hl (by decide) rfl (fun ls hl => ?_)
  refine lv_aload_n hx hb dX0_tryStatement_97 rfl (lv_at hl 7 rfl) ?_
  refine c_get (v := .int as13) (C := RX0) (Tc := TX0) (N := 13) (ci := 0) hx hb hq pin_wsX00 hown hE hP hO 24 (sg_24 G h0 a _ _ _ _ _) rfl 8 (by decide) (hq _ pw_55) (fun _ h9 => h9) rfl dX0_tryStatement_98 ?_
  refine lv_istore (lv' := [(9, .int as13), (8, .int r53), (7, .int (nI cs12)), (6, .int (nI cs)), (5, .int (F 13)), (4, .int (nI hd)), (3, .int 6), (2, .int 0), (0, .ref (a 4)), (1, .ref q)]) hx hb dX0_tryStatement_101 hl (by decide) rfl (fun ls hl => ?_)
  refine lv_aload_n hx hb dX0_tryStatement_103 rfl (lv_at hl 9 rfl) ?_
  refine p_get (v := va_rf ob) (C := RX7) (Tc := TX7) (N := 11) (ci := 13) hx hb hq pin_wsX70 hown hE hP hO (by rw [hf32]; decide) (rep_1 hf32) rfl 7 (by decide) (hq _ pw_169) (fun _ h9 => h9) (congrArg (fun z => some (va_rf z)) hf38) dX0_tryStatement_104 ?_
  refine lv_astore (lv' := [(10, va_rf ob), (9, .int as13), (8, .int r53), (7, .int (nI cs12)), (6, .int (nI cs)), (5, .int (F 13)), (4, .int (nI hd)), (3, .int 6), (2, .int 0), (0, .ref (a 4)), (1, .ref q)]) hx hb dX0_tryStatement_107 hl (by decide) rfl (fun ls hl => ?_)
  have loop_g : ∀ (n_g : Nat) (k2 : Nat) (o2 : Option Nat) (K2 : PK) (B2 : Nat → Nat → Int32) (cs2 : Nat) (as2 : Int32) (wt2 : Int32) (wf2 : Int32) (dp2 : Nat) (rg2 : Nat) (ls2 : Int32) (t2 : Nat) (c2 : Nat) (b5 : Int32) (b6 : Int32) (b7 : Int32) (b8 : Int32) (b9 : Int32) (H : Heap) (locs : List Loc) (ls : Array Slot) (w : va_W), k2 ≤ 100000000000000000001 → 100000000000000000001 + 1 ≤ k2 + n_g → (BdE K K2) → (Bth B B2) → (Nng (B2 18)) → (cs2 ≤ 10000 ∧ rg2 ≤ 625 ∧ dp2 ≤ 1000) → (MmO K2 g q o2 t2 k2) → (c2 + rS (g 2 q) ≤ t2 ∧ t2 ≤ rN (g 2 q)) → va_P G.1 pCl w H → va_D A w → va_S A s.heap H locs → OKP G h0 a (upd (upd (upd (upd (upd (upd (upd (upd (upd (upd F 2 (nI sz)) 5 (nI cs2)) 6 (nI rg2)) 7 (nI hd)) 8 (nI dp2)) 12 (nI vr)) 13 as2) 14 wt2) 15 wf2) 16 ls2) (updR (updR (updR R 2 (.ref pq)) 3 (.ref mq)) 4 (va_rf lo)) Z B2 J K2 w → lv_has ls 11 [(10, va_rf o2), (9, .int b9), (8, .int b8), (7, .int b7), (6, .int b6), (5, .int b5), (4, .int (nI hd)), (3, .int 6), (2, .int 0), (1, .ref q), (0, .ref (a 4))] → W p l e (headSpec (Cond.code yX0_tryStatement cX0_tryStatement 11 none :: pw) ({ frames := (5 * n + 46), cells := ((rE (g 2 q) - rS (g 2 q)) + 1), slots := (6 * (rE (g 2 q) - rS (g 2 q)) + 6), locals := (200 * n + 1120) } : Room)).room s m ([.ref (a 4), .ref q] : List Value).toArray below meth c H locs c2 (6 * c2) (vx_MQ below (pQn G A (fun (v : Option Value) (u : va_W × (PK × (Nat → Nat → Int32) × Nat × Int32 × Int32 × Int32 × Nat × Nat × Nat × Nat × Int32)) => v = none ∧ (BdE K u.2.1) ∧ (Bth B u.2.2.1) ∧ (u.2.2.2.1 ≤ 10000 ∧ u.2.2.2.2.2.2.2.2.2.2.1 ≤ 625 ∧ u.2.2.2.2.2.2.2.2.2.1 ≤ 1000) ∧ (vr ≤ u.2.2.2.2.2.2.2.1 ∧ u.2.2.2.2.2.2.2.1 ≤ 30 ∧ u.2.2.2.2.2.2.2.2.1 + vr = hd + u.2.2.2.2.2.2.2.1) ∧ (OKP G h0 a (upd (upd (upd (upd (upd (upd (upd (upd (upd (upd F 2 (nI sz)) 5 (nI u.2.2.2.1)) 6 (nI u.2.2.2.2.2.2.2.2.2.2.1)) 7 (nI u.2.2.2.2.2.2.2.2.1)) 8 (nI u.2.2.2.2.2.2.2.2.2.1)) 12 (nI u.2.2.2.2.2.2.2.1)) 13 u.2.2.2.2.1) 14 u.2.2.2.2.2.1) 15 u.2.2.2.2.2.2.1) 16 u.2.2.2.2.2.2.2.2.2.2.2) (updR (updR (updR R 2 (.ref pq)) 3 (.ref mq)) 4 (va_rf lo)) Z u.2.2.1 J u.2.1 u.1)) (fun u => u.1) (fun (u : va_W × (PK × (Nat → Nat → Int32) × Nat × Int32 × Int32 × Int32 × Nat × Nat × Nat × Nat × Int32)) => (rE (g 2 q) - rS (g 2 q))) (fun (u : va_W × (PK × (Nat → Nat → Int32) × Nat × Int32 × Int32 × Int32 × Nat × Nat × Nat × Nat × Int32)) => (6 * (rE (g 2 q) - rS (g 2 q))))) (pXX G A (fun (u : va_W × (Nat → Int32) × (Nat → Value) × (Nat → Nat → Int32)) => ThQ G h0 a (upd (upd (upd (upd (upd (upd (upd F 2 (nI sz)) 5 (nI cs)) 6 (nI rg)) 7 (nI hd)) 8 (nI dp)) 12 (nI vr)) 16 ls9) Z B J u) (fun u => u.1)) ([.ref (a 4), .ref q] : List Value).toArray s ({ frames := (5 * n + 46), cells := ((rE (g 2 q) - rS (g 2 q)) + 1), slots := (6 * (rE (g 2 q) - rS (g 2 q)) + 6), locals := (200 * n + 1120) } : Room).cells ({ frames := (5 * n + 46), cells := ((rE (g 2 q) - rS (g 2 q)) + 1), slots := (6 * (rE (g 2 q) - rS (g 2 q)) + 6), locals := (200 * n + 1120) } : Room).slots A) (F0 m 109 ls []) := by
    intro n_g
    induction n_g with
    | zero => intro k2 o2 K2 B2 cs2 as2 wt2 wf2 dp2 rg2 ls2 t2 c2 b5 b6 b7 b8 b9 H locs ls w hk_g hn_g; omega
    | succ n_g ih_g =>
      intro k2 o2 K2 B2 cs2 as2 wt2 wf2 dp2 rg2 ls2 t2 c2 b5 b6 b7 b8 b9 H locs ls w hk_g hn_g hbe2 hbb2 hng2 hcs2 hmm2 hc29 hP hD hS hO hl
      have hf56 : K2.1 pq = 7 := (BdE.T hbe2 hp1 (by decide))
      have hf57 : K2.2.2.1 18 pq = some (a 1) := (BdE.C hbe2 (by rw [hp1]; decide) 18).trans hp2
      have hf58 : K2.2.2.1 14 pq = some dr := (BdE.C hbe2 (by rw [hp1]; decide) 14).trans hp3
      have hf59 : K2.1 dr = 8 := (BdE.T hbe2 hp4 (by decide))
      have hf60 : K2.2.2.1 15 pq = some ml := (BdE.C hbe2 (by rw [hp1]; decide) 15).trans hp5
      have hf61 : K2.1 ml = 5 := (BdE.T hbe2 hp6 (by decide))
      have hf62 : K2.2.1 24 pq = (nI nd) := (BdE.I hbe2 (by rw [hp1]; decide) (by decide) (by decide)).trans hp8
      have hf63 : K2.1 q = 1 := (BdE.T hbe2 hqT (by decide))
      have hf64 : K2.1 mq = 3 := (BdE.T hbe2 hmq (by decide))
      have hf65 : K2.2.2.1 0 q = some q1 := (BdE.C hbe2 (by rw [hqT]; decide) 0).trans hc0
      have hf66 : K2.1 q1 = 1 := (BdE.T hbe2 ht0 (by decide))
      have hf67 : K2.2.1 0 q1 = 21 := (BdE.I hbe2 (by rw [ht0]; decide) (by decide) (by decide)).trans hk1
      have hf68 : K2.2.2.1 2 q = none := (BdE.C hbe2 (by rw [hqT]; decide) 2).trans hc2
      have hf69 : K2.2.2.1 1 q = ob := (BdE.C hbe2 (by rw [hqT]; decide) 1).trans hob
      have hf70 : K2.2.1 0 q = 32 := (BdE.I hbe2 (by rw [hqT]; decide) (by decide) (by decide)).trans hkd
      rcases o2 with _ | x9
      · have hl : lv_has ls 11 [(10, .null), (9, .int b9), (8, .int b8), (7, .int b7), (6, .int b6), (5, .int b5), (4, .int (nI hd)), (3, .int 6), (2, .int 0), (1, .ref q), (0, .ref (a 4))] := hl
        refine W.eq (g2 := F0 m 109 ls []) rfl ?_
        refine lv_aloadN hx hb dX0_tryStatement_109 (lv_at hl 0 rfl) ?_
        refine lv_ifnullN (tgt := 184) hx hb dX0_tryStatement_111 (by decide) ?_
        refine lv_aload_n hx hb dX0_tryStatement_184 rfl (lv_at hl 10 rfl) ?_
        refine lv_dup hx hb dX0_tryStatement_185 rfl ?_
        refine c_get (v := .int ls2) (C := RX0) (Tc := TX0) (N := 13) (ci := 0) hx hb hq pin_wsX00 hown hE hP hO 24 (sg_24 G h0 a _ _ _ _ _) rfl 12 (by decide) (hq _ pw_74) (fun _ h9 => h9) rfl dX0_tryStatement_186 ?_
        refine lv_iload_n hx hb dX0_tryStatement_189 rfl (lv_at hl 8 rfl) ?_
        refine lv_if_eq (tgt := 197) hx hb dX0_tryStatement_190 (by decide) (fun c71 => ?_) (fun c71 => absurd c71 (by decide))
        refine lv_iconst (v := 0) hx hb dX0_tryStatement_197 (by decide) ?_
        refine lv_isub hx hb dX0_tryStatement_198 ?_
        refine lv_topi (fun x72 e73 => ?_)
        refine c_put (v := .int x72) (ty := .int) (C := RX0) (Tc := TX0) (N := 13) (ci := 0) hx hb hq pin_wsX00 tyX0 tyX0_ok nmX0 hown hE hP hD hS hO 24 (sg_24 G h0 a _ _ _ _ _) rfl 12 (by decide) (hq _ pw_74) (fun _ h9 => h9) rfl (by decide +kernel) rfl rfl (Nat.le_of_ble_eq_true rfl) (sf_16 G h0 a _ _ _ _ _ x72) dX0_tryStatement_199 (fun H locs w hP hD hS hO => ?_)
        refine lv_aload_n hx hb dX0_tryStatement_202 rfl (lv_at hl 10 rfl) ?_
        refine c_get (v := .ref (a 2)) (C := RX0) (Tc := TX0) (N := 13) (ci := 0) hx hb hq pin_wsX00 hown hE hP hO 24 (sg_24 G h0 a _ _ _ _ _) rfl 1 (by decide) (hq _ pw_5) (fun _ h9 => h9) rfl dX0_tryStatement_203 ?_
        refine lv_iload hx hb dX0_tryStatement_206 (lv_at hl 2 rfl) ?_
        have hO : OKW G h0 a (upd (upd (upd (upd (upd (upd (upd (upd (upd (upd (upd F 2 (nI sz)) 5 (nI cs2)) 6 (nI rg2)) 7 (nI hd)) 8 (nI dp2)) 12 (nI vr)) 13 as2) 14 wt2) 15 wf2) 16 x72) 5 (nI cs2)) (updR (updR (updR R 2 (.ref pq)) 3 (.ref mq)) 4 (va_rf lo)) Z B2 J K2.1 (fun q99 x99 => x99 = rep G a K2 q99) w := hO.to rfl
        obtain ⟨_, qr77, hqr78⟩ := hO.2.1 13 _ (sg_13 G h0 a _ _ _ _ _)
        refine pc_V0 (G := G) (As := [.int b8]) (rest := []) hx hb hml hown hq hE hX pX0_al hP hD hS hA hl.1 (K_land l G h0 a (upd (upd (upd (upd (upd (upd (upd (upd (upd (upd F 2 (nI sz)) 5 (nI cs2)) 6 (nI rg2)) 7 (nI hd)) 8 (nI dp2)) 12 (nI vr)) 13 as2) 14 wt2) 15 wf2) 16 x72) (updR (updR (updR R 2 (.ref pq)) 3 (.ref mq)) 4 (va_rf lo)) Z B2 J K2.1 (fun q99 x99 => x99 = rep G a K2 q99) w b8 cs2 (by omega) hO) (gV pw_200 pw_201 pw_202 pw_70 pw_134) hV_X1_land qr77 1 hqr78 rfl rfl rfl (Nat.le_of_ble_eq_true rfl) dX0_tryStatement_208 ⟨(by show c2 + 0 ≤ ((rE (g 2 q) - rS (g 2 q)) + 1); omega), (by show (6 * c2) + 0 ≤ (6 * (rE (g 2 q) - rS (g 2 q)) + 6); omega)⟩ ⟨(by show 2 + 1 ≤ (5 * n + 46); omega), (by show 8 + (5 + 11) + 60 ≤ (200 * n + 1120); omega)⟩ (fun v76 u74 H locs hw75 hP hD hS => ?_)
        obtain ⟨w, f79⟩ := u74
        obtain ⟨hw75, hO⟩ := hw75
        obtain rfl : v76 = none := hw75
        have hO : OKP G h0 a (upd (upd (upd (upd (upd (upd (upd (upd (upd (upd F 2 (nI sz)) 5 (nI cs2)) 6 (nI rg2)) 7 (nI hd)) 8 (nI dp2)) 12 (nI vr)) 13 as2) 14 wt2) 15 wf2) 16 x72) (updR (updR (updR R 2 (.ref pq)) 3 (.ref mq)) 4 (va_rf lo)) Z (updA B2 17 f79) J K2 w := hO.to rfl
        refine W.widen (k := c2) (n := (6 * c2)) (by show c2 + 0 ≤ c2; omega) (by show (6 * c2) + 0 ≤ (6 * c2); omega) ?_
        refine W.eq (g2 := F0 m 211 ls []) rfl ?_
        refine lv_aload_n hx hb dX0_tryStatement_211 rfl (lv_at hl 10 rfl) ?_
        refine lv_iload hx hb dX0_tryStatement_212 (lv_at hl 1 rfl) ?_
        refine c_put (v := .int b9) (ty := .int) (C := RX0) (Tc := TX0) (N := 13) (ci := 0) hx hb hq pin_wsX00 tyX0 tyX0_ok nmX0 hown hE hP hD hS hO 24 (sg_24 G h0 a _ _ _ _ _) rfl 8 (by decide) (hq _ pw_55) (fun _ h9 => h9) rfl (by decide +kernel) rfl rfl (Nat.le_of_ble_eq_true rfl) (sf_13 G h0 a _ _ _ _ _ b9) dX0_tryStatement_214 (fun H locs w hP hD hS hO => ?_)
        refine lv_iload_n hx hb dX0_tryStatement_217 rfl (lv_at hl 8 rfl) ?_
        refine lv_if_eq (tgt := 267) hx hb dX0_tryStatement_218 (by decide) (fun c80 => ?_) (fun c80 => absurd c80 (by decide))
        refine W_size (fun hz1 hz2 => ?_)
        refine vx_ret ?_
        have hz81 : BdE K K2 := hbe2
        have hz82 : Bth B (updA B2 17 f79) := (show Thx (upd (upd (upd (upd (upd (upd (upd F 2 (nI sz)) 5 (nI cs)) 6 (nI rg)) 7 (nI hd)) 8 (nI dp)) 12 (nI vr)) 16 ls9) (upd (upd (upd (upd (upd (upd (upd (upd (upd (upd (upd (upd (upd (upd F 2 (nI sz)) 5 (nI cs)) 6 (nI rg)) 7 (nI hd)) 8 (nI dp)) 12 (nI vr)) 16 ls9) 5 (nI cs2)) 6 (nI rg2)) 8 (nI dp2)) 13 b9) 14 wt2) 15 wf2) 16 x72) B (updA B2 17 f79) from (Thx.b (Thx.f (Thx.f (Thx.f (Thx.f (Thx.f (Thx.f (Thx.f (Bth.thx hbb2) (by omega)) (by omega)) (by omega)) (by omega)) (by omega)) (by omega)) (by omega)) (by omega) (by decide))).2
        have hz83 : cs2 ≤ 10000 ∧ rg2 ≤ 625 ∧ dp2 ≤ 1000 := (by omega)
        have hz84 : vr ≤ vr ∧ vr ≤ 30 ∧ hd + vr = hd + vr := (by omega)
        have hO : OKP G h0 a (upd (upd (upd (upd (upd (upd (upd (upd (upd (upd F 2 (nI sz)) 5 (nI cs2)) 6 (nI rg2)) 7 (nI hd)) 8 (nI dp2)) 12 (nI vr)) 13 b9) 14 wt2) 15 wf2) 16 x72) (updR (updR (updR R 2 (.ref pq)) 3 (.ref mq)) 4 (va_rf lo)) Z (updA B2 17 f79) J K2 w := hO.to rfl
        refine W.widen (k := ((rE (g 2 q) - rS (g 2 q)) + 1)) (n := (6 * (rE (g 2 q) - rS (g 2 q)) + 6)) (by omega) (by omega) ?_
        have hzz1 : H.size ≤ s.heap.size + ((rE (g 2 q) - rS (g 2 q))) := (by have z : c2 ≤ (rE (g 2 q) - rS (g 2 q)) := (by omega); omega)
        have hzz2 : hSl H ≤ hSl s.heap + ((6 * (rE (g 2 q) - rS (g 2 q)))) := (by have z : (6 * c2) ≤ (6 * (rE (g 2 q) - rS (g 2 q))) := (by omega); omega)
        exact W.vret hx hb hr (fun t99 ht99 hW99 => ⟨⟨_, (w, (K2, (updA B2 17 f79), cs2, b9, wt2, wf2, vr, hd, dp2, rg2, x72)), rfl, ⟨rfl, hz81, hz82, hz83, hz84, hO⟩, by rw [ht99]; exact hP, hD, by rw [ht99]; exact hzz1, by rw [ht99]; exact hzz2⟩, hS.F ht99⟩) hS.2.2 dX0_tryStatement_267
      · have hl : lv_has ls 11 [(10, .ref x9), (9, .int b9), (8, .int b8), (7, .int b7), (6, .int b6), (5, .int b5), (4, .int (nI hd)), (3, .int 6), (2, .int 0), (1, .ref q), (0, .ref (a 4))] := hl
        refine W.eq (g2 := F0 m 109 ls []) rfl ?_
        have hxd := hmm2 x9 rfl
        have hxT := hxd.1
        have hxv : 1 ≤ g 0 x9 ∧ g 0 x9 + 1 ≤ n := ⟨hxd.2.1, (by have z := hxd.2.2.1; omega)⟩
        have hxe := MmO.end32 (BdE.wp hbe2 hwp).1 hqL.1 hf70 hxT hxd.2.1 hxd.2.2.2.1
        have hxe1 : rE (g 2 x9) ≤ rN (g 2 q) ∧ rS (g 2 x9) ≤ rE (g 2 x9) ∧ g 2 x9 ≤ 100000000000000000000 := ⟨hxe.1, hxe.2.1, hxe.2.2.1⟩
        have hxt := hxd.2.2.2.2
        have hxk := hxe.2.2.2
        have hxw := (BdE.wp hbe2 hwp).1 x9 hxT hxd.2.1
        obtain ⟨xb, hxb0, hxbT, hxbl⟩ := NdO.ch hxw (f := 0) (by decide) (hxw.1.1 (by rw [hxk]; decide))
        have hxbv : 1 ≤ g 0 xb ∧ g 0 xb + 1 ≤ n - 1 := ⟨hxbl.1, (by have z := hxbl.2; omega)⟩
        refine lv_aload hx hb dX0_tryStatement_109 (lv_at hl 0 rfl) ?_
        refine lv_ifnull hx hb dX0_tryStatement_111 ?_
        refine lv_aload_n hx hb dX0_tryStatement_114 rfl (lv_at hl 10 rfl) ?_
        refine c_get (v := .ref (a 2)) (C := RX0) (Tc := TX0) (N := 13) (ci := 0) hx hb hq pin_wsX00 hown hE hP hO 24 (sg_24 G h0 a _ _ _ _ _) rfl 1 (by decide) (hq _ pw_5) (fun _ h9 => h9) rfl dX0_tryStatement_115 ?_
        refine lv_iload hx hb dX0_tryStatement_118 (lv_at hl 4 rfl) ?_
        refine lv_iload hx hb dX0_tryStatement_120 (lv_at hl 3 rfl) ?_
        refine lv_aload_n hx hb dX0_tryStatement_122 rfl (lv_at hl 10 rfl) ?_
        refine c_get (v := .ref (a 1)) (C := RX0) (Tc := TX0) (N := 13) (ci := 0) hx hb hq pin_wsX00 hown hE hP hO 24 (sg_24 G h0 a _ _ _ _ _) rfl 0 (by decide) (hq _ pw_4) (fun _ h9 => h9) rfl dX0_tryStatement_123 ?_
        refine lv_aload hx hb dX0_tryStatement_126 (lv_at hl 0 rfl) ?_
        refine p_get (v := .int (K2.2.1 2 x9)) (C := RX7) (Tc := TX7) (N := 11) (ci := 13) hx hb hq pin_wsX70 hown hE hP hO (by rw [hxT]; decide) (rep_1 hxT) rfl 2 (by decide) (hq _ pw_82) (fun _ h9 => h9) rfl dX0_tryStatement_128 ?_
        have hO : OKW G h0 a (upd (upd (upd (upd (upd (upd (upd (upd (upd (upd (upd F 2 (nI sz)) 5 (nI cs2)) 6 (nI rg2)) 7 (nI hd)) 8 (nI dp2)) 12 (nI vr)) 13 as2) 14 wt2) 15 wf2) 16 ls2) 2 (nI sz)) (updR (updR (updR R 2 (.ref pq)) 3 (.ref mq)) 4 (va_rf lo)) Z B2 J K2.1 (fun q99 x99 => x99 = rep G a K2 q99) w := hO.to rfl
        obtain ⟨_, qr88, hqr89⟩ := hO.2.1 2 _ (sg_2 G h0 a _ _ _ _ _)
        refine pc_V0 (G := G) (As := [.int (K2.2.1 2 x9)]) (rest := [.int b7, .int b6, .ref (a 2)]) hx hb hml hown hq hE hX pX0_al hP hD hS hA hl.1 (K_typeAt l G h0 a (upd (upd (upd (upd (upd (upd (upd (upd (upd (upd F 2 (nI sz)) 5 (nI cs2)) 6 (nI rg2)) 7 (nI hd)) 8 (nI dp2)) 12 (nI vr)) 13 as2) 14 wt2) 15 wf2) 16 ls2) (updR (updR (updR R 2 (.ref pq)) 3 (.ref mq)) 4 (va_rf lo)) Z B2 J K2.1 (fun q99 x99 => x99 = rep G a K2 q99) w (K2.2.1 2 x9) sz (by omega) hO) (gV pw_92 pw_93 pw_94 pw_59 pw_36) hV_X10_typeAt qr88 7 hqr89 rfl rfl rfl (Nat.le_of_ble_eq_true rfl) dX0_tryStatement_131 ⟨(by show c2 + 0 ≤ ((rE (g 2 q) - rS (g 2 q)) + 1); omega), (by show (6 * c2) + 0 ≤ (6 * (rE (g 2 q) - rS (g 2 q)) + 6); omega)⟩ ⟨(by show 2 + 1 ≤ (5 * n + 46); omega), (by show 8 + (2 + 11) + 60 ≤ (200 * n + 1120); omega)⟩ (fun v87 u85 H locs hw86 hP hD hS => ?_)
        obtain ⟨w, r90⟩ := u85
        obtain ⟨hw86, hO⟩ := hw86
        obtain rfl : v87 = some (.int r90) := hw86
        have hO : OKP G h0 a (upd (upd (upd (upd (upd (upd (upd (upd (upd (upd F 2 (nI sz)) 5 (nI cs2)) 6 (nI rg2)) 7 (nI hd)) 8 (nI dp2)) 12 (nI vr)) 13 as2) 14 wt2) 15 wf2) 16 ls2) (updR (updR (updR R 2 (.ref pq)) 3 (.ref mq)) 4 (va_rf lo)) Z B2 J K2 w := hO.to rfl
        refine W.widen (k := c2) (n := (6 * c2)) (by show c2 + 0 ≤ c2; omega) (by show (6 * c2) + 0 ≤ (6 * c2); omega) ?_
        refine W.eq (g2 := F0 m 134 ls [.int r90, .int b7, .int b6, .ref (a 2)]) rfl ?_
        refine lv_iload hx hb dX0_tryStatement_134 (lv_at hl 6 rfl) ?_
        have hO : OKW G h0 a (upd (upd (upd (upd (upd (upd (upd (upd (upd (upd (upd F 2 (nI sz)) 5 (nI cs2)) 6 (nI rg2)) 7 (nI hd)) 8 (nI dp2)) 12 (nI vr)) 13 as2) 14 wt2) 15 wf2) 16 ls2) 6 (nI rg2)) (updR (updR (updR R 2 (.ref pq)) 3 (.ref mq)) 4 (va_rf lo)) Z B2 J K2.1 (fun q99 x99 => x99 = rep G a K2 q99) w := hO.to rfl
        obtain ⟨_, qr94, hqr95⟩ := hO.2.1 13 _ (sg_13 G h0 a _ _ _ _ _)
        refine pc_V0 (G := G) (As := [.int b6, .int b7, .int r90, .int (nI hd)]) (rest := []) hx hb hml hown hq hE hX pX0_al hP hD hS hA hl.1 (K_addRegion l G h0 a (upd (upd (upd (upd (upd (upd (upd (upd (upd (upd F 2 (nI sz)) 5 (nI cs2)) 6 (nI rg2)) 7 (nI hd)) 8 (nI dp2)) 12 (nI vr)) 13 as2) 14 wt2) 15 wf2) 16 ls2) (updR (updR (updR R 2 (.ref pq)) 3 (.ref mq)) 4 (va_rf lo)) Z B2 J K2.1 (fun q99 x99 => x99 = rep G a K2 q99) w b6 b7 r90 (nI hd) rg2 (by omega) hO) (gV pw_349 pw_350 pw_351 pw_70 pw_294) hV_X1_addRegion qr94 1 hqr95 rfl rfl rfl (Nat.le_of_ble_eq_true rfl) dX0_tryStatement_136 ⟨(by show c2 + 0 ≤ ((rE (g 2 q) - rS (g 2 q)) + 1); omega), (by show (6 * c2) + 0 ≤ (6 * (rE (g 2 q) - rS (g 2 q)) + 6); omega)⟩ ⟨(by show 2 + 1 ≤ (5 * n + 46); omega), (by show 8 + (5 + 11) + 60 ≤ (200 * n + 1120); omega)⟩ (fun v93 u91 H locs hw92 hP hD hS => ?_)
        obtain ⟨w, rg96, f97, f98, f99, f100, f101⟩ := u91
        obtain ⟨hw92, h102, hO⟩ := hw92
        have h102 : rg2 ≤ rg96 ∧ rg96 ≤ 625 := h102
        obtain rfl : v93 = none := hw92
        have hO : OKP G h0 a (upd (upd (upd (upd (upd (upd (upd (upd (upd (upd F 2 (nI sz)) 5 (nI cs2)) 6 (nI rg96)) 7 (nI hd)) 8 (nI dp2)) 12 (nI vr)) 13 as2) 14 wt2) 15 wf2) 16 ls2) (updR (updR (updR R 2 (.ref pq)) 3 (.ref mq)) 4 (va_rf lo)) Z (updA (updA (updA (updA (updA B2 20 f97) 21 f98) 22 f99) 23 f100) 24 f101) J K2 w := hO.to rfl
        refine W.widen (k := c2) (n := (6 * c2)) (by show c2 + 0 ≤ c2; omega) (by show (6 * c2) + 0 ≤ (6 * c2); omega) ?_
        refine W.eq (g2 := F0 m 139 ls []) rfl ?_
        refine lv_aload_n hx hb dX0_tryStatement_139 rfl (lv_at hl 10 rfl) ?_
        refine lv_iload hx hb dX0_tryStatement_140 (lv_at hl 5 rfl) ?_
        refine c_put (v := .int b5) (ty := .int) (C := RX0) (Tc := TX0) (N := 13) (ci := 0) hx hb hq pin_wsX00 tyX0 tyX0_ok nmX0 hown hE hP hD hS hO 24 (sg_24 G h0 a _ _ _ _ _) rfl 8 (by decide) (hq _ pw_55) (fun _ h9 => h9) rfl (by decide +kernel) rfl rfl (Nat.le_of_ble_eq_true rfl) (sf_13 G h0 a _ _ _ _ _ b5) dX0_tryStatement_142 (fun H locs w hP hD hS hO => ?_)
        refine lv_aload_n hx hb dX0_tryStatement_145 rfl (lv_at hl 10 rfl) ?_
        refine lv_aload hx hb dX0_tryStatement_146 (lv_at hl 0 rfl) ?_
        have hO : OKP G h0 a (upd (upd (upd (upd (upd (upd (upd (upd (upd (upd (upd (upd (upd (upd (upd (upd (upd (upd (upd (upd (upd F 2 (nI sz)) 5 (nI cs)) 6 (nI rg)) 7 (nI hd)) 8 (nI dp)) 12 (nI vr)) 16 ls9) 5 (nI cs2)) 6 (nI rg96)) 8 (nI dp2)) 13 b5) 14 wt2) 15 wf2) 16 ls2) 2 (nI sz)) 5 (nI cs2)) 6 (nI rg96)) 7 (nI hd)) 8 (nI dp2)) 12 (nI vr)) 16 ls2) (updR (updR (updR (updR (updR (updR R 2 (.ref pq)) 3 (.ref mq)) 4 (va_rf lo)) 2 (.ref pq)) 3 (.ref mq)) 4 (va_rf lo)) Z (updA (updA (updA (updA (updA B2 20 f97) 21 f98) 22 f99) 23 f100) 24 f101) J K2 w := hO.to rfl
        obtain ⟨_, qr106, hqr107⟩ := hO.2.1 24 _ (sg_24 G h0 a _ _ _ _ _)
        refine pn_V0 (G := G) (As := [.ref x9]) (rest := []) hx hb hml hown hq hE hX pX0_al hP hD hS hA hl.1 (B_catch l G h0 a (upd (upd (upd (upd (upd (upd (upd (upd (upd (upd (upd (upd (upd (upd F 2 (nI sz)) 5 (nI cs)) 6 (nI rg)) 7 (nI hd)) 8 (nI dp)) 12 (nI vr)) 16 ls9) 5 (nI cs2)) 6 (nI rg96)) 8 (nI dp2)) 13 b5) 14 wt2) 15 wf2) 16 ls2) (updR (updR (updR R 2 (.ref pq)) 3 (.ref mq)) 4 (va_rf lo)) Z (updA (updA (updA (updA (updA B2 20 f97) 21 f98) 22 f99) 23 f100) 24 f101) J K2 w pq dr ml nd nm cp it s9 x9 mq cs2 vr sz (n - 1) xb hd dp2 rg96 ls2 lo g rk (by omega) (BdE.wp hbe2 hwp) (BdE.pt hbe2 hwp hps) (BdE.rko hbe2 hrk) (by omega) (by omega) hng2 hf64 hxT ⟨hxv.1, (by have z9 := hxv; omega)⟩ hxb0 hxbT hxbv (by omega) (by omega) (by omega) (LpO.be hbe2 hlo) hxk (IhT.lo ist) (IhV.all l G _) hO hl0) (gV pw_352 pw_353 pw_354 pw_63 pw_306) hV_X0_catchBlock qr106 0 hqr107 rfl rfl rfl (Nat.le_of_ble_eq_true rfl) dX0_tryStatement_148 ⟨(by show c2 + ((rE (g 2 x9) - rS (g 2 x9)) + 1) ≤ ((rE (g 2 q) - rS (g 2 q)) + 1); omega), (by show (6 * c2) + (6 * (rE (g 2 x9) - rS (g 2 x9)) + 6) ≤ (6 * (rE (g 2 q) - rS (g 2 q)) + 6); omega)⟩ ⟨(by show (5 * (n - 1) + 46) + 1 ≤ (5 * n + 46); omega), (by show 8 + (5 + 11) + (200 * (n - 1) + 1120) ≤ (200 * n + 1120); omega)⟩ (fun v105 u103 H locs hw104 hP hD hS => ?_) (fun ux ce9 q9 H9 locs9 hux hP9 hD9 hS9 hce hcv hcl => pb_out ux (ThQ.up (Thx.same (Thx.same (Thx.same (Thx.same (Thx.same (Thx.same (Thx.same (Thx.b (Thx.b (Thx.b (Thx.b (Thx.b (Thx.f (Thx.f (Thx.f (Thx.f (Thx.f (Thx.f (Thx.f (Bth.thx hbb2) (by omega)) (by omega)) (by omega)) (by omega)) (by omega)) (by omega)) (by omega)) (by omega) (by decide)) (by omega) (by decide)) (by omega) (by decide)) (by omega) (by decide)) (by omega) (by decide)) rfl) rfl) rfl) rfl) rfl) rfl) rfl) hux) hnt hlocks hce hcv hcl hP9 hD9 hS9 (by show c2 + ((rE (g 2 x9) - rS (g 2 x9)) + 1) ≤ ((rE (g 2 q) - rS (g 2 q)) + 1); omega) (by show (6 * c2) + (6 * (rE (g 2 x9) - rS (g 2 x9)) + 6) ≤ (6 * (rE (g 2 q) - rS (g 2 q)) + 6); omega))
        obtain ⟨w, K108, B109, cs110, as111, wt112, wf113, vr114, hd115, dp116, rg117, ls118⟩ := u103
        obtain ⟨hw104, h119, h120, h121, h122, hO⟩ := hw104
        have h119 : BdE K2 K108 := h119
        have h120 : Bth (updA (updA (updA (updA (updA B2 20 f97) 21 f98) 22 f99) 23 f100) 24 f101) B109 := h120
        have h121 : cs110 ≤ 10000 ∧ rg117 ≤ 625 ∧ dp116 ≤ 1000 := h121
        have h122 : vr ≤ vr114 ∧ vr114 ≤ 30 ∧ hd115 + vr = hd + vr114 := h122
        obtain rfl : v105 = none := hw104
        have hf123 : K108.1 pq = 7 := (BdE.T h119 hf56 (by decide))
        have hf124 : K108.2.2.1 18 pq = some (a 1) := (BdE.C h119 (by rw [hf56]; decide) 18).trans hf57
        have hf125 : K108.2.2.1 14 pq = some dr := (BdE.C h119 (by rw [hf56]; decide) 14).trans hf58
        have hf126 : K108.1 dr = 8 := (BdE.T h119 hf59 (by decide))
        have hf127 : K108.2.2.1 15 pq = some ml := (BdE.C h119 (by rw [hf56]; decide) 15).trans hf60
        have hf128 : K108.1 ml = 5 := (BdE.T h119 hf61 (by decide))
        have hf129 : K108.2.1 24 pq = (nI nd) := (BdE.I h119 (by rw [hf56]; decide) (by decide) (by decide)).trans hf62
        have hf130 : K108.1 q = 1 := (BdE.T h119 hf63 (by decide))
        have hf131 : K108.1 mq = 3 := (BdE.T h119 hf64 (by decide))
        have hf132 : K108.2.2.1 0 q = some q1 := (BdE.C h119 (by rw [hf63]; decide) 0).trans hf65
        have hf133 : K108.1 q1 = 1 := (BdE.T h119 hf66 (by decide))
        have hf134 : K108.2.1 0 q1 = 21 := (BdE.I h119 (by rw [hf66]; decide) (by decide) (by decide)).trans hf67
        have hf135 : K108.2.2.1 2 q = none := (BdE.C h119 (by rw [hf63]; decide) 2).trans hf68
        have hf136 : K108.2.2.1 1 q = ob := (BdE.C h119 (by rw [hf63]; decide) 1).trans hf69
        have hf137 : K108.2.1 0 q = 32 := (BdE.I h119 (by rw [hf63]; decide) (by decide) (by decide)).trans hf70
        have hf138 : K108.1 x9 = 1 := (BdE.T h119 hxT (by decide))
        have hf139 : K108.2.1 0 x9 = 35 := (BdE.I h119 (by rw [hxT]; decide) (by decide) (by decide)).trans hxk
        have hf140 : K108.2.2.1 0 x9 = some xb := (BdE.C h119 (by rw [hxT]; decide) 0).trans hxb0
        have hf141 : K108.1 xb = 1 := (BdE.T h119 hxbT (by decide))
        have hO : OKP G h0 a (upd (upd (upd (upd (upd (upd (upd (upd (upd (upd F 2 (nI sz)) 5 (nI cs110)) 6 (nI rg117)) 7 (nI hd115)) 8 (nI dp116)) 12 (nI vr114)) 13 as111) 14 wt112) 15 wf113) 16 ls118) (updR (updR (updR R 2 (.ref pq)) 3 (.ref mq)) 4 (va_rf lo)) Z B109 J K108 w := hO.to rfl
        refine W.widen (k := (c2 + (rE (g 2 x9) - rS (g 2 x9)))) (n := ((6 * c2) + (6 * (rE (g 2 x9) - rS (g 2 x9))))) (by show c2 + (rE (g 2 x9) - rS (g 2 x9)) ≤ (c2 + (rE (g 2 x9) - rS (g 2 x9))); omega) (by show (6 * c2) + (6 * (rE (g 2 x9) - rS (g 2 x9))) ≤ ((6 * c2) + (6 * (rE (g 2 x9) - rS (g 2 x9)))); omega) ?_
        refine W.eq (g2 := F0 m 151 ls []) rfl ?_
        have hbe142 := BdE.trans hbe2 h119
        have hbb143 : Bth B B109 := Bth.trans (show Thx (upd (upd (upd (upd (upd (upd (upd F 2 (nI sz)) 5 (nI cs)) 6 (nI rg)) 7 (nI hd)) 8 (nI dp)) 12 (nI vr)) 16 ls9) (upd (upd (upd (upd (upd (upd (upd (upd (upd (upd (upd (upd (upd (upd F 2 (nI sz)) 5 (nI cs)) 6 (nI rg)) 7 (nI hd)) 8 (nI dp)) 12 (nI vr)) 16 ls9) 5 (nI cs2)) 6 (nI rg96)) 8 (nI dp2)) 13 b5) 14 wt2) 15 wf2) 16 ls2) B (updA (updA (updA (updA (updA B2 20 f97) 21 f98) 22 f99) 23 f100) 24 f101) from (Thx.b (Thx.b (Thx.b (Thx.b (Thx.b (Thx.f (Thx.f (Thx.f (Thx.f (Thx.f (Thx.f (Thx.f (Bth.thx hbb2) (by omega)) (by omega)) (by omega)) (by omega)) (by omega)) (by omega)) (by omega)) (by omega) (by decide)) (by omega) (by decide)) (by omega) (by decide)) (by omega) (by decide)) (by omega) (by decide))).2 h120
        have hng144 : Nng (B109 18) := h120.2 hng2
        refine lv_aload_n hx hb dX0_tryStatement_151 rfl (lv_at hl 10 rfl) ?_
        refine c_get (v := .ref (a 2)) (C := RX0) (Tc := TX0) (N := 13) (ci := 0) hx hb hq pin_wsX00 hown hE hP hO 24 (sg_24 G h0 a _ _ _ _ _) rfl 1 (by decide) (hq _ pw_5) (fun _ h9 => h9) rfl dX0_tryStatement_152 ?_
        refine lv_iload_n hx hb dX0_tryStatement_155 rfl (lv_at hl 7 rfl) ?_
        refine lv_iload hx hb dX0_tryStatement_156 (lv_at hl 2 rfl) ?_
        refine lv_iload hx hb dX0_tryStatement_158 (lv_at hl 6 rfl) ?_
        have hO : OKW G h0 a (upd (upd (upd (upd (upd (upd (upd (upd (upd (upd (upd F 2 (nI sz)) 5 (nI cs110)) 6 (nI rg117)) 7 (nI hd115)) 8 (nI dp116)) 12 (nI vr114)) 13 as111) 14 wt112) 15 wf113) 16 ls118) 5 (nI cs110)) (updR (updR (updR R 2 (.ref pq)) 3 (.ref mq)) 4 (va_rf lo)) Z B109 J K108.1 (fun q99 x99 => x99 = rep G a K108 q99) w := hO.to rfl
        obtain ⟨_, qr148, hqr149⟩ := hO.2.1 13 _ (sg_13 G h0 a _ _ _ _ _)
        refine pc_V0 (G := G) (As := [.int 6, .int b8, .int (nI hd)]) (rest := []) hx hb hml hown hq hE hX pX0_al hP hD hS hA hl.1 (K_jump l G h0 a (upd (upd (upd (upd (upd (upd (upd (upd (upd (upd F 2 (nI sz)) 5 (nI cs110)) 6 (nI rg117)) 7 (nI hd115)) 8 (nI dp116)) 12 (nI vr114)) 13 as111) 14 wt112) 15 wf113) 16 ls118) (updR (updR (updR R 2 (.ref pq)) 3 (.ref mq)) 4 (va_rf lo)) Z B109 J K108.1 (fun q99 x99 => x99 = rep G a K108 q99) w 6 b8 hd cs110 (by omega) (by omega) hng144 hO) (gV pw_197 pw_198 pw_199 pw_70 pw_132) hV_X1_jump qr148 1 hqr149 rfl rfl rfl (Nat.le_of_ble_eq_true rfl) dX0_tryStatement_160 ⟨(by show (c2 + (rE (g 2 x9) - rS (g 2 x9))) + 0 ≤ ((rE (g 2 q) - rS (g 2 q)) + 1); omega), (by show ((6 * c2) + (6 * (rE (g 2 x9) - rS (g 2 x9)))) + 0 ≤ (6 * (rE (g 2 q) - rS (g 2 q)) + 6); omega)⟩ ⟨(by show 3 + 1 ≤ (5 * n + 46); omega), (by show 8 + (4 + 11) + 83 ≤ (200 * n + 1120); omega)⟩ (fun v147 u145 H locs hw146 hP hD hS => ?_)
        obtain ⟨w, cs150, f151, f152, f153, f154, r155⟩ := u145
        obtain ⟨hw146, h156, h157, hO⟩ := hw146
        have h156 : cs110 ≤ cs150 ∧ cs150 ≤ cs110 + 1 ∧ cs150 ≤ 10000 := h156
        have h157 : Nng f153 := h157
        obtain rfl : v147 = some (.int r155) := hw146
        have hO : OKP G h0 a (upd (upd (upd (upd (upd (upd (upd (upd (upd (upd F 2 (nI sz)) 5 (nI cs150)) 6 (nI rg117)) 7 (nI hd115)) 8 (nI dp116)) 12 (nI vr114)) 13 as111) 14 wt112) 15 wf113) 16 ls118) (updR (updR (updR R 2 (.ref pq)) 3 (.ref mq)) 4 (va_rf lo)) Z (updA (updA (updA (updA B109 16 f151) 17 f152) 18 f153) 19 f154) J K108 w := hO.to rfl
        refine W.widen (k := (c2 + (rE (g 2 x9) - rS (g 2 x9)))) (n := ((6 * c2) + (6 * (rE (g 2 x9) - rS (g 2 x9))))) (by show (c2 + (rE (g 2 x9) - rS (g 2 x9))) + 0 ≤ (c2 + (rE (g 2 x9) - rS (g 2 x9))); omega) (by show ((6 * c2) + (6 * (rE (g 2 x9) - rS (g 2 x9)))) + 0 ≤ ((6 * c2) + (6 * (rE (g 2 x9) - rS (g 2 x9)))); omega) ?_
        refine W.eq (g2 := F0 m 163 ls [.int r155]) rfl ?_
        refine lv_istore (lv' := [(8, .int r155), (10, .ref x9), (9, .int b9), (7, .int b7), (6, .int b6), (5, .int b5), (4, .int (nI hd)), (3, .int 6), (2, .int 0), (1, .ref q), (0, .ref (a 4))]) hx hb dX0_tryStatement_163 hl (by decide) rfl (fun ls hl => ?_)
        refine lv_iload hx hb dX0_tryStatement_165 (lv_at hl 2 rfl) ?_
        refine lv_aload_n hx hb dX0_tryStatement_167 rfl (lv_at hl 10 rfl) ?_
        refine c_get (v := .int as111) (C := RX0) (Tc := TX0) (N := 13) (ci := 0) hx hb hq pin_wsX00 hown hE hP hO 24 (sg_24 G h0 a _ _ _ _ _) rfl 8 (by decide) (hq _ pw_55) (fun _ h9 => h9) rfl dX0_tryStatement_168 ?_
        refine lv_iand hx hb dX0_tryStatement_171 ?_
        refine lv_topi (fun x158 e159 => ?_)
        refine lv_istore (lv' := [(9, .int x158), (8, .int r155), (10, .ref x9), (7, .int b7), (6, .int b6), (5, .int b5), (4, .int (nI hd)), (3, .int 6), (2, .int 0), (1, .ref q), (0, .ref (a 4))]) hx hb dX0_tryStatement_172 hl (by decide) rfl (fun ls hl => ?_)
        refine lv_aload hx hb dX0_tryStatement_174 (lv_at hl 2 rfl) ?_
        rcases ho161 : K108.2.2.1 4 x9 with _ | o160
        · skip
          refine p_get (v := .null) (C := RX7) (Tc := TX7) (N := 11) (ci := 13) hx hb hq pin_wsX70 hown hE hP hO (by rw [hf138]; decide) (rep_1 hf138) rfl 10 (by decide) (hq _ pw_170) (fun _ h9 => h9) (congrArg (fun z => some (va_rf z)) ho161) dX0_tryStatement_176 ?_
          refine lv_astoreN (lv' := [(10, .null), (9, .int x158), (8, .int r155), (7, .int b7), (6, .int b6), (5, .int b5), (4, .int (nI hd)), (3, .int 6), (2, .int 0), (1, .ref q), (0, .ref (a 4))]) hx hb dX0_tryStatement_179 hl (by decide) rfl (fun ls hl => ?_)
          refine lv_goto (tgt := 109) hx hb dX0_tryStatement_181 (by decide) ?_
          refine W.widen (k := (c2 + (rE (g 2 x9) - rS (g 2 x9)))) (n := (6 * (c2 + (rE (g 2 x9) - rS (g 2 x9))))) (by show (c2 + (rE (g 2 x9) - rS (g 2 x9))) ≤ _; omega) (by show ((6 * c2) + (6 * (rE (g 2 x9) - rS (g 2 x9)))) ≤ _; omega) ?_
          have hO : OKP G h0 a (upd (upd (upd (upd (upd (upd (upd (upd (upd (upd F 2 (nI sz)) 5 (nI cs150)) 6 (nI rg117)) 7 (nI hd)) 8 (nI dp116)) 12 (nI vr)) 13 as111) 14 wt112) 15 wf113) 16 ls118) (updR (updR (updR R 2 (.ref pq)) 3 (.ref mq)) 4 (va_rf lo)) Z (updA (updA (updA (updA B109 16 f151) 17 f152) 18 f153) 19 f154) J K108 w := hO.to rfl
          exact ih_g (g 2 x9 + 1) none K108 (updA (updA (updA (updA B109 16 f151) 17 f152) 18 f153) 19 f154) cs150 as111 wt112 wf113 dp116 rg117 ls118 (rE (g 2 x9)) (c2 + (rE (g 2 x9) - rS (g 2 x9))) b5 b6 b7 r155 x158 _ _ _ _ (by omega) (by omega) hbe142 ((show Thx (upd (upd (upd (upd (upd (upd (upd F 2 (nI sz)) 5 (nI cs)) 6 (nI rg)) 7 (nI hd)) 8 (nI dp)) 12 (nI vr)) 16 ls9) (upd (upd (upd (upd (upd (upd (upd (upd (upd (upd (upd (upd (upd (upd (upd (upd F 2 (nI sz)) 5 (nI cs)) 6 (nI rg)) 7 (nI hd)) 8 (nI dp)) 12 (nI vr)) 16 ls9) 5 (nI cs150)) 6 (nI rg117)) 7 (nI hd115)) 8 (nI dp116)) 12 (nI vr114)) 13 as111) 14 wt112) 15 wf113) 16 ls118) B (updA (updA (updA (updA B109 16 f151) 17 f152) 18 f153) 19 f154) from (Thx.b (Thx.b8 (Thx.b (Thx.b (Thx.f (Thx.f (Thx.f (Thx.f (Thx.f (Thx.f (Thx.f (Thx.f (Thx.f (Bth.thx hbb143) (by omega)) (by omega)) (by omega)) (by omega)) (by omega)) (by omega)) (by omega)) (by omega)) (by omega)) (by omega) (by decide)) (by omega) (by decide)) h157) (by omega) (by decide))).2) h157 (by omega) (MmO.next (BdE.wp hbe142 hwp).1 hqL.1 hf138 hxd.2.1 hxd.2.2.2.1 ho161) (by omega) hP hD hS hO (lv_sub hl [0, 1, 2, 3, 4, 5, 6, 7, 8, 9, 10] rfl)
        · skip
          refine p_get (v := .ref o160) (C := RX7) (Tc := TX7) (N := 11) (ci := 13) hx hb hq pin_wsX70 hown hE hP hO (by rw [hf138]; decide) (rep_1 hf138) rfl 10 (by decide) (hq _ pw_170) (fun _ h9 => h9) (congrArg (fun z => some (va_rf z)) ho161) dX0_tryStatement_176 ?_
          refine lv_astore (lv' := [(10, .ref o160), (9, .int x158), (8, .int r155), (7, .int b7), (6, .int b6), (5, .int b5), (4, .int (nI hd)), (3, .int 6), (2, .int 0), (1, .ref q), (0, .ref (a 4))]) hx hb dX0_tryStatement_179 hl (by decide) rfl (fun ls hl => ?_)
          refine lv_goto (tgt := 109) hx hb dX0_tryStatement_181 (by decide) ?_
          refine W.widen (k := (c2 + (rE (g 2 x9) - rS (g 2 x9)))) (n := (6 * (c2 + (rE (g 2 x9) - rS (g 2 x9))))) (by show (c2 + (rE (g 2 x9) - rS (g 2 x9))) ≤ _; omega) (by show ((6 * c2) + (6 * (rE (g 2 x9) - rS (g 2 x9)))) ≤ _; omega) ?_
          have hO : OKP G h0 a (upd (upd (upd (upd (upd (upd (upd (upd (upd (upd F 2 (nI sz)) 5 (nI cs150)) 6 (nI rg117)) 7 (nI hd)) 8 (nI dp116)) 12 (nI vr)) 13 as111) 14 wt112) 15 wf113) 16 ls118) (updR (updR (updR R 2 (.ref pq)) 3 (.ref mq)) 4 (va_rf lo)) Z (updA (updA (updA (updA B109 16 f151) 17 f152) 18 f153) 19 f154) J K108 w := hO.to rfl
          exact ih_g (g 2 x9 + 1) (some o160) K108 (updA (updA (updA (updA B109 16 f151) 17 f152) 18 f153) 19 f154) cs150 as111 wt112 wf113 dp116 rg117 ls118 (rE (g 2 x9)) (c2 + (rE (g 2 x9) - rS (g 2 x9))) b5 b6 b7 r155 x158 _ _ _ _ (by omega) (by omega) hbe142 ((show Thx (upd (upd (upd (upd (upd (upd (upd F 2 (nI sz)) 5 (nI cs)) 6 (nI rg)) 7 (nI hd)) 8 (nI dp)) 12 (nI vr)) 16 ls9) (upd (upd (upd (upd (upd (upd (upd (upd (upd (upd (upd (upd (upd (upd (upd (upd F 2 (nI sz)) 5 (nI cs)) 6 (nI rg)) 7 (nI hd)) 8 (nI dp)) 12 (nI vr)) 16 ls9) 5 (nI cs150)) 6 (nI rg117)) 7 (nI hd115)) 8 (nI dp116)) 12 (nI vr114)) 13 as111) 14 wt112) 15 wf113) 16 ls118) B (updA (updA (updA (updA B109 16 f151) 17 f152) 18 f153) 19 f154) from (Thx.b (Thx.b8 (Thx.b (Thx.b (Thx.f (Thx.f (Thx.f (Thx.f (Thx.f (Thx.f (Thx.f (Thx.f (Thx.f (Bth.thx hbb143) (by omega)) (by omega)) (by omega)) (by omega)) (by omega)) (by omega)) (by omega)) (by omega)) (by omega)) (by omega) (by decide)) (by omega) (by decide)) h157) (by omega) (by decide))).2) h157 (by omega) (MmO.next (BdE.wp hbe142 hwp).1 hqL.1 hf138 hxd.2.1 hxd.2.2.2.1 ho161) (by omega) hP hD hS hO (lv_sub hl [0, 1, 2, 3, 4, 5, 6, 7, 8, 9, 10] rfl)
  refine W.widen (k := (rE (g 2 q1) - rS (g 2 q1) - 2)) (n := (6 * (rE (g 2 q1) - rS (g 2 q1) - 2))) (by show (rE (g 2 q1) - rS (g 2 q1) - 2) ≤ _; omega) (by show (6 * (rE (g 2 q1) - rS (g 2 q1) - 2)) ≤ _; omega) ?_
  have hO : OKP G h0 a (upd (upd (upd (upd (upd (upd (upd (upd (upd (upd F 2 (nI sz)) 5 (nI cs48)) 6 (nI rg19)) 7 (nI hd)) 8 (nI dp18)) 12 (nI vr)) 13 as13) 14 wt14) 15 wf15) 16 ls20) (updR (updR (updR R 2 (.ref pq)) 3 (.ref mq)) 4 (va_rf lo)) Z (updA (updA (updA (updA B11 16 f49) 17 f50) 18 f51) 19 f52) J K10 w := hO.to rfl
  exact loop_g (100000000000000000001 + 1) 0 ob K10 (updA (updA (updA (updA B11 16 f49) 17 f50) 18 f51) 19 f52) cs48 as13 wt14 wf15 dp18 rg19 ls20 (rM (g 2 q)) (rE (g 2 q1) - rS (g 2 q1) - 2) (F 13) (nI cs) (nI cs12) r53 as13 _ _ _ _ (by omega) (by omega) hbe40 ((show Thx (upd (upd (upd (upd (upd (upd (upd F 2 (nI sz)) 5 (nI cs)) 6 (nI rg)) 7 (nI hd)) 8 (nI dp)) 12 (nI vr)) 16 ls9) (upd (upd (upd (upd (upd (upd (upd (upd (upd (upd (upd (upd (upd (upd (upd (upd F 2 (nI sz)) 5 (nI cs)) 6 (nI rg)) 7 (nI hd)) 8 (nI dp)) 12 (nI vr)) 16 ls9) 5 (nI cs48)) 6 (nI rg19)) 7 (nI hd17)) 8 (nI dp18)) 12 (nI vr16)) 13 as13) 14 wt14) 15 wf15) 16 ls20) B (updA (updA (updA (updA B11 16 f49) 17 f50) 18 f51) 19 f52) from (Thx.b (Thx.b8 (Thx.b (Thx.b (Thx.f (Thx.f (Thx.f (Thx.f (Thx.f (Thx.f (Thx.f (Thx.f (Thx.f (Bth.thx hbb41) (by omega)) (by omega)) (by omega)) (by omega)) (by omega)) (by omega)) (by omega)) (by omega)) (by omega)) (by omega) (by decide)) (by omega) (by decide)) h55) (by omega) (by decide))).2) h55 (by omega) (MmO.be hbe40 (MmO.first32 hwp.1 hqT hqL.1 hkd hob)) (by omega) hP hD hS hO (lv_sub hl [0, 1, 2, 3, 4, 5, 6, 7, 8, 10, 9] rfl)
theorem dX0_tryStatement_7 : decode cX0_tryStatement 7 = .ok (.iconst 1, 1) := by decide +kernel
theorem dX0_tryStatement_8 : decode cX0_tryStatement 8 = .ok (.goto 4, 3) := by decide +kernel
theorem dX0_tryStatement_17 : decode cX0_tryStatement 17 = .ok (.bipush 29, 2) := by decide +kernel
theorem dX0_tryStatement_19 : decode cX0_tryStatement 19 = .ok (.goto 5, 3) := by decide +kernel
theorem dX0_tryStatement_49 : decode cX0_tryStatement 49 = .ok (.iconst 1, 1) := by decide +kernel
theorem dX0_tryStatement_50 : decode cX0_tryStatement 50 = .ok (.goto 4, 3) := by decide +kernel
theorem dX0_tryStatement_193 : decode cX0_tryStatement 193 = .ok (.iconst 1, 1) := by decide +kernel
theorem dX0_tryStatement_194 : decode cX0_tryStatement 194 = .ok (.goto 4, 3) := by decide +kernel
theorem dX0_tryStatement_221 : decode cX0_tryStatement 221 = .ok (.aload_n 0, 1) := by decide +kernel
theorem dX0_tryStatement_222 : decode cX0_tryStatement 222 = .ok (.getfield 15, 3) := by decide +kernel
theorem dX0_tryStatement_225 : decode cX0_tryStatement 225 = .ok (.iload 6, 2) := by decide +kernel
theorem dX0_tryStatement_227 : decode cX0_tryStatement 227 = .ok (.aload_n 0, 1) := by decide +kernel
theorem dX0_tryStatement_228 : decode cX0_tryStatement 228 = .ok (.getfield 15, 3) := by decide +kernel
theorem dX0_tryStatement_231 : decode cX0_tryStatement 231 = .ok (.getfield 99, 3) := by decide +kernel
theorem dX0_tryStatement_234 : decode cX0_tryStatement 234 = .ok (.iconst (-1), 1) := by decide +kernel
theorem dX0_tryStatement_235 : decode cX0_tryStatement 235 = .ok (.iload 4, 2) := by decide +kernel
theorem dX0_tryStatement_237 : decode cX0_tryStatement 237 = .ok (.invokevirtual 284, 3) := by decide +kernel
theorem dX0_tryStatement_240 : decode cX0_tryStatement 240 = .ok (.aload_n 0, 1) := by decide +kernel
theorem dX0_tryStatement_241 : decode cX0_tryStatement 241 = .ok (.iload 5, 2) := by decide +kernel
theorem dX0_tryStatement_243 : decode cX0_tryStatement 243 = .ok (.putfield 94, 3) := by decide +kernel
theorem dX0_tryStatement_246 : decode cX0_tryStatement 246 = .ok (.aload_n 0, 1) := by decide +kernel
theorem dX0_tryStatement_247 : decode cX0_tryStatement 247 = .ok (.aload_n 1, 1) := by decide +kernel
theorem dX0_tryStatement_248 : decode cX0_tryStatement 248 = .ok (.getfield 247, 3) := by decide +kernel
theorem dX0_tryStatement_251 : decode cX0_tryStatement 251 = .ok (.iload 4, 2) := by decide +kernel
theorem dX0_tryStatement_253 : decode cX0_tryStatement 253 = .ok (.invokevirtual 291, 3) := by decide +kernel
theorem dX0_tryStatement_256 : decode cX0_tryStatement 256 = .ok (.aload_n 0, 1) := by decide +kernel
theorem dX0_tryStatement_257 : decode cX0_tryStatement 257 = .ok (.dup, 1) := by decide +kernel
theorem dX0_tryStatement_258 : decode cX0_tryStatement 258 = .ok (.getfield 94, 3) := by decide +kernel
theorem dX0_tryStatement_261 : decode cX0_tryStatement 261 = .ok (.iload 9, 2) := by decide +kernel
theorem dX0_tryStatement_263 : decode cX0_tryStatement 263 = .ok (.ior, 1) := by decide +kernel
theorem dX0_tryStatement_264 : decode cX0_tryStatement 264 = .ok (.putfield 94, 3) := by decide +kernel
theorem hV_X0_last : yX0_last.cls = RX0 ∧ yX0_last.cls ≠ "java/lang/invoke/MethodHandle" ∧ yX0_last.cls ≠ "java/lang/invoke/VarHandle" ∧ (parseMethodDescriptor yX0_last.desc).map (fun d => d.parameters.length) = some 2 := by decide +kernel
set_option maxHeartbeats 40000000 in
set_option maxRecDepth 100000 in
theorem B_tryL (l : Launch) (G : pT) (h0 : Nat) (a : Nat → Nat) (F : Nat → Int32) (R : Nat → Value) (Z : Int64) (B : Nat → Nat → Int32) (J : Nat → Nat → Int64) (K : PK) (w : va_W) (pq : Nat) (dr : Nat) (ml : Nat) (nd : Nat) (nm : Nat) (cp : Nat) (it : Nat → Nat) (s9 : Nat) (q : Nat) (mq : Nat) (cs : Nat) (vr : Nat) (sz : Nat) (n : Nat) (q1 : Nat) (q3 : Nat) (hd : Nat) (dp : Nat) (rg : Nat) (ls9 : Int32) (lo : Option Nat) (g : Nat → Nat → Nat) (rk : Nat → Nat) (hsz : sz ≤ 5000) (hwp : WPr G K g) (hps : PgT G K g (a 1) pq dr ml nd nm cp it s9) (hrk : RkO K rk) (hcs : cs ≤ 10000) (hvr : vr ≤ 30) (hng : Nng (B 18)) (hmq : K.1 mq = 3) (hqT : K.1 q = 1) (hqL : 1 ≤ g 0 q ∧ g 0 q ≤ n) (hc0 : K.2.2.1 0 q = some q1) (ht0 : K.1 q1 = 1) (hv0 : 1 ≤ g 0 q1 ∧ g 0 q1 + 1 ≤ n) (hc2 : K.2.2.1 2 q = some q3) (ht2 : K.1 q3 = 1) (hv2 : 1 ≤ g 0 q3 ∧ g 0 q3 + 1 ≤ n) (hdp : dp ≤ 1000) (hrg : rg ≤ 625) (hhd : hd + 2 * n + 30 ≤ 900 + vr) (hlo : LpO K lo) (hkd : K.2.1 0 q = 32) (ist : IhT l G n) (ihv : IhV l G n) (hO : OKP G h0 a (upd (upd (upd (upd (upd (upd (upd F 2 (nI sz)) 5 (nI cs)) 6 (nI rg)) 7 (nI hd)) 8 (nI dp)) 12 (nI vr)) 16 ls9) (updR (updR (updR R 2 (.ref pq)) 3 (.ref mq)) 4 (va_rf lo)) Z B J K w) (hl0 : l.stackTraces = false) : PBn l G pX0 yX0_tryStatement cX0_tryStatement 11 none ({ frames := (5 * n + 46), cells := ((rE (g 2 q) - rS (g 2 q)) + 1), slots := (6 * (rE (g 2 q) - rS (g 2 q)) + 6), locals := (200 * n + 1120) }) [.ref (a 4), .ref q] w (fun (v : Option Value) (u : va_W × (PK × (Nat → Nat → Int32) × Nat × Int32 × Int32 × Int32 × Nat × Nat × Nat × Nat × Int32)) => v = none ∧ (BdE K u.2.1) ∧ (Bth B u.2.2.1) ∧ (u.2.2.2.1 ≤ 10000 ∧ u.2.2.2.2.2.2.2.2.2.2.1 ≤ 625 ∧ u.2.2.2.2.2.2.2.2.2.1 ≤ 1000) ∧ (vr ≤ u.2.2.2.2.2.2.2.1 ∧ u.2.2.2.2.2.2.2.1 ≤ 30 ∧ u.2.2.2.2.2.2.2.2.1 + vr = hd + u.2.2.2.2.2.2.2.1) ∧ (OKP G h0 a (upd (upd (upd (upd (upd (upd (upd (upd (upd (upd F 2 (nI sz)) 5 (nI u.2.2.2.1)) 6 (nI u.2.2.2.2.2.2.2.2.2.2.1)) 7 (nI u.2.2.2.2.2.2.2.2.1)) 8 (nI u.2.2.2.2.2.2.2.2.2.1)) 12 (nI u.2.2.2.2.2.2.2.1)) 13 u.2.2.2.2.1) 14 u.2.2.2.2.2.1) 15 u.2.2.2.2.2.2.1) 16 u.2.2.2.2.2.2.2.2.2.2.2) (updR (updR (updR R 2 (.ref pq)) 3 (.ref mq)) 4 (va_rf lo)) Z u.2.2.1 J u.2.1 u.1)) (fun u => u.1) (fun (u : va_W × (PK × (Nat → Nat → Int32) × Nat × Int32 × Int32 × Int32 × Nat × Nat × Nat × Nat × Int32)) => (rE (g 2 q) - rS (g 2 q))) (fun (u : va_W × (PK × (Nat → Nat → Int32) × Nat × Int32 × Int32 × Int32 × Nat × Nat × Nat × Nat × Int32)) => (6 * (rE (g 2 q) - rS (g 2 q)))) (fun (u : va_W × (Nat → Int32) × (Nat → Value) × (Nat → Nat → Int32)) => ThQ G h0 a (upd (upd (upd (upd (upd (upd (upd F 2 (nI sz)) 5 (nI cs)) 6 (nI rg)) 7 (nI hd)) 8 (nI dp)) 12 (nI vr)) 16 ls9) Z B J u) (fun u => u.1) := by
  intro sz
  refine vx_ofW (cc := cX0_tryStatement) (maxL := 11) (ret := none) (by decide) rfl ?_
  intro p e s m args below meth c s₁ B9 hml hnt hv
  obtain ⟨rfl, hsz, hP, hD0, hE, hX⟩ := hv
  have hx := B9.exec
  have hb := B9.bytes
  have hr := B9.returns
  have hts := atoms_spec (ws := Cond.code yX0_tryStatement cX0_tryStatement 11 none :: pw) B9.pre
  have hq : ∀ w ∈ pw, w.before _ s = true := fun w h => hts w (List.mem_cons_of_mem _ h)
  have hown : s.vm.findClass RX0 = some m.cls := findClass_of_methodNamed B9.named
  have hlocks := B9.notSynchronized
  subst hsz
  have hD := hD0.self (sz := s.heap.size)
  have hA : ∀ q : Nat, s.heap.size ≤ q → va_A w s.heap.size q := fun q h => Or.inr h
  generalize va_A w s.heap.size = A at hD hE hA ⊢
  have hS : va_S A s.heap s.heap [] := va_S.rf
  have hl := lv_entry ([.ref (a 4), .ref q]) (n := 11) (Nat.le_of_ble_eq_true rfl)
  rw [lg_entry_eq]
  generalize (lg_sl ([.ref (a 4), .ref q]) ++ List.replicate (11 - (lg_sl ([.ref (a 4), .ref q])).length) Slot.unset).toArray = ls at hl ⊢
  have hl : lv_has ls 11 [(0, .ref (a 4)), (1, .ref q)] := hl
  have hpg := hps.1
  have hp1 := hpg.1
  have hp2 := hpg.2.1
  have hp3 := hpg.2.2.1
  have hp4 := hpg.2.2.2.1
  have hp5 := hpg.2.2.2.2.1
  have hp6 := hpg.2.2.2.2.2.1
  have hp8 := hpg.2.2.2.2.2.2.2.1
  have hp9 := hpg.2.2.2.2.2.2.2.2
  have hnd := hwp.1 q hqT hqL.1
  have hiq := hnd.it
  have hri0 := NdO.iv32a hnd hkd hc0
  have hrx0 := (hwp.1 q1 ht0 hv0.1).it
  have hk1 := NdO.k32 hnd hkd (by decide) (by decide) hc0
  have hri2 := NdO.iv32c hnd hkd hc2
  have hrx2 := (hwp.1 q3 ht2 hv2.1).it
  have hk3 := NdO.k32 hnd hkd (by decide) (by decide) hc2
  obtain ⟨ob, hob⟩ : ∃ z : Option Nat, K.2.2.1 1 q = z := ⟨_, rfl⟩
  refine lv_aload_n hx hb dX0_tryStatement_0 rfl (lv_at hl 1 rfl) ?_
  refine p_get (v := .ref q3) (C := RX7) (Tc := TX7) (N := 11) (ci := 13) hx hb hq pin_wsX70 hown hE hP hO (by rw [hqT]; decide) (rep_1 hqT) rfl 8 (by decide) (hq _ pw_196) (fun _ h9 => h9) (congrArg (fun z => some (va_rf z)) hc2) dX0_tryStatement_1 ?_
  refine lv_ifnull hx hb dX0_tryStatement_4 ?_
  refine lv_iconst (v := 1) hx hb dX0_tryStatement_7 (by decide) ?_
  refine lv_goto (tgt := 12) hx hb dX0_tryStatement_8 (by decide) ?_
  refine lv_istore_n (lv' := [(2, .int 1), (0, .ref (a 4)), (1, .ref q)]) hx hb dX0_tryStatement_12 rfl hl (by decide) rfl (fun ls hl => ?_)
  refine lv_iload_n hx hb dX0_tryStatement_13 rfl (lv_at hl 0 rfl) ?_
  refine lv_if_eq (tgt := 22) hx hb dX0_tryStatement_14 (by decide) (fun c1 => absurd c1 (by decide)) (fun c1 => ?_)
  refine lv_bipush (v := 29) hx hb dX0_tryStatement_17 (by decide) ?_
  refine lv_goto (tgt := 24) hx hb dX0_tryStatement_19 (by decide) ?_
  refine lv_istore_n (lv' := [(3, .int 29), (2, .int 1), (0, .ref (a 4)), (1, .ref q)]) hx hb dX0_tryStatement_24 rfl hl (by decide) rfl (fun ls hl => ?_)
  refine lv_aload_n hx hb dX0_tryStatement_25 rfl (lv_at hl 2 rfl) ?_
  refine c_get (v := .ref (a 2)) (C := RX0) (Tc := TX0) (N := 13) (ci := 0) hx hb hq pin_wsX00 hown hE hP hO 24 (sg_24 G h0 a _ _ _ _ _) rfl 1 (by decide) (hq _ pw_5) (fun _ h9 => h9) rfl dX0_tryStatement_26 ?_
  refine c_get (v := .int (nI hd)) (C := RX1) (Tc := TX1) (N := 13) (ci := 1) hx hb hq pin_wsX10 hown hE hP hO 13 (sg_13 G h0 a _ _ _ _ _) rfl 11 (by decide) (hq _ pw_54) (fun _ h9 => h9) rfl dX0_tryStatement_29 ?_
  refine lv_istore (lv' := [(4, .int (nI hd)), (3, .int 29), (2, .int 1), (0, .ref (a 4)), (1, .ref q)]) hx hb dX0_tryStatement_32 hl (by decide) rfl (fun ls hl => ?_)
  refine lv_aload_n hx hb dX0_tryStatement_34 rfl (lv_at hl 3 rfl) ?_
  refine c_get (v := .int (F 13)) (C := RX0) (Tc := TX0) (N := 13) (ci := 0) hx hb hq pin_wsX00 hown hE hP hO 24 (sg_24 G h0 a _ _ _ _ _) rfl 8 (by decide) (hq _ pw_55) (fun _ h9 => h9) rfl dX0_tryStatement_35 ?_
  refine lv_istore (lv' := [(5, .int (F 13)), (4, .int (nI hd)), (3, .int 29), (2, .int 1), (0, .ref (a 4)), (1, .ref q)]) hx hb dX0_tryStatement_38 hl (by decide) rfl (fun ls hl => ?_)
  refine lv_aload_n hx hb dX0_tryStatement_40 rfl (lv_at hl 4 rfl) ?_
  refine lv_dup hx hb dX0_tryStatement_41 rfl ?_
  refine c_get (v := .int ls9) (C := RX0) (Tc := TX0) (N := 13) (ci := 0) hx hb hq pin_wsX00 hown hE hP hO 24 (sg_24 G h0 a _ _ _ _ _) rfl 12 (by decide) (hq _ pw_74) (fun _ h9 => h9) rfl dX0_tryStatement_42 ?_
  refine lv_iload_n hx hb dX0_tryStatement_45 rfl (lv_at hl 3 rfl) ?_
  refine lv_if_eq (tgt := 53) hx hb dX0_tryStatement_46 (by decide) (fun c2 => absurd c2 (by decide)) (fun c2 => ?_)
  refine lv_iconst (v := 1) hx hb dX0_tryStatement_49 (by decide) ?_
  refine lv_goto (tgt := 54) hx hb dX0_tryStatement_50 (by decide) ?_
  refine lv_iadd hx hb dX0_tryStatement_54 ?_
  refine lv_topi (fun x3 e4 => ?_)
  refine c_put (v := .int x3) (ty := .int) (C := RX0) (Tc := TX0) (N := 13) (ci := 0) hx hb hq pin_wsX00 tyX0 tyX0_ok nmX0 hown hE hP hD hS hO 24 (sg_24 G h0 a _ _ _ _ _) rfl 12 (by decide) (hq _ pw_74) (fun _ h9 => h9) rfl (by decide +kernel) rfl rfl (Nat.le_of_ble_eq_true rfl) (sf_16 G h0 a _ _ _ _ _ x3) dX0_tryStatement_55 (fun H locs w hP hD hS hO => ?_)
  refine lv_aload_n hx hb dX0_tryStatement_58 rfl (lv_at hl 4 rfl) ?_
  refine c_get (v := .ref (a 2)) (C := RX0) (Tc := TX0) (N := 13) (ci := 0) hx hb hq pin_wsX00 hown hE hP hO 24 (sg_24 G h0 a _ _ _ _ _) rfl 1 (by decide) (hq _ pw_5) (fun _ h9 => h9) rfl dX0_tryStatement_59 ?_
  refine c_get (v := .int (nI cs)) (C := RX1) (Tc := TX1) (N := 13) (ci := 1) hx hb hq pin_wsX10 hown hE hP hO 13 (sg_13 G h0 a _ _ _ _ _) rfl 4 (by decide) (hq _ pw_75) (fun _ h9 => h9) rfl dX0_tryStatement_62 ?_
  refine lv_istore (lv' := [(6, .int (nI cs)), (5, .int (F 13)), (4, .int (nI hd)), (3, .int 29), (2, .int 1), (0, .ref (a 4)), (1, .ref q)]) hx hb dX0_tryStatement_65 hl (by decide) rfl (fun ls hl => ?_)
  refine lv_aload_n hx hb dX0_tryStatement_67 rfl (lv_at hl 5 rfl) ?_
  refine lv_aload_n hx hb dX0_tryStatement_68 rfl (lv_at hl 6 rfl) ?_
  refine p_get (v := .ref q1) (C := RX7) (Tc := TX7) (N := 11) (ci := 13) hx hb hq pin_wsX70 hown hE hP hO (by rw [hqT]; decide) (rep_1 hqT) rfl 6 (by decide) (hq _ pw_180) (fun _ h9 => h9) (congrArg (fun z => some (va_rf z)) hc0) dX0_tryStatement_69 ?_
  have hO : OKP G h0 a (upd (upd (upd (upd (upd (upd (upd (upd (upd (upd (upd (upd (upd (upd (upd F 2 (nI sz)) 5 (nI cs)) 6 (nI rg)) 7 (nI hd)) 8 (nI dp)) 12 (nI vr)) 16 ls9) 16 x3) 2 (nI sz)) 5 (nI cs)) 6 (nI rg)) 7 (nI hd)) 8 (nI dp)) 12 (nI vr)) 16 x3) (updR (updR (updR (updR (updR (updR R 2 (.ref pq)) 3 (.ref mq)) 4 (va_rf lo)) 2 (.ref pq)) 3 (.ref mq)) 4 (va_rf lo)) Z B J K w := hO.to rfl
  obtain ⟨_, qr8, hqr9⟩ := hO.2.1 24 _ (sg_24 G h0 a _ _ _ _ _)
  refine pn_V0 (G := G) (As := [.ref q1]) (rest := []) hx hb hml hown hq hE hX pX0_al hP hD hS hA hl.1 (B_block l G h0 a (upd (upd (upd (upd (upd (upd (upd (upd F 2 (nI sz)) 5 (nI cs)) 6 (nI rg)) 7 (nI hd)) 8 (nI dp)) 12 (nI vr)) 16 ls9) 16 x3) (updR (updR (updR R 2 (.ref pq)) 3 (.ref mq)) 4 (va_rf lo)) Z B J K w pq dr ml nd nm cp it s9 q1 mq cs vr sz (n - 1) hd dp rg x3 lo g rk (by omega) (BdE.wp BdE.rfl hwp) (BdE.pt BdE.rfl hwp hps) (BdE.rko BdE.rfl hrk) (by omega) (by omega) hng hmq ht0 ⟨hv0.1, (by have z9 := hv0; omega)⟩ (by omega) (by omega) (by omega) (LpO.be BdE.rfl hlo) hk1 (IhT.lo ist) (IhV.all l G _) hO hl0) (gV pw_307 pw_308 pw_309 pw_63 pw_358) hV_X0_block qr8 0 hqr9 rfl rfl rfl (Nat.le_of_ble_eq_true rfl) dX0_tryStatement_72 ⟨(by show 0 + ((rE (g 2 q1) - rS (g 2 q1) - 2) + 1) ≤ ((rE (g 2 q) - rS (g 2 q)) + 1); omega), (by show 0 + (6 * (rE (g 2 q1) - rS (g 2 q1) - 2) + 6) ≤ (6 * (rE (g 2 q) - rS (g 2 q)) + 6); omega)⟩ ⟨(by show (5 * (n - 1) + 46) + 1 ≤ (5 * n + 46); omega), (by show 8 + (5 + 11) + (200 * (n - 1) + 1120) ≤ (200 * n + 1120); omega)⟩ (fun v7 u5 H locs hw6 hP hD hS => ?_) (fun ux ce9 q9 H9 locs9 hux hP9 hD9 hS9 hce hcv hcl => pb_out ux (ThQ.up (Thx.same (Thx.same (Thx.same (Thx.same (Thx.same (Thx.same (Thx.same (Thx.f Thx.rfl (by omega)) rfl) rfl) rfl) rfl) rfl) rfl) rfl) hux) hnt hlocks hce hcv hcl hP9 hD9 hS9 (by show 0 + ((rE (g 2 q1) - rS (g 2 q1) - 2) + 1) ≤ ((rE (g 2 q) - rS (g 2 q)) + 1); omega) (by show 0 + (6 * (rE (g 2 q1) - rS (g 2 q1) - 2) + 6) ≤ (6 * (rE (g 2 q) - rS (g 2 q)) + 6); omega))
  obtain ⟨w, K10, B11, cs12, as13, wt14, wf15, vr16, hd17, dp18, rg19, ls20⟩ := u5
  obtain ⟨hw6, h21, h22, h23, h24, hO⟩ := hw6
  have h21 : BdE K K10 := h21
  have h22 : Bth B B11 := h22
  have h23 : cs12 ≤ 10000 ∧ rg19 ≤ 625 ∧ dp18 ≤ 1000 := h23
  have h24 : vr ≤ vr16 ∧ vr16 ≤ 30 ∧ hd17 + vr = hd + vr16 := h24
  obtain rfl : v7 = none := hw6
  have hf25 : K10.1 pq = 7 := (BdE.T h21 hp1 (by decide))
  have hf26 : K10.2.2.1 18 pq = some (a 1) := (BdE.C h21 (by rw [hp1]; decide) 18).trans hp2
  have hf27 : K10.2.2.1 14 pq = some dr := (BdE.C h21 (by rw [hp1]; decide) 14).trans hp3
  have hf28 : K10.1 dr = 8 := (BdE.T h21 hp4 (by decide))
  have hf29 : K10.2.2.1 15 pq = some ml := (BdE.C h21 (by rw [hp1]; decide) 15).trans hp5
  have hf30 : K10.1 ml = 5 := (BdE.T h21 hp6 (by decide))
  have hf31 : K10.2.1 24 pq = (nI nd) := (BdE.I h21 (by rw [hp1]; decide) (by decide) (by decide)).trans hp8
  have hf32 : K10.1 q = 1 := (BdE.T h21 hqT (by decide))
  have hf33 : K10.1 mq = 3 := (BdE.T h21 hmq (by decide))
  have hf34 : K10.2.2.1 0 q = some q1 := (BdE.C h21 (by rw [hqT]; decide) 0).trans hc0
  have hf35 : K10.1 q1 = 1 := (BdE.T h21 ht0 (by decide))
  have hf36 : K10.2.2.1 2 q = some q3 := (BdE.C h21 (by rw [hqT]; decide) 2).trans hc2
  have hf37 : K10.1 q3 = 1 := (BdE.T h21 ht2 (by decide))
  have hf38 : K10.2.1 0 q1 = 21 := (BdE.I h21 (by rw [ht0]; decide) (by decide) (by decide)).trans hk1
  have hf39 : K10.2.1 0 q3 = 21 := (BdE.I h21 (by rw [ht2]; decide) (by decide) (by decide)).trans hk3
  have hf40 : K10.2.2.1 1 q = ob := (BdE.C h21 (by rw [hqT]; decide) 1).trans hob
  have hf41 : K10.2.1 0 q = 32 := (BdE.I h21 (by rw [hqT]; decide) (by decide) (by decide)).trans hkd
  have hO : OKP G h0 a (upd (upd (upd (upd (upd (upd (upd (upd (upd (upd F 2 (nI sz)) 5 (nI cs12)) 6 (nI rg19)) 7 (nI hd17)) 8 (nI dp18)) 12 (nI vr16)) 13 as13) 14 wt14) 15 wf15) 16 ls20) (updR (updR (updR R 2 (.ref pq)) 3 (.ref mq)) 4 (va_rf lo)) Z B11 J K10 w := hO.to rfl
  refine W.widen (k := (rE (g 2 q1) - rS (g 2 q1) - 2)) (n := (6 * (rE (g 2 q1) - rS (g 2 q1) - 2))) (by show 0 + (rE (g 2 q1) - rS (g 2 q1) - 2) ≤ (rE (g 2 q1) - rS (g 2 q1) - 2); omega) (by show 0 + (6 * (rE (g 2 q1) - rS (g 2 q1) - 2)) ≤ (6 * (rE (g 2 q1) - rS (g 2 q1) - 2)); omega) ?_
  refine W.eq (g2 := F0 m 75 ls []) rfl ?_
  have hbe42 := BdE.trans BdE.rfl h21
  have hbb43 : Bth B B11 := Bth.trans (show Thx (upd (upd (upd (upd (upd (upd (upd F 2 (nI sz)) 5 (nI cs)) 6 (nI rg)) 7 (nI hd)) 8 (nI dp)) 12 (nI vr)) 16 ls9) (upd (upd (upd (upd (upd (upd (upd (upd F 2 (nI sz)) 5 (nI cs)) 6 (nI rg)) 7 (nI hd)) 8 (nI dp)) 12 (nI vr)) 16 ls9) 16 x3) B B from (Thx.f Thx.rfl (by omega))).2 h22
  have hng44 : Nng (B11 18) := h22.2 hng
  refine lv_aload_n hx hb dX0_tryStatement_75 rfl (lv_at hl 5 rfl) ?_
  refine c_get (v := .ref (a 2)) (C := RX0) (Tc := TX0) (N := 13) (ci := 0) hx hb hq pin_wsX00 hown hE hP hO 24 (sg_24 G h0 a _ _ _ _ _) rfl 1 (by decide) (hq _ pw_5) (fun _ h9 => h9) rfl dX0_tryStatement_76 ?_
  refine c_get (v := .int (nI cs12)) (C := RX1) (Tc := TX1) (N := 13) (ci := 1) hx hb hq pin_wsX10 hown hE hP hO 13 (sg_13 G h0 a _ _ _ _ _) rfl 4 (by decide) (hq _ pw_75) (fun _ h9 => h9) rfl dX0_tryStatement_79 ?_
  refine lv_istore (lv' := [(7, .int (nI cs12)), (6, .int (nI cs)), (5, .int (F 13)), (4, .int (nI hd)), (3, .int 29), (2, .int 1), (0, .ref (a 4)), (1, .ref q)]) hx hb dX0_tryStatement_82 hl (by decide) rfl (fun ls hl => ?_)
  refine lv_aload_n hx hb dX0_tryStatement_84 rfl (lv_at hl 6 rfl) ?_
  refine c_get (v := .ref (a 2)) (C := RX0) (Tc := TX0) (N := 13) (ci := 0) hx hb hq pin_wsX00 hown hE hP hO 24 (sg_24 G h0 a _ _ _ _ _) rfl 1 (by decide) (hq _ pw_5) (fun _ h9 => h9) rfl dX0_tryStatement_85 ?_
  refine lv_iload_n hx hb dX0_tryStatement_88 rfl (lv_at hl 4 rfl) ?_
  refine lv_iconst (v := (-1)) hx hb dX0_tryStatement_89 (by decide) ?_
  refine lv_iload hx hb dX0_tryStatement_90 (lv_at hl 3 rfl) ?_
  have hO : OKW G h0 a (upd (upd (upd (upd (upd (upd (upd (upd (upd (upd (upd F 2 (nI sz)) 5 (nI cs12)) 6 (nI rg19)) 7 (nI hd17)) 8 (nI dp18)) 12 (nI vr16)) 13 as13) 14 wt14) 15 wf15) 16 ls20) 5 (nI cs12)) (updR (updR (updR R 2 (.ref pq)) 3 (.ref mq)) 4 (va_rf lo)) Z B11 J K10.1 (fun q99 x99 => x99 = rep G a K10 q99) w := hO.to rfl
  obtain ⟨_, qr48, hqr49⟩ := hO.2.1 13 _ (sg_13 G h0 a _ _ _ _ _)
  refine pc_V0 (G := G) (As := [.int 29, .int (-1), .int (nI hd)]) (rest := []) hx hb hml hown hq hE hX pX0_al hP hD hS hA hl.1 (K_jump l G h0 a (upd (upd (upd (upd (upd (upd (upd (upd (upd (upd F 2 (nI sz)) 5 (nI cs12)) 6 (nI rg19)) 7 (nI hd17)) 8 (nI dp18)) 12 (nI vr16)) 13 as13) 14 wt14) 15 wf15) 16 ls20) (updR (updR (updR R 2 (.ref pq)) 3 (.ref mq)) 4 (va_rf lo)) Z B11 J K10.1 (fun q99 x99 => x99 = rep G a K10 q99) w 29 (-1) hd cs12 (by omega) (by omega) hng44 hO) (gV pw_197 pw_198 pw_199 pw_70 pw_132) hV_X1_jump qr48 1 hqr49 rfl rfl rfl (Nat.le_of_ble_eq_true rfl) dX0_tryStatement_92 ⟨(by show (rE (g 2 q1) - rS (g 2 q1) - 2) + 0 ≤ ((rE (g 2 q) - rS (g 2 q)) + 1); omega), (by show (6 * (rE (g 2 q1) - rS (g 2 q1) - 2)) + 0 ≤ (6 * (rE (g 2 q) - rS (g 2 q)) + 6); omega)⟩ ⟨(by show 3 + 1 ≤ (5 * n + 46); omega), (by show 8 + (4 + 11) + 83 ≤ (200 * n + 1120); omega)⟩ (fun v47 u45 H locs hw46 hP hD hS => ?_)
  obtain ⟨w, cs50, f51, f52, f53, f54, r55⟩ := u45
  obtain ⟨hw46, h56, h57, hO⟩ := hw46
  have h56 : cs12 ≤ cs50 ∧ cs50 ≤ cs12 + 1 ∧ cs50 ≤ 10000 := h56
  have h57 : Nng f53 := h57
  obtain rfl : v47 = some (.int r55) := hw46
  have hO : OKP G h0 a (upd (upd (upd (upd (upd (upd (upd (upd (upd (upd F 2 (nI sz)) 5 (nI cs50)) 6 (nI rg19)) 7 (nI hd17)) 8 (nI dp18)) 12 (nI vr16)) 13 as13) 14 wt14) 15 wf15) 16 ls20) (updR (updR (updR R 2 (.ref pq)) 3 (.ref mq)) 4 (va_rf lo)) Z (updA (updA (updA (updA B11 16 f51) 17 f52) 18 f53) 19 f54) J K10 w := hO.to rfl
  refine W.widen (k := (rE (g 2 q1) - rS (g 2 q1) - 2)) (n := (6 * (rE (g 2 q1) - rS (g 2 q1) - 2))) (by show (rE (g 2 q1) - rS (g 2 q1) - 2) + 0 ≤ (rE (g 2 q1) - rS (g 2 q1) - 2); omega) (by show (6 * (rE (g 2 q1) - rS (g 2 q1) - 2)) + 0 ≤ (6 * (rE (g 2 q1) - rS (g 2 q1) - 2)); omega) ?_
  refine W.eq (g2 := F0 m 95 ls [.int r55]) rfl ?_
  refine lv_istore (lv' := [(8, .int r55), (7, .int (nI cs12)), (6, .int (nI cs)), (5, .int (F 13)), (4, .int (nI hd)), (3, .int 29), (2, .int 1), (0, .ref (a 4)), (1, .ref q)]) hx hb dX0_tryStatement_95 hl (by decide) rfl (fun ls hl => ?_)
  refine lv_aload_n hx hb dX0_tryStatement_97 rfl (lv_at hl 7 rfl) ?_
  refine c_get (v := .int as13) (C := RX0) (Tc := TX0) (N := 13) (ci := 0) hx hb hq pin_wsX00 hown hE hP hO 24 (sg_24 G h0 a _ _ _ _ _) rfl 8 (by decide) (hq _ pw_55) (fun _ h9 => h9) rfl dX0_tryStatement_98 ?_
  refine lv_istore (lv' := [(9, .int as13), (8, .int r55), (7, .int (nI cs12)), (6, .int (nI cs)), (5, .int (F 13)), (4, .int (nI hd)), (3, .int 29), (2, .int 1), (0, .ref (a 4)), (1, .ref q)]) hx hb dX0_tryStatement_101 hl (by decide) rfl (fun ls hl => ?_)
  refine lv_aload_n hx hb dX0_tryStatement_103 rfl (lv_at hl 9 rfl) ?_
  refine p_get (v := va_rf ob) (C := RX7) (Tc := TX7) (N := 11) (ci := 13) hx hb hq pin_wsX70 hown hE hP hO (by rw [hf32]; decide) (rep_1 hf32) rfl 7 (by decide) (hq _ pw_169) (fun _ h9 => h9) (congrArg (fun z => some (va_rf z)) hf40) dX0_tryStatement_104 ?_
  refine lv_astore (lv' := [(10, va_rf ob), (9, .int as13), (8, .int r55), (7, .int (nI cs12)), (6, .int (nI cs)), (5, .int (F 13)), (4, .int (nI hd)), (3, .int 29), (2, .int 1), (0, .ref (a 4)), (1, .ref q)]) hx hb dX0_tryStatement_107 hl (by decide) rfl (fun ls hl => ?_)
  have loop_g : ∀ (n_g : Nat) (k2 : Nat) (o2 : Option Nat) (K2 : PK) (B2 : Nat → Nat → Int32) (cs2 : Nat) (as2 : Int32) (wt2 : Int32) (wf2 : Int32) (dp2 : Nat) (rg2 : Nat) (ls2 : Int32) (t2 : Nat) (c2 : Nat) (b5 : Int32) (b6 : Int32) (b7 : Int32) (b8 : Int32) (b9 : Int32) (H : Heap) (locs : List Loc) (ls : Array Slot) (w : va_W), k2 ≤ 100000000000000000001 → 100000000000000000001 + 1 ≤ k2 + n_g → (BdE K K2) → (Bth B B2) → (Nng (B2 18)) → (cs2 ≤ 10000 ∧ rg2 ≤ 625 ∧ dp2 ≤ 1000) → (MmO K2 g q o2 t2 k2) → (c2 + rS (g 2 q) ≤ t2 ∧ t2 ≤ rN (g 2 q)) → va_P G.1 pCl w H → va_D A w → va_S A s.heap H locs → OKP G h0 a (upd (upd (upd (upd (upd (upd (upd (upd (upd (upd F 2 (nI sz)) 5 (nI cs2)) 6 (nI rg2)) 7 (nI hd)) 8 (nI dp2)) 12 (nI vr)) 13 as2) 14 wt2) 15 wf2) 16 ls2) (updR (updR (updR R 2 (.ref pq)) 3 (.ref mq)) 4 (va_rf lo)) Z B2 J K2 w → lv_has ls 11 [(10, va_rf o2), (9, .int b9), (8, .int b8), (7, .int b7), (6, .int b6), (5, .int b5), (4, .int (nI hd)), (3, .int 29), (2, .int 1), (1, .ref q), (0, .ref (a 4))] → W p l e (headSpec (Cond.code yX0_tryStatement cX0_tryStatement 11 none :: pw) ({ frames := (5 * n + 46), cells := ((rE (g 2 q) - rS (g 2 q)) + 1), slots := (6 * (rE (g 2 q) - rS (g 2 q)) + 6), locals := (200 * n + 1120) } : Room)).room s m ([.ref (a 4), .ref q] : List Value).toArray below meth c H locs c2 (6 * c2) (vx_MQ below (pQn G A (fun (v : Option Value) (u : va_W × (PK × (Nat → Nat → Int32) × Nat × Int32 × Int32 × Int32 × Nat × Nat × Nat × Nat × Int32)) => v = none ∧ (BdE K u.2.1) ∧ (Bth B u.2.2.1) ∧ (u.2.2.2.1 ≤ 10000 ∧ u.2.2.2.2.2.2.2.2.2.2.1 ≤ 625 ∧ u.2.2.2.2.2.2.2.2.2.1 ≤ 1000) ∧ (vr ≤ u.2.2.2.2.2.2.2.1 ∧ u.2.2.2.2.2.2.2.1 ≤ 30 ∧ u.2.2.2.2.2.2.2.2.1 + vr = hd + u.2.2.2.2.2.2.2.1) ∧ (OKP G h0 a (upd (upd (upd (upd (upd (upd (upd (upd (upd (upd F 2 (nI sz)) 5 (nI u.2.2.2.1)) 6 (nI u.2.2.2.2.2.2.2.2.2.2.1)) 7 (nI u.2.2.2.2.2.2.2.2.1)) 8 (nI u.2.2.2.2.2.2.2.2.2.1)) 12 (nI u.2.2.2.2.2.2.2.1)) 13 u.2.2.2.2.1) 14 u.2.2.2.2.2.1) 15 u.2.2.2.2.2.2.1) 16 u.2.2.2.2.2.2.2.2.2.2.2) (updR (updR (updR R 2 (.ref pq)) 3 (.ref mq)) 4 (va_rf lo)) Z u.2.2.1 J u.2.1 u.1)) (fun u => u.1) (fun (u : va_W × (PK × (Nat → Nat → Int32) × Nat × Int32 × Int32 × Int32 × Nat × Nat × Nat × Nat × Int32)) => (rE (g 2 q) - rS (g 2 q))) (fun (u : va_W × (PK × (Nat → Nat → Int32) × Nat × Int32 × Int32 × Int32 × Nat × Nat × Nat × Nat × Int32)) => (6 * (rE (g 2 q) - rS (g 2 q))))) (pXX G A (fun (u : va_W × (Nat → Int32) × (Nat → Value) × (Nat → Nat → Int32)) => ThQ G h0 a (upd (upd (upd (upd (upd (upd (upd F 2 (nI sz)) 5 (nI cs)) 6 (nI rg)) 7 (nI hd)) 8 (nI dp)) 12 (nI vr)) 16 ls9) Z B J u) (fun u => u.1)) ([.ref (a 4), .ref q] : List Value).toArray s ({ frames := (5 * n + 46), cells := ((rE (g 2 q) - rS (g 2 q)) + 1), slots := (6 * (rE (g 2 q) - rS (g 2 q)) + 6), locals := (200 * n + 1120) } : Room).cells ({ frames := (5 * n + 46), cells := ((rE (g 2 q) - rS (g 2 q)) + 1), slots := (6 * (rE (g 2 q) - rS (g 2 q)) + 6), locals := (200 * n + 1120) } : Room).slots A) (F0 m 109 ls []) := by
    intro n_g
    induction n_g with
    | zero => intro k2 o2 K2 B2 cs2 as2 wt2 wf2 dp2 rg2 ls2 t2 c2 b5 b6 b7 b8 b9 H locs ls w hk_g hn_g; omega
    | succ n_g ih_g =>
      intro k2 o2 K2 B2 cs2 as2 wt2 wf2 dp2 rg2 ls2 t2 c2 b5 b6 b7 b8 b9 H locs ls w hk_g hn_g hbe2 hbb2 hng2 hcs2 hmm2 hc29 hP hD hS hO hl
      have hf58 : K2.1 pq = 7 := (BdE.T hbe2 hp1 (by decide))
      have hf59 : K2.2.2.1 18 pq = some (a 1) := (BdE.C hbe2 (by rw [hp1]; decide) 18).trans hp2
      have hf60 : K2.2.2.1 14 pq = some dr := (BdE.C hbe2 (by rw [hp1]; decide) 14).trans hp3
      have hf61 : K2.1 dr = 8 := (BdE.T hbe2 hp4 (by decide))
      have hf62 : K2.2.2.1 15 pq = some ml := (BdE.C hbe2 (by rw [hp1]; decide) 15).trans hp5
      have hf63 : K2.1 ml = 5 := (BdE.T hbe2 hp6 (by decide))
      have hf64 : K2.2.1 24 pq = (nI nd) := (BdE.I hbe2 (by rw [hp1]; decide) (by decide) (by decide)).trans hp8
      have hf65 : K2.1 q = 1 := (BdE.T hbe2 hqT (by decide))
      have hf66 : K2.1 mq = 3 := (BdE.T hbe2 hmq (by decide))
      have hf67 : K2.2.2.1 0 q = some q1 := (BdE.C hbe2 (by rw [hqT]; decide) 0).trans hc0
      have hf68 : K2.1 q1 = 1 := (BdE.T hbe2 ht0 (by decide))
      have hf69 : K2.2.2.1 2 q = some q3 := (BdE.C hbe2 (by rw [hqT]; decide) 2).trans hc2
      have hf70 : K2.1 q3 = 1 := (BdE.T hbe2 ht2 (by decide))
      have hf71 : K2.2.1 0 q1 = 21 := (BdE.I hbe2 (by rw [ht0]; decide) (by decide) (by decide)).trans hk1
      have hf72 : K2.2.1 0 q3 = 21 := (BdE.I hbe2 (by rw [ht2]; decide) (by decide) (by decide)).trans hk3
      have hf73 : K2.2.2.1 1 q = ob := (BdE.C hbe2 (by rw [hqT]; decide) 1).trans hob
      have hf74 : K2.2.1 0 q = 32 := (BdE.I hbe2 (by rw [hqT]; decide) (by decide) (by decide)).trans hkd
      rcases o2 with _ | x9
      · have hl : lv_has ls 11 [(10, .null), (9, .int b9), (8, .int b8), (7, .int b7), (6, .int b6), (5, .int b5), (4, .int (nI hd)), (3, .int 29), (2, .int 1), (1, .ref q), (0, .ref (a 4))] := hl
        refine W.eq (g2 := F0 m 109 ls []) rfl ?_
        refine lv_aloadN hx hb dX0_tryStatement_109 (lv_at hl 0 rfl) ?_
        refine lv_ifnullN (tgt := 184) hx hb dX0_tryStatement_111 (by decide) ?_
        refine lv_aload_n hx hb dX0_tryStatement_184 rfl (lv_at hl 10 rfl) ?_
        refine lv_dup hx hb dX0_tryStatement_185 rfl ?_
        refine c_get (v := .int ls2) (C := RX0) (Tc := TX0) (N := 13) (ci := 0) hx hb hq pin_wsX00 hown hE hP hO 24 (sg_24 G h0 a _ _ _ _ _) rfl 12 (by decide) (hq _ pw_74) (fun _ h9 => h9) rfl dX0_tryStatement_186 ?_
        refine lv_iload_n hx hb dX0_tryStatement_189 rfl (lv_at hl 8 rfl) ?_
        refine lv_if_eq (tgt := 197) hx hb dX0_tryStatement_190 (by decide) (fun c75 => absurd c75 (by decide)) (fun c75 => ?_)
        refine lv_iconst (v := 1) hx hb dX0_tryStatement_193 (by decide) ?_
        refine lv_goto (tgt := 198) hx hb dX0_tryStatement_194 (by decide) ?_
        refine lv_isub hx hb dX0_tryStatement_198 ?_
        refine lv_topi (fun x76 e77 => ?_)
        refine c_put (v := .int x76) (ty := .int) (C := RX0) (Tc := TX0) (N := 13) (ci := 0) hx hb hq pin_wsX00 tyX0 tyX0_ok nmX0 hown hE hP hD hS hO 24 (sg_24 G h0 a _ _ _ _ _) rfl 12 (by decide) (hq _ pw_74) (fun _ h9 => h9) rfl (by decide +kernel) rfl rfl (Nat.le_of_ble_eq_true rfl) (sf_16 G h0 a _ _ _ _ _ x76) dX0_tryStatement_199 (fun H locs w hP hD hS hO => ?_)
        refine lv_aload_n hx hb dX0_tryStatement_202 rfl (lv_at hl 10 rfl) ?_
        refine c_get (v := .ref (a 2)) (C := RX0) (Tc := TX0) (N := 13) (ci := 0) hx hb hq pin_wsX00 hown hE hP hO 24 (sg_24 G h0 a _ _ _ _ _) rfl 1 (by decide) (hq _ pw_5) (fun _ h9 => h9) rfl dX0_tryStatement_203 ?_
        refine lv_iload hx hb dX0_tryStatement_206 (lv_at hl 2 rfl) ?_
        have hO : OKW G h0 a (upd (upd (upd (upd (upd (upd (upd (upd (upd (upd (upd F 2 (nI sz)) 5 (nI cs2)) 6 (nI rg2)) 7 (nI hd)) 8 (nI dp2)) 12 (nI vr)) 13 as2) 14 wt2) 15 wf2) 16 x76) 5 (nI cs2)) (updR (updR (updR R 2 (.ref pq)) 3 (.ref mq)) 4 (va_rf lo)) Z B2 J K2.1 (fun q99 x99 => x99 = rep G a K2 q99) w := hO.to rfl
        obtain ⟨_, qr81, hqr82⟩ := hO.2.1 13 _ (sg_13 G h0 a _ _ _ _ _)
        refine pc_V0 (G := G) (As := [.int b8]) (rest := []) hx hb hml hown hq hE hX pX0_al hP hD hS hA hl.1 (K_land l G h0 a (upd (upd (upd (upd (upd (upd (upd (upd (upd (upd F 2 (nI sz)) 5 (nI cs2)) 6 (nI rg2)) 7 (nI hd)) 8 (nI dp2)) 12 (nI vr)) 13 as2) 14 wt2) 15 wf2) 16 x76) (updR (updR (updR R 2 (.ref pq)) 3 (.ref mq)) 4 (va_rf lo)) Z B2 J K2.1 (fun q99 x99 => x99 = rep G a K2 q99) w b8 cs2 (by omega) hO) (gV pw_200 pw_201 pw_202 pw_70 pw_134) hV_X1_land qr81 1 hqr82 rfl rfl rfl (Nat.le_of_ble_eq_true rfl) dX0_tryStatement_208 ⟨(by show c2 + 0 ≤ ((rE (g 2 q) - rS (g 2 q)) + 1); omega), (by show (6 * c2) + 0 ≤ (6 * (rE (g 2 q) - rS (g 2 q)) + 6); omega)⟩ ⟨(by show 2 + 1 ≤ (5 * n + 46); omega), (by show 8 + (5 + 11) + 60 ≤ (200 * n + 1120); omega)⟩ (fun v80 u78 H locs hw79 hP hD hS => ?_)
        obtain ⟨w, f83⟩ := u78
        obtain ⟨hw79, hO⟩ := hw79
        obtain rfl : v80 = none := hw79
        have hO : OKP G h0 a (upd (upd (upd (upd (upd (upd (upd (upd (upd (upd F 2 (nI sz)) 5 (nI cs2)) 6 (nI rg2)) 7 (nI hd)) 8 (nI dp2)) 12 (nI vr)) 13 as2) 14 wt2) 15 wf2) 16 x76) (updR (updR (updR R 2 (.ref pq)) 3 (.ref mq)) 4 (va_rf lo)) Z (updA B2 17 f83) J K2 w := hO.to rfl
        refine W.widen (k := c2) (n := (6 * c2)) (by show c2 + 0 ≤ c2; omega) (by show (6 * c2) + 0 ≤ (6 * c2); omega) ?_
        refine W.eq (g2 := F0 m 211 ls []) rfl ?_
        refine lv_aload_n hx hb dX0_tryStatement_211 rfl (lv_at hl 10 rfl) ?_
        refine lv_iload hx hb dX0_tryStatement_212 (lv_at hl 1 rfl) ?_
        refine c_put (v := .int b9) (ty := .int) (C := RX0) (Tc := TX0) (N := 13) (ci := 0) hx hb hq pin_wsX00 tyX0 tyX0_ok nmX0 hown hE hP hD hS hO 24 (sg_24 G h0 a _ _ _ _ _) rfl 8 (by decide) (hq _ pw_55) (fun _ h9 => h9) rfl (by decide +kernel) rfl rfl (Nat.le_of_ble_eq_true rfl) (sf_13 G h0 a _ _ _ _ _ b9) dX0_tryStatement_214 (fun H locs w hP hD hS hO => ?_)
        refine lv_iload_n hx hb dX0_tryStatement_217 rfl (lv_at hl 8 rfl) ?_
        refine lv_if_eq (tgt := 267) hx hb dX0_tryStatement_218 (by decide) (fun c84 => absurd c84 (by decide)) (fun c84 => ?_)
        refine lv_aload_n hx hb dX0_tryStatement_221 rfl (lv_at hl 10 rfl) ?_
        refine c_get (v := .ref (a 2)) (C := RX0) (Tc := TX0) (N := 13) (ci := 0) hx hb hq pin_wsX00 hown hE hP hO 24 (sg_24 G h0 a _ _ _ _ _) rfl 1 (by decide) (hq _ pw_5) (fun _ h9 => h9) rfl dX0_tryStatement_222 ?_
        refine lv_iload hx hb dX0_tryStatement_225 (lv_at hl 4 rfl) ?_
        refine lv_aload_n hx hb dX0_tryStatement_227 rfl (lv_at hl 10 rfl) ?_
        refine c_get (v := .ref (a 2)) (C := RX0) (Tc := TX0) (N := 13) (ci := 0) hx hb hq pin_wsX00 hown hE hP hO 24 (sg_24 G h0 a _ _ _ _ _) rfl 1 (by decide) (hq _ pw_5) (fun _ h9 => h9) rfl dX0_tryStatement_228 ?_
        refine c_get (v := .int (nI cs2)) (C := RX1) (Tc := TX1) (N := 13) (ci := 1) hx hb hq pin_wsX10 hown hE hP hO 13 (sg_13 G h0 a _ _ _ _ _) rfl 4 (by decide) (hq _ pw_75) (fun _ h9 => h9) rfl dX0_tryStatement_231 ?_
        refine lv_iconst (v := (-1)) hx hb dX0_tryStatement_234 (by decide) ?_
        refine lv_iload hx hb dX0_tryStatement_235 (lv_at hl 6 rfl) ?_
        have hO : OKW G h0 a (upd (upd (upd (upd (upd (upd (upd (upd (upd (upd (upd F 2 (nI sz)) 5 (nI cs2)) 6 (nI rg2)) 7 (nI hd)) 8 (nI dp2)) 12 (nI vr)) 13 b9) 14 wt2) 15 wf2) 16 x76) 6 (nI rg2)) (updR (updR (updR R 2 (.ref pq)) 3 (.ref mq)) 4 (va_rf lo)) Z (updA B2 17 f83) J K2.1 (fun q99 x99 => x99 = rep G a K2 q99) w := hO.to rfl
        obtain ⟨_, qr88, hqr89⟩ := hO.2.1 13 _ (sg_13 G h0 a _ _ _ _ _)
        refine pc_V0 (G := G) (As := [.int b6, .int (nI cs2), .int (-1), .int (nI hd)]) (rest := []) hx hb hml hown hq hE hX pX0_al hP hD hS hA hl.1 (K_addRegion l G h0 a (upd (upd (upd (upd (upd (upd (upd (upd (upd (upd F 2 (nI sz)) 5 (nI cs2)) 6 (nI rg2)) 7 (nI hd)) 8 (nI dp2)) 12 (nI vr)) 13 b9) 14 wt2) 15 wf2) 16 x76) (updR (updR (updR R 2 (.ref pq)) 3 (.ref mq)) 4 (va_rf lo)) Z (updA B2 17 f83) J K2.1 (fun q99 x99 => x99 = rep G a K2 q99) w b6 (nI cs2) (-1) (nI hd) rg2 (by omega) hO) (gV pw_349 pw_350 pw_351 pw_70 pw_294) hV_X1_addRegion qr88 1 hqr89 rfl rfl rfl (Nat.le_of_ble_eq_true rfl) dX0_tryStatement_237 ⟨(by show c2 + 0 ≤ ((rE (g 2 q) - rS (g 2 q)) + 1); omega), (by show (6 * c2) + 0 ≤ (6 * (rE (g 2 q) - rS (g 2 q)) + 6); omega)⟩ ⟨(by show 2 + 1 ≤ (5 * n + 46); omega), (by show 8 + (5 + 11) + 60 ≤ (200 * n + 1120); omega)⟩ (fun v87 u85 H locs hw86 hP hD hS => ?_)
        obtain ⟨w, rg90, f91, f92, f93, f94, f95⟩ := u85
        obtain ⟨hw86, h96, hO⟩ := hw86
        have h96 : rg2 ≤ rg90 ∧ rg90 ≤ 625 := h96
        obtain rfl : v87 = none := hw86
        have hO : OKP G h0 a (upd (upd (upd (upd (upd (upd (upd (upd (upd (upd F 2 (nI sz)) 5 (nI cs2)) 6 (nI rg90)) 7 (nI hd)) 8 (nI dp2)) 12 (nI vr)) 13 b9) 14 wt2) 15 wf2) 16 x76) (updR (updR (updR R 2 (.ref pq)) 3 (.ref mq)) 4 (va_rf lo)) Z (updA (updA (updA (updA (updA (updA B2 17 f83) 20 f91) 21 f92) 22 f93) 23 f94) 24 f95) J K2 w := hO.to rfl
        refine W.widen (k := c2) (n := (6 * c2)) (by show c2 + 0 ≤ c2; omega) (by show (6 * c2) + 0 ≤ (6 * c2); omega) ?_
        refine W.eq (g2 := F0 m 240 ls []) rfl ?_
        refine lv_aload_n hx hb dX0_tryStatement_240 rfl (lv_at hl 10 rfl) ?_
        refine lv_iload hx hb dX0_tryStatement_241 (lv_at hl 5 rfl) ?_
        refine c_put (v := .int b5) (ty := .int) (C := RX0) (Tc := TX0) (N := 13) (ci := 0) hx hb hq pin_wsX00 tyX0 tyX0_ok nmX0 hown hE hP hD hS hO 24 (sg_24 G h0 a _ _ _ _ _) rfl 8 (by decide) (hq _ pw_55) (fun _ h9 => h9) rfl (by decide +kernel) rfl rfl (Nat.le_of_ble_eq_true rfl) (sf_13 G h0 a _ _ _ _ _ b5) dX0_tryStatement_243 (fun H locs w hP hD hS hO => ?_)
        refine lv_aload_n hx hb dX0_tryStatement_246 rfl (lv_at hl 10 rfl) ?_
        refine lv_aload_n hx hb dX0_tryStatement_247 rfl (lv_at hl 9 rfl) ?_
        refine p_get (v := .ref q3) (C := RX7) (Tc := TX7) (N := 11) (ci := 13) hx hb hq pin_wsX70 hown hE hP hO (by rw [hf65]; decide) (rep_1 hf65) rfl 8 (by decide) (hq _ pw_196) (fun _ h9 => h9) (congrArg (fun z => some (va_rf z)) hf69) dX0_tryStatement_248 ?_
        refine lv_iload hx hb dX0_tryStatement_251 (lv_at hl 6 rfl) ?_
        have hO : OKP G h0 a (upd (upd (upd (upd (upd (upd (upd (upd (upd (upd (upd (upd (upd (upd (upd (upd (upd (upd (upd (upd (upd F 2 (nI sz)) 5 (nI cs)) 6 (nI rg)) 7 (nI hd)) 8 (nI dp)) 12 (nI vr)) 16 ls9) 5 (nI cs2)) 6 (nI rg90)) 8 (nI dp2)) 13 b5) 14 wt2) 15 wf2) 16 x76) 2 (nI sz)) 5 (nI cs2)) 6 (nI rg90)) 7 (nI hd)) 8 (nI dp2)) 12 (nI vr)) 16 x76) (updR (updR (updR (updR (updR (updR R 2 (.ref pq)) 3 (.ref mq)) 4 (va_rf lo)) 2 (.ref pq)) 3 (.ref mq)) 4 (va_rf lo)) Z (updA (updA (updA (updA (updA (updA B2 17 f83) 20 f91) 21 f92) 22 f93) 23 f94) 24 f95) J K2 w := hO.to rfl
        obtain ⟨_, qr100, hqr101⟩ := hO.2.1 24 _ (sg_24 G h0 a _ _ _ _ _)
        refine pn_V0 (G := G) (As := [.ref q3, .int (nI hd)]) (rest := []) hx hb hml hown hq hE hX pX0_al hP hD hS hA hl.1 (B_last l G h0 a (upd (upd (upd (upd (upd (upd (upd (upd (upd (upd (upd (upd (upd (upd F 2 (nI sz)) 5 (nI cs)) 6 (nI rg)) 7 (nI hd)) 8 (nI dp)) 12 (nI vr)) 16 ls9) 5 (nI cs2)) 6 (nI rg90)) 8 (nI dp2)) 13 b5) 14 wt2) 15 wf2) 16 x76) (updR (updR (updR R 2 (.ref pq)) 3 (.ref mq)) 4 (va_rf lo)) Z (updA (updA (updA (updA (updA (updA B2 17 f83) 20 f91) 21 f92) 22 f93) 23 f94) 24 f95) J K2 w pq dr ml nd nm cp it s9 q3 mq cs2 vr sz (n - 1) hd dp2 rg90 x76 lo g rk (by omega) (BdE.wp hbe2 hwp) (BdE.pt hbe2 hwp hps) (BdE.rko hbe2 hrk) (by omega) (by omega) hng2 hf66 hf70 ⟨hv2.1, (by have z9 := hv2; omega)⟩ (by omega) (by omega) (by omega) (LpO.be hbe2 hlo) hf72 (IhT.lo ist) (IhV.all l G _) hO hl0) (gV pw_355 pw_356 pw_357 pw_63 pw_311) hV_X0_last qr100 0 hqr101 rfl rfl rfl (Nat.le_of_ble_eq_true rfl) dX0_tryStatement_253 ⟨(by show c2 + ((rE (g 2 q3) - rS (g 2 q3) - 2) + 1) ≤ ((rE (g 2 q) - rS (g 2 q)) + 1); omega), (by show (6 * c2) + (6 * (rE (g 2 q3) - rS (g 2 q3) - 2) + 6) ≤ (6 * (rE (g 2 q) - rS (g 2 q)) + 6); omega)⟩ ⟨(by show (5 * (n - 1) + 48) + 1 ≤ (5 * n + 46); omega), (by show 8 + (3 + 11) + (200 * (n - 1) + 1160) ≤ (200 * n + 1120); omega)⟩ (fun v99 u97 H locs hw98 hP hD hS => ?_) (fun ux ce9 q9 H9 locs9 hux hP9 hD9 hS9 hce hcv hcl => pb_out ux (ThQ.up (Thx.same (Thx.same (Thx.same (Thx.same (Thx.same (Thx.same (Thx.same (Thx.b (Thx.b (Thx.b (Thx.b (Thx.b (Thx.b (Thx.f (Thx.f (Thx.f (Thx.f (Thx.f (Thx.f (Thx.f (Bth.thx hbb2) (by omega)) (by omega)) (by omega)) (by omega)) (by omega)) (by omega)) (by omega)) (by omega) (by decide)) (by omega) (by decide)) (by omega) (by decide)) (by omega) (by decide)) (by omega) (by decide)) (by omega) (by decide)) rfl) rfl) rfl) rfl) rfl) rfl) rfl) hux) hnt hlocks hce hcv hcl hP9 hD9 hS9 (by show c2 + ((rE (g 2 q3) - rS (g 2 q3) - 2) + 1) ≤ ((rE (g 2 q) - rS (g 2 q)) + 1); omega) (by show (6 * c2) + (6 * (rE (g 2 q3) - rS (g 2 q3) - 2) + 6) ≤ (6 * (rE (g 2 q) - rS (g 2 q)) + 6); omega))
        obtain ⟨w, K102, B103, cs104, as105, wt106, wf107, vr108, hd109, dp110, rg111, ls112⟩ := u97
        obtain ⟨hw98, h113, h114, h115, h116, hO⟩ := hw98
        have h113 : BdE K2 K102 := h113
        have h114 : Bth (updA (updA (updA (updA (updA (updA B2 17 f83) 20 f91) 21 f92) 22 f93) 23 f94) 24 f95) B103 := h114
        have h115 : cs104 ≤ 10000 ∧ rg111 ≤ 625 ∧ dp110 ≤ 1000 := h115
        have h116 : vr ≤ vr108 ∧ vr108 ≤ 30 ∧ hd109 + vr = hd + vr108 := h116
        obtain rfl : v99 = none := hw98
        have hf117 : K102.1 pq = 7 := (BdE.T h113 hf58 (by decide))
        have hf118 : K102.2.2.1 18 pq = some (a 1) := (BdE.C h113 (by rw [hf58]; decide) 18).trans hf59
        have hf119 : K102.2.2.1 14 pq = some dr := (BdE.C h113 (by rw [hf58]; decide) 14).trans hf60
        have hf120 : K102.1 dr = 8 := (BdE.T h113 hf61 (by decide))
        have hf121 : K102.2.2.1 15 pq = some ml := (BdE.C h113 (by rw [hf58]; decide) 15).trans hf62
        have hf122 : K102.1 ml = 5 := (BdE.T h113 hf63 (by decide))
        have hf123 : K102.2.1 24 pq = (nI nd) := (BdE.I h113 (by rw [hf58]; decide) (by decide) (by decide)).trans hf64
        have hf124 : K102.1 q = 1 := (BdE.T h113 hf65 (by decide))
        have hf125 : K102.1 mq = 3 := (BdE.T h113 hf66 (by decide))
        have hf126 : K102.2.2.1 0 q = some q1 := (BdE.C h113 (by rw [hf65]; decide) 0).trans hf67
        have hf127 : K102.1 q1 = 1 := (BdE.T h113 hf68 (by decide))
        have hf128 : K102.2.2.1 2 q = some q3 := (BdE.C h113 (by rw [hf65]; decide) 2).trans hf69
        have hf129 : K102.1 q3 = 1 := (BdE.T h113 hf70 (by decide))
        have hf130 : K102.2.1 0 q1 = 21 := (BdE.I h113 (by rw [hf68]; decide) (by decide) (by decide)).trans hf71
        have hf131 : K102.2.1 0 q3 = 21 := (BdE.I h113 (by rw [hf70]; decide) (by decide) (by decide)).trans hf72
        have hf132 : K102.2.2.1 1 q = ob := (BdE.C h113 (by rw [hf65]; decide) 1).trans hf73
        have hf133 : K102.2.1 0 q = 32 := (BdE.I h113 (by rw [hf65]; decide) (by decide) (by decide)).trans hf74
        have hO : OKP G h0 a (upd (upd (upd (upd (upd (upd (upd (upd (upd (upd F 2 (nI sz)) 5 (nI cs104)) 6 (nI rg111)) 7 (nI hd109)) 8 (nI dp110)) 12 (nI vr108)) 13 as105) 14 wt106) 15 wf107) 16 ls112) (updR (updR (updR R 2 (.ref pq)) 3 (.ref mq)) 4 (va_rf lo)) Z B103 J K102 w := hO.to rfl
        refine W.widen (k := (c2 + (rE (g 2 q3) - rS (g 2 q3) - 2))) (n := ((6 * c2) + (6 * (rE (g 2 q3) - rS (g 2 q3) - 2)))) (by show c2 + (rE (g 2 q3) - rS (g 2 q3) - 2) ≤ (c2 + (rE (g 2 q3) - rS (g 2 q3) - 2)); omega) (by show (6 * c2) + (6 * (rE (g 2 q3) - rS (g 2 q3) - 2)) ≤ ((6 * c2) + (6 * (rE (g 2 q3) - rS (g 2 q3) - 2))); omega) ?_
        refine W.eq (g2 := F0 m 256 ls []) rfl ?_
        have hbe134 := BdE.trans hbe2 h113
        have hbb135 : Bth B B103 := Bth.trans (show Thx (upd (upd (upd (upd (upd (upd (upd F 2 (nI sz)) 5 (nI cs)) 6 (nI rg)) 7 (nI hd)) 8 (nI dp)) 12 (nI vr)) 16 ls9) (upd (upd (upd (upd (upd (upd (upd (upd (upd (upd (upd (upd (upd (upd F 2 (nI sz)) 5 (nI cs)) 6 (nI rg)) 7 (nI hd)) 8 (nI dp)) 12 (nI vr)) 16 ls9) 5 (nI cs2)) 6 (nI rg90)) 8 (nI dp2)) 13 b5) 14 wt2) 15 wf2) 16 x76) B (updA (updA (updA (updA (updA (updA B2 17 f83) 20 f91) 21 f92) 22 f93) 23 f94) 24 f95) from (Thx.b (Thx.b (Thx.b (Thx.b (Thx.b (Thx.b (Thx.f (Thx.f (Thx.f (Thx.f (Thx.f (Thx.f (Thx.f (Bth.thx hbb2) (by omega)) (by omega)) (by omega)) (by omega)) (by omega)) (by omega)) (by omega)) (by omega) (by decide)) (by omega) (by decide)) (by omega) (by decide)) (by omega) (by decide)) (by omega) (by decide)) (by omega) (by decide))).2 h114
        have hng136 : Nng (B103 18) := h114.2 hng2
        refine lv_aload_n hx hb dX0_tryStatement_256 rfl (lv_at hl 10 rfl) ?_
        refine lv_dup hx hb dX0_tryStatement_257 rfl ?_
        refine c_get (v := .int as105) (C := RX0) (Tc := TX0) (N := 13) (ci := 0) hx hb hq pin_wsX00 hown hE hP hO 24 (sg_24 G h0 a _ _ _ _ _) rfl 8 (by decide) (hq _ pw_55) (fun _ h9 => h9) rfl dX0_tryStatement_258 ?_
        refine lv_iload hx hb dX0_tryStatement_261 (lv_at hl 1 rfl) ?_
        refine lv_ior hx hb dX0_tryStatement_263 ?_
        refine lv_topi (fun x137 e138 => ?_)
        refine c_put (v := .int x137) (ty := .int) (C := RX0) (Tc := TX0) (N := 13) (ci := 0) hx hb hq pin_wsX00 tyX0 tyX0_ok nmX0 hown hE hP hD hS hO 24 (sg_24 G h0 a _ _ _ _ _) rfl 8 (by decide) (hq _ pw_55) (fun _ h9 => h9) rfl (by decide +kernel) rfl rfl (Nat.le_of_ble_eq_true rfl) (sf_13 G h0 a _ _ _ _ _ x137) dX0_tryStatement_264 (fun H locs w hP hD hS hO => ?_)
        refine W_size (fun hz1 hz2 => ?_)
        refine vx_ret ?_
        have hz139 : BdE K K102 := hbe134
        have hz140 : Bth B B103 := (show Thx (upd (upd (upd (upd (upd (upd (upd F 2 (nI sz)) 5 (nI cs)) 6 (nI rg)) 7 (nI hd)) 8 (nI dp)) 12 (nI vr)) 16 ls9) (upd (upd (upd (upd (upd (upd (upd (upd (upd (upd (upd (upd (upd (upd (upd (upd F 2 (nI sz)) 5 (nI cs)) 6 (nI rg)) 7 (nI hd)) 8 (nI dp)) 12 (nI vr)) 16 ls9) 5 (nI cs104)) 6 (nI rg111)) 7 (nI hd109)) 8 (nI dp110)) 12 (nI vr108)) 13 x137) 14 wt106) 15 wf107) 16 ls112) B B103 from (Thx.f (Thx.f (Thx.f (Thx.f (Thx.f (Thx.f (Thx.f (Thx.f (Thx.f (Bth.thx hbb135) (by omega)) (by omega)) (by omega)) (by omega)) (by omega)) (by omega)) (by omega)) (by omega)) (by omega))).2
        have hz141 : cs104 ≤ 10000 ∧ rg111 ≤ 625 ∧ dp110 ≤ 1000 := (by omega)
        have hz142 : vr ≤ vr108 ∧ vr108 ≤ 30 ∧ hd109 + vr = hd + vr108 := (by omega)
        have hO : OKP G h0 a (upd (upd (upd (upd (upd (upd (upd (upd (upd (upd F 2 (nI sz)) 5 (nI cs104)) 6 (nI rg111)) 7 (nI hd109)) 8 (nI dp110)) 12 (nI vr108)) 13 x137) 14 wt106) 15 wf107) 16 ls112) (updR (updR (updR R 2 (.ref pq)) 3 (.ref mq)) 4 (va_rf lo)) Z B103 J K102 w := hO.to rfl
        refine W.widen (k := ((rE (g 2 q) - rS (g 2 q)) + 1)) (n := (6 * (rE (g 2 q) - rS (g 2 q)) + 6)) (by omega) (by omega) ?_
        have hzz1 : H.size ≤ s.heap.size + ((rE (g 2 q) - rS (g 2 q))) := (by have z : (c2 + (rE (g 2 q3) - rS (g 2 q3) - 2)) ≤ (rE (g 2 q) - rS (g 2 q)) := (by omega); omega)
        have hzz2 : hSl H ≤ hSl s.heap + ((6 * (rE (g 2 q) - rS (g 2 q)))) := (by have z : ((6 * c2) + (6 * (rE (g 2 q3) - rS (g 2 q3) - 2))) ≤ (6 * (rE (g 2 q) - rS (g 2 q))) := (by omega); omega)
        exact W.vret hx hb hr (fun t99 ht99 hW99 => ⟨⟨_, (w, (K102, B103, cs104, x137, wt106, wf107, vr108, hd109, dp110, rg111, ls112)), rfl, ⟨rfl, hz139, hz140, hz141, hz142, hO⟩, by rw [ht99]; exact hP, hD, by rw [ht99]; exact hzz1, by rw [ht99]; exact hzz2⟩, hS.F ht99⟩) hS.2.2 dX0_tryStatement_267
      · have hl : lv_has ls 11 [(10, .ref x9), (9, .int b9), (8, .int b8), (7, .int b7), (6, .int b6), (5, .int b5), (4, .int (nI hd)), (3, .int 29), (2, .int 1), (1, .ref q), (0, .ref (a 4))] := hl
        refine W.eq (g2 := F0 m 109 ls []) rfl ?_
        have hxd := hmm2 x9 rfl
        have hxT := hxd.1
        have hxv : 1 ≤ g 0 x9 ∧ g 0 x9 + 1 ≤ n := ⟨hxd.2.1, (by have z := hxd.2.2.1; omega)⟩
        have hxe := MmO.end32 (BdE.wp hbe2 hwp).1 hqL.1 hf74 hxT hxd.2.1 hxd.2.2.2.1
        have hxe1 : rE (g 2 x9) ≤ rN (g 2 q) ∧ rS (g 2 x9) ≤ rE (g 2 x9) ∧ g 2 x9 ≤ 100000000000000000000 := ⟨hxe.1, hxe.2.1, hxe.2.2.1⟩
        have hxt := hxd.2.2.2.2
        have hxk := hxe.2.2.2
        have hxw := (BdE.wp hbe2 hwp).1 x9 hxT hxd.2.1
        obtain ⟨xb, hxb0, hxbT, hxbl⟩ := NdO.ch hxw (f := 0) (by decide) (hxw.1.1 (by rw [hxk]; decide))
        have hxbv : 1 ≤ g 0 xb ∧ g 0 xb + 1 ≤ n - 1 := ⟨hxbl.1, (by have z := hxbl.2; omega)⟩
        refine lv_aload hx hb dX0_tryStatement_109 (lv_at hl 0 rfl) ?_
        refine lv_ifnull hx hb dX0_tryStatement_111 ?_
        refine lv_aload_n hx hb dX0_tryStatement_114 rfl (lv_at hl 10 rfl) ?_
        refine c_get (v := .ref (a 2)) (C := RX0) (Tc := TX0) (N := 13) (ci := 0) hx hb hq pin_wsX00 hown hE hP hO 24 (sg_24 G h0 a _ _ _ _ _) rfl 1 (by decide) (hq _ pw_5) (fun _ h9 => h9) rfl dX0_tryStatement_115 ?_
        refine lv_iload hx hb dX0_tryStatement_118 (lv_at hl 4 rfl) ?_
        refine lv_iload hx hb dX0_tryStatement_120 (lv_at hl 3 rfl) ?_
        refine lv_aload_n hx hb dX0_tryStatement_122 rfl (lv_at hl 10 rfl) ?_
        refine c_get (v := .ref (a 1)) (C := RX0) (Tc := TX0) (N := 13) (ci := 0) hx hb hq pin_wsX00 hown hE hP hO 24 (sg_24 G h0 a _ _ _ _ _) rfl 0 (by decide) (hq _ pw_4) (fun _ h9 => h9) rfl dX0_tryStatement_123 ?_
        refine lv_aload hx hb dX0_tryStatement_126 (lv_at hl 0 rfl) ?_
        refine p_get (v := .int (K2.2.1 2 x9)) (C := RX7) (Tc := TX7) (N := 11) (ci := 13) hx hb hq pin_wsX70 hown hE hP hO (by rw [hxT]; decide) (rep_1 hxT) rfl 2 (by decide) (hq _ pw_82) (fun _ h9 => h9) rfl dX0_tryStatement_128 ?_
        have hO : OKW G h0 a (upd (upd (upd (upd (upd (upd (upd (upd (upd (upd (upd F 2 (nI sz)) 5 (nI cs2)) 6 (nI rg2)) 7 (nI hd)) 8 (nI dp2)) 12 (nI vr)) 13 as2) 14 wt2) 15 wf2) 16 ls2) 2 (nI sz)) (updR (updR (updR R 2 (.ref pq)) 3 (.ref mq)) 4 (va_rf lo)) Z B2 J K2.1 (fun q99 x99 => x99 = rep G a K2 q99) w := hO.to rfl
        obtain ⟨_, qr146, hqr147⟩ := hO.2.1 2 _ (sg_2 G h0 a _ _ _ _ _)
        refine pc_V0 (G := G) (As := [.int (K2.2.1 2 x9)]) (rest := [.int b7, .int b6, .ref (a 2)]) hx hb hml hown hq hE hX pX0_al hP hD hS hA hl.1 (K_typeAt l G h0 a (upd (upd (upd (upd (upd (upd (upd (upd (upd (upd F 2 (nI sz)) 5 (nI cs2)) 6 (nI rg2)) 7 (nI hd)) 8 (nI dp2)) 12 (nI vr)) 13 as2) 14 wt2) 15 wf2) 16 ls2) (updR (updR (updR R 2 (.ref pq)) 3 (.ref mq)) 4 (va_rf lo)) Z B2 J K2.1 (fun q99 x99 => x99 = rep G a K2 q99) w (K2.2.1 2 x9) sz (by omega) hO) (gV pw_92 pw_93 pw_94 pw_59 pw_36) hV_X10_typeAt qr146 7 hqr147 rfl rfl rfl (Nat.le_of_ble_eq_true rfl) dX0_tryStatement_131 ⟨(by show c2 + 0 ≤ ((rE (g 2 q) - rS (g 2 q)) + 1); omega), (by show (6 * c2) + 0 ≤ (6 * (rE (g 2 q) - rS (g 2 q)) + 6); omega)⟩ ⟨(by show 2 + 1 ≤ (5 * n + 46); omega), (by show 8 + (2 + 11) + 60 ≤ (200 * n + 1120); omega)⟩ (fun v145 u143 H locs hw144 hP hD hS => ?_)
        obtain ⟨w, r148⟩ := u143
        obtain ⟨hw144, hO⟩ := hw144
        obtain rfl : v145 = some (.int r148) := hw144
        have hO : OKP G h0 a (upd (upd (upd (upd (upd (upd (upd (upd (upd (upd F 2 (nI sz)) 5 (nI cs2)) 6 (nI rg2)) 7 (nI hd)) 8 (nI dp2)) 12 (nI vr)) 13 as2) 14 wt2) 15 wf2) 16 ls2) (updR (updR (updR R 2 (.ref pq)) 3 (.ref mq)) 4 (va_rf lo)) Z B2 J K2 w := hO.to rfl
        refine W.widen (k := c2) (n := (6 * c2)) (by show c2 + 0 ≤ c2; omega) (by show (6 * c2) + 0 ≤ (6 * c2); omega) ?_
        refine W.eq (g2 := F0 m 134 ls [.int r148, .int b7, .int b6, .ref (a 2)]) rfl ?_
        refine lv_iload hx hb dX0_tryStatement_134 (lv_at hl 6 rfl) ?_
        have hO : OKW G h0 a (upd (upd (upd (upd (upd (upd (upd (upd (upd (upd (upd F 2 (nI sz)) 5 (nI cs2)) 6 (nI rg2)) 7 (nI hd)) 8 (nI dp2)) 12 (nI vr)) 13 as2) 14 wt2) 15 wf2) 16 ls2) 6 (nI rg2)) (updR (updR (updR R 2 (.ref pq)) 3 (.ref mq)) 4 (va_rf lo)) Z B2 J K2.1 (fun q99 x99 => x99 = rep G a K2 q99) w := hO.to rfl
        obtain ⟨_, qr152, hqr153⟩ := hO.2.1 13 _ (sg_13 G h0 a _ _ _ _ _)
        refine pc_V0 (G := G) (As := [.int b6, .int b7, .int r148, .int (nI hd)]) (rest := []) hx hb hml hown hq hE hX pX0_al hP hD hS hA hl.1 (K_addRegion l G h0 a (upd (upd (upd (upd (upd (upd (upd (upd (upd (upd F 2 (nI sz)) 5 (nI cs2)) 6 (nI rg2)) 7 (nI hd)) 8 (nI dp2)) 12 (nI vr)) 13 as2) 14 wt2) 15 wf2) 16 ls2) (updR (updR (updR R 2 (.ref pq)) 3 (.ref mq)) 4 (va_rf lo)) Z B2 J K2.1 (fun q99 x99 => x99 = rep G a K2 q99) w b6 b7 r148 (nI hd) rg2 (by omega) hO) (gV pw_349 pw_350 pw_351 pw_70 pw_294) hV_X1_addRegion qr152 1 hqr153 rfl rfl rfl (Nat.le_of_ble_eq_true rfl) dX0_tryStatement_136 ⟨(by show c2 + 0 ≤ ((rE (g 2 q) - rS (g 2 q)) + 1); omega), (by show (6 * c2) + 0 ≤ (6 * (rE (g 2 q) - rS (g 2 q)) + 6); omega)⟩ ⟨(by show 2 + 1 ≤ (5 * n + 46); omega), (by show 8 + (5 + 11) + 60 ≤ (200 * n + 1120); omega)⟩ (fun v151 u149 H locs hw150 hP hD hS => ?_)
        obtain ⟨w, rg154, f155, f156, f157, f158, f159⟩ := u149
        obtain ⟨hw150, h160, hO⟩ := hw150
        have h160 : rg2 ≤ rg154 ∧ rg154 ≤ 625 := h160
        obtain rfl : v151 = none := hw150
        have hO : OKP G h0 a (upd (upd (upd (upd (upd (upd (upd (upd (upd (upd F 2 (nI sz)) 5 (nI cs2)) 6 (nI rg154)) 7 (nI hd)) 8 (nI dp2)) 12 (nI vr)) 13 as2) 14 wt2) 15 wf2) 16 ls2) (updR (updR (updR R 2 (.ref pq)) 3 (.ref mq)) 4 (va_rf lo)) Z (updA (updA (updA (updA (updA B2 20 f155) 21 f156) 22 f157) 23 f158) 24 f159) J K2 w := hO.to rfl
        refine W.widen (k := c2) (n := (6 * c2)) (by show c2 + 0 ≤ c2; omega) (by show (6 * c2) + 0 ≤ (6 * c2); omega) ?_
        refine W.eq (g2 := F0 m 139 ls []) rfl ?_
        refine lv_aload_n hx hb dX0_tryStatement_139 rfl (lv_at hl 10 rfl) ?_
        refine lv_iload hx hb dX0_tryStatement_140 (lv_at hl 5 rfl) ?_
        refine c_put (v := .int b5) (ty := .int) (C := RX0) (Tc := TX0) (N := 13) (ci := 0) hx hb hq pin_wsX00 tyX0 tyX0_ok nmX0 hown hE hP hD hS hO 24 (sg_24 G h0 a _ _ _ _ _) rfl 8 (by decide) (hq _ pw_55) (fun _ h9 => h9) rfl (by decide +kernel) rfl rfl (Nat.le_of_ble_eq_true rfl) (sf_13 G h0 a _ _ _ _ _ b5) dX0_tryStatement_142 (fun H locs w hP hD hS hO => ?_)
        refine lv_aload_n hx hb dX0_tryStatement_145 rfl (lv_at hl 10 rfl) ?_
        refine lv_aload hx hb dX0_tryStatement_146 (lv_at hl 0 rfl) ?_
        have hO : OKP G h0 a (upd (upd (upd (upd (upd (upd (upd (upd (upd (upd (upd (upd (upd (upd (upd (upd (upd (upd (upd (upd (upd F 2 (nI sz)) 5 (nI cs)) 6 (nI rg)) 7 (nI hd)) 8 (nI dp)) 12 (nI vr)) 16 ls9) 5 (nI cs2)) 6 (nI rg154)) 8 (nI dp2)) 13 b5) 14 wt2) 15 wf2) 16 ls2) 2 (nI sz)) 5 (nI cs2)) 6 (nI rg154)) 7 (nI hd)) 8 (nI dp2)) 12 (nI vr)) 16 ls2) (updR (updR (updR (updR (updR (updR R 2 (.ref pq)) 3 (.ref mq)) 4 (va_rf lo)) 2 (.ref pq)) 3 (.ref mq)) 4 (va_rf lo)) Z (updA (updA (updA (updA (updA B2 20 f155) 21 f156) 22 f157) 23 f158) 24 f159) J K2 w := hO.to rfl
        obtain ⟨_, qr164, hqr165⟩ := hO.2.1 24 _ (sg_24 G h0 a _ _ _ _ _)
        refine pn_V0 (G := G) (As := [.ref x9]) (rest := []) hx hb hml hown hq hE hX pX0_al hP hD hS hA hl.1 (B_catch l G h0 a (upd (upd (upd (upd (upd (upd (upd (upd (upd (upd (upd (upd (upd (upd F 2 (nI sz)) 5 (nI cs)) 6 (nI rg)) 7 (nI hd)) 8 (nI dp)) 12 (nI vr)) 16 ls9) 5 (nI cs2)) 6 (nI rg154)) 8 (nI dp2)) 13 b5) 14 wt2) 15 wf2) 16 ls2) (updR (updR (updR R 2 (.ref pq)) 3 (.ref mq)) 4 (va_rf lo)) Z (updA (updA (updA (updA (updA B2 20 f155) 21 f156) 22 f157) 23 f158) 24 f159) J K2 w pq dr ml nd nm cp it s9 x9 mq cs2 vr sz (n - 1) xb hd dp2 rg154 ls2 lo g rk (by omega) (BdE.wp hbe2 hwp) (BdE.pt hbe2 hwp hps) (BdE.rko hbe2 hrk) (by omega) (by omega) hng2 hf66 hxT ⟨hxv.1, (by have z9 := hxv; omega)⟩ hxb0 hxbT hxbv (by omega) (by omega) (by omega) (LpO.be hbe2 hlo) hxk (IhT.lo ist) (IhV.all l G _) hO hl0) (gV pw_352 pw_353 pw_354 pw_63 pw_306) hV_X0_catchBlock qr164 0 hqr165 rfl rfl rfl (Nat.le_of_ble_eq_true rfl) dX0_tryStatement_148 ⟨(by show c2 + ((rE (g 2 x9) - rS (g 2 x9)) + 1) ≤ ((rE (g 2 q) - rS (g 2 q)) + 1); omega), (by show (6 * c2) + (6 * (rE (g 2 x9) - rS (g 2 x9)) + 6) ≤ (6 * (rE (g 2 q) - rS (g 2 q)) + 6); omega)⟩ ⟨(by show (5 * (n - 1) + 46) + 1 ≤ (5 * n + 46); omega), (by show 8 + (5 + 11) + (200 * (n - 1) + 1120) ≤ (200 * n + 1120); omega)⟩ (fun v163 u161 H locs hw162 hP hD hS => ?_) (fun ux ce9 q9 H9 locs9 hux hP9 hD9 hS9 hce hcv hcl => pb_out ux (ThQ.up (Thx.same (Thx.same (Thx.same (Thx.same (Thx.same (Thx.same (Thx.same (Thx.b (Thx.b (Thx.b (Thx.b (Thx.b (Thx.f (Thx.f (Thx.f (Thx.f (Thx.f (Thx.f (Thx.f (Bth.thx hbb2) (by omega)) (by omega)) (by omega)) (by omega)) (by omega)) (by omega)) (by omega)) (by omega) (by decide)) (by omega) (by decide)) (by omega) (by decide)) (by omega) (by decide)) (by omega) (by decide)) rfl) rfl) rfl) rfl) rfl) rfl) rfl) hux) hnt hlocks hce hcv hcl hP9 hD9 hS9 (by show c2 + ((rE (g 2 x9) - rS (g 2 x9)) + 1) ≤ ((rE (g 2 q) - rS (g 2 q)) + 1); omega) (by show (6 * c2) + (6 * (rE (g 2 x9) - rS (g 2 x9)) + 6) ≤ (6 * (rE (g 2 q) - rS (g 2 q)) + 6); omega))
        obtain ⟨w, K166, B167, cs168, as169, wt170, wf171, vr172, hd173, dp174, rg175, ls176⟩ := u161
        obtain ⟨hw162, h177, h178, h179, h180, hO⟩ := hw162
        have h177 : BdE K2 K166 := h177
        have h178 : Bth (updA (updA (updA (updA (updA B2 20 f155) 21 f156) 22 f157) 23 f158) 24 f159) B167 := h178
        have h179 : cs168 ≤ 10000 ∧ rg175 ≤ 625 ∧ dp174 ≤ 1000 := h179
        have h180 : vr ≤ vr172 ∧ vr172 ≤ 30 ∧ hd173 + vr = hd + vr172 := h180
        obtain rfl : v163 = none := hw162
        have hf181 : K166.1 pq = 7 := (BdE.T h177 hf58 (by decide))
        have hf182 : K166.2.2.1 18 pq = some (a 1) := (BdE.C h177 (by rw [hf58]; decide) 18).trans hf59
        have hf183 : K166.2.2.1 14 pq = some dr := (BdE.C h177 (by rw [hf58]; decide) 14).trans hf60
        have hf184 : K166.1 dr = 8 := (BdE.T h177 hf61 (by decide))
        have hf185 : K166.2.2.1 15 pq = some ml := (BdE.C h177 (by rw [hf58]; decide) 15).trans hf62
        have hf186 : K166.1 ml = 5 := (BdE.T h177 hf63 (by decide))
        have hf187 : K166.2.1 24 pq = (nI nd) := (BdE.I h177 (by rw [hf58]; decide) (by decide) (by decide)).trans hf64
        have hf188 : K166.1 q = 1 := (BdE.T h177 hf65 (by decide))
        have hf189 : K166.1 mq = 3 := (BdE.T h177 hf66 (by decide))
        have hf190 : K166.2.2.1 0 q = some q1 := (BdE.C h177 (by rw [hf65]; decide) 0).trans hf67
        have hf191 : K166.1 q1 = 1 := (BdE.T h177 hf68 (by decide))
        have hf192 : K166.2.2.1 2 q = some q3 := (BdE.C h177 (by rw [hf65]; decide) 2).trans hf69
        have hf193 : K166.1 q3 = 1 := (BdE.T h177 hf70 (by decide))
        have hf194 : K166.2.1 0 q1 = 21 := (BdE.I h177 (by rw [hf68]; decide) (by decide) (by decide)).trans hf71
        have hf195 : K166.2.1 0 q3 = 21 := (BdE.I h177 (by rw [hf70]; decide) (by decide) (by decide)).trans hf72
        have hf196 : K166.2.2.1 1 q = ob := (BdE.C h177 (by rw [hf65]; decide) 1).trans hf73
        have hf197 : K166.2.1 0 q = 32 := (BdE.I h177 (by rw [hf65]; decide) (by decide) (by decide)).trans hf74
        have hf198 : K166.1 x9 = 1 := (BdE.T h177 hxT (by decide))
        have hf199 : K166.2.1 0 x9 = 35 := (BdE.I h177 (by rw [hxT]; decide) (by decide) (by decide)).trans hxk
        have hf200 : K166.2.2.1 0 x9 = some xb := (BdE.C h177 (by rw [hxT]; decide) 0).trans hxb0
        have hf201 : K166.1 xb = 1 := (BdE.T h177 hxbT (by decide))
        have hO : OKP G h0 a (upd (upd (upd (upd (upd (upd (upd (upd (upd (upd F 2 (nI sz)) 5 (nI cs168)) 6 (nI rg175)) 7 (nI hd173)) 8 (nI dp174)) 12 (nI vr172)) 13 as169) 14 wt170) 15 wf171) 16 ls176) (updR (updR (updR R 2 (.ref pq)) 3 (.ref mq)) 4 (va_rf lo)) Z B167 J K166 w := hO.to rfl
        refine W.widen (k := (c2 + (rE (g 2 x9) - rS (g 2 x9)))) (n := ((6 * c2) + (6 * (rE (g 2 x9) - rS (g 2 x9))))) (by show c2 + (rE (g 2 x9) - rS (g 2 x9)) ≤ (c2 + (rE (g 2 x9) - rS (g 2 x9))); omega) (by show (6 * c2) + (6 * (rE (g 2 x9) - rS (g 2 x9))) ≤ ((6 * c2) + (6 * (rE (g 2 x9) - rS (g 2 x9)))); omega) ?_
        refine W.eq (g2 := F0 m 151 ls []) rfl ?_
        have hbe202 := BdE.trans hbe2 h177
        have hbb203 : Bth B B167 := Bth.trans (show Thx (upd (upd (upd (upd (upd (upd (upd F 2 (nI sz)) 5 (nI cs)) 6 (nI rg)) 7 (nI hd)) 8 (nI dp)) 12 (nI vr)) 16 ls9) (upd (upd (upd (upd (upd (upd (upd (upd (upd (upd (upd (upd (upd (upd F 2 (nI sz)) 5 (nI cs)) 6 (nI rg)) 7 (nI hd)) 8 (nI dp)) 12 (nI vr)) 16 ls9) 5 (nI cs2)) 6 (nI rg154)) 8 (nI dp2)) 13 b5) 14 wt2) 15 wf2) 16 ls2) B (updA (updA (updA (updA (updA B2 20 f155) 21 f156) 22 f157) 23 f158) 24 f159) from (Thx.b (Thx.b (Thx.b (Thx.b (Thx.b (Thx.f (Thx.f (Thx.f (Thx.f (Thx.f (Thx.f (Thx.f (Bth.thx hbb2) (by omega)) (by omega)) (by omega)) (by omega)) (by omega)) (by omega)) (by omega)) (by omega) (by decide)) (by omega) (by decide)) (by omega) (by decide)) (by omega) (by decide)) (by omega) (by decide))).2 h178
        have hng204 : Nng (B167 18) := h178.2 hng2
        refine lv_aload_n hx hb dX0_tryStatement_151 rfl (lv_at hl 10 rfl) ?_
        refine c_get (v := .ref (a 2)) (C := RX0) (Tc := TX0) (N := 13) (ci := 0) hx hb hq pin_wsX00 hown hE hP hO 24 (sg_24 G h0 a _ _ _ _ _) rfl 1 (by decide) (hq _ pw_5) (fun _ h9 => h9) rfl dX0_tryStatement_152 ?_
        refine lv_iload_n hx hb dX0_tryStatement_155 rfl (lv_at hl 7 rfl) ?_
        refine lv_iload hx hb dX0_tryStatement_156 (lv_at hl 2 rfl) ?_
        refine lv_iload hx hb dX0_tryStatement_158 (lv_at hl 6 rfl) ?_
        have hO : OKW G h0 a (upd (upd (upd (upd (upd (upd (upd (upd (upd (upd (upd F 2 (nI sz)) 5 (nI cs168)) 6 (nI rg175)) 7 (nI hd173)) 8 (nI dp174)) 12 (nI vr172)) 13 as169) 14 wt170) 15 wf171) 16 ls176) 5 (nI cs168)) (updR (updR (updR R 2 (.ref pq)) 3 (.ref mq)) 4 (va_rf lo)) Z B167 J K166.1 (fun q99 x99 => x99 = rep G a K166 q99) w := hO.to rfl
        obtain ⟨_, qr208, hqr209⟩ := hO.2.1 13 _ (sg_13 G h0 a _ _ _ _ _)
        refine pc_V0 (G := G) (As := [.int 29, .int b8, .int (nI hd)]) (rest := []) hx hb hml hown hq hE hX pX0_al hP hD hS hA hl.1 (K_jump l G h0 a (upd (upd (upd (upd (upd (upd (upd (upd (upd (upd F 2 (nI sz)) 5 (nI cs168)) 6 (nI rg175)) 7 (nI hd173)) 8 (nI dp174)) 12 (nI vr172)) 13 as169) 14 wt170) 15 wf171) 16 ls176) (updR (updR (updR R 2 (.ref pq)) 3 (.ref mq)) 4 (va_rf lo)) Z B167 J K166.1 (fun q99 x99 => x99 = rep G a K166 q99) w 29 b8 hd cs168 (by omega) (by omega) hng204 hO) (gV pw_197 pw_198 pw_199 pw_70 pw_132) hV_X1_jump qr208 1 hqr209 rfl rfl rfl (Nat.le_of_ble_eq_true rfl) dX0_tryStatement_160 ⟨(by show (c2 + (rE (g 2 x9) - rS (g 2 x9))) + 0 ≤ ((rE (g 2 q) - rS (g 2 q)) + 1); omega), (by show ((6 * c2) + (6 * (rE (g 2 x9) - rS (g 2 x9)))) + 0 ≤ (6 * (rE (g 2 q) - rS (g 2 q)) + 6); omega)⟩ ⟨(by show 3 + 1 ≤ (5 * n + 46); omega), (by show 8 + (4 + 11) + 83 ≤ (200 * n + 1120); omega)⟩ (fun v207 u205 H locs hw206 hP hD hS => ?_)
        obtain ⟨w, cs210, f211, f212, f213, f214, r215⟩ := u205
        obtain ⟨hw206, h216, h217, hO⟩ := hw206
        have h216 : cs168 ≤ cs210 ∧ cs210 ≤ cs168 + 1 ∧ cs210 ≤ 10000 := h216
        have h217 : Nng f213 := h217
        obtain rfl : v207 = some (.int r215) := hw206
        have hO : OKP G h0 a (upd (upd (upd (upd (upd (upd (upd (upd (upd (upd F 2 (nI sz)) 5 (nI cs210)) 6 (nI rg175)) 7 (nI hd173)) 8 (nI dp174)) 12 (nI vr172)) 13 as169) 14 wt170) 15 wf171) 16 ls176) (updR (updR (updR R 2 (.ref pq)) 3 (.ref mq)) 4 (va_rf lo)) Z (updA (updA (updA (updA B167 16 f211) 17 f212) 18 f213) 19 f214) J K166 w := hO.to rfl
        refine W.widen (k := (c2 + (rE (g 2 x9) - rS (g 2 x9)))) (n := ((6 * c2) + (6 * (rE (g 2 x9) - rS (g 2 x9))))) (by show (c2 + (rE (g 2 x9) - rS (g 2 x9))) + 0 ≤ (c2 + (rE (g 2 x9) - rS (g 2 x9))); omega) (by show ((6 * c2) + (6 * (rE (g 2 x9) - rS (g 2 x9)))) + 0 ≤ ((6 * c2) + (6 * (rE (g 2 x9) - rS (g 2 x9)))); omega) ?_
        refine W.eq (g2 := F0 m 163 ls [.int r215]) rfl ?_
        refine lv_istore (lv' := [(8, .int r215), (10, .ref x9), (9, .int b9), (7, .int b7), (6, .int b6), (5, .int b5), (4, .int (nI hd)), (3, .int 29), (2, .int 1), (1, .ref q), (0, .ref (a 4))]) hx hb dX0_tryStatement_163 hl (by decide) rfl (fun ls hl => ?_)
        refine lv_iload hx hb dX0_tryStatement_165 (lv_at hl 2 rfl) ?_
        refine lv_aload_n hx hb dX0_tryStatement_167 rfl (lv_at hl 10 rfl) ?_
        refine c_get (v := .int as169) (C := RX0) (Tc := TX0) (N := 13) (ci := 0) hx hb hq pin_wsX00 hown hE hP hO 24 (sg_24 G h0 a _ _ _ _ _) rfl 8 (by decide) (hq _ pw_55) (fun _ h9 => h9) rfl dX0_tryStatement_168 ?_
        refine lv_iand hx hb dX0_tryStatement_171 ?_
        refine lv_topi (fun x218 e219 => ?_)
        refine lv_istore (lv' := [(9, .int x218), (8, .int r215), (10, .ref x9), (7, .int b7), (6, .int b6), (5, .int b5), (4, .int (nI hd)), (3, .int 29), (2, .int 1), (1, .ref q), (0, .ref (a 4))]) hx hb dX0_tryStatement_172 hl (by decide) rfl (fun ls hl => ?_)
        refine lv_aload hx hb dX0_tryStatement_174 (lv_at hl 2 rfl) ?_
        rcases ho221 : K166.2.2.1 4 x9 with _ | o220
        · skip
          refine p_get (v := .null) (C := RX7) (Tc := TX7) (N := 11) (ci := 13) hx hb hq pin_wsX70 hown hE hP hO (by rw [hf198]; decide) (rep_1 hf198) rfl 10 (by decide) (hq _ pw_170) (fun _ h9 => h9) (congrArg (fun z => some (va_rf z)) ho221) dX0_tryStatement_176 ?_
          refine lv_astoreN (lv' := [(10, .null), (9, .int x218), (8, .int r215), (7, .int b7), (6, .int b6), (5, .int b5), (4, .int (nI hd)), (3, .int 29), (2, .int 1), (1, .ref q), (0, .ref (a 4))]) hx hb dX0_tryStatement_179 hl (by decide) rfl (fun ls hl => ?_)
          refine lv_goto (tgt := 109) hx hb dX0_tryStatement_181 (by decide) ?_
          refine W.widen (k := (c2 + (rE (g 2 x9) - rS (g 2 x9)))) (n := (6 * (c2 + (rE (g 2 x9) - rS (g 2 x9))))) (by show (c2 + (rE (g 2 x9) - rS (g 2 x9))) ≤ _; omega) (by show ((6 * c2) + (6 * (rE (g 2 x9) - rS (g 2 x9)))) ≤ _; omega) ?_
          have hO : OKP G h0 a (upd (upd (upd (upd (upd (upd (upd (upd (upd (upd F 2 (nI sz)) 5 (nI cs210)) 6 (nI rg175)) 7 (nI hd)) 8 (nI dp174)) 12 (nI vr)) 13 as169) 14 wt170) 15 wf171) 16 ls176) (updR (updR (updR R 2 (.ref pq)) 3 (.ref mq)) 4 (va_rf lo)) Z (updA (updA (updA (updA B167 16 f211) 17 f212) 18 f213) 19 f214) J K166 w := hO.to rfl
          exact ih_g (g 2 x9 + 1) none K166 (updA (updA (updA (updA B167 16 f211) 17 f212) 18 f213) 19 f214) cs210 as169 wt170 wf171 dp174 rg175 ls176 (rE (g 2 x9)) (c2 + (rE (g 2 x9) - rS (g 2 x9))) b5 b6 b7 r215 x218 _ _ _ _ (by omega) (by omega) hbe202 ((show Thx (upd (upd (upd (upd (upd (upd (upd F 2 (nI sz)) 5 (nI cs)) 6 (nI rg)) 7 (nI hd)) 8 (nI dp)) 12 (nI vr)) 16 ls9) (upd (upd (upd (upd (upd (upd (upd (upd (upd (upd (upd (upd (upd (upd (upd (upd F 2 (nI sz)) 5 (nI cs)) 6 (nI rg)) 7 (nI hd)) 8 (nI dp)) 12 (nI vr)) 16 ls9) 5 (nI cs210)) 6 (nI rg175)) 7 (nI hd173)) 8 (nI dp174)) 12 (nI vr172)) 13 as169) 14 wt170) 15 wf171) 16 ls176) B (updA (updA (updA (updA B167 16 f211) 17 f212) 18 f213) 19 f214) from (Thx.b (Thx.b8 (Thx.b (Thx.b (Thx.f (Thx.f (Thx.f (Thx.f (Thx.f (Thx.f (Thx.f (Thx.f (Thx.f (Bth.thx hbb203) (by omega)) (by omega)) (by omega)) (by omega)) (by omega)) (by omega)) (by omega)) (by omega)) (by omega)) (by omega) (by decide)) (by omega) (by decide)) h217) (by omega) (by decide))).2) h217 (by omega) (MmO.next (BdE.wp hbe202 hwp).1 hqL.1 hf198 hxd.2.1 hxd.2.2.2.1 ho221) (by omega) hP hD hS hO (lv_sub hl [0, 1, 2, 3, 4, 5, 6, 7, 8, 9, 10] rfl)
        · skip
          refine p_get (v := .ref o220) (C := RX7) (Tc := TX7) (N := 11) (ci := 13) hx hb hq pin_wsX70 hown hE hP hO (by rw [hf198]; decide) (rep_1 hf198) rfl 10 (by decide) (hq _ pw_170) (fun _ h9 => h9) (congrArg (fun z => some (va_rf z)) ho221) dX0_tryStatement_176 ?_
          refine lv_astore (lv' := [(10, .ref o220), (9, .int x218), (8, .int r215), (7, .int b7), (6, .int b6), (5, .int b5), (4, .int (nI hd)), (3, .int 29), (2, .int 1), (1, .ref q), (0, .ref (a 4))]) hx hb dX0_tryStatement_179 hl (by decide) rfl (fun ls hl => ?_)
          refine lv_goto (tgt := 109) hx hb dX0_tryStatement_181 (by decide) ?_
          refine W.widen (k := (c2 + (rE (g 2 x9) - rS (g 2 x9)))) (n := (6 * (c2 + (rE (g 2 x9) - rS (g 2 x9))))) (by show (c2 + (rE (g 2 x9) - rS (g 2 x9))) ≤ _; omega) (by show ((6 * c2) + (6 * (rE (g 2 x9) - rS (g 2 x9)))) ≤ _; omega) ?_
          have hO : OKP G h0 a (upd (upd (upd (upd (upd (upd (upd (upd (upd (upd F 2 (nI sz)) 5 (nI cs210)) 6 (nI rg175)) 7 (nI hd)) 8 (nI dp174)) 12 (nI vr)) 13 as169) 14 wt170) 15 wf171) 16 ls176) (updR (updR (updR R 2 (.ref pq)) 3 (.ref mq)) 4 (va_rf lo)) Z (updA (updA (updA (updA B167 16 f211) 17 f212) 18 f213) 19 f214) J K166 w := hO.to rfl
          exact ih_g (g 2 x9 + 1) (some o220) K166 (updA (updA (updA (updA B167 16 f211) 17 f212) 18 f213) 19 f214) cs210 as169 wt170 wf171 dp174 rg175 ls176 (rE (g 2 x9)) (c2 + (rE (g 2 x9) - rS (g 2 x9))) b5 b6 b7 r215 x218 _ _ _ _ (by omega) (by omega) hbe202 ((show Thx (upd (upd (upd (upd (upd (upd (upd F 2 (nI sz)) 5 (nI cs)) 6 (nI rg)) 7 (nI hd)) 8 (nI dp)) 12 (nI vr)) 16 ls9) (upd (upd (upd (upd (upd (upd (upd (upd (upd (upd (upd (upd (upd (upd (upd (upd F 2 (nI sz)) 5 (nI cs)) 6 (nI rg)) 7 (nI hd)) 8 (nI dp)) 12 (nI vr)) 16 ls9) 5 (nI cs210)) 6 (nI rg175)) 7 (nI hd173)) 8 (nI dp174)) 12 (nI vr172)) 13 as169) 14 wt170) 15 wf171) 16 ls176) B (updA (updA (updA (updA B167 16 f211) 17 f212) 18 f213) 19 f214) from (Thx.b (Thx.b8 (Thx.b (Thx.b (Thx.f (Thx.f (Thx.f (Thx.f (Thx.f (Thx.f (Thx.f (Thx.f (Thx.f (Bth.thx hbb203) (by omega)) (by omega)) (by omega)) (by omega)) (by omega)) (by omega)) (by omega)) (by omega)) (by omega)) (by omega) (by decide)) (by omega) (by decide)) h217) (by omega) (by decide))).2) h217 (by omega) (MmO.next (BdE.wp hbe202 hwp).1 hqL.1 hf198 hxd.2.1 hxd.2.2.2.1 ho221) (by omega) hP hD hS hO (lv_sub hl [0, 1, 2, 3, 4, 5, 6, 7, 8, 9, 10] rfl)
  refine W.widen (k := (rE (g 2 q1) - rS (g 2 q1) - 2)) (n := (6 * (rE (g 2 q1) - rS (g 2 q1) - 2))) (by show (rE (g 2 q1) - rS (g 2 q1) - 2) ≤ _; omega) (by show (6 * (rE (g 2 q1) - rS (g 2 q1) - 2)) ≤ _; omega) ?_
  have hO : OKP G h0 a (upd (upd (upd (upd (upd (upd (upd (upd (upd (upd F 2 (nI sz)) 5 (nI cs50)) 6 (nI rg19)) 7 (nI hd)) 8 (nI dp18)) 12 (nI vr)) 13 as13) 14 wt14) 15 wf15) 16 ls20) (updR (updR (updR R 2 (.ref pq)) 3 (.ref mq)) 4 (va_rf lo)) Z (updA (updA (updA (updA B11 16 f51) 17 f52) 18 f53) 19 f54) J K10 w := hO.to rfl
  exact loop_g (100000000000000000001 + 1) 0 ob K10 (updA (updA (updA (updA B11 16 f51) 17 f52) 18 f53) 19 f54) cs50 as13 wt14 wf15 dp18 rg19 ls20 (rM (g 2 q)) (rE (g 2 q1) - rS (g 2 q1) - 2) (F 13) (nI cs) (nI cs12) r55 as13 _ _ _ _ (by omega) (by omega) hbe42 ((show Thx (upd (upd (upd (upd (upd (upd (upd F 2 (nI sz)) 5 (nI cs)) 6 (nI rg)) 7 (nI hd)) 8 (nI dp)) 12 (nI vr)) 16 ls9) (upd (upd (upd (upd (upd (upd (upd (upd (upd (upd (upd (upd (upd (upd (upd (upd F 2 (nI sz)) 5 (nI cs)) 6 (nI rg)) 7 (nI hd)) 8 (nI dp)) 12 (nI vr)) 16 ls9) 5 (nI cs50)) 6 (nI rg19)) 7 (nI hd17)) 8 (nI dp18)) 12 (nI vr16)) 13 as13) 14 wt14) 15 wf15) 16 ls20) B (updA (updA (updA (updA B11 16 f51) 17 f52) 18 f53) 19 f54) from (Thx.b (Thx.b8 (Thx.b (Thx.b (Thx.f (Thx.f (Thx.f (Thx.f (Thx.f (Thx.f (Thx.f (Thx.f (Thx.f (Bth.thx hbb43) (by omega)) (by omega)) (by omega)) (by omega)) (by omega)) (by omega)) (by omega)) (by omega)) (by omega)) (by omega) (by decide)) (by omega) (by decide)) h57) (by omega) (by decide))).2) h57 (by omega) (MmO.be hbe42 (MmO.first32 hwp.1 hqT hqL.1 hkd hob)) (by omega) hP hD hS hO (lv_sub hl [0, 1, 2, 3, 4, 5, 6, 7, 8, 10, 9] rfl)
