set_option maxHeartbeats 16000000 in
set_option maxRecDepth 100000 in
theorem B_loopCondM (l : Launch) (G : pT) (h0 : Nat) (a : Nat → Nat) (F : Nat → Int32) (R : Nat → Value) (Z : Int64) (B : Nat → Nat → Int32) (J : Nat → Nat → Int64) (K : PK) (w : va_W) (pq : Nat) (dr : Nat) (ml : Nat) (nd : Nat) (nm : Nat) (cp : Nat) (it : Nat → Nat) (s9 : Nat) (q : Nat) (mq : Nat) (cs : Nat) (vr : Nat) (sz : Nat) (n : Nat) (g : Nat → Nat → Nat) (rk : Nat → Nat) (hsz : sz ≤ 5000) (hwp : WPr G K g) (hps : PgT G K g (a 1) pq dr ml nd nm cp it s9) (hrk : RkO K rk) (hcs : cs ≤ 10000) (hvr : vr ≤ 30) (hng : Nng (B 18)) (hmq : K.1 mq = 3) (hqT : K.1 q = 1) (hqL : 1 ≤ g 0 q ∧ g 0 q ≤ n) (hO : OKP G h0 a (upd (upd (upd F 2 (nI sz)) 5 (nI cs)) 12 (nI vr)) (updR (updR R 2 (.ref pq)) 3 (.ref mq)) Z B J K w) (hl0 : l.stackTraces = false) : PBn l G pX0 yX0_loopCondition cX0_loopCondition 2 (some .int) ({ frames := (5 * n + 35), cells := 1, slots := 6, locals := (200 * n + 640) }) [.ref (a 4), .null] w (fun (v : Option Value) (u : va_W × (PK × (Nat → Nat → Int32) × Nat × Int32 × Int32 × Int32 × Int32)) => v = some (.int u.2.2.2.2.2.2.2) ∧ (BdE K u.2.1) ∧ (Bth B u.2.2.1) ∧ (u.2.2.2.1 ≤ 10000) ∧ (OKP G h0 a (upd (upd (upd (upd (upd (upd F 2 (nI sz)) 5 (nI u.2.2.2.1)) 12 (nI vr)) 13 u.2.2.2.2.1) 14 u.2.2.2.2.2.1) 15 u.2.2.2.2.2.2.1) (updR (updR R 2 (.ref pq)) 3 (.ref mq)) Z u.2.2.1 J u.2.1 u.1)) (fun u => u.1) (fun (u : va_W × (PK × (Nat → Nat → Int32) × Nat × Int32 × Int32 × Int32 × Int32)) => 0) (fun (u : va_W × (PK × (Nat → Nat → Int32) × Nat × Int32 × Int32 × Int32 × Int32)) => 0) (fun (u : va_W × (Nat → Int32) × (Nat → Value) × (Nat → Nat → Int32)) => ThQ G h0 a (upd (upd (upd F 2 (nI sz)) 5 (nI cs)) 12 (nI vr)) (updR (updR R 2 (.ref pq)) 3 (.ref mq)) Z B J u) (fun u => u.1) := by
  intro sz
  refine vx_ofW (cc := cX0_loopCondition) (maxL := 2) (ret := (some .int)) (by decide) rfl ?_
  intro p e s m args below meth c s₁ B9 hml hnt hv
  obtain ⟨rfl, hsz, hP, hD0, hE, hX⟩ := hv
  have hx := B9.exec
  have hb := B9.bytes
  have hr := B9.returns
  have hts := atoms_spec (ws := Cond.code yX0_loopCondition cX0_loopCondition 2 (some .int) :: pw) B9.pre
  have hq : ∀ w ∈ pw, w.before _ s = true := fun w h => hts w (List.mem_cons_of_mem _ h)
  have hown : s.vm.findClass RX0 = some m.cls := findClass_of_methodNamed B9.named
  have hlocks := B9.notSynchronized
  subst hsz
  have hD := hD0.self (sz := s.heap.size)
  have hA : ∀ q : Nat, s.heap.size ≤ q → va_A w s.heap.size q := fun q h => Or.inr h
  generalize va_A w s.heap.size = A at hD hE hA ⊢
  have hS : va_S A s.heap s.heap [] := va_S.rf
  have hl := lv_entry ([.ref (a 4), .null]) (n := 2) (Nat.le_of_ble_eq_true rfl)
  rw [lg_entry_eq]
  generalize (lg_sl ([.ref (a 4), .null]) ++ List.replicate (2 - (lg_sl ([.ref (a 4), .null])).length) Slot.unset).toArray = ls at hl ⊢
  have hl : lv_has ls 2 [(0, .ref (a 4)), (1, .null)] := hl
  have hpg := hps.1
  have hp1 := hpg.1
  have hp2 := hpg.2.1
  have hp3 := hpg.2.2.1
  have hp4 := hpg.2.2.2.1
  have hp5 := hpg.2.2.2.2.1
  have hp6 := hpg.2.2.2.2.2.1
  have hp8 := hpg.2.2.2.2.2.2.2.1
  have hp9 := hpg.2.2.2.2.2.2.2.2
  refine lv_aload_nN hx hb dX0_loopCondition_0 rfl (lv_at hl 1 rfl) ?_
  refine lv_ifnonnullN hx hb dX0_loopCondition_1 ?_
  refine lv_aload_n hx hb dX0_loopCondition_4 rfl (lv_at hl 0 rfl) ?_
  refine lv_aload_n hx hb dX0_loopCondition_5 rfl (lv_at hl 0 rfl) ?_
  refine c_get (v := .int (F 13)) (C := RX0) (Tc := TX0) (N := 13) (ci := 0) hx hb hq pin_wsX00 hown hE hP hO 24 (sg_24 G h0 a _ _ _ _ _) rfl 8 (by decide) (hq _ pw_55) (fun _ h9 => h9) rfl dX0_loopCondition_6 ?_
  refine c_put (v := .int (F 13)) (ty := .int) (C := RX0) (Tc := TX0) (N := 13) (ci := 0) hx hb hq pin_wsX00 tyX0 tyX0_ok nmX0 hown hE hP hD hS hO 24 (sg_24 G h0 a _ _ _ _ _) rfl 9 (by decide) (hq _ pw_156) (fun _ h9 => h9) rfl (by decide +kernel) rfl rfl (Nat.le_of_ble_eq_true rfl) (sf_14 G h0 a _ _ _ _ _ (F 13)) dX0_loopCondition_9 (fun H locs w hP hD hS hO => ?_)
  refine lv_aload_n hx hb dX0_loopCondition_12 rfl (lv_at hl 0 rfl) ?_
  refine lv_iconst (v := (-1)) hx hb dX0_loopCondition_13 (by decide) ?_
  refine c_put (v := .int (-1)) (ty := .int) (C := RX0) (Tc := TX0) (N := 13) (ci := 0) hx hb hq pin_wsX00 tyX0 tyX0_ok nmX0 hown hE hP hD hS hO 24 (sg_24 G h0 a _ _ _ _ _) rfl 10 (by decide) (hq _ pw_157) (fun _ h9 => h9) rfl (by decide +kernel) rfl rfl (Nat.le_of_ble_eq_true rfl) (sf_15 G h0 a _ _ _ _ _ (-1)) dX0_loopCondition_14 (fun H locs w hP hD hS hO => ?_)
  refine lv_iconst (v := (-1)) hx hb dX0_loopCondition_17 (by decide) ?_
  refine W_size (fun hz1 hz2 => ?_)
  refine vx_ret ?_
  have hz1 : BdE K K := BdE.rfl
  have hz2 : Bth B B := (show Thx (upd (upd (upd F 2 (nI sz)) 5 (nI cs)) 12 (nI vr)) (upd (upd (upd (upd (upd F 2 (nI sz)) 5 (nI cs)) 12 (nI vr)) 14 (F 13)) 15 (-1)) B B from (Thx.f (Thx.f Thx.rfl (by omega)) (by omega))).2
  have hz3 : cs ≤ 10000 := (by omega)
  have hO : OKP G h0 a (upd (upd (upd (upd (upd (upd F 2 (nI sz)) 5 (nI cs)) 12 (nI vr)) 13 (F 13)) 14 (F 13)) 15 ((-1) : Int32)) (updR (updR R 2 (.ref pq)) 3 (.ref mq)) Z B J K w := hO.to rfl
  refine W.widen (k := 1) (n := 6) (by omega) (by omega) ?_
  have hzz1 : H.size ≤ s.heap.size + (0) := (by have z : 0 ≤ 0 := (by omega); omega)
  have hzz2 : hSl H ≤ hSl s.heap + (0) := (by have z : 0 ≤ 0 := (by omega); omega)
  exact W.iret (v := (-1)) hx hb hr (fun t99 ht99 hW99 => ⟨⟨_, (w, (K, B, cs, (F 13), (F 13), ((-1) : Int32), ((-1) : Int32))), rfl, ⟨rfl, hz1, hz2, hz3, hO⟩, by rw [ht99]; exact hP, hD, by rw [ht99]; exact hzz1, by rw [ht99]; exact hzz2⟩, hS.F ht99⟩) hS.2.2 dX0_loopCondition_18
theorem B_loopCondO (l : Launch) (G : pT) (h0 : Nat) (a : Nat → Nat) (F : Nat → Int32) (R : Nat → Value) (Z : Int64) (B : Nat → Nat → Int32) (J : Nat → Nat → Int64) (K : PK) (w : va_W) (pq : Nat) (dr : Nat) (ml : Nat) (nd : Nat) (nm : Nat) (cp : Nat) (it : Nat → Nat) (s9 : Nat) (q : Nat) (mq : Nat) (cs : Nat) (vr : Nat) (sz : Nat) (n : Nat) (ob : Option Nat) (g : Nat → Nat → Nat) (rk : Nat → Nat) (hsz : sz ≤ 5000) (hwp : WPr G K g) (hps : PgT G K g (a 1) pq dr ml nd nm cp it s9) (hrk : RkO K rk) (hcs : cs ≤ 10000) (hvr : vr ≤ 30) (hng : Nng (B 18)) (hmq : K.1 mq = 3) (hqT : K.1 q = 1) (hqL : 1 ≤ g 0 q ∧ g 0 q ≤ n) (hob : KvO K g ob n) (pv : PVa l G n) (hO : OKP G h0 a (upd (upd (upd F 2 (nI sz)) 5 (nI cs)) 12 (nI vr)) (updR (updR R 2 (.ref pq)) 3 (.ref mq)) Z B J K w) (hl0 : l.stackTraces = false) : PBn l G pX0 yX0_loopCondition cX0_loopCondition 2 (some .int) ({ frames := (5 * n + 35), cells := 1, slots := 6, locals := (200 * n + 640) }) [.ref (a 4), va_rf ob] w (fun (v : Option Value) (u : va_W × (PK × (Nat → Nat → Int32) × Nat × Int32 × Int32 × Int32 × Int32)) => v = some (.int u.2.2.2.2.2.2.2) ∧ (BdE K u.2.1) ∧ (Bth B u.2.2.1) ∧ (u.2.2.2.1 ≤ 10000) ∧ (OKP G h0 a (upd (upd (upd (upd (upd (upd F 2 (nI sz)) 5 (nI u.2.2.2.1)) 12 (nI vr)) 13 u.2.2.2.2.1) 14 u.2.2.2.2.2.1) 15 u.2.2.2.2.2.2.1) (updR (updR R 2 (.ref pq)) 3 (.ref mq)) Z u.2.2.1 J u.2.1 u.1)) (fun u => u.1) (fun (u : va_W × (PK × (Nat → Nat → Int32) × Nat × Int32 × Int32 × Int32 × Int32)) => 0) (fun (u : va_W × (PK × (Nat → Nat → Int32) × Nat × Int32 × Int32 × Int32 × Int32)) => 0) (fun (u : va_W × (Nat → Int32) × (Nat → Value) × (Nat → Nat → Int32)) => ThQ G h0 a (upd (upd (upd F 2 (nI sz)) 5 (nI cs)) 12 (nI vr)) (updR (updR R 2 (.ref pq)) 3 (.ref mq)) Z B J u) (fun u => u.1) := by
  cases ob with
  | none => exact B_loopCondM l G h0 a F R Z B J K w pq dr ml nd nm cp it s9 q mq cs vr sz n g rk hsz hwp hps hrk hcs hvr hng hmq hqT hqL hO hl0
  | some x => exact B_loopCond l G h0 a F R Z B J K w pq dr ml nd nm cp it s9 x mq cs vr sz n g rk hsz hwp hps hrk hcs hvr hng hmq (hob x rfl).1 (hob x rfl).2 pv hO hl0
theorem O_initV (l : Launch) (G : pT) (h0 : Nat) (a : Nat → Nat) (F : Nat → Int32) (R : Nat → Value) (Z : Int64) (B : Nat → Nat → Int32) (J : Nat → Nat → Int64) (K : PK) (w : va_W) (q0 : Nat) (o9 : Option Nat) (x1 : Int32) (hT0 : K.1 q0 = 9) (hO : OKP G h0 a F R Z B J K w) : PM l G pX0 yX4_init cX4_init 3 none ({ frames := 2, cells := 0, slots := 0, locals := 60 }) [.ref q0, va_rf o9, .int x1] w (fun (v : Option Value) (u : va_W × (Unit)) => v = none ∧ (OKP G h0 a F R Z B J (kI (kI (kI (kI (kI (kC K 16 q0 o9) 26 q0 x1) 27 q0 (-1)) 28 q0 (-1)) 29 q0 (-1)) 30 q0 (-1)) u.1)) (fun u => u.1) := by
  cases o9 with
  | none => exact O_initN l G h0 a F R Z B J K w q0 x1 hT0 hO
  | some x => exact O_init l G h0 a F R Z B J K w q0 x x1 hT0 hO
theorem dX0_loopStatement_0 : decode cX0_loopStatement 0 = .ok (.aload_n 0, 1) := by decide +kernel
theorem dX0_loopStatement_1 : decode cX0_loopStatement 1 = .ok (.getfield 91, 3) := by decide +kernel
theorem dX0_loopStatement_4 : decode cX0_loopStatement 4 = .ok (.istore_n 2, 1) := by decide +kernel
theorem dX0_loopStatement_5 : decode cX0_loopStatement 5 = .ok (.aload_n 0, 1) := by decide +kernel
theorem dX0_loopStatement_6 : decode cX0_loopStatement 6 = .ok (.getfield 15, 3) := by decide +kernel
theorem dX0_loopStatement_9 : decode cX0_loopStatement 9 = .ok (.getfield 158, 3) := by decide +kernel
theorem dX0_loopStatement_12 : decode cX0_loopStatement 12 = .ok (.istore_n 3, 1) := by decide +kernel
theorem dX0_loopStatement_13 : decode cX0_loopStatement 13 = .ok (.aload_n 1, 1) := by decide +kernel
theorem dX0_loopStatement_14 : decode cX0_loopStatement 14 = .ok (.getfield 165, 3) := by decide +kernel
theorem dX0_loopStatement_17 : decode cX0_loopStatement 17 = .ok (.ifnull 12, 3) := by decide +kernel
theorem dX0_loopStatement_29 : decode cX0_loopStatement 29 = .ok (.aload_n 0, 1) := by decide +kernel
theorem dX0_loopStatement_30 : decode cX0_loopStatement 30 = .ok (.getfield 15, 3) := by decide +kernel
theorem dX0_loopStatement_33 : decode cX0_loopStatement 33 = .ok (.getfield 99, 3) := by decide +kernel
theorem dX0_loopStatement_36 : decode cX0_loopStatement 36 = .ok (.istore 4, 2) := by decide +kernel
theorem dX0_loopStatement_38 : decode cX0_loopStatement 38 = .ok (.aload_n 0, 1) := by decide +kernel
theorem dX0_loopStatement_39 : decode cX0_loopStatement 39 = .ok (.getfield 15, 3) := by decide +kernel
theorem dX0_loopStatement_42 : decode cX0_loopStatement 42 = .ok (.iconst 0, 1) := by decide +kernel
theorem dX0_loopStatement_43 : decode cX0_loopStatement 43 = .ok (.iconst 0, 1) := by decide +kernel
theorem dX0_loopStatement_44 : decode cX0_loopStatement 44 = .ok (.iconst 0, 1) := by decide +kernel
theorem dX0_loopStatement_45 : decode cX0_loopStatement 45 = .ok (.invokevirtual 140, 3) := by decide +kernel
theorem dX0_loopStatement_48 : decode cX0_loopStatement 48 = .ok (.aload_n 0, 1) := by decide +kernel
theorem dX0_loopStatement_49 : decode cX0_loopStatement 49 = .ok (.aload_n 1, 1) := by decide +kernel
theorem dX0_loopStatement_50 : decode cX0_loopStatement 50 = .ok (.getfield 202, 3) := by decide +kernel
theorem dX0_loopStatement_53 : decode cX0_loopStatement 53 = .ok (.invokevirtual 253, 3) := by decide +kernel
theorem dX0_loopStatement_56 : decode cX0_loopStatement 56 = .ok (.istore 5, 2) := by decide +kernel
theorem dX0_loopStatement_58 : decode cX0_loopStatement 58 = .ok (.aload_n 0, 1) := by decide +kernel
theorem dX0_loopStatement_59 : decode cX0_loopStatement 59 = .ok (.getfield 237, 3) := by decide +kernel
theorem dX0_loopStatement_62 : decode cX0_loopStatement 62 = .ok (.istore 6, 2) := by decide +kernel
theorem dX0_loopStatement_64 : decode cX0_loopStatement 64 = .ok (.aload_n 0, 1) := by decide +kernel
theorem dX0_loopStatement_65 : decode cX0_loopStatement 65 = .ok (.aload_n 0, 1) := by decide +kernel
theorem dX0_loopStatement_66 : decode cX0_loopStatement 66 = .ok (.getfield 240, 3) := by decide +kernel
theorem dX0_loopStatement_69 : decode cX0_loopStatement 69 = .ok (.putfield 94, 3) := by decide +kernel
theorem dX0_loopStatement_72 : decode cX0_loopStatement 72 = .ok (.aload_n 0, 1) := by decide +kernel
theorem dX0_loopStatement_73 : decode cX0_loopStatement 73 = .ok (.new 256, 3) := by decide +kernel
theorem dX0_loopStatement_76 : decode cX0_loopStatement 76 = .ok (.dup, 1) := by decide +kernel
theorem dX0_loopStatement_77 : decode cX0_loopStatement 77 = .ok (.aload_n 0, 1) := by decide +kernel
theorem dX0_loopStatement_78 : decode cX0_loopStatement 78 = .ok (.getfield 84, 3) := by decide +kernel
theorem dX0_loopStatement_81 : decode cX0_loopStatement 81 = .ok (.aload_n 0, 1) := by decide +kernel
theorem dX0_loopStatement_82 : decode cX0_loopStatement 82 = .ok (.getfield 88, 3) := by decide +kernel
theorem dX0_loopStatement_85 : decode cX0_loopStatement 85 = .ok (.invokespecial 258, 3) := by decide +kernel
theorem dX0_loopStatement_88 : decode cX0_loopStatement 88 = .ok (.putfield 84, 3) := by decide +kernel
theorem dX0_loopStatement_91 : decode cX0_loopStatement 91 = .ok (.aload_n 0, 1) := by decide +kernel
theorem dX0_loopStatement_92 : decode cX0_loopStatement 92 = .ok (.aload_n 1, 1) := by decide +kernel
theorem dX0_loopStatement_93 : decode cX0_loopStatement 93 = .ok (.getfield 261, 3) := by decide +kernel
theorem dX0_loopStatement_96 : decode cX0_loopStatement 96 = .ok (.iconst 1, 1) := by decide +kernel
theorem dX0_loopStatement_97 : decode cX0_loopStatement 97 = .ok (.invokevirtual 168, 3) := by decide +kernel
theorem dX0_loopStatement_100 : decode cX0_loopStatement 100 = .ok (.aload_n 0, 1) := by decide +kernel
theorem dX0_loopStatement_101 : decode cX0_loopStatement 101 = .ok (.getfield 15, 3) := by decide +kernel
theorem dX0_loopStatement_104 : decode cX0_loopStatement 104 = .ok (.aload_n 0, 1) := by decide +kernel
theorem dX0_loopStatement_105 : decode cX0_loopStatement 105 = .ok (.getfield 84, 3) := by decide +kernel
theorem dX0_loopStatement_108 : decode cX0_loopStatement 108 = .ok (.getfield 264, 3) := by decide +kernel
theorem dX0_loopStatement_111 : decode cX0_loopStatement 111 = .ok (.invokevirtual 250, 3) := by decide +kernel
theorem dX0_loopStatement_114 : decode cX0_loopStatement 114 = .ok (.aload_n 1, 1) := by decide +kernel
theorem dX0_loopStatement_115 : decode cX0_loopStatement 115 = .ok (.getfield 247, 3) := by decide +kernel
theorem dX0_loopStatement_118 : decode cX0_loopStatement 118 = .ok (.ifnull 28, 3) := by decide +kernel
theorem dX0_loopStatement_146 : decode cX0_loopStatement 146 = .ok (.aload_n 0, 1) := by decide +kernel
theorem dX0_loopStatement_147 : decode cX0_loopStatement 147 = .ok (.getfield 15, 3) := by decide +kernel
theorem dX0_loopStatement_150 : decode cX0_loopStatement 150 = .ok (.bipush 6, 2) := by decide +kernel
theorem dX0_loopStatement_152 : decode cX0_loopStatement 152 = .ok (.iload 4, 2) := by decide +kernel
theorem dX0_loopStatement_154 : decode cX0_loopStatement 154 = .ok (.iconst 0, 1) := by decide +kernel
theorem dX0_loopStatement_155 : decode cX0_loopStatement 155 = .ok (.invokevirtual 140, 3) := by decide +kernel
theorem dX0_loopStatement_158 : decode cX0_loopStatement 158 = .ok (.aload_n 0, 1) := by decide +kernel
theorem dX0_loopStatement_159 : decode cX0_loopStatement 159 = .ok (.getfield 15, 3) := by decide +kernel
theorem dX0_loopStatement_162 : decode cX0_loopStatement 162 = .ok (.iload 5, 2) := by decide +kernel
theorem dX0_loopStatement_164 : decode cX0_loopStatement 164 = .ok (.invokevirtual 250, 3) := by decide +kernel
theorem dX0_loopStatement_167 : decode cX0_loopStatement 167 = .ok (.aload_n 0, 1) := by decide +kernel
theorem dX0_loopStatement_168 : decode cX0_loopStatement 168 = .ok (.getfield 15, 3) := by decide +kernel
theorem dX0_loopStatement_171 : decode cX0_loopStatement 171 = .ok (.aload_n 0, 1) := by decide +kernel
theorem dX0_loopStatement_172 : decode cX0_loopStatement 172 = .ok (.getfield 84, 3) := by decide +kernel
theorem dX0_loopStatement_175 : decode cX0_loopStatement 175 = .ok (.getfield 270, 3) := by decide +kernel
theorem dX0_loopStatement_178 : decode cX0_loopStatement 178 = .ok (.invokevirtual 250, 3) := by decide +kernel
theorem dX0_loopStatement_181 : decode cX0_loopStatement 181 = .ok (.aload_n 0, 1) := by decide +kernel
theorem dX0_loopStatement_182 : decode cX0_loopStatement 182 = .ok (.iload 6, 2) := by decide +kernel
theorem dX0_loopStatement_184 : decode cX0_loopStatement 184 = .ok (.aload_n 0, 1) := by decide +kernel
theorem dX0_loopStatement_185 : decode cX0_loopStatement 185 = .ok (.getfield 84, 3) := by decide +kernel
theorem dX0_loopStatement_188 : decode cX0_loopStatement 188 = .ok (.getfield 273, 3) := by decide +kernel
theorem dX0_loopStatement_191 : decode cX0_loopStatement 191 = .ok (.iand, 1) := by decide +kernel
theorem dX0_loopStatement_192 : decode cX0_loopStatement 192 = .ok (.putfield 94, 3) := by decide +kernel
theorem dX0_loopStatement_195 : decode cX0_loopStatement 195 = .ok (.aload_n 0, 1) := by decide +kernel
theorem dX0_loopStatement_196 : decode cX0_loopStatement 196 = .ok (.aload_n 0, 1) := by decide +kernel
theorem dX0_loopStatement_197 : decode cX0_loopStatement 197 = .ok (.getfield 84, 3) := by decide +kernel
theorem dX0_loopStatement_200 : decode cX0_loopStatement 200 = .ok (.getfield 276, 3) := by decide +kernel
theorem dX0_loopStatement_203 : decode cX0_loopStatement 203 = .ok (.putfield 84, 3) := by decide +kernel
theorem dX0_loopStatement_206 : decode cX0_loopStatement 206 = .ok (.aload_n 0, 1) := by decide +kernel
theorem dX0_loopStatement_207 : decode cX0_loopStatement 207 = .ok (.iload_n 2, 1) := by decide +kernel
theorem dX0_loopStatement_208 : decode cX0_loopStatement 208 = .ok (.iload_n 3, 1) := by decide +kernel
theorem dX0_loopStatement_209 : decode cX0_loopStatement 209 = .ok (.invokevirtual 175, 3) := by decide +kernel
theorem dX0_loopStatement_212 : decode cX0_loopStatement 212 = .ok (.return_, 1) := by decide +kernel
theorem dX0_loopStatement_121 : decode cX0_loopStatement 121 = .ok (.aload_n 0, 1) := by decide +kernel
theorem dX0_loopStatement_122 : decode cX0_loopStatement 122 = .ok (.dup, 1) := by decide +kernel
theorem dX0_loopStatement_123 : decode cX0_loopStatement 123 = .ok (.getfield 94, 3) := by decide +kernel
theorem dX0_loopStatement_126 : decode cX0_loopStatement 126 = .ok (.aload_n 0, 1) := by decide +kernel
theorem dX0_loopStatement_127 : decode cX0_loopStatement 127 = .ok (.getfield 84, 3) := by decide +kernel
theorem dX0_loopStatement_130 : decode cX0_loopStatement 130 = .ok (.getfield 267, 3) := by decide +kernel
theorem dX0_loopStatement_133 : decode cX0_loopStatement 133 = .ok (.iand, 1) := by decide +kernel
theorem dX0_loopStatement_134 : decode cX0_loopStatement 134 = .ok (.putfield 94, 3) := by decide +kernel
theorem dX0_loopStatement_137 : decode cX0_loopStatement 137 = .ok (.aload_n 0, 1) := by decide +kernel
theorem dX0_loopStatement_138 : decode cX0_loopStatement 138 = .ok (.aload_n 1, 1) := by decide +kernel
theorem dX0_loopStatement_139 : decode cX0_loopStatement 139 = .ok (.getfield 247, 3) := by decide +kernel
theorem dX0_loopStatement_142 : decode cX0_loopStatement 142 = .ok (.iconst 0, 1) := by decide +kernel
theorem dX0_loopStatement_143 : decode cX0_loopStatement 143 = .ok (.invokevirtual 168, 3) := by decide +kernel
theorem dX0_loopStatement_20 : decode cX0_loopStatement 20 = .ok (.aload_n 0, 1) := by decide +kernel
theorem dX0_loopStatement_21 : decode cX0_loopStatement 21 = .ok (.aload_n 1, 1) := by decide +kernel
theorem dX0_loopStatement_22 : decode cX0_loopStatement 22 = .ok (.getfield 165, 3) := by decide +kernel
theorem dX0_loopStatement_25 : decode cX0_loopStatement 25 = .ok (.iconst 0, 1) := by decide +kernel
theorem dX0_loopStatement_26 : decode cX0_loopStatement 26 = .ok (.invokevirtual 168, 3) := by decide +kernel
theorem hV_X0_loopCondition : yX0_loopCondition.cls = RX0 ∧ yX0_loopCondition.cls ≠ "java/lang/invoke/MethodHandle" ∧ yX0_loopCondition.cls ≠ "java/lang/invoke/VarHandle" ∧ (parseMethodDescriptor yX0_loopCondition.desc).map (fun d => d.parameters.length) = some 1 := by decide +kernel
theorem hS_X4_init : yX4_init.cls ≠ "java/lang/invoke/MethodHandle" ∧ yX4_init.cls ≠ "java/lang/invoke/VarHandle" ∧ (parseMethodDescriptor yX4_init.desc).map (fun d => d.parameters.length) = some 2 := by decide +kernel
set_option maxHeartbeats 40000000 in
set_option maxRecDepth 100000 in
theorem B_loop (l : Launch) (G : pT) (h0 : Nat) (a : Nat → Nat) (F : Nat → Int32) (R : Nat → Value) (Z : Int64) (B : Nat → Nat → Int32) (J : Nat → Nat → Int64) (K : PK) (w : va_W) (pq : Nat) (dr : Nat) (ml : Nat) (nd : Nat) (nm : Nat) (cp : Nat) (it : Nat → Nat) (s9 : Nat) (q : Nat) (mq : Nat) (cs : Nat) (vr : Nat) (sz : Nat) (n : Nat) (q4 : Nat) (hd : Nat) (dp : Nat) (rg : Nat) (ls9 : Int32) (lo : Option Nat) (g : Nat → Nat → Nat) (rk : Nat → Nat) (hsz : sz ≤ 5000) (hwp : WPr G K g) (hps : PgT G K g (a 1) pq dr ml nd nm cp it s9) (hrk : RkO K rk) (hcs : cs ≤ 10000) (hvr : vr ≤ 30) (hng : Nng (B 18)) (hmq : K.1 mq = 3) (hqT : K.1 q = 1) (hqL : 1 ≤ g 0 q ∧ g 0 q ≤ n) (hc3 : K.2.2.1 3 q = some q4) (ht3 : K.1 q4 = 1) (hv3 : 1 ≤ g 0 q4 ∧ g 0 q4 + 1 ≤ n) (hdp : dp ≤ 1000) (hrg : rg ≤ 625) (hhd : hd + 2 * n + 30 ≤ 900 + vr) (hlo : LpO K lo) (hkd : LpK (K.2.1 0 q)) (ist : IhT l G n) (ihv : IhV l G n) (hO : OKP G h0 a (upd (upd (upd (upd (upd (upd (upd F 2 (nI sz)) 5 (nI cs)) 6 (nI rg)) 7 (nI hd)) 8 (nI dp)) 12 (nI vr)) 16 ls9) (updR (updR (updR R 2 (.ref pq)) 3 (.ref mq)) 4 (va_rf lo)) Z B J K w) (hl0 : l.stackTraces = false) : PBn l G pX0 yX0_loopStatement cX0_loopStatement 7 none ({ frames := (5 * n + 46), cells := ((rE (g 2 q) - rS (g 2 q)) + 1), slots := (6 * (rE (g 2 q) - rS (g 2 q)) + 6), locals := (200 * n + 1120) }) [.ref (a 4), .ref q] w (fun (v : Option Value) (u : va_W × (PK × (Nat → Nat → Int32) × Nat × Int32 × Int32 × Int32 × Nat × Nat × Nat × Nat × Int32)) => v = none ∧ (BdE K u.2.1) ∧ (Bth B u.2.2.1) ∧ (u.2.2.2.1 ≤ 10000 ∧ u.2.2.2.2.2.2.2.2.2.2.1 ≤ 625 ∧ u.2.2.2.2.2.2.2.2.2.1 ≤ 1000) ∧ (vr ≤ u.2.2.2.2.2.2.2.1 ∧ u.2.2.2.2.2.2.2.1 ≤ 30 ∧ u.2.2.2.2.2.2.2.2.1 + vr = hd + u.2.2.2.2.2.2.2.1) ∧ (OKP G h0 a (upd (upd (upd (upd (upd (upd (upd (upd (upd (upd F 2 (nI sz)) 5 (nI u.2.2.2.1)) 6 (nI u.2.2.2.2.2.2.2.2.2.2.1)) 7 (nI u.2.2.2.2.2.2.2.2.1)) 8 (nI u.2.2.2.2.2.2.2.2.2.1)) 12 (nI u.2.2.2.2.2.2.2.1)) 13 u.2.2.2.2.1) 14 u.2.2.2.2.2.1) 15 u.2.2.2.2.2.2.1) 16 u.2.2.2.2.2.2.2.2.2.2.2) (updR (updR (updR R 2 (.ref pq)) 3 (.ref mq)) 4 (va_rf lo)) Z u.2.2.1 J u.2.1 u.1)) (fun u => u.1) (fun (u : va_W × (PK × (Nat → Nat → Int32) × Nat × Int32 × Int32 × Int32 × Nat × Nat × Nat × Nat × Int32)) => (rE (g 2 q) - rS (g 2 q))) (fun (u : va_W × (PK × (Nat → Nat → Int32) × Nat × Int32 × Int32 × Int32 × Nat × Nat × Nat × Nat × Int32)) => (6 * (rE (g 2 q) - rS (g 2 q)))) (fun (u : va_W × (Nat → Int32) × (Nat → Value) × (Nat → Nat → Int32)) => ThQ G h0 a (upd (upd (upd (upd (upd (upd (upd F 2 (nI sz)) 5 (nI cs)) 6 (nI rg)) 7 (nI hd)) 8 (nI dp)) 12 (nI vr)) 16 ls9) (updR (updR (updR R 2 (.ref pq)) 3 (.ref mq)) 4 (va_rf lo)) Z B J u) (fun u => u.1) := by
  intro sz
  refine vx_ofW (cc := cX0_loopStatement) (maxL := 7) (ret := none) (by decide) rfl ?_
  intro p e s m args below meth c s₁ B9 hml hnt hv
  obtain ⟨rfl, hsz, hP, hD0, hE, hX⟩ := hv
  have hx := B9.exec
  have hb := B9.bytes
  have hr := B9.returns
  have hts := atoms_spec (ws := Cond.code yX0_loopStatement cX0_loopStatement 7 none :: pw) B9.pre
  have hq : ∀ w ∈ pw, w.before _ s = true := fun w h => hts w (List.mem_cons_of_mem _ h)
  have hown : s.vm.findClass RX0 = some m.cls := findClass_of_methodNamed B9.named
  have hlocks := B9.notSynchronized
  subst hsz
  have hD := hD0.self (sz := s.heap.size)
  have hA : ∀ q : Nat, s.heap.size ≤ q → va_A w s.heap.size q := fun q h => Or.inr h
  generalize va_A w s.heap.size = A at hD hE hA ⊢
  have hS : va_S A s.heap s.heap [] := va_S.rf
  have hl := lv_entry ([.ref (a 4), .ref q]) (n := 7) (Nat.le_of_ble_eq_true rfl)
  rw [lg_entry_eq]
  generalize (lg_sl ([.ref (a 4), .ref q]) ++ List.replicate (7 - (lg_sl ([.ref (a 4), .ref q])).length) Slot.unset).toArray = ls at hl ⊢
  have hl : lv_has ls 7 [(0, .ref (a 4)), (1, .ref q)] := hl
  have hpg := hps.1
  have hp1 := hpg.1
  have hp2 := hpg.2.1
  have hp3 := hpg.2.2.1
  have hp4 := hpg.2.2.2.1
  have hp5 := hpg.2.2.2.2.1
  have hp6 := hpg.2.2.2.2.2.1
  have hp8 := hpg.2.2.2.2.2.2.2.1
  have hp9 := hpg.2.2.2.2.2.2.2.2
  have hnd := hwp.1 q hqT hqL.1
  have hiq := hnd.it
  have hri3 := NdO.iv26d hnd hkd hc3
  have hrx3 := (hwp.1 q4 ht3 hv3.1).it
  obtain ⟨ob, hob⟩ : ∃ z : Option Nat, K.2.2.1 1 q = z := ⟨_, rfl⟩
  rcases hos0 : K.2.2.1 0 q with _ | z1
  · skip
    refine lv_aload_n hx hb dX0_loopStatement_0 rfl (lv_at hl 0 rfl) ?_
    rcases hos2 : K.2.2.1 2 q with _ | z3
    · skip
      refine c_get (v := .int (nI vr)) (C := RX0) (Tc := TX0) (N := 13) (ci := 0) hx hb hq pin_wsX00 hown hE hP hO 24 (sg_24 G h0 a _ _ _ _ _) rfl 5 (by decide) (hq _ pw_42) (fun _ h9 => h9) rfl dX0_loopStatement_1 ?_
      refine lv_istore_n (lv' := [(2, .int (nI vr)), (0, .ref (a 4)), (1, .ref q)]) hx hb dX0_loopStatement_4 rfl hl (by decide) rfl (fun ls hl => ?_)
      refine lv_aload_n hx hb dX0_loopStatement_5 rfl (lv_at hl 1 rfl) ?_
      refine c_get (v := .ref (a 2)) (C := RX0) (Tc := TX0) (N := 13) (ci := 0) hx hb hq pin_wsX00 hown hE hP hO 24 (sg_24 G h0 a _ _ _ _ _) rfl 1 (by decide) (hq _ pw_5) (fun _ h9 => h9) rfl dX0_loopStatement_6 ?_
      refine c_get (v := .int (nI hd)) (C := RX1) (Tc := TX1) (N := 13) (ci := 1) hx hb hq pin_wsX10 hown hE hP hO 13 (sg_13 G h0 a _ _ _ _ _) rfl 11 (by decide) (hq _ pw_54) (fun _ h9 => h9) rfl dX0_loopStatement_9 ?_
      refine lv_istore_n (lv' := [(3, .int (nI hd)), (2, .int (nI vr)), (0, .ref (a 4)), (1, .ref q)]) hx hb dX0_loopStatement_12 rfl hl (by decide) rfl (fun ls hl => ?_)
      refine lv_aload_n hx hb dX0_loopStatement_13 rfl (lv_at hl 3 rfl) ?_
      refine p_get (v := .null) (C := RX7) (Tc := TX7) (N := 11) (ci := 13) hx hb hq pin_wsX70 hown hE hP hO (by rw [hqT]; decide) (rep_1 hqT) rfl 6 (by decide) (hq _ pw_180) (fun _ h9 => h9) (congrArg (fun z => some (va_rf z)) hos0) dX0_loopStatement_14 ?_
      refine lv_ifnullN (tgt := 29) hx hb dX0_loopStatement_17 (by decide) ?_
      refine lv_aload_n hx hb dX0_loopStatement_29 rfl (lv_at hl 2 rfl) ?_
      refine c_get (v := .ref (a 2)) (C := RX0) (Tc := TX0) (N := 13) (ci := 0) hx hb hq pin_wsX00 hown hE hP hO 24 (sg_24 G h0 a _ _ _ _ _) rfl 1 (by decide) (hq _ pw_5) (fun _ h9 => h9) rfl dX0_loopStatement_30 ?_
      refine c_get (v := .int (nI cs)) (C := RX1) (Tc := TX1) (N := 13) (ci := 1) hx hb hq pin_wsX10 hown hE hP hO 13 (sg_13 G h0 a _ _ _ _ _) rfl 4 (by decide) (hq _ pw_75) (fun _ h9 => h9) rfl dX0_loopStatement_33 ?_
      refine lv_istore (lv' := [(4, .int (nI cs)), (3, .int (nI hd)), (2, .int (nI vr)), (0, .ref (a 4)), (1, .ref q)]) hx hb dX0_loopStatement_36 hl (by decide) rfl (fun ls hl => ?_)
      refine lv_aload_n hx hb dX0_loopStatement_38 rfl (lv_at hl 3 rfl) ?_
      refine c_get (v := .ref (a 2)) (C := RX0) (Tc := TX0) (N := 13) (ci := 0) hx hb hq pin_wsX00 hown hE hP hO 24 (sg_24 G h0 a _ _ _ _ _) rfl 1 (by decide) (hq _ pw_5) (fun _ h9 => h9) rfl dX0_loopStatement_39 ?_
      refine lv_iconst (v := 0) hx hb dX0_loopStatement_42 (by decide) ?_
      refine lv_iconst (v := 0) hx hb dX0_loopStatement_43 (by decide) ?_
      refine lv_iconst (v := 0) hx hb dX0_loopStatement_44 (by decide) ?_
      have hO : OKW G h0 a (upd (upd (upd (upd (upd (upd (upd (upd F 2 (nI sz)) 5 (nI cs)) 6 (nI rg)) 7 (nI hd)) 8 (nI dp)) 12 (nI vr)) 16 ls9) 5 (nI cs)) (updR (updR (updR R 2 (.ref pq)) 3 (.ref mq)) 4 (va_rf lo)) Z B J K.1 (fun q99 x99 => x99 = rep G a K q99) w := hO.to rfl
      obtain ⟨_, qr4, hqr5⟩ := hO.2.1 13 _ (sg_13 G h0 a _ _ _ _ _)
      refine pc_V0 (G := G) (As := [.int 0, .int 0, .int (nI 0)]) (rest := []) hx hb hml hown hq hE hX pX0_al hP hD hS hA hl.1 (K_emit l G h0 a (upd (upd (upd (upd (upd (upd (upd F 2 (nI sz)) 5 (nI cs)) 6 (nI rg)) 7 (nI hd)) 8 (nI dp)) 12 (nI vr)) 16 ls9) (updR (updR (updR R 2 (.ref pq)) 3 (.ref mq)) 4 (va_rf lo)) Z B J K.1 (fun q99 x99 => x99 = rep G a K q99) w 0 0 0 cs (by omega) (by omega) hng hO) (gV pw_129 pw_130 pw_131 pw_70 pw_115) hV_X1_emit qr4 1 hqr5 rfl rfl rfl (Nat.le_of_ble_eq_true rfl) dX0_loopStatement_45 ⟨(by show 0 + 0 ≤ ((rE (g 2 q) - rS (g 2 q)) + 1); omega), (by show 0 + 0 ≤ (6 * (rE (g 2 q) - rS (g 2 q)) + 6); omega)⟩ ⟨(by show 2 + 1 ≤ (5 * n + 46); omega), (by show 8 + (4 + 11) + 60 ≤ (200 * n + 1120); omega)⟩ (fun v3 u1 H locs hw2 hP hD hS => ?_)
      obtain ⟨w, cs6, f7, f8, f9, f10⟩ := u1
      obtain ⟨hw2, h11, h12, hO⟩ := hw2
      have h11 : cs ≤ cs6 ∧ cs6 ≤ cs + 1 ∧ cs6 ≤ 10000 := h11
      have h12 : Nng f9 := h12
      obtain rfl : v3 = none := hw2
      have hO : OKP G h0 a (upd (upd (upd (upd (upd (upd (upd F 2 (nI sz)) 5 (nI cs6)) 6 (nI rg)) 7 (nI hd)) 8 (nI dp)) 12 (nI vr)) 16 ls9) (updR (updR (updR R 2 (.ref pq)) 3 (.ref mq)) 4 (va_rf lo)) Z (updA (updA (updA (updA B 16 f7) 17 f8) 18 f9) 19 f10) J K w := hO.to rfl
      refine W.widen (k := 0) (n := 0) (Nat.le_of_ble_eq_true rfl) (Nat.le_of_ble_eq_true rfl) ?_
      refine W.eq (g2 := F0 m 48 ls []) rfl ?_
      refine lv_aload_n hx hb dX0_loopStatement_48 rfl (lv_at hl 3 rfl) ?_
      refine lv_aload_n hx hb dX0_loopStatement_49 rfl (lv_at hl 4 rfl) ?_
      refine p_get (v := va_rf ob) (C := RX7) (Tc := TX7) (N := 11) (ci := 13) hx hb hq pin_wsX70 hown hE hP hO (by rw [hqT]; decide) (rep_1 hqT) rfl 7 (by decide) (hq _ pw_169) (fun _ h9 => h9) (congrArg (fun z => some (va_rf z)) hob) dX0_loopStatement_50 ?_
      have hO : OKP G h0 a (upd (upd (upd (upd (upd (upd (upd (upd (upd (upd (upd F 2 (nI sz)) 5 (nI cs)) 6 (nI rg)) 7 (nI hd)) 8 (nI dp)) 12 (nI vr)) 16 ls9) 5 (nI cs6)) 2 (nI sz)) 5 (nI cs6)) 12 (nI vr)) (updR (updR (updR (updR (updR R 2 (.ref pq)) 3 (.ref mq)) 4 (va_rf lo)) 2 (.ref pq)) 3 (.ref mq)) Z (updA (updA (updA (updA B 16 f7) 17 f8) 18 f9) 19 f10) J K w := hO.to rfl
      obtain ⟨_, qr16, hqr17⟩ := hO.2.1 24 _ (sg_24 G h0 a _ _ _ _ _)
      refine pn_V0 (G := G) (As := [va_rf ob]) (rest := []) hx hb hml hown hq hE hX pX0_al hP hD hS hA hl.1 (B_loopCondO l G h0 a (upd (upd (upd (upd (upd (upd (upd (upd F 2 (nI sz)) 5 (nI cs)) 6 (nI rg)) 7 (nI hd)) 8 (nI dp)) 12 (nI vr)) 16 ls9) 5 (nI cs6)) (updR (updR (updR R 2 (.ref pq)) 3 (.ref mq)) 4 (va_rf lo)) Z (updA (updA (updA (updA B 16 f7) 17 f8) 18 f9) 19 f10) J K w pq dr ml nd nm cp it s9 q mq cs6 vr sz n ob g rk (by omega) (BdE.wp BdE.rfl hwp) (BdE.pt BdE.rfl hwp hps) (BdE.rko BdE.rfl hrk) (by omega) (by omega) h12 hmq hqT hqL (KvO.of ((BdE.wp BdE.rfl hwp).1 q hqT hqL.1) (by decide) hob hqL.2) (PV_all l G n) hO hl0) (gV pw_318 pw_319 pw_320 pw_63 pw_271) hV_X0_loopCondition qr16 0 hqr17 rfl rfl rfl (Nat.le_of_ble_eq_true rfl) dX0_loopStatement_53 ⟨(by show 0 + 1 ≤ ((rE (g 2 q) - rS (g 2 q)) + 1); omega), (by show 0 + 6 ≤ (6 * (rE (g 2 q) - rS (g 2 q)) + 6); omega)⟩ ⟨(by show (5 * n + 35) + 1 ≤ (5 * n + 46); omega), (by show 8 + (2 + 11) + (200 * n + 640) ≤ (200 * n + 1120); omega)⟩ (fun v15 u13 H locs hw14 hP hD hS => ?_) (fun ux ce9 q9 H9 locs9 hux hP9 hD9 hS9 hce hcv hcl => pb_out ux (ThQ.up (Thx.same (Thx.same (Thx.same (Thx.b (Thx.b8 (Thx.b (Thx.b (Thx.f Thx.rfl (by omega)) (by omega) (by decide)) (by omega) (by decide)) h12) (by omega) (by decide)) rfl) rfl) rfl) (show RhX (updR (updR (updR R 2 (.ref pq)) 3 (.ref mq)) 4 (va_rf lo)) (updR (updR (updR (updR (updR R 2 (.ref pq)) 3 (.ref mq)) 4 (va_rf lo)) 2 (.ref pq)) 3 (.ref mq)) from fun k9 hk9 => by unfold updR; simp only [show ¬ k9 = 1 by omega, show ¬ k9 = 2 by omega, show ¬ k9 = 3 by omega, show ¬ k9 = 4 by omega, if_false]) hux) hnt hlocks hce hcv hcl hP9 hD9 hS9 (by show 0 + 1 ≤ ((rE (g 2 q) - rS (g 2 q)) + 1); omega) (by show 0 + 6 ≤ (6 * (rE (g 2 q) - rS (g 2 q)) + 6); omega))
      obtain ⟨w, K18, B19, cs20, as21, wt22, wf23, r24⟩ := u13
      obtain ⟨hw14, h25, h26, h27, hO⟩ := hw14
      have h25 : BdE K K18 := h25
      have h26 : Bth (updA (updA (updA (updA B 16 f7) 17 f8) 18 f9) 19 f10) B19 := h26
      have h27 : cs20 ≤ 10000 := h27
      obtain rfl : v15 = some (.int r24) := hw14
      have hf28 : K18.1 pq = 7 := (BdE.T h25 hp1 (by decide))
      have hf29 : K18.2.2.1 18 pq = some (a 1) := (BdE.C h25 (by rw [hp1]; decide) 18).trans hp2
      have hf30 : K18.2.2.1 14 pq = some dr := (BdE.C h25 (by rw [hp1]; decide) 14).trans hp3
      have hf31 : K18.1 dr = 8 := (BdE.T h25 hp4 (by decide))
      have hf32 : K18.2.2.1 15 pq = some ml := (BdE.C h25 (by rw [hp1]; decide) 15).trans hp5
      have hf33 : K18.1 ml = 5 := (BdE.T h25 hp6 (by decide))
      have hf34 : K18.2.1 24 pq = (nI nd) := (BdE.I h25 (by rw [hp1]; decide) (by decide) (by decide)).trans hp8
      have hf35 : K18.1 q = 1 := (BdE.T h25 hqT (by decide))
      have hf36 : K18.1 mq = 3 := (BdE.T h25 hmq (by decide))
      have hf37 : K18.2.2.1 3 q = some q4 := (BdE.C h25 (by rw [hqT]; decide) 3).trans hc3
      have hf38 : K18.1 q4 = 1 := (BdE.T h25 ht3 (by decide))
      have hf39 : K18.2.2.1 1 q = ob := (BdE.C h25 (by rw [hqT]; decide) 1).trans hob
      have hf40 : K18.2.2.1 0 q = none := (BdE.C h25 (by rw [hqT]; decide) 0).trans hos0
      have hf41 : K18.2.2.1 2 q = none := (BdE.C h25 (by rw [hqT]; decide) 2).trans hos2
      have hO : OKP G h0 a (upd (upd (upd (upd (upd (upd (upd (upd (upd (upd F 2 (nI sz)) 5 (nI cs20)) 6 (nI rg)) 7 (nI hd)) 8 (nI dp)) 12 (nI vr)) 13 as21) 14 wt22) 15 wf23) 16 ls9) (updR (updR (updR R 2 (.ref pq)) 3 (.ref mq)) 4 (va_rf lo)) Z B19 J K18 w := hO.to rfl
      refine W.widen (k := 0) (n := 0) (by show 0 + 0 ≤ 0; omega) (by show 0 + 0 ≤ 0; omega) ?_
      refine W.eq (g2 := F0 m 56 ls [.int r24]) rfl ?_
      have hbe42 := BdE.trans BdE.rfl h25
      have hbb43 : Bth B B19 := Bth.trans (show Thx (upd (upd (upd (upd (upd (upd (upd F 2 (nI sz)) 5 (nI cs)) 6 (nI rg)) 7 (nI hd)) 8 (nI dp)) 12 (nI vr)) 16 ls9) (upd (upd (upd (upd (upd (upd (upd (upd F 2 (nI sz)) 5 (nI cs)) 6 (nI rg)) 7 (nI hd)) 8 (nI dp)) 12 (nI vr)) 16 ls9) 5 (nI cs6)) B (updA (updA (updA (updA B 16 f7) 17 f8) 18 f9) 19 f10) from (Thx.b (Thx.b8 (Thx.b (Thx.b (Thx.f Thx.rfl (by omega)) (by omega) (by decide)) (by omega) (by decide)) h12) (by omega) (by decide))).2 h26
      have hng44 : Nng (B19 18) := h26.2 h12
      refine lv_istore (lv' := [(5, .int r24), (4, .int (nI cs)), (3, .int (nI hd)), (2, .int (nI vr)), (0, .ref (a 4)), (1, .ref q)]) hx hb dX0_loopStatement_56 hl (by decide) rfl (fun ls hl => ?_)
      refine lv_aload_n hx hb dX0_loopStatement_58 rfl (lv_at hl 4 rfl) ?_
      refine c_get (v := .int wf23) (C := RX0) (Tc := TX0) (N := 13) (ci := 0) hx hb hq pin_wsX00 hown hE hP hO 24 (sg_24 G h0 a _ _ _ _ _) rfl 10 (by decide) (hq _ pw_157) (fun _ h9 => h9) rfl dX0_loopStatement_59 ?_
      refine lv_istore (lv' := [(6, .int wf23), (5, .int r24), (4, .int (nI cs)), (3, .int (nI hd)), (2, .int (nI vr)), (0, .ref (a 4)), (1, .ref q)]) hx hb dX0_loopStatement_62 hl (by decide) rfl (fun ls hl => ?_)
      refine lv_aload_n hx hb dX0_loopStatement_64 rfl (lv_at hl 5 rfl) ?_
      refine lv_aload_n hx hb dX0_loopStatement_65 rfl (lv_at hl 5 rfl) ?_
      refine c_get (v := .int wt22) (C := RX0) (Tc := TX0) (N := 13) (ci := 0) hx hb hq pin_wsX00 hown hE hP hO 24 (sg_24 G h0 a _ _ _ _ _) rfl 9 (by decide) (hq _ pw_156) (fun _ h9 => h9) rfl dX0_loopStatement_66 ?_
      refine c_put (v := .int wt22) (ty := .int) (C := RX0) (Tc := TX0) (N := 13) (ci := 0) hx hb hq pin_wsX00 tyX0 tyX0_ok nmX0 hown hE hP hD hS hO 24 (sg_24 G h0 a _ _ _ _ _) rfl 8 (by decide) (hq _ pw_55) (fun _ h9 => h9) rfl (by decide +kernel) rfl rfl (Nat.le_of_ble_eq_true rfl) (sf_13 G h0 a _ _ _ _ _ wt22) dX0_loopStatement_69 (fun H locs w hP hD hS hO => ?_)
      refine lv_aload_n hx hb dX0_loopStatement_72 rfl (lv_at hl 5 rfl) ?_
      refine p_new (s9 := 9) (C := RX4) (T := TX4) (N := 6) (ci := 11) (fs := [.null, .int 0, .int 0, .int 0, .int 0, .int 0]) hx hb hq pin_wsX40 tyX4 tyX4_ok hown (hq _ pw_313) (hq _ pw_314) (hq _ pw_315) hE hP hD hS hA hO rfl nw_X4 (by decide) (fun q => by rw [rep_9 (show (kN K18 q 9 0).1 q = 9 from if_pos rfl)]; unfold fsLoop kN; simp only [if_true]; rfl) (by show 0 + 1 ≤ ((rE (g 2 q) - rS (g 2 q)) + 1); omega) (by show 0 + 6 ≤ (6 * (rE (g 2 q) - rS (g 2 q)) + 6); omega) dX0_loopStatement_73 (fun q45 H w hq46 hP hD hS hO => ?_)
      have hf47 : (kN K18 q45 9 0).1 pq = 7 := (if_neg (fun z => by have z2 := hf28; rw [z, hq46] at z2; exact absurd z2 (by decide))).trans hf28
      have hf48 : (kN K18 q45 9 0).2.2.1 18 pq = some (a 1) := (if_neg (fun z => by have z2 := hf28; rw [z, hq46] at z2; exact absurd z2 (by decide))).trans hf29
      have hf49 : (kN K18 q45 9 0).2.2.1 14 pq = some dr := (if_neg (fun z => by have z2 := hf28; rw [z, hq46] at z2; exact absurd z2 (by decide))).trans hf30
      have hf50 : (kN K18 q45 9 0).1 dr = 8 := (if_neg (fun z => by have z2 := hf31; rw [z, hq46] at z2; exact absurd z2 (by decide))).trans hf31
      have hf51 : (kN K18 q45 9 0).2.2.1 15 pq = some ml := (if_neg (fun z => by have z2 := hf28; rw [z, hq46] at z2; exact absurd z2 (by decide))).trans hf32
      have hf52 : (kN K18 q45 9 0).1 ml = 5 := (if_neg (fun z => by have z2 := hf33; rw [z, hq46] at z2; exact absurd z2 (by decide))).trans hf33
      have hf53 : (kN K18 q45 9 0).2.1 24 pq = (nI nd) := (if_neg (fun z => by have z2 := hf28; rw [z, hq46] at z2; exact absurd z2 (by decide))).trans hf34
      have hf54 : (kN K18 q45 9 0).1 q = 1 := (if_neg (fun z => by have z2 := hf35; rw [z, hq46] at z2; exact absurd z2 (by decide))).trans hf35
      have hf55 : (kN K18 q45 9 0).1 mq = 3 := (if_neg (fun z => by have z2 := hf36; rw [z, hq46] at z2; exact absurd z2 (by decide))).trans hf36
      have hf56 : (kN K18 q45 9 0).2.2.1 3 q = some q4 := (if_neg (fun z => by have z2 := hf35; rw [z, hq46] at z2; exact absurd z2 (by decide))).trans hf37
      have hf57 : (kN K18 q45 9 0).1 q4 = 1 := (if_neg (fun z => by have z2 := hf38; rw [z, hq46] at z2; exact absurd z2 (by decide))).trans hf38
      have hf58 : (kN K18 q45 9 0).2.2.1 1 q = ob := (if_neg (fun z => by have z2 := hf35; rw [z, hq46] at z2; exact absurd z2 (by decide))).trans hf39
      have hf59 : (kN K18 q45 9 0).2.2.1 0 q = none := (if_neg (fun z => by have z2 := hf35; rw [z, hq46] at z2; exact absurd z2 (by decide))).trans hf40
      have hf60 : (kN K18 q45 9 0).2.2.1 2 q = none := (if_neg (fun z => by have z2 := hf35; rw [z, hq46] at z2; exact absurd z2 (by decide))).trans hf41
      have hf61 : (kN K18 q45 9 0).1 q45 = 9 := if_pos rfl
      refine W.widen (k := 1) (n := 6) (by show 0 + 1 ≤ 1; omega) (by show 0 + 6 ≤ 6; omega) ?_
      refine lv_dup hx hb dX0_loopStatement_76 rfl ?_
      refine lv_aload_n hx hb dX0_loopStatement_77 rfl (lv_at hl 5 rfl) ?_
      refine c_get (v := va_rf lo) (C := RX0) (Tc := TX0) (N := 13) (ci := 0) hx hb hq pin_wsX00 hown hE hP hO 24 (sg_24 G h0 a _ _ _ _ _) rfl 11 (by decide) (hq _ pw_73) (fun _ h9 => h9) rfl dX0_loopStatement_78 ?_
      refine lv_aload_n hx hb dX0_loopStatement_81 rfl (lv_at hl 5 rfl) ?_
      refine c_get (v := .int ls9) (C := RX0) (Tc := TX0) (N := 13) (ci := 0) hx hb hq pin_wsX00 hown hE hP hO 24 (sg_24 G h0 a _ _ _ _ _) rfl 12 (by decide) (hq _ pw_74) (fun _ h9 => h9) rfl dX0_loopStatement_82 ?_
      have hO : OKP G h0 a (upd (upd (upd (upd (upd (upd (upd (upd (upd (upd F 2 (nI sz)) 5 (nI cs20)) 6 (nI rg)) 7 (nI hd)) 8 (nI dp)) 12 (nI vr)) 13 wt22) 14 wt22) 15 wf23) 16 ls9) (updR (updR (updR R 2 (.ref pq)) 3 (.ref mq)) 4 (va_rf lo)) Z B19 J (kN K18 q45 9 0) w := hO.to rfl
      obtain ⟨qr65, hqr66⟩ := p_recv hO (by rw [hf61]; decide) (rep_9 hf61)
      refine pc_I0 (G := G) (As := [va_rf lo, .int ls9]) (rest := [.ref q45, .ref (a 4)]) hx hb hml hown hq hE hX pX0_al hP hD hS hA hl.1 (O_initV l G h0 a (upd (upd (upd (upd (upd (upd (upd (upd (upd (upd F 2 (nI sz)) 5 (nI cs20)) 6 (nI rg)) 7 (nI hd)) 8 (nI dp)) 12 (nI vr)) 13 wt22) 14 wt22) 15 wf23) 16 ls9) (updR (updR (updR R 2 (.ref pq)) 3 (.ref mq)) 4 (va_rf lo)) Z B19 J (kN K18 q45 9 0) w q45 lo ls9 hf61 hO) pw_321 pw_322 pw_315 pw_272 rfl hS_X4_init rfl (Nat.le_of_ble_eq_true rfl) dX0_loopStatement_85 ⟨(by show 1 + 0 ≤ ((rE (g 2 q) - rS (g 2 q)) + 1); omega), (by show 6 + 0 ≤ (6 * (rE (g 2 q) - rS (g 2 q)) + 6); omega)⟩ ⟨(by show 2 + 1 ≤ (5 * n + 46); omega), (by show 8 + (3 + 11) + 60 ≤ (200 * n + 1120); omega)⟩ (fun v64 u62 H locs hw63 hP hD hS => ?_)
      obtain ⟨w, _⟩ := u62
      obtain ⟨hw63, hO⟩ := hw63
      obtain rfl : v64 = none := hw63
      have hf67 : (kI (kI (kI (kI (kI (kC (kN K18 q45 9 0) 16 q45 lo) 26 q45 ls9) 27 q45 (-1)) 28 q45 (-1)) 29 q45 (-1)) 30 q45 (-1)).1 pq = 7 := hf47
      have hf68 : (kI (kI (kI (kI (kI (kC (kN K18 q45 9 0) 16 q45 lo) 26 q45 ls9) 27 q45 (-1)) 28 q45 (-1)) 29 q45 (-1)) 30 q45 (-1)).1 dr = 8 := hf50
      have hf69 : (kI (kI (kI (kI (kI (kC (kN K18 q45 9 0) 16 q45 lo) 26 q45 ls9) 27 q45 (-1)) 28 q45 (-1)) 29 q45 (-1)) 30 q45 (-1)).1 ml = 5 := hf52
      have hf70 : (kI (kI (kI (kI (kI (kC (kN K18 q45 9 0) 16 q45 lo) 26 q45 ls9) 27 q45 (-1)) 28 q45 (-1)) 29 q45 (-1)) 30 q45 (-1)).1 q = 1 := hf54
      have hf71 : (kI (kI (kI (kI (kI (kC (kN K18 q45 9 0) 16 q45 lo) 26 q45 ls9) 27 q45 (-1)) 28 q45 (-1)) 29 q45 (-1)) 30 q45 (-1)).1 mq = 3 := hf55
      have hf72 : (kI (kI (kI (kI (kI (kC (kN K18 q45 9 0) 16 q45 lo) 26 q45 ls9) 27 q45 (-1)) 28 q45 (-1)) 29 q45 (-1)) 30 q45 (-1)).1 q4 = 1 := hf57
      have hf73 : (kI (kI (kI (kI (kI (kC (kN K18 q45 9 0) 16 q45 lo) 26 q45 ls9) 27 q45 (-1)) 28 q45 (-1)) 29 q45 (-1)) 30 q45 (-1)).1 q45 = 9 := hf61
      have hO : OKP G h0 a (upd (upd (upd (upd (upd (upd (upd (upd (upd (upd F 2 (nI sz)) 5 (nI cs20)) 6 (nI rg)) 7 (nI hd)) 8 (nI dp)) 12 (nI vr)) 13 wt22) 14 wt22) 15 wf23) 16 ls9) (updR (updR (updR R 2 (.ref pq)) 3 (.ref mq)) 4 (va_rf lo)) Z B19 J (kI (kI (kI (kI (kI (kC (kN K18 q45 9 0) 16 q45 lo) 26 q45 ls9) 27 q45 (-1)) 28 q45 (-1)) 29 q45 (-1)) 30 q45 (-1)) w := hO.to rfl
      refine W.widen (k := 1) (n := 6) (by show 1 + 0 ≤ 1; omega) (by show 6 + 0 ≤ 6; omega) ?_
      refine W.eq (g2 := F0 m 88 ls [.ref q45, .ref (a 4)]) rfl ?_
      obtain ⟨K74, hK75⟩ : ∃ z : PK, z = (kI (kI (kI (kI (kI (kC (kN K18 q45 9 0) 16 q45 lo) 26 q45 ls9) 27 q45 (-1)) 28 q45 (-1)) 29 q45 (-1)) 30 q45 (-1)) := ⟨_, rfl⟩
      rw [← hK75] at hO
      have hbx76 : BdE K18 K74 := by rw [hK75]; exact BdE.loop hq46
      have hbe77 := BdE.trans hbe42 hbx76
      have hf78 : K74.1 pq = 7 := (BdE.T hbx76 hf28 (by decide))
      have hf79 : K74.2.2.1 18 pq = some (a 1) := (BdE.C hbx76 (by rw [hf28]; decide) 18).trans hf29
      have hf80 : K74.2.2.1 14 pq = some dr := (BdE.C hbx76 (by rw [hf28]; decide) 14).trans hf30
      have hf81 : K74.1 dr = 8 := (BdE.T hbx76 hf31 (by decide))
      have hf82 : K74.2.2.1 15 pq = some ml := (BdE.C hbx76 (by rw [hf28]; decide) 15).trans hf32
      have hf83 : K74.1 ml = 5 := (BdE.T hbx76 hf33 (by decide))
      have hf84 : K74.2.1 24 pq = (nI nd) := (BdE.I hbx76 (by rw [hf28]; decide) (by decide) (by decide)).trans hf34
      have hf85 : K74.1 q = 1 := (BdE.T hbx76 hf35 (by decide))
      have hf86 : K74.1 mq = 3 := (BdE.T hbx76 hf36 (by decide))
      have hf87 : K74.2.2.1 3 q = some q4 := (BdE.C hbx76 (by rw [hf35]; decide) 3).trans hf37
      have hf88 : K74.1 q4 = 1 := (BdE.T hbx76 hf38 (by decide))
      have hf89 : K74.2.2.1 1 q = ob := (BdE.C hbx76 (by rw [hf35]; decide) 1).trans hf39
      have hf90 : K74.2.2.1 0 q = none := (BdE.C hbx76 (by rw [hf35]; decide) 0).trans hf40
      have hf91 : K74.2.2.1 2 q = none := (BdE.C hbx76 (by rw [hf35]; decide) 2).trans hf41
      have hf92 : K74.1 q45 = 9 := by rw [hK75]; exact if_pos rfl
      have hf93 : K74.2.2.1 16 q45 = lo := by rw [hK75]; exact kC_eq
      refine c_put (v := .ref q45) (ty := (.object "JinjaTongue$Loop")) (C := RX0) (Tc := TX0) (N := 13) (ci := 0) hx hb hq pin_wsX00 tyX0 tyX0_ok nmX0 hown hE hP hD hS hO 24 (sg_24 G h0 a _ _ _ _ _) rfl 11 (by decide) (hq _ pw_73) (fun _ h9 => h9) rfl (by decide +kernel) rfl rfl (Nat.le_of_ble_eq_true rfl) (sr_4 G h0 a _ _ _ _ _ (.ref q45)) dX0_loopStatement_88 (fun H locs w hP hD hS hO => ?_)
      refine lv_aload_n hx hb dX0_loopStatement_91 rfl (lv_at hl 5 rfl) ?_
      refine lv_aload_n hx hb dX0_loopStatement_92 rfl (lv_at hl 6 rfl) ?_
      refine p_get (v := .ref q4) (C := RX7) (Tc := TX7) (N := 11) (ci := 13) hx hb hq pin_wsX70 hown hE hP hO (by rw [hf85]; decide) (rep_1 hf85) rfl 9 (by decide) (hq _ pw_316) (fun _ h9 => h9) (congrArg (fun z => some (va_rf z)) hf87) dX0_loopStatement_93 ?_
      refine lv_iconst (v := 1) hx hb dX0_loopStatement_96 (by decide) ?_
      have hO : OKP G h0 a (upd (upd (upd (upd (upd (upd (upd (upd (upd (upd (upd (upd (upd (upd (upd (upd (upd (upd F 2 (nI sz)) 5 (nI cs)) 6 (nI rg)) 7 (nI hd)) 8 (nI dp)) 12 (nI vr)) 16 ls9) 5 (nI cs20)) 13 wt22) 14 wt22) 15 wf23) 2 (nI sz)) 5 (nI cs20)) 6 (nI rg)) 7 (nI hd)) 8 (nI dp)) 12 (nI vr)) 16 ls9) (updR (updR (updR (updR (updR (updR R 2 (.ref pq)) 3 (.ref mq)) 4 (.ref q45)) 2 (.ref pq)) 3 (.ref mq)) 4 (va_rf (some q45))) Z B19 J K74 w := hO.to rfl
      obtain ⟨_, qr97, hqr98⟩ := hO.2.1 24 _ (sg_24 G h0 a _ _ _ _ _)
      refine pn_V0 (G := G) (As := [.ref q4, .int (nI 1)]) (rest := []) hx hb hml hown hq hE hX pX0_al hP hD hS hA hl.1 ((ist (n - 1) (by omega)) h0 a (upd (upd (upd (upd (upd (upd (upd (upd (upd (upd (upd F 2 (nI sz)) 5 (nI cs)) 6 (nI rg)) 7 (nI hd)) 8 (nI dp)) 12 (nI vr)) 16 ls9) 5 (nI cs20)) 13 wt22) 14 wt22) 15 wf23) (updR (updR (updR R 2 (.ref pq)) 3 (.ref mq)) 4 (.ref q45)) Z B19 J K74 w pq dr ml nd nm cp it s9 q4 mq cs20 vr sz 1 hd dp rg ls9 (some q45) g rk (by omega) (BdE.wp hbe77 hwp) (BdE.pt hbe77 hwp hps) (BdE.rko hbe77 hrk) (by omega) (by omega) hng44 hf86 hf88 ⟨hv3.1, (by have z9 := hv3; omega)⟩ (by omega) (by omega) (by omega) (fun x9 h9 => by cases h9; exact hf92) (by omega) hO hl0) (gV pw_300 pw_301 pw_302 pw_63 pw_323) hV_X0_statement qr97 0 hqr98 rfl rfl rfl (Nat.le_of_ble_eq_true rfl) dX0_loopStatement_97 ⟨(by show 1 + ((rE (g 2 q4) - rS (g 2 q4)) + 1) ≤ ((rE (g 2 q) - rS (g 2 q)) + 1); omega), (by show 6 + (6 * (rE (g 2 q4) - rS (g 2 q4)) + 6) ≤ (6 * (rE (g 2 q) - rS (g 2 q)) + 6); omega)⟩ ⟨(by show (5 * (n - 1) + 50) + 1 ≤ (5 * n + 46); omega), (by show 8 + (3 + 11) + (200 * (n - 1) + 1200) ≤ (200 * n + 1120); omega)⟩ (fun v96 u94 H locs hw95 hP hD hS => ?_) (fun ux ce9 q9 H9 locs9 hux hP9 hD9 hS9 hce hcv hcl => pb_out ux (ThQ.up (Thx.same (Thx.same (Thx.same (Thx.same (Thx.same (Thx.same (Thx.same (Thx.f (Thx.f (Thx.f (Thx.f (Bth.thx hbb43) (by omega)) (by omega)) (by omega)) (by omega)) rfl) rfl) rfl) rfl) rfl) rfl) rfl) (show RhX (updR (updR (updR R 2 (.ref pq)) 3 (.ref mq)) 4 (va_rf lo)) (updR (updR (updR (updR (updR (updR R 2 (.ref pq)) 3 (.ref mq)) 4 (.ref q45)) 2 (.ref pq)) 3 (.ref mq)) 4 (va_rf (some q45))) from fun k9 hk9 => by unfold updR; simp only [show ¬ k9 = 1 by omega, show ¬ k9 = 2 by omega, show ¬ k9 = 3 by omega, show ¬ k9 = 4 by omega, if_false]) hux) hnt hlocks hce hcv hcl hP9 hD9 hS9 (by show 1 + ((rE (g 2 q4) - rS (g 2 q4)) + 1) ≤ ((rE (g 2 q) - rS (g 2 q)) + 1); omega) (by show 6 + (6 * (rE (g 2 q4) - rS (g 2 q4)) + 6) ≤ (6 * (rE (g 2 q) - rS (g 2 q)) + 6); omega))
      obtain ⟨w, K99, B100, cs101, as102, wt103, wf104, vr105, hd106, dp107, rg108, ls109⟩ := u94
      obtain ⟨hw95, h110, h111, h112, h113, hO⟩ := hw95
      have h110 : BdE K74 K99 := h110
      have h111 : Bth B19 B100 := h111
      have h112 : cs101 ≤ 10000 ∧ rg108 ≤ 625 ∧ dp107 ≤ 1000 := h112
      have h113 : vr ≤ vr105 ∧ vr105 ≤ 30 ∧ hd106 + vr = hd + vr105 := h113
      obtain rfl : v96 = none := hw95
      have hf114 : K99.1 pq = 7 := (BdE.T h110 hf78 (by decide))
      have hf115 : K99.2.2.1 18 pq = some (a 1) := (BdE.C h110 (by rw [hf78]; decide) 18).trans hf79
      have hf116 : K99.2.2.1 14 pq = some dr := (BdE.C h110 (by rw [hf78]; decide) 14).trans hf80
      have hf117 : K99.1 dr = 8 := (BdE.T h110 hf81 (by decide))
      have hf118 : K99.2.2.1 15 pq = some ml := (BdE.C h110 (by rw [hf78]; decide) 15).trans hf82
      have hf119 : K99.1 ml = 5 := (BdE.T h110 hf83 (by decide))
      have hf120 : K99.2.1 24 pq = (nI nd) := (BdE.I h110 (by rw [hf78]; decide) (by decide) (by decide)).trans hf84
      have hf121 : K99.1 q = 1 := (BdE.T h110 hf85 (by decide))
      have hf122 : K99.1 mq = 3 := (BdE.T h110 hf86 (by decide))
      have hf123 : K99.2.2.1 3 q = some q4 := (BdE.C h110 (by rw [hf85]; decide) 3).trans hf87
      have hf124 : K99.1 q4 = 1 := (BdE.T h110 hf88 (by decide))
      have hf125 : K99.2.2.1 1 q = ob := (BdE.C h110 (by rw [hf85]; decide) 1).trans hf89
      have hf126 : K99.2.2.1 0 q = none := (BdE.C h110 (by rw [hf85]; decide) 0).trans hf90
      have hf127 : K99.2.2.1 2 q = none := (BdE.C h110 (by rw [hf85]; decide) 2).trans hf91
      have hf128 : K99.1 q45 = 9 := (BdE.T h110 hf92 (by decide))
      have hf129 : K99.2.2.1 16 q45 = lo := (BdE.C h110 (by rw [hf92]; decide) 16).trans hf93
      have hO : OKP G h0 a (upd (upd (upd (upd (upd (upd (upd (upd (upd (upd F 2 (nI sz)) 5 (nI cs101)) 6 (nI rg108)) 7 (nI hd106)) 8 (nI dp107)) 12 (nI vr105)) 13 as102) 14 wt103) 15 wf104) 16 ls109) (updR (updR (updR R 2 (.ref pq)) 3 (.ref mq)) 4 (.ref q45)) Z B100 J K99 w := hO.to rfl
      refine W.widen (k := (1 + (rE (g 2 q4) - rS (g 2 q4)))) (n := (6 + (6 * (rE (g 2 q4) - rS (g 2 q4))))) (by show 1 + (rE (g 2 q4) - rS (g 2 q4)) ≤ (1 + (rE (g 2 q4) - rS (g 2 q4))); omega) (by show 6 + (6 * (rE (g 2 q4) - rS (g 2 q4))) ≤ (6 + (6 * (rE (g 2 q4) - rS (g 2 q4)))); omega) ?_
      refine W.eq (g2 := F0 m 100 ls []) rfl ?_
      have hbe130 := BdE.trans hbe77 h110
      have hbb131 : Bth B B100 := Bth.trans (show Thx (upd (upd (upd (upd (upd (upd (upd F 2 (nI sz)) 5 (nI cs)) 6 (nI rg)) 7 (nI hd)) 8 (nI dp)) 12 (nI vr)) 16 ls9) (upd (upd (upd (upd (upd (upd (upd (upd (upd (upd (upd F 2 (nI sz)) 5 (nI cs)) 6 (nI rg)) 7 (nI hd)) 8 (nI dp)) 12 (nI vr)) 16 ls9) 5 (nI cs20)) 13 wt22) 14 wt22) 15 wf23) B B19 from (Thx.f (Thx.f (Thx.f (Thx.f (Bth.thx hbb43) (by omega)) (by omega)) (by omega)) (by omega))).2 h111
      have hng132 : Nng (B100 18) := h111.2 hng44
      refine lv_aload_n hx hb dX0_loopStatement_100 rfl (lv_at hl 5 rfl) ?_
      refine c_get (v := .ref (a 2)) (C := RX0) (Tc := TX0) (N := 13) (ci := 0) hx hb hq pin_wsX00 hown hE hP hO 24 (sg_24 G h0 a _ _ _ _ _) rfl 1 (by decide) (hq _ pw_5) (fun _ h9 => h9) rfl dX0_loopStatement_101 ?_
      refine lv_aload_n hx hb dX0_loopStatement_104 rfl (lv_at hl 5 rfl) ?_
      refine c_get (v := .ref q45) (C := RX0) (Tc := TX0) (N := 13) (ci := 0) hx hb hq pin_wsX00 hown hE hP hO 24 (sg_24 G h0 a _ _ _ _ _) rfl 11 (by decide) (hq _ pw_73) (fun _ h9 => h9) rfl dX0_loopStatement_105 ?_
      refine p_get (v := .int (K99.2.1 28 q45)) (C := RX4) (Tc := TX4) (N := 6) (ci := 11) hx hb hq pin_wsX40 hown hE hP hO (by rw [hf128]; decide) (rep_9 hf128) rfl 3 (by decide) (hq _ pw_284) (fun _ h9 => h9) rfl dX0_loopStatement_108 ?_
      have hO : OKW G h0 a (upd (upd (upd (upd (upd (upd (upd (upd (upd (upd (upd F 2 (nI sz)) 5 (nI cs101)) 6 (nI rg108)) 7 (nI hd106)) 8 (nI dp107)) 12 (nI vr105)) 13 as102) 14 wt103) 15 wf104) 16 ls109) 5 (nI cs101)) (updR (updR (updR R 2 (.ref pq)) 3 (.ref mq)) 4 (.ref q45)) Z B100 J K99.1 (fun q99 x99 => x99 = rep G a K99 q99) w := hO.to rfl
      obtain ⟨_, qr136, hqr137⟩ := hO.2.1 13 _ (sg_13 G h0 a _ _ _ _ _)
      refine pc_V0 (G := G) (As := [.int (K99.2.1 28 q45)]) (rest := []) hx hb hml hown hq hE hX pX0_al hP hD hS hA hl.1 (K_land l G h0 a (upd (upd (upd (upd (upd (upd (upd (upd (upd (upd F 2 (nI sz)) 5 (nI cs101)) 6 (nI rg108)) 7 (nI hd106)) 8 (nI dp107)) 12 (nI vr105)) 13 as102) 14 wt103) 15 wf104) 16 ls109) (updR (updR (updR R 2 (.ref pq)) 3 (.ref mq)) 4 (.ref q45)) Z B100 J K99.1 (fun q99 x99 => x99 = rep G a K99 q99) w (K99.2.1 28 q45) cs101 (by omega) hO) (gV pw_200 pw_201 pw_202 pw_70 pw_134) hV_X1_land qr136 1 hqr137 rfl rfl rfl (Nat.le_of_ble_eq_true rfl) dX0_loopStatement_111 ⟨(by show (1 + (rE (g 2 q4) - rS (g 2 q4))) + 0 ≤ ((rE (g 2 q) - rS (g 2 q)) + 1); omega), (by show (6 + (6 * (rE (g 2 q4) - rS (g 2 q4)))) + 0 ≤ (6 * (rE (g 2 q) - rS (g 2 q)) + 6); omega)⟩ ⟨(by show 2 + 1 ≤ (5 * n + 46); omega), (by show 8 + (5 + 11) + 60 ≤ (200 * n + 1120); omega)⟩ (fun v135 u133 H locs hw134 hP hD hS => ?_)
      obtain ⟨w, f138⟩ := u133
      obtain ⟨hw134, hO⟩ := hw134
      obtain rfl : v135 = none := hw134
      have hO : OKP G h0 a (upd (upd (upd (upd (upd (upd (upd (upd (upd (upd F 2 (nI sz)) 5 (nI cs101)) 6 (nI rg108)) 7 (nI hd106)) 8 (nI dp107)) 12 (nI vr105)) 13 as102) 14 wt103) 15 wf104) 16 ls109) (updR (updR (updR R 2 (.ref pq)) 3 (.ref mq)) 4 (.ref q45)) Z (updA B100 17 f138) J K99 w := hO.to rfl
      refine W.widen (k := (1 + (rE (g 2 q4) - rS (g 2 q4)))) (n := (6 + (6 * (rE (g 2 q4) - rS (g 2 q4))))) (by show (1 + (rE (g 2 q4) - rS (g 2 q4))) + 0 ≤ (1 + (rE (g 2 q4) - rS (g 2 q4))); omega) (by show (6 + (6 * (rE (g 2 q4) - rS (g 2 q4)))) + 0 ≤ (6 + (6 * (rE (g 2 q4) - rS (g 2 q4)))); omega) ?_
      refine W.eq (g2 := F0 m 114 ls []) rfl ?_
      refine lv_aload_n hx hb dX0_loopStatement_114 rfl (lv_at hl 6 rfl) ?_
      refine p_get (v := .null) (C := RX7) (Tc := TX7) (N := 11) (ci := 13) hx hb hq pin_wsX70 hown hE hP hO (by rw [hf121]; decide) (rep_1 hf121) rfl 8 (by decide) (hq _ pw_196) (fun _ h9 => h9) (congrArg (fun z => some (va_rf z)) hf127) dX0_loopStatement_115 ?_
      refine lv_ifnullN (tgt := 146) hx hb dX0_loopStatement_118 (by decide) ?_
      refine lv_aload_n hx hb dX0_loopStatement_146 rfl (lv_at hl 5 rfl) ?_
      refine c_get (v := .ref (a 2)) (C := RX0) (Tc := TX0) (N := 13) (ci := 0) hx hb hq pin_wsX00 hown hE hP hO 24 (sg_24 G h0 a _ _ _ _ _) rfl 1 (by decide) (hq _ pw_5) (fun _ h9 => h9) rfl dX0_loopStatement_147 ?_
      refine lv_bipush (v := 6) hx hb dX0_loopStatement_150 (by decide) ?_
      refine lv_iload hx hb dX0_loopStatement_152 (lv_at hl 2 rfl) ?_
      refine lv_iconst (v := 0) hx hb dX0_loopStatement_154 (by decide) ?_
      have hO : OKW G h0 a (upd (upd (upd (upd (upd (upd (upd (upd (upd (upd (upd F 2 (nI sz)) 5 (nI cs101)) 6 (nI rg108)) 7 (nI hd106)) 8 (nI dp107)) 12 (nI vr105)) 13 as102) 14 wt103) 15 wf104) 16 ls109) 5 (nI cs101)) (updR (updR (updR R 2 (.ref pq)) 3 (.ref mq)) 4 (.ref q45)) Z (updA B100 17 f138) J K99.1 (fun q99 x99 => x99 = rep G a K99 q99) w := hO.to rfl
      obtain ⟨_, qr142, hqr143⟩ := hO.2.1 13 _ (sg_13 G h0 a _ _ _ _ _)
      refine pc_V0 (G := G) (As := [.int 6, .int (nI cs), .int (nI 0)]) (rest := []) hx hb hml hown hq hE hX pX0_al hP hD hS hA hl.1 (K_emit l G h0 a (upd (upd (upd (upd (upd (upd (upd (upd (upd (upd F 2 (nI sz)) 5 (nI cs101)) 6 (nI rg108)) 7 (nI hd106)) 8 (nI dp107)) 12 (nI vr105)) 13 as102) 14 wt103) 15 wf104) 16 ls109) (updR (updR (updR R 2 (.ref pq)) 3 (.ref mq)) 4 (.ref q45)) Z (updA B100 17 f138) J K99.1 (fun q99 x99 => x99 = rep G a K99 q99) w 6 (nI cs) 0 cs101 (by omega) (by omega) hng132 hO) (gV pw_129 pw_130 pw_131 pw_70 pw_115) hV_X1_emit qr142 1 hqr143 rfl rfl rfl (Nat.le_of_ble_eq_true rfl) dX0_loopStatement_155 ⟨(by show (1 + (rE (g 2 q4) - rS (g 2 q4))) + 0 ≤ ((rE (g 2 q) - rS (g 2 q)) + 1); omega), (by show (6 + (6 * (rE (g 2 q4) - rS (g 2 q4)))) + 0 ≤ (6 * (rE (g 2 q) - rS (g 2 q)) + 6); omega)⟩ ⟨(by show 2 + 1 ≤ (5 * n + 46); omega), (by show 8 + (4 + 11) + 60 ≤ (200 * n + 1120); omega)⟩ (fun v141 u139 H locs hw140 hP hD hS => ?_)
      obtain ⟨w, cs144, f145, f146, f147, f148⟩ := u139
      obtain ⟨hw140, h149, h150, hO⟩ := hw140
      have h149 : cs101 ≤ cs144 ∧ cs144 ≤ cs101 + 1 ∧ cs144 ≤ 10000 := h149
      have h150 : Nng f147 := h150
      obtain rfl : v141 = none := hw140
      have hO : OKP G h0 a (upd (upd (upd (upd (upd (upd (upd (upd (upd (upd F 2 (nI sz)) 5 (nI cs144)) 6 (nI rg108)) 7 (nI hd106)) 8 (nI dp107)) 12 (nI vr105)) 13 as102) 14 wt103) 15 wf104) 16 ls109) (updR (updR (updR R 2 (.ref pq)) 3 (.ref mq)) 4 (.ref q45)) Z (updA (updA (updA (updA B100 16 f145) 17 f146) 18 f147) 19 f148) J K99 w := hO.to rfl
      refine W.widen (k := (1 + (rE (g 2 q4) - rS (g 2 q4)))) (n := (6 + (6 * (rE (g 2 q4) - rS (g 2 q4))))) (by show (1 + (rE (g 2 q4) - rS (g 2 q4))) + 0 ≤ (1 + (rE (g 2 q4) - rS (g 2 q4))); omega) (by show (6 + (6 * (rE (g 2 q4) - rS (g 2 q4)))) + 0 ≤ (6 + (6 * (rE (g 2 q4) - rS (g 2 q4)))); omega) ?_
      refine W.eq (g2 := F0 m 158 ls []) rfl ?_
      refine lv_aload_n hx hb dX0_loopStatement_158 rfl (lv_at hl 5 rfl) ?_
      refine c_get (v := .ref (a 2)) (C := RX0) (Tc := TX0) (N := 13) (ci := 0) hx hb hq pin_wsX00 hown hE hP hO 24 (sg_24 G h0 a _ _ _ _ _) rfl 1 (by decide) (hq _ pw_5) (fun _ h9 => h9) rfl dX0_loopStatement_159 ?_
      refine lv_iload hx hb dX0_loopStatement_162 (lv_at hl 1 rfl) ?_
      have hO : OKW G h0 a (upd (upd (upd (upd (upd (upd (upd (upd (upd (upd (upd F 2 (nI sz)) 5 (nI cs144)) 6 (nI rg108)) 7 (nI hd106)) 8 (nI dp107)) 12 (nI vr105)) 13 as102) 14 wt103) 15 wf104) 16 ls109) 5 (nI cs144)) (updR (updR (updR R 2 (.ref pq)) 3 (.ref mq)) 4 (.ref q45)) Z (updA (updA (updA (updA B100 16 f145) 17 f146) 18 f147) 19 f148) J K99.1 (fun q99 x99 => x99 = rep G a K99 q99) w := hO.to rfl
      obtain ⟨_, qr154, hqr155⟩ := hO.2.1 13 _ (sg_13 G h0 a _ _ _ _ _)
      refine pc_V0 (G := G) (As := [.int r24]) (rest := []) hx hb hml hown hq hE hX pX0_al hP hD hS hA hl.1 (K_land l G h0 a (upd (upd (upd (upd (upd (upd (upd (upd (upd (upd F 2 (nI sz)) 5 (nI cs144)) 6 (nI rg108)) 7 (nI hd106)) 8 (nI dp107)) 12 (nI vr105)) 13 as102) 14 wt103) 15 wf104) 16 ls109) (updR (updR (updR R 2 (.ref pq)) 3 (.ref mq)) 4 (.ref q45)) Z (updA (updA (updA (updA B100 16 f145) 17 f146) 18 f147) 19 f148) J K99.1 (fun q99 x99 => x99 = rep G a K99 q99) w r24 cs144 (by omega) hO) (gV pw_200 pw_201 pw_202 pw_70 pw_134) hV_X1_land qr154 1 hqr155 rfl rfl rfl (Nat.le_of_ble_eq_true rfl) dX0_loopStatement_164 ⟨(by show (1 + (rE (g 2 q4) - rS (g 2 q4))) + 0 ≤ ((rE (g 2 q) - rS (g 2 q)) + 1); omega), (by show (6 + (6 * (rE (g 2 q4) - rS (g 2 q4)))) + 0 ≤ (6 * (rE (g 2 q) - rS (g 2 q)) + 6); omega)⟩ ⟨(by show 2 + 1 ≤ (5 * n + 46); omega), (by show 8 + (5 + 11) + 60 ≤ (200 * n + 1120); omega)⟩ (fun v153 u151 H locs hw152 hP hD hS => ?_)
      obtain ⟨w, f156⟩ := u151
      obtain ⟨hw152, hO⟩ := hw152
      obtain rfl : v153 = none := hw152
      have hO : OKP G h0 a (upd (upd (upd (upd (upd (upd (upd (upd (upd (upd F 2 (nI sz)) 5 (nI cs144)) 6 (nI rg108)) 7 (nI hd106)) 8 (nI dp107)) 12 (nI vr105)) 13 as102) 14 wt103) 15 wf104) 16 ls109) (updR (updR (updR R 2 (.ref pq)) 3 (.ref mq)) 4 (.ref q45)) Z (updA (updA (updA (updA B100 16 f145) 17 f156) 18 f147) 19 f148) J K99 w := hO.to rfl
      refine W.widen (k := (1 + (rE (g 2 q4) - rS (g 2 q4)))) (n := (6 + (6 * (rE (g 2 q4) - rS (g 2 q4))))) (by show (1 + (rE (g 2 q4) - rS (g 2 q4))) + 0 ≤ (1 + (rE (g 2 q4) - rS (g 2 q4))); omega) (by show (6 + (6 * (rE (g 2 q4) - rS (g 2 q4)))) + 0 ≤ (6 + (6 * (rE (g 2 q4) - rS (g 2 q4)))); omega) ?_
      refine W.eq (g2 := F0 m 167 ls []) rfl ?_
      refine lv_aload_n hx hb dX0_loopStatement_167 rfl (lv_at hl 5 rfl) ?_
      refine c_get (v := .ref (a 2)) (C := RX0) (Tc := TX0) (N := 13) (ci := 0) hx hb hq pin_wsX00 hown hE hP hO 24 (sg_24 G h0 a _ _ _ _ _) rfl 1 (by decide) (hq _ pw_5) (fun _ h9 => h9) rfl dX0_loopStatement_168 ?_
      refine lv_aload_n hx hb dX0_loopStatement_171 rfl (lv_at hl 5 rfl) ?_
      refine c_get (v := .ref q45) (C := RX0) (Tc := TX0) (N := 13) (ci := 0) hx hb hq pin_wsX00 hown hE hP hO 24 (sg_24 G h0 a _ _ _ _ _) rfl 11 (by decide) (hq _ pw_73) (fun _ h9 => h9) rfl dX0_loopStatement_172 ?_
      refine p_get (v := .int (K99.2.1 27 q45)) (C := RX4) (Tc := TX4) (N := 6) (ci := 11) hx hb hq pin_wsX40 hown hE hP hO (by rw [hf128]; decide) (rep_9 hf128) rfl 2 (by decide) (hq _ pw_282) (fun _ h9 => h9) rfl dX0_loopStatement_175 ?_
      have hO : OKW G h0 a (upd (upd (upd (upd (upd (upd (upd (upd (upd (upd (upd F 2 (nI sz)) 5 (nI cs144)) 6 (nI rg108)) 7 (nI hd106)) 8 (nI dp107)) 12 (nI vr105)) 13 as102) 14 wt103) 15 wf104) 16 ls109) 5 (nI cs144)) (updR (updR (updR R 2 (.ref pq)) 3 (.ref mq)) 4 (.ref q45)) Z (updA (updA (updA (updA B100 16 f145) 17 f156) 18 f147) 19 f148) J K99.1 (fun q99 x99 => x99 = rep G a K99 q99) w := hO.to rfl
      obtain ⟨_, qr160, hqr161⟩ := hO.2.1 13 _ (sg_13 G h0 a _ _ _ _ _)
      refine pc_V0 (G := G) (As := [.int (K99.2.1 27 q45)]) (rest := []) hx hb hml hown hq hE hX pX0_al hP hD hS hA hl.1 (K_land l G h0 a (upd (upd (upd (upd (upd (upd (upd (upd (upd (upd F 2 (nI sz)) 5 (nI cs144)) 6 (nI rg108)) 7 (nI hd106)) 8 (nI dp107)) 12 (nI vr105)) 13 as102) 14 wt103) 15 wf104) 16 ls109) (updR (updR (updR R 2 (.ref pq)) 3 (.ref mq)) 4 (.ref q45)) Z (updA (updA (updA (updA B100 16 f145) 17 f156) 18 f147) 19 f148) J K99.1 (fun q99 x99 => x99 = rep G a K99 q99) w (K99.2.1 27 q45) cs144 (by omega) hO) (gV pw_200 pw_201 pw_202 pw_70 pw_134) hV_X1_land qr160 1 hqr161 rfl rfl rfl (Nat.le_of_ble_eq_true rfl) dX0_loopStatement_178 ⟨(by show (1 + (rE (g 2 q4) - rS (g 2 q4))) + 0 ≤ ((rE (g 2 q) - rS (g 2 q)) + 1); omega), (by show (6 + (6 * (rE (g 2 q4) - rS (g 2 q4)))) + 0 ≤ (6 * (rE (g 2 q) - rS (g 2 q)) + 6); omega)⟩ ⟨(by show 2 + 1 ≤ (5 * n + 46); omega), (by show 8 + (5 + 11) + 60 ≤ (200 * n + 1120); omega)⟩ (fun v159 u157 H locs hw158 hP hD hS => ?_)
      obtain ⟨w, f162⟩ := u157
      obtain ⟨hw158, hO⟩ := hw158
      obtain rfl : v159 = none := hw158
      have hO : OKP G h0 a (upd (upd (upd (upd (upd (upd (upd (upd (upd (upd F 2 (nI sz)) 5 (nI cs144)) 6 (nI rg108)) 7 (nI hd106)) 8 (nI dp107)) 12 (nI vr105)) 13 as102) 14 wt103) 15 wf104) 16 ls109) (updR (updR (updR R 2 (.ref pq)) 3 (.ref mq)) 4 (.ref q45)) Z (updA (updA (updA (updA B100 16 f145) 17 f162) 18 f147) 19 f148) J K99 w := hO.to rfl
      refine W.widen (k := (1 + (rE (g 2 q4) - rS (g 2 q4)))) (n := (6 + (6 * (rE (g 2 q4) - rS (g 2 q4))))) (by show (1 + (rE (g 2 q4) - rS (g 2 q4))) + 0 ≤ (1 + (rE (g 2 q4) - rS (g 2 q4))); omega) (by show (6 + (6 * (rE (g 2 q4) - rS (g 2 q4)))) + 0 ≤ (6 + (6 * (rE (g 2 q4) - rS (g 2 q4)))); omega) ?_
      refine W.eq (g2 := F0 m 181 ls []) rfl ?_
      refine lv_aload_n hx hb dX0_loopStatement_181 rfl (lv_at hl 5 rfl) ?_
      refine lv_iload hx hb dX0_loopStatement_182 (lv_at hl 0 rfl) ?_
      refine lv_aload_n hx hb dX0_loopStatement_184 rfl (lv_at hl 5 rfl) ?_
      refine c_get (v := .ref q45) (C := RX0) (Tc := TX0) (N := 13) (ci := 0) hx hb hq pin_wsX00 hown hE hP hO 24 (sg_24 G h0 a _ _ _ _ _) rfl 11 (by decide) (hq _ pw_73) (fun _ h9 => h9) rfl dX0_loopStatement_185 ?_
      refine p_get (v := .int (K99.2.1 29 q45)) (C := RX4) (Tc := TX4) (N := 6) (ci := 11) hx hb hq pin_wsX40 hown hE hP hO (by rw [hf128]; decide) (rep_9 hf128) rfl 4 (by decide) (hq _ pw_283) (fun _ h9 => h9) rfl dX0_loopStatement_188 ?_
      refine lv_iand hx hb dX0_loopStatement_191 ?_
      refine lv_topi (fun x163 e164 => ?_)
      refine c_put (v := .int x163) (ty := .int) (C := RX0) (Tc := TX0) (N := 13) (ci := 0) hx hb hq pin_wsX00 tyX0 tyX0_ok nmX0 hown hE hP hD hS hO 24 (sg_24 G h0 a _ _ _ _ _) rfl 8 (by decide) (hq _ pw_55) (fun _ h9 => h9) rfl (by decide +kernel) rfl rfl (Nat.le_of_ble_eq_true rfl) (sf_13 G h0 a _ _ _ _ _ x163) dX0_loopStatement_192 (fun H locs w hP hD hS hO => ?_)
      refine lv_aload_n hx hb dX0_loopStatement_195 rfl (lv_at hl 5 rfl) ?_
      refine lv_aload_n hx hb dX0_loopStatement_196 rfl (lv_at hl 5 rfl) ?_
      refine c_get (v := .ref q45) (C := RX0) (Tc := TX0) (N := 13) (ci := 0) hx hb hq pin_wsX00 hown hE hP hO 24 (sg_24 G h0 a _ _ _ _ _) rfl 11 (by decide) (hq _ pw_73) (fun _ h9 => h9) rfl dX0_loopStatement_197 ?_
      refine p_get (v := va_rf lo) (C := RX4) (Tc := TX4) (N := 6) (ci := 11) hx hb hq pin_wsX40 hown hE hP hO (by rw [hf128]; decide) (rep_9 hf128) rfl 0 (by decide) (hq _ pw_317) (fun _ h9 => h9) (congrArg (fun z => some (va_rf z)) hf129) dX0_loopStatement_200 ?_
      refine c_put (v := va_rf lo) (ty := (.object "JinjaTongue$Loop")) (C := RX0) (Tc := TX0) (N := 13) (ci := 0) hx hb hq pin_wsX00 tyX0 tyX0_ok nmX0 hown hE hP hD hS hO 24 (sg_24 G h0 a _ _ _ _ _) rfl 11 (by decide) (hq _ pw_73) (fun _ h9 => h9) rfl (by decide +kernel) (by cases lo <;> first | rfl | exact Nat.le_of_ble_eq_true rfl) (by cases lo <;> first | rfl | exact Nat.le_of_ble_eq_true rfl) (by cases lo <;> first | rfl | exact Nat.le_of_ble_eq_true rfl) (sr_4 G h0 a _ _ _ _ _ (va_rf lo)) dX0_loopStatement_203 (fun H locs w hP hD hS hO => ?_)
      refine lv_aload_n hx hb dX0_loopStatement_206 rfl (lv_at hl 5 rfl) ?_
      refine lv_iload_n hx hb dX0_loopStatement_207 rfl (lv_at hl 4 rfl) ?_
      refine lv_iload_n hx hb dX0_loopStatement_208 rfl (lv_at hl 3 rfl) ?_
      have hO : OKW G h0 a (upd (upd (upd (upd (upd (upd (upd (upd (upd (upd F 2 (nI sz)) 5 (nI cs144)) 6 (nI rg108)) 7 (nI hd106)) 8 (nI dp107)) 12 (nI vr105)) 13 x163) 14 wt103) 15 wf104) 16 ls109) (updR (updR (updR R 2 (.ref pq)) 3 (.ref mq)) 4 (va_rf lo)) Z (updA (updA (updA (updA B100 16 f145) 17 f162) 18 f147) 19 f148) J K99.1 (fun q99 x99 => x99 = rep G a K99 q99) w := hO.to rfl
      obtain ⟨_, qr168, hqr169⟩ := hO.2.1 24 _ (sg_24 G h0 a _ _ _ _ _)
      refine pc_V0 (G := G) (As := [.int (nI vr), .int (nI hd)]) (rest := []) hx hb hml hown hq hE hX pX0_al hP hD hS hA hl.1 (B_endScope l G h0 a (upd (upd (upd (upd (upd (upd (upd (upd (upd (upd F 2 (nI sz)) 5 (nI cs144)) 6 (nI rg108)) 7 (nI hd106)) 8 (nI dp107)) 12 (nI vr105)) 13 x163) 14 wt103) 15 wf104) 16 ls109) (updR (updR (updR R 2 (.ref pq)) 3 (.ref mq)) 4 (va_rf lo)) Z (updA (updA (updA (updA B100 16 f145) 17 f162) 18 f147) 19 f148) J K99.1 (fun q99 x99 => x99 = rep G a K99 q99) w (nI vr) (nI hd) hO) (gV pw_303 pw_304 pw_305 pw_63 pw_99) hV_X0_endScope qr168 0 hqr169 rfl rfl rfl (Nat.le_of_ble_eq_true rfl) dX0_loopStatement_209 ⟨(by show (1 + (rE (g 2 q4) - rS (g 2 q4))) + 0 ≤ ((rE (g 2 q) - rS (g 2 q)) + 1); omega), (by show (6 + (6 * (rE (g 2 q4) - rS (g 2 q4)))) + 0 ≤ (6 * (rE (g 2 q) - rS (g 2 q)) + 6); omega)⟩ ⟨(by show 2 + 1 ≤ (5 * n + 46); omega), (by show 8 + (3 + 11) + 60 ≤ (200 * n + 1120); omega)⟩ (fun v167 u165 H locs hw166 hP hD hS => ?_)
      obtain ⟨w, _⟩ := u165
      obtain ⟨hw166, hO⟩ := hw166
      obtain rfl : v167 = none := hw166
      have hO : OKP G h0 a (upd (upd (upd (upd (upd (upd (upd (upd (upd (upd F 2 (nI sz)) 5 (nI cs144)) 6 (nI rg108)) 7 (nI hd)) 8 (nI dp107)) 12 (nI vr)) 13 x163) 14 wt103) 15 wf104) 16 ls109) (updR (updR (updR R 2 (.ref pq)) 3 (.ref mq)) 4 (va_rf lo)) Z (updA (updA (updA (updA B100 16 f145) 17 f162) 18 f147) 19 f148) J K99 w := hO.to rfl
      refine W.widen (k := (1 + (rE (g 2 q4) - rS (g 2 q4)))) (n := (6 + (6 * (rE (g 2 q4) - rS (g 2 q4))))) (by show (1 + (rE (g 2 q4) - rS (g 2 q4))) + 0 ≤ (1 + (rE (g 2 q4) - rS (g 2 q4))); omega) (by show (6 + (6 * (rE (g 2 q4) - rS (g 2 q4)))) + 0 ≤ (6 + (6 * (rE (g 2 q4) - rS (g 2 q4)))); omega) ?_
      refine W.eq (g2 := F0 m 212 ls []) rfl ?_
      refine W_size (fun hz1 hz2 => ?_)
      refine vx_ret ?_
      have hz170 : BdE K K99 := hbe130
      have hz171 : Bth B (updA (updA (updA (updA B100 16 f145) 17 f162) 18 f147) 19 f148) := (show Thx (upd (upd (upd (upd (upd (upd (upd F 2 (nI sz)) 5 (nI cs)) 6 (nI rg)) 7 (nI hd)) 8 (nI dp)) 12 (nI vr)) 16 ls9) (upd (upd (upd (upd (upd (upd (upd (upd (upd (upd (upd (upd (upd (upd F 2 (nI sz)) 5 (nI cs)) 6 (nI rg)) 7 (nI hd)) 8 (nI dp)) 12 (nI vr)) 16 ls9) 5 (nI cs144)) 6 (nI rg108)) 8 (nI dp107)) 13 x163) 14 wt103) 15 wf104) 16 ls109) B (updA (updA (updA (updA B100 16 f145) 17 f162) 18 f147) 19 f148) from (Thx.b (Thx.b8 (Thx.b (Thx.b (Thx.f (Thx.f (Thx.f (Thx.f (Thx.f (Thx.f (Thx.f (Bth.thx hbb131) (by omega)) (by omega)) (by omega)) (by omega)) (by omega)) (by omega)) (by omega)) (by omega) (by decide)) (by omega) (by decide)) h150) (by omega) (by decide))).2
      have hz172 : cs144 ≤ 10000 ∧ rg108 ≤ 625 ∧ dp107 ≤ 1000 := (by omega)
      have hz173 : vr ≤ vr ∧ vr ≤ 30 ∧ hd + vr = hd + vr := (by omega)
      have hO : OKP G h0 a (upd (upd (upd (upd (upd (upd (upd (upd (upd (upd F 2 (nI sz)) 5 (nI cs144)) 6 (nI rg108)) 7 (nI hd)) 8 (nI dp107)) 12 (nI vr)) 13 x163) 14 wt103) 15 wf104) 16 ls109) (updR (updR (updR R 2 (.ref pq)) 3 (.ref mq)) 4 (va_rf lo)) Z (updA (updA (updA (updA B100 16 f145) 17 f162) 18 f147) 19 f148) J K99 w := hO.to rfl
      refine W.widen (k := ((rE (g 2 q) - rS (g 2 q)) + 1)) (n := (6 * (rE (g 2 q) - rS (g 2 q)) + 6)) (by omega) (by omega) ?_
      have hzz1 : H.size ≤ s.heap.size + ((rE (g 2 q) - rS (g 2 q))) := (by have z : (1 + (rE (g 2 q4) - rS (g 2 q4))) ≤ (rE (g 2 q) - rS (g 2 q)) := (by omega); omega)
      have hzz2 : hSl H ≤ hSl s.heap + ((6 * (rE (g 2 q) - rS (g 2 q)))) := (by have z : (6 + (6 * (rE (g 2 q4) - rS (g 2 q4)))) ≤ (6 * (rE (g 2 q) - rS (g 2 q))) := (by omega); omega)
      exact W.vret hx hb hr (fun t99 ht99 hW99 => ⟨⟨_, (w, (K99, (updA (updA (updA (updA B100 16 f145) 17 f162) 18 f147) 19 f148), cs144, x163, wt103, wf104, vr, hd, dp107, rg108, ls109)), rfl, ⟨rfl, hz170, hz171, hz172, hz173, hO⟩, by rw [ht99]; exact hP, hD, by rw [ht99]; exact hzz1, by rw [ht99]; exact hzz2⟩, hS.F ht99⟩) hS.2.2 dX0_loopStatement_212
    · skip
      have hcz2 := hnd.2.1 2 z3 (by decide) hos2
      have hcT2 := hcz2.1
      have hcv2 : 1 ≤ g 0 z3 ∧ g 0 z3 + 1 ≤ n := ⟨hcz2.2.1, (by have z := hcz2.2.2.1; omega)⟩
      have hri2 := NdO.iv26c hnd hkd hos2
      have hrx2 := (hwp.1 z3 hcT2 hcz2.2.1).it
      refine c_get (v := .int (nI vr)) (C := RX0) (Tc := TX0) (N := 13) (ci := 0) hx hb hq pin_wsX00 hown hE hP hO 24 (sg_24 G h0 a _ _ _ _ _) rfl 5 (by decide) (hq _ pw_42) (fun _ h9 => h9) rfl dX0_loopStatement_1 ?_
      refine lv_istore_n (lv' := [(2, .int (nI vr)), (0, .ref (a 4)), (1, .ref q)]) hx hb dX0_loopStatement_4 rfl hl (by decide) rfl (fun ls hl => ?_)
      refine lv_aload_n hx hb dX0_loopStatement_5 rfl (lv_at hl 1 rfl) ?_
      refine c_get (v := .ref (a 2)) (C := RX0) (Tc := TX0) (N := 13) (ci := 0) hx hb hq pin_wsX00 hown hE hP hO 24 (sg_24 G h0 a _ _ _ _ _) rfl 1 (by decide) (hq _ pw_5) (fun _ h9 => h9) rfl dX0_loopStatement_6 ?_
      refine c_get (v := .int (nI hd)) (C := RX1) (Tc := TX1) (N := 13) (ci := 1) hx hb hq pin_wsX10 hown hE hP hO 13 (sg_13 G h0 a _ _ _ _ _) rfl 11 (by decide) (hq _ pw_54) (fun _ h9 => h9) rfl dX0_loopStatement_9 ?_
      refine lv_istore_n (lv' := [(3, .int (nI hd)), (2, .int (nI vr)), (0, .ref (a 4)), (1, .ref q)]) hx hb dX0_loopStatement_12 rfl hl (by decide) rfl (fun ls hl => ?_)
      refine lv_aload_n hx hb dX0_loopStatement_13 rfl (lv_at hl 3 rfl) ?_
      refine p_get (v := .null) (C := RX7) (Tc := TX7) (N := 11) (ci := 13) hx hb hq pin_wsX70 hown hE hP hO (by rw [hqT]; decide) (rep_1 hqT) rfl 6 (by decide) (hq _ pw_180) (fun _ h9 => h9) (congrArg (fun z => some (va_rf z)) hos0) dX0_loopStatement_14 ?_
      refine lv_ifnullN (tgt := 29) hx hb dX0_loopStatement_17 (by decide) ?_
      refine lv_aload_n hx hb dX0_loopStatement_29 rfl (lv_at hl 2 rfl) ?_
      refine c_get (v := .ref (a 2)) (C := RX0) (Tc := TX0) (N := 13) (ci := 0) hx hb hq pin_wsX00 hown hE hP hO 24 (sg_24 G h0 a _ _ _ _ _) rfl 1 (by decide) (hq _ pw_5) (fun _ h9 => h9) rfl dX0_loopStatement_30 ?_
      refine c_get (v := .int (nI cs)) (C := RX1) (Tc := TX1) (N := 13) (ci := 1) hx hb hq pin_wsX10 hown hE hP hO 13 (sg_13 G h0 a _ _ _ _ _) rfl 4 (by decide) (hq _ pw_75) (fun _ h9 => h9) rfl dX0_loopStatement_33 ?_
      refine lv_istore (lv' := [(4, .int (nI cs)), (3, .int (nI hd)), (2, .int (nI vr)), (0, .ref (a 4)), (1, .ref q)]) hx hb dX0_loopStatement_36 hl (by decide) rfl (fun ls hl => ?_)
      refine lv_aload_n hx hb dX0_loopStatement_38 rfl (lv_at hl 3 rfl) ?_
      refine c_get (v := .ref (a 2)) (C := RX0) (Tc := TX0) (N := 13) (ci := 0) hx hb hq pin_wsX00 hown hE hP hO 24 (sg_24 G h0 a _ _ _ _ _) rfl 1 (by decide) (hq _ pw_5) (fun _ h9 => h9) rfl dX0_loopStatement_39 ?_
      refine lv_iconst (v := 0) hx hb dX0_loopStatement_42 (by decide) ?_
      refine lv_iconst (v := 0) hx hb dX0_loopStatement_43 (by decide) ?_
      refine lv_iconst (v := 0) hx hb dX0_loopStatement_44 (by decide) ?_
      have hO : OKW G h0 a (upd (upd (upd (upd (upd (upd (upd (upd F 2 (nI sz)) 5 (nI cs)) 6 (nI rg)) 7 (nI hd)) 8 (nI dp)) 12 (nI vr)) 16 ls9) 5 (nI cs)) (updR (updR (updR R 2 (.ref pq)) 3 (.ref mq)) 4 (va_rf lo)) Z B J K.1 (fun q99 x99 => x99 = rep G a K q99) w := hO.to rfl
      obtain ⟨_, qr177, hqr178⟩ := hO.2.1 13 _ (sg_13 G h0 a _ _ _ _ _)
      refine pc_V0 (G := G) (As := [.int 0, .int 0, .int (nI 0)]) (rest := []) hx hb hml hown hq hE hX pX0_al hP hD hS hA hl.1 (K_emit l G h0 a (upd (upd (upd (upd (upd (upd (upd F 2 (nI sz)) 5 (nI cs)) 6 (nI rg)) 7 (nI hd)) 8 (nI dp)) 12 (nI vr)) 16 ls9) (updR (updR (updR R 2 (.ref pq)) 3 (.ref mq)) 4 (va_rf lo)) Z B J K.1 (fun q99 x99 => x99 = rep G a K q99) w 0 0 0 cs (by omega) (by omega) hng hO) (gV pw_129 pw_130 pw_131 pw_70 pw_115) hV_X1_emit qr177 1 hqr178 rfl rfl rfl (Nat.le_of_ble_eq_true rfl) dX0_loopStatement_45 ⟨(by show 0 + 0 ≤ ((rE (g 2 q) - rS (g 2 q)) + 1); omega), (by show 0 + 0 ≤ (6 * (rE (g 2 q) - rS (g 2 q)) + 6); omega)⟩ ⟨(by show 2 + 1 ≤ (5 * n + 46); omega), (by show 8 + (4 + 11) + 60 ≤ (200 * n + 1120); omega)⟩ (fun v176 u174 H locs hw175 hP hD hS => ?_)
      obtain ⟨w, cs179, f180, f181, f182, f183⟩ := u174
      obtain ⟨hw175, h184, h185, hO⟩ := hw175
      have h184 : cs ≤ cs179 ∧ cs179 ≤ cs + 1 ∧ cs179 ≤ 10000 := h184
      have h185 : Nng f182 := h185
      obtain rfl : v176 = none := hw175
      have hO : OKP G h0 a (upd (upd (upd (upd (upd (upd (upd F 2 (nI sz)) 5 (nI cs179)) 6 (nI rg)) 7 (nI hd)) 8 (nI dp)) 12 (nI vr)) 16 ls9) (updR (updR (updR R 2 (.ref pq)) 3 (.ref mq)) 4 (va_rf lo)) Z (updA (updA (updA (updA B 16 f180) 17 f181) 18 f182) 19 f183) J K w := hO.to rfl
      refine W.widen (k := 0) (n := 0) (Nat.le_of_ble_eq_true rfl) (Nat.le_of_ble_eq_true rfl) ?_
      refine W.eq (g2 := F0 m 48 ls []) rfl ?_
      refine lv_aload_n hx hb dX0_loopStatement_48 rfl (lv_at hl 3 rfl) ?_
      refine lv_aload_n hx hb dX0_loopStatement_49 rfl (lv_at hl 4 rfl) ?_
      refine p_get (v := va_rf ob) (C := RX7) (Tc := TX7) (N := 11) (ci := 13) hx hb hq pin_wsX70 hown hE hP hO (by rw [hqT]; decide) (rep_1 hqT) rfl 7 (by decide) (hq _ pw_169) (fun _ h9 => h9) (congrArg (fun z => some (va_rf z)) hob) dX0_loopStatement_50 ?_
      have hO : OKP G h0 a (upd (upd (upd (upd (upd (upd (upd (upd (upd (upd (upd F 2 (nI sz)) 5 (nI cs)) 6 (nI rg)) 7 (nI hd)) 8 (nI dp)) 12 (nI vr)) 16 ls9) 5 (nI cs179)) 2 (nI sz)) 5 (nI cs179)) 12 (nI vr)) (updR (updR (updR (updR (updR R 2 (.ref pq)) 3 (.ref mq)) 4 (va_rf lo)) 2 (.ref pq)) 3 (.ref mq)) Z (updA (updA (updA (updA B 16 f180) 17 f181) 18 f182) 19 f183) J K w := hO.to rfl
      obtain ⟨_, qr189, hqr190⟩ := hO.2.1 24 _ (sg_24 G h0 a _ _ _ _ _)
      refine pn_V0 (G := G) (As := [va_rf ob]) (rest := []) hx hb hml hown hq hE hX pX0_al hP hD hS hA hl.1 (B_loopCondO l G h0 a (upd (upd (upd (upd (upd (upd (upd (upd F 2 (nI sz)) 5 (nI cs)) 6 (nI rg)) 7 (nI hd)) 8 (nI dp)) 12 (nI vr)) 16 ls9) 5 (nI cs179)) (updR (updR (updR R 2 (.ref pq)) 3 (.ref mq)) 4 (va_rf lo)) Z (updA (updA (updA (updA B 16 f180) 17 f181) 18 f182) 19 f183) J K w pq dr ml nd nm cp it s9 q mq cs179 vr sz n ob g rk (by omega) (BdE.wp BdE.rfl hwp) (BdE.pt BdE.rfl hwp hps) (BdE.rko BdE.rfl hrk) (by omega) (by omega) h185 hmq hqT hqL (KvO.of ((BdE.wp BdE.rfl hwp).1 q hqT hqL.1) (by decide) hob hqL.2) (PV_all l G n) hO hl0) (gV pw_318 pw_319 pw_320 pw_63 pw_271) hV_X0_loopCondition qr189 0 hqr190 rfl rfl rfl (Nat.le_of_ble_eq_true rfl) dX0_loopStatement_53 ⟨(by show 0 + 1 ≤ ((rE (g 2 q) - rS (g 2 q)) + 1); omega), (by show 0 + 6 ≤ (6 * (rE (g 2 q) - rS (g 2 q)) + 6); omega)⟩ ⟨(by show (5 * n + 35) + 1 ≤ (5 * n + 46); omega), (by show 8 + (2 + 11) + (200 * n + 640) ≤ (200 * n + 1120); omega)⟩ (fun v188 u186 H locs hw187 hP hD hS => ?_) (fun ux ce9 q9 H9 locs9 hux hP9 hD9 hS9 hce hcv hcl => pb_out ux (ThQ.up (Thx.same (Thx.same (Thx.same (Thx.b (Thx.b8 (Thx.b (Thx.b (Thx.f Thx.rfl (by omega)) (by omega) (by decide)) (by omega) (by decide)) h185) (by omega) (by decide)) rfl) rfl) rfl) (show RhX (updR (updR (updR R 2 (.ref pq)) 3 (.ref mq)) 4 (va_rf lo)) (updR (updR (updR (updR (updR R 2 (.ref pq)) 3 (.ref mq)) 4 (va_rf lo)) 2 (.ref pq)) 3 (.ref mq)) from fun k9 hk9 => by unfold updR; simp only [show ¬ k9 = 1 by omega, show ¬ k9 = 2 by omega, show ¬ k9 = 3 by omega, show ¬ k9 = 4 by omega, if_false]) hux) hnt hlocks hce hcv hcl hP9 hD9 hS9 (by show 0 + 1 ≤ ((rE (g 2 q) - rS (g 2 q)) + 1); omega) (by show 0 + 6 ≤ (6 * (rE (g 2 q) - rS (g 2 q)) + 6); omega))
      obtain ⟨w, K191, B192, cs193, as194, wt195, wf196, r197⟩ := u186
      obtain ⟨hw187, h198, h199, h200, hO⟩ := hw187
      have h198 : BdE K K191 := h198
      have h199 : Bth (updA (updA (updA (updA B 16 f180) 17 f181) 18 f182) 19 f183) B192 := h199
      have h200 : cs193 ≤ 10000 := h200
      obtain rfl : v188 = some (.int r197) := hw187
      have hf201 : K191.1 pq = 7 := (BdE.T h198 hp1 (by decide))
      have hf202 : K191.2.2.1 18 pq = some (a 1) := (BdE.C h198 (by rw [hp1]; decide) 18).trans hp2
      have hf203 : K191.2.2.1 14 pq = some dr := (BdE.C h198 (by rw [hp1]; decide) 14).trans hp3
      have hf204 : K191.1 dr = 8 := (BdE.T h198 hp4 (by decide))
      have hf205 : K191.2.2.1 15 pq = some ml := (BdE.C h198 (by rw [hp1]; decide) 15).trans hp5
      have hf206 : K191.1 ml = 5 := (BdE.T h198 hp6 (by decide))
      have hf207 : K191.2.1 24 pq = (nI nd) := (BdE.I h198 (by rw [hp1]; decide) (by decide) (by decide)).trans hp8
      have hf208 : K191.1 q = 1 := (BdE.T h198 hqT (by decide))
      have hf209 : K191.1 mq = 3 := (BdE.T h198 hmq (by decide))
      have hf210 : K191.2.2.1 3 q = some q4 := (BdE.C h198 (by rw [hqT]; decide) 3).trans hc3
      have hf211 : K191.1 q4 = 1 := (BdE.T h198 ht3 (by decide))
      have hf212 : K191.2.2.1 1 q = ob := (BdE.C h198 (by rw [hqT]; decide) 1).trans hob
      have hf213 : K191.2.2.1 0 q = none := (BdE.C h198 (by rw [hqT]; decide) 0).trans hos0
      have hf214 : K191.2.2.1 2 q = some z3 := (BdE.C h198 (by rw [hqT]; decide) 2).trans hos2
      have hf215 : K191.1 z3 = 1 := (BdE.T h198 hcT2 (by decide))
      have hO : OKP G h0 a (upd (upd (upd (upd (upd (upd (upd (upd (upd (upd F 2 (nI sz)) 5 (nI cs193)) 6 (nI rg)) 7 (nI hd)) 8 (nI dp)) 12 (nI vr)) 13 as194) 14 wt195) 15 wf196) 16 ls9) (updR (updR (updR R 2 (.ref pq)) 3 (.ref mq)) 4 (va_rf lo)) Z B192 J K191 w := hO.to rfl
      refine W.widen (k := 0) (n := 0) (by show 0 + 0 ≤ 0; omega) (by show 0 + 0 ≤ 0; omega) ?_
      refine W.eq (g2 := F0 m 56 ls [.int r197]) rfl ?_
      have hbe216 := BdE.trans BdE.rfl h198
      have hbb217 : Bth B B192 := Bth.trans (show Thx (upd (upd (upd (upd (upd (upd (upd F 2 (nI sz)) 5 (nI cs)) 6 (nI rg)) 7 (nI hd)) 8 (nI dp)) 12 (nI vr)) 16 ls9) (upd (upd (upd (upd (upd (upd (upd (upd F 2 (nI sz)) 5 (nI cs)) 6 (nI rg)) 7 (nI hd)) 8 (nI dp)) 12 (nI vr)) 16 ls9) 5 (nI cs179)) B (updA (updA (updA (updA B 16 f180) 17 f181) 18 f182) 19 f183) from (Thx.b (Thx.b8 (Thx.b (Thx.b (Thx.f Thx.rfl (by omega)) (by omega) (by decide)) (by omega) (by decide)) h185) (by omega) (by decide))).2 h199
      have hng218 : Nng (B192 18) := h199.2 h185
      refine lv_istore (lv' := [(5, .int r197), (4, .int (nI cs)), (3, .int (nI hd)), (2, .int (nI vr)), (0, .ref (a 4)), (1, .ref q)]) hx hb dX0_loopStatement_56 hl (by decide) rfl (fun ls hl => ?_)
      refine lv_aload_n hx hb dX0_loopStatement_58 rfl (lv_at hl 4 rfl) ?_
      refine c_get (v := .int wf196) (C := RX0) (Tc := TX0) (N := 13) (ci := 0) hx hb hq pin_wsX00 hown hE hP hO 24 (sg_24 G h0 a _ _ _ _ _) rfl 10 (by decide) (hq _ pw_157) (fun _ h9 => h9) rfl dX0_loopStatement_59 ?_
      refine lv_istore (lv' := [(6, .int wf196), (5, .int r197), (4, .int (nI cs)), (3, .int (nI hd)), (2, .int (nI vr)), (0, .ref (a 4)), (1, .ref q)]) hx hb dX0_loopStatement_62 hl (by decide) rfl (fun ls hl => ?_)
      refine lv_aload_n hx hb dX0_loopStatement_64 rfl (lv_at hl 5 rfl) ?_
      refine lv_aload_n hx hb dX0_loopStatement_65 rfl (lv_at hl 5 rfl) ?_
      refine c_get (v := .int wt195) (C := RX0) (Tc := TX0) (N := 13) (ci := 0) hx hb hq pin_wsX00 hown hE hP hO 24 (sg_24 G h0 a _ _ _ _ _) rfl 9 (by decide) (hq _ pw_156) (fun _ h9 => h9) rfl dX0_loopStatement_66 ?_
      refine c_put (v := .int wt195) (ty := .int) (C := RX0) (Tc := TX0) (N := 13) (ci := 0) hx hb hq pin_wsX00 tyX0 tyX0_ok nmX0 hown hE hP hD hS hO 24 (sg_24 G h0 a _ _ _ _ _) rfl 8 (by decide) (hq _ pw_55) (fun _ h9 => h9) rfl (by decide +kernel) rfl rfl (Nat.le_of_ble_eq_true rfl) (sf_13 G h0 a _ _ _ _ _ wt195) dX0_loopStatement_69 (fun H locs w hP hD hS hO => ?_)
      refine lv_aload_n hx hb dX0_loopStatement_72 rfl (lv_at hl 5 rfl) ?_
      refine p_new (s9 := 9) (C := RX4) (T := TX4) (N := 6) (ci := 11) (fs := [.null, .int 0, .int 0, .int 0, .int 0, .int 0]) hx hb hq pin_wsX40 tyX4 tyX4_ok hown (hq _ pw_313) (hq _ pw_314) (hq _ pw_315) hE hP hD hS hA hO rfl nw_X4 (by decide) (fun q => by rw [rep_9 (show (kN K191 q 9 0).1 q = 9 from if_pos rfl)]; unfold fsLoop kN; simp only [if_true]; rfl) (by show 0 + 1 ≤ ((rE (g 2 q) - rS (g 2 q)) + 1); omega) (by show 0 + 6 ≤ (6 * (rE (g 2 q) - rS (g 2 q)) + 6); omega) dX0_loopStatement_73 (fun q219 H w hq220 hP hD hS hO => ?_)
      have hf221 : (kN K191 q219 9 0).1 pq = 7 := (if_neg (fun z => by have z2 := hf201; rw [z, hq220] at z2; exact absurd z2 (by decide))).trans hf201
      have hf222 : (kN K191 q219 9 0).2.2.1 18 pq = some (a 1) := (if_neg (fun z => by have z2 := hf201; rw [z, hq220] at z2; exact absurd z2 (by decide))).trans hf202
      have hf223 : (kN K191 q219 9 0).2.2.1 14 pq = some dr := (if_neg (fun z => by have z2 := hf201; rw [z, hq220] at z2; exact absurd z2 (by decide))).trans hf203
      have hf224 : (kN K191 q219 9 0).1 dr = 8 := (if_neg (fun z => by have z2 := hf204; rw [z, hq220] at z2; exact absurd z2 (by decide))).trans hf204
      have hf225 : (kN K191 q219 9 0).2.2.1 15 pq = some ml := (if_neg (fun z => by have z2 := hf201; rw [z, hq220] at z2; exact absurd z2 (by decide))).trans hf205
      have hf226 : (kN K191 q219 9 0).1 ml = 5 := (if_neg (fun z => by have z2 := hf206; rw [z, hq220] at z2; exact absurd z2 (by decide))).trans hf206
      have hf227 : (kN K191 q219 9 0).2.1 24 pq = (nI nd) := (if_neg (fun z => by have z2 := hf201; rw [z, hq220] at z2; exact absurd z2 (by decide))).trans hf207
      have hf228 : (kN K191 q219 9 0).1 q = 1 := (if_neg (fun z => by have z2 := hf208; rw [z, hq220] at z2; exact absurd z2 (by decide))).trans hf208
      have hf229 : (kN K191 q219 9 0).1 mq = 3 := (if_neg (fun z => by have z2 := hf209; rw [z, hq220] at z2; exact absurd z2 (by decide))).trans hf209
      have hf230 : (kN K191 q219 9 0).2.2.1 3 q = some q4 := (if_neg (fun z => by have z2 := hf208; rw [z, hq220] at z2; exact absurd z2 (by decide))).trans hf210
      have hf231 : (kN K191 q219 9 0).1 q4 = 1 := (if_neg (fun z => by have z2 := hf211; rw [z, hq220] at z2; exact absurd z2 (by decide))).trans hf211
      have hf232 : (kN K191 q219 9 0).2.2.1 1 q = ob := (if_neg (fun z => by have z2 := hf208; rw [z, hq220] at z2; exact absurd z2 (by decide))).trans hf212
      have hf233 : (kN K191 q219 9 0).2.2.1 0 q = none := (if_neg (fun z => by have z2 := hf208; rw [z, hq220] at z2; exact absurd z2 (by decide))).trans hf213
      have hf234 : (kN K191 q219 9 0).2.2.1 2 q = some z3 := (if_neg (fun z => by have z2 := hf208; rw [z, hq220] at z2; exact absurd z2 (by decide))).trans hf214
      have hf235 : (kN K191 q219 9 0).1 z3 = 1 := (if_neg (fun z => by have z2 := hf215; rw [z, hq220] at z2; exact absurd z2 (by decide))).trans hf215
      have hf236 : (kN K191 q219 9 0).1 q219 = 9 := if_pos rfl
      refine W.widen (k := 1) (n := 6) (by show 0 + 1 ≤ 1; omega) (by show 0 + 6 ≤ 6; omega) ?_
      refine lv_dup hx hb dX0_loopStatement_76 rfl ?_
      refine lv_aload_n hx hb dX0_loopStatement_77 rfl (lv_at hl 5 rfl) ?_
      refine c_get (v := va_rf lo) (C := RX0) (Tc := TX0) (N := 13) (ci := 0) hx hb hq pin_wsX00 hown hE hP hO 24 (sg_24 G h0 a _ _ _ _ _) rfl 11 (by decide) (hq _ pw_73) (fun _ h9 => h9) rfl dX0_loopStatement_78 ?_
      refine lv_aload_n hx hb dX0_loopStatement_81 rfl (lv_at hl 5 rfl) ?_
      refine c_get (v := .int ls9) (C := RX0) (Tc := TX0) (N := 13) (ci := 0) hx hb hq pin_wsX00 hown hE hP hO 24 (sg_24 G h0 a _ _ _ _ _) rfl 12 (by decide) (hq _ pw_74) (fun _ h9 => h9) rfl dX0_loopStatement_82 ?_
      have hO : OKP G h0 a (upd (upd (upd (upd (upd (upd (upd (upd (upd (upd F 2 (nI sz)) 5 (nI cs193)) 6 (nI rg)) 7 (nI hd)) 8 (nI dp)) 12 (nI vr)) 13 wt195) 14 wt195) 15 wf196) 16 ls9) (updR (updR (updR R 2 (.ref pq)) 3 (.ref mq)) 4 (va_rf lo)) Z B192 J (kN K191 q219 9 0) w := hO.to rfl
      obtain ⟨qr240, hqr241⟩ := p_recv hO (by rw [hf236]; decide) (rep_9 hf236)
      refine pc_I0 (G := G) (As := [va_rf lo, .int ls9]) (rest := [.ref q219, .ref (a 4)]) hx hb hml hown hq hE hX pX0_al hP hD hS hA hl.1 (O_initV l G h0 a (upd (upd (upd (upd (upd (upd (upd (upd (upd (upd F 2 (nI sz)) 5 (nI cs193)) 6 (nI rg)) 7 (nI hd)) 8 (nI dp)) 12 (nI vr)) 13 wt195) 14 wt195) 15 wf196) 16 ls9) (updR (updR (updR R 2 (.ref pq)) 3 (.ref mq)) 4 (va_rf lo)) Z B192 J (kN K191 q219 9 0) w q219 lo ls9 hf236 hO) pw_321 pw_322 pw_315 pw_272 rfl hS_X4_init rfl (Nat.le_of_ble_eq_true rfl) dX0_loopStatement_85 ⟨(by show 1 + 0 ≤ ((rE (g 2 q) - rS (g 2 q)) + 1); omega), (by show 6 + 0 ≤ (6 * (rE (g 2 q) - rS (g 2 q)) + 6); omega)⟩ ⟨(by show 2 + 1 ≤ (5 * n + 46); omega), (by show 8 + (3 + 11) + 60 ≤ (200 * n + 1120); omega)⟩ (fun v239 u237 H locs hw238 hP hD hS => ?_)
      obtain ⟨w, _⟩ := u237
      obtain ⟨hw238, hO⟩ := hw238
      obtain rfl : v239 = none := hw238
      have hf242 : (kI (kI (kI (kI (kI (kC (kN K191 q219 9 0) 16 q219 lo) 26 q219 ls9) 27 q219 (-1)) 28 q219 (-1)) 29 q219 (-1)) 30 q219 (-1)).1 pq = 7 := hf221
      have hf243 : (kI (kI (kI (kI (kI (kC (kN K191 q219 9 0) 16 q219 lo) 26 q219 ls9) 27 q219 (-1)) 28 q219 (-1)) 29 q219 (-1)) 30 q219 (-1)).1 dr = 8 := hf224
      have hf244 : (kI (kI (kI (kI (kI (kC (kN K191 q219 9 0) 16 q219 lo) 26 q219 ls9) 27 q219 (-1)) 28 q219 (-1)) 29 q219 (-1)) 30 q219 (-1)).1 ml = 5 := hf226
      have hf245 : (kI (kI (kI (kI (kI (kC (kN K191 q219 9 0) 16 q219 lo) 26 q219 ls9) 27 q219 (-1)) 28 q219 (-1)) 29 q219 (-1)) 30 q219 (-1)).1 q = 1 := hf228
      have hf246 : (kI (kI (kI (kI (kI (kC (kN K191 q219 9 0) 16 q219 lo) 26 q219 ls9) 27 q219 (-1)) 28 q219 (-1)) 29 q219 (-1)) 30 q219 (-1)).1 mq = 3 := hf229
      have hf247 : (kI (kI (kI (kI (kI (kC (kN K191 q219 9 0) 16 q219 lo) 26 q219 ls9) 27 q219 (-1)) 28 q219 (-1)) 29 q219 (-1)) 30 q219 (-1)).1 q4 = 1 := hf231
      have hf248 : (kI (kI (kI (kI (kI (kC (kN K191 q219 9 0) 16 q219 lo) 26 q219 ls9) 27 q219 (-1)) 28 q219 (-1)) 29 q219 (-1)) 30 q219 (-1)).1 z3 = 1 := hf235
      have hf249 : (kI (kI (kI (kI (kI (kC (kN K191 q219 9 0) 16 q219 lo) 26 q219 ls9) 27 q219 (-1)) 28 q219 (-1)) 29 q219 (-1)) 30 q219 (-1)).1 q219 = 9 := hf236
      have hO : OKP G h0 a (upd (upd (upd (upd (upd (upd (upd (upd (upd (upd F 2 (nI sz)) 5 (nI cs193)) 6 (nI rg)) 7 (nI hd)) 8 (nI dp)) 12 (nI vr)) 13 wt195) 14 wt195) 15 wf196) 16 ls9) (updR (updR (updR R 2 (.ref pq)) 3 (.ref mq)) 4 (va_rf lo)) Z B192 J (kI (kI (kI (kI (kI (kC (kN K191 q219 9 0) 16 q219 lo) 26 q219 ls9) 27 q219 (-1)) 28 q219 (-1)) 29 q219 (-1)) 30 q219 (-1)) w := hO.to rfl
      refine W.widen (k := 1) (n := 6) (by show 1 + 0 ≤ 1; omega) (by show 6 + 0 ≤ 6; omega) ?_
      refine W.eq (g2 := F0 m 88 ls [.ref q219, .ref (a 4)]) rfl ?_
      obtain ⟨K250, hK251⟩ : ∃ z : PK, z = (kI (kI (kI (kI (kI (kC (kN K191 q219 9 0) 16 q219 lo) 26 q219 ls9) 27 q219 (-1)) 28 q219 (-1)) 29 q219 (-1)) 30 q219 (-1)) := ⟨_, rfl⟩
      rw [← hK251] at hO
      have hbx252 : BdE K191 K250 := by rw [hK251]; exact BdE.loop hq220
      have hbe253 := BdE.trans hbe216 hbx252
      have hf254 : K250.1 pq = 7 := (BdE.T hbx252 hf201 (by decide))
      have hf255 : K250.2.2.1 18 pq = some (a 1) := (BdE.C hbx252 (by rw [hf201]; decide) 18).trans hf202
      have hf256 : K250.2.2.1 14 pq = some dr := (BdE.C hbx252 (by rw [hf201]; decide) 14).trans hf203
      have hf257 : K250.1 dr = 8 := (BdE.T hbx252 hf204 (by decide))
      have hf258 : K250.2.2.1 15 pq = some ml := (BdE.C hbx252 (by rw [hf201]; decide) 15).trans hf205
      have hf259 : K250.1 ml = 5 := (BdE.T hbx252 hf206 (by decide))
      have hf260 : K250.2.1 24 pq = (nI nd) := (BdE.I hbx252 (by rw [hf201]; decide) (by decide) (by decide)).trans hf207
      have hf261 : K250.1 q = 1 := (BdE.T hbx252 hf208 (by decide))
      have hf262 : K250.1 mq = 3 := (BdE.T hbx252 hf209 (by decide))
      have hf263 : K250.2.2.1 3 q = some q4 := (BdE.C hbx252 (by rw [hf208]; decide) 3).trans hf210
      have hf264 : K250.1 q4 = 1 := (BdE.T hbx252 hf211 (by decide))
      have hf265 : K250.2.2.1 1 q = ob := (BdE.C hbx252 (by rw [hf208]; decide) 1).trans hf212
      have hf266 : K250.2.2.1 0 q = none := (BdE.C hbx252 (by rw [hf208]; decide) 0).trans hf213
      have hf267 : K250.2.2.1 2 q = some z3 := (BdE.C hbx252 (by rw [hf208]; decide) 2).trans hf214
      have hf268 : K250.1 z3 = 1 := (BdE.T hbx252 hf215 (by decide))
      have hf269 : K250.1 q219 = 9 := by rw [hK251]; exact if_pos rfl
      have hf270 : K250.2.2.1 16 q219 = lo := by rw [hK251]; exact kC_eq
      refine c_put (v := .ref q219) (ty := (.object "JinjaTongue$Loop")) (C := RX0) (Tc := TX0) (N := 13) (ci := 0) hx hb hq pin_wsX00 tyX0 tyX0_ok nmX0 hown hE hP hD hS hO 24 (sg_24 G h0 a _ _ _ _ _) rfl 11 (by decide) (hq _ pw_73) (fun _ h9 => h9) rfl (by decide +kernel) rfl rfl (Nat.le_of_ble_eq_true rfl) (sr_4 G h0 a _ _ _ _ _ (.ref q219)) dX0_loopStatement_88 (fun H locs w hP hD hS hO => ?_)
      refine lv_aload_n hx hb dX0_loopStatement_91 rfl (lv_at hl 5 rfl) ?_
      refine lv_aload_n hx hb dX0_loopStatement_92 rfl (lv_at hl 6 rfl) ?_
      refine p_get (v := .ref q4) (C := RX7) (Tc := TX7) (N := 11) (ci := 13) hx hb hq pin_wsX70 hown hE hP hO (by rw [hf261]; decide) (rep_1 hf261) rfl 9 (by decide) (hq _ pw_316) (fun _ h9 => h9) (congrArg (fun z => some (va_rf z)) hf263) dX0_loopStatement_93 ?_
      refine lv_iconst (v := 1) hx hb dX0_loopStatement_96 (by decide) ?_
      have hO : OKP G h0 a (upd (upd (upd (upd (upd (upd (upd (upd (upd (upd (upd (upd (upd (upd (upd (upd (upd (upd F 2 (nI sz)) 5 (nI cs)) 6 (nI rg)) 7 (nI hd)) 8 (nI dp)) 12 (nI vr)) 16 ls9) 5 (nI cs193)) 13 wt195) 14 wt195) 15 wf196) 2 (nI sz)) 5 (nI cs193)) 6 (nI rg)) 7 (nI hd)) 8 (nI dp)) 12 (nI vr)) 16 ls9) (updR (updR (updR (updR (updR (updR R 2 (.ref pq)) 3 (.ref mq)) 4 (.ref q219)) 2 (.ref pq)) 3 (.ref mq)) 4 (va_rf (some q219))) Z B192 J K250 w := hO.to rfl
      obtain ⟨_, qr274, hqr275⟩ := hO.2.1 24 _ (sg_24 G h0 a _ _ _ _ _)
      refine pn_V0 (G := G) (As := [.ref q4, .int (nI 1)]) (rest := []) hx hb hml hown hq hE hX pX0_al hP hD hS hA hl.1 ((ist (n - 1) (by omega)) h0 a (upd (upd (upd (upd (upd (upd (upd (upd (upd (upd (upd F 2 (nI sz)) 5 (nI cs)) 6 (nI rg)) 7 (nI hd)) 8 (nI dp)) 12 (nI vr)) 16 ls9) 5 (nI cs193)) 13 wt195) 14 wt195) 15 wf196) (updR (updR (updR R 2 (.ref pq)) 3 (.ref mq)) 4 (.ref q219)) Z B192 J K250 w pq dr ml nd nm cp it s9 q4 mq cs193 vr sz 1 hd dp rg ls9 (some q219) g rk (by omega) (BdE.wp hbe253 hwp) (BdE.pt hbe253 hwp hps) (BdE.rko hbe253 hrk) (by omega) (by omega) hng218 hf262 hf264 ⟨hv3.1, (by have z9 := hv3; omega)⟩ (by omega) (by omega) (by omega) (fun x9 h9 => by cases h9; exact hf269) (by omega) hO hl0) (gV pw_300 pw_301 pw_302 pw_63 pw_323) hV_X0_statement qr274 0 hqr275 rfl rfl rfl (Nat.le_of_ble_eq_true rfl) dX0_loopStatement_97 ⟨(by show 1 + ((rE (g 2 q4) - rS (g 2 q4)) + 1) ≤ ((rE (g 2 q) - rS (g 2 q)) + 1); omega), (by show 6 + (6 * (rE (g 2 q4) - rS (g 2 q4)) + 6) ≤ (6 * (rE (g 2 q) - rS (g 2 q)) + 6); omega)⟩ ⟨(by show (5 * (n - 1) + 50) + 1 ≤ (5 * n + 46); omega), (by show 8 + (3 + 11) + (200 * (n - 1) + 1200) ≤ (200 * n + 1120); omega)⟩ (fun v273 u271 H locs hw272 hP hD hS => ?_) (fun ux ce9 q9 H9 locs9 hux hP9 hD9 hS9 hce hcv hcl => pb_out ux (ThQ.up (Thx.same (Thx.same (Thx.same (Thx.same (Thx.same (Thx.same (Thx.same (Thx.f (Thx.f (Thx.f (Thx.f (Bth.thx hbb217) (by omega)) (by omega)) (by omega)) (by omega)) rfl) rfl) rfl) rfl) rfl) rfl) rfl) (show RhX (updR (updR (updR R 2 (.ref pq)) 3 (.ref mq)) 4 (va_rf lo)) (updR (updR (updR (updR (updR (updR R 2 (.ref pq)) 3 (.ref mq)) 4 (.ref q219)) 2 (.ref pq)) 3 (.ref mq)) 4 (va_rf (some q219))) from fun k9 hk9 => by unfold updR; simp only [show ¬ k9 = 1 by omega, show ¬ k9 = 2 by omega, show ¬ k9 = 3 by omega, show ¬ k9 = 4 by omega, if_false]) hux) hnt hlocks hce hcv hcl hP9 hD9 hS9 (by show 1 + ((rE (g 2 q4) - rS (g 2 q4)) + 1) ≤ ((rE (g 2 q) - rS (g 2 q)) + 1); omega) (by show 6 + (6 * (rE (g 2 q4) - rS (g 2 q4)) + 6) ≤ (6 * (rE (g 2 q) - rS (g 2 q)) + 6); omega))
      obtain ⟨w, K276, B277, cs278, as279, wt280, wf281, vr282, hd283, dp284, rg285, ls286⟩ := u271
      obtain ⟨hw272, h287, h288, h289, h290, hO⟩ := hw272
      have h287 : BdE K250 K276 := h287
      have h288 : Bth B192 B277 := h288
      have h289 : cs278 ≤ 10000 ∧ rg285 ≤ 625 ∧ dp284 ≤ 1000 := h289
      have h290 : vr ≤ vr282 ∧ vr282 ≤ 30 ∧ hd283 + vr = hd + vr282 := h290
      obtain rfl : v273 = none := hw272
      have hf291 : K276.1 pq = 7 := (BdE.T h287 hf254 (by decide))
      have hf292 : K276.2.2.1 18 pq = some (a 1) := (BdE.C h287 (by rw [hf254]; decide) 18).trans hf255
      have hf293 : K276.2.2.1 14 pq = some dr := (BdE.C h287 (by rw [hf254]; decide) 14).trans hf256
      have hf294 : K276.1 dr = 8 := (BdE.T h287 hf257 (by decide))
      have hf295 : K276.2.2.1 15 pq = some ml := (BdE.C h287 (by rw [hf254]; decide) 15).trans hf258
      have hf296 : K276.1 ml = 5 := (BdE.T h287 hf259 (by decide))
      have hf297 : K276.2.1 24 pq = (nI nd) := (BdE.I h287 (by rw [hf254]; decide) (by decide) (by decide)).trans hf260
      have hf298 : K276.1 q = 1 := (BdE.T h287 hf261 (by decide))
      have hf299 : K276.1 mq = 3 := (BdE.T h287 hf262 (by decide))
      have hf300 : K276.2.2.1 3 q = some q4 := (BdE.C h287 (by rw [hf261]; decide) 3).trans hf263
      have hf301 : K276.1 q4 = 1 := (BdE.T h287 hf264 (by decide))
      have hf302 : K276.2.2.1 1 q = ob := (BdE.C h287 (by rw [hf261]; decide) 1).trans hf265
      have hf303 : K276.2.2.1 0 q = none := (BdE.C h287 (by rw [hf261]; decide) 0).trans hf266
      have hf304 : K276.2.2.1 2 q = some z3 := (BdE.C h287 (by rw [hf261]; decide) 2).trans hf267
      have hf305 : K276.1 z3 = 1 := (BdE.T h287 hf268 (by decide))
      have hf306 : K276.1 q219 = 9 := (BdE.T h287 hf269 (by decide))
      have hf307 : K276.2.2.1 16 q219 = lo := (BdE.C h287 (by rw [hf269]; decide) 16).trans hf270
      have hO : OKP G h0 a (upd (upd (upd (upd (upd (upd (upd (upd (upd (upd F 2 (nI sz)) 5 (nI cs278)) 6 (nI rg285)) 7 (nI hd283)) 8 (nI dp284)) 12 (nI vr282)) 13 as279) 14 wt280) 15 wf281) 16 ls286) (updR (updR (updR R 2 (.ref pq)) 3 (.ref mq)) 4 (.ref q219)) Z B277 J K276 w := hO.to rfl
      refine W.widen (k := (1 + (rE (g 2 q4) - rS (g 2 q4)))) (n := (6 + (6 * (rE (g 2 q4) - rS (g 2 q4))))) (by show 1 + (rE (g 2 q4) - rS (g 2 q4)) ≤ (1 + (rE (g 2 q4) - rS (g 2 q4))); omega) (by show 6 + (6 * (rE (g 2 q4) - rS (g 2 q4))) ≤ (6 + (6 * (rE (g 2 q4) - rS (g 2 q4)))); omega) ?_
      refine W.eq (g2 := F0 m 100 ls []) rfl ?_
      have hbe308 := BdE.trans hbe253 h287
      have hbb309 : Bth B B277 := Bth.trans (show Thx (upd (upd (upd (upd (upd (upd (upd F 2 (nI sz)) 5 (nI cs)) 6 (nI rg)) 7 (nI hd)) 8 (nI dp)) 12 (nI vr)) 16 ls9) (upd (upd (upd (upd (upd (upd (upd (upd (upd (upd (upd F 2 (nI sz)) 5 (nI cs)) 6 (nI rg)) 7 (nI hd)) 8 (nI dp)) 12 (nI vr)) 16 ls9) 5 (nI cs193)) 13 wt195) 14 wt195) 15 wf196) B B192 from (Thx.f (Thx.f (Thx.f (Thx.f (Bth.thx hbb217) (by omega)) (by omega)) (by omega)) (by omega))).2 h288
      have hng310 : Nng (B277 18) := h288.2 hng218
      refine lv_aload_n hx hb dX0_loopStatement_100 rfl (lv_at hl 5 rfl) ?_
      refine c_get (v := .ref (a 2)) (C := RX0) (Tc := TX0) (N := 13) (ci := 0) hx hb hq pin_wsX00 hown hE hP hO 24 (sg_24 G h0 a _ _ _ _ _) rfl 1 (by decide) (hq _ pw_5) (fun _ h9 => h9) rfl dX0_loopStatement_101 ?_
      refine lv_aload_n hx hb dX0_loopStatement_104 rfl (lv_at hl 5 rfl) ?_
      refine c_get (v := .ref q219) (C := RX0) (Tc := TX0) (N := 13) (ci := 0) hx hb hq pin_wsX00 hown hE hP hO 24 (sg_24 G h0 a _ _ _ _ _) rfl 11 (by decide) (hq _ pw_73) (fun _ h9 => h9) rfl dX0_loopStatement_105 ?_
      refine p_get (v := .int (K276.2.1 28 q219)) (C := RX4) (Tc := TX4) (N := 6) (ci := 11) hx hb hq pin_wsX40 hown hE hP hO (by rw [hf306]; decide) (rep_9 hf306) rfl 3 (by decide) (hq _ pw_284) (fun _ h9 => h9) rfl dX0_loopStatement_108 ?_
      have hO : OKW G h0 a (upd (upd (upd (upd (upd (upd (upd (upd (upd (upd (upd F 2 (nI sz)) 5 (nI cs278)) 6 (nI rg285)) 7 (nI hd283)) 8 (nI dp284)) 12 (nI vr282)) 13 as279) 14 wt280) 15 wf281) 16 ls286) 5 (nI cs278)) (updR (updR (updR R 2 (.ref pq)) 3 (.ref mq)) 4 (.ref q219)) Z B277 J K276.1 (fun q99 x99 => x99 = rep G a K276 q99) w := hO.to rfl
      obtain ⟨_, qr314, hqr315⟩ := hO.2.1 13 _ (sg_13 G h0 a _ _ _ _ _)
      refine pc_V0 (G := G) (As := [.int (K276.2.1 28 q219)]) (rest := []) hx hb hml hown hq hE hX pX0_al hP hD hS hA hl.1 (K_land l G h0 a (upd (upd (upd (upd (upd (upd (upd (upd (upd (upd F 2 (nI sz)) 5 (nI cs278)) 6 (nI rg285)) 7 (nI hd283)) 8 (nI dp284)) 12 (nI vr282)) 13 as279) 14 wt280) 15 wf281) 16 ls286) (updR (updR (updR R 2 (.ref pq)) 3 (.ref mq)) 4 (.ref q219)) Z B277 J K276.1 (fun q99 x99 => x99 = rep G a K276 q99) w (K276.2.1 28 q219) cs278 (by omega) hO) (gV pw_200 pw_201 pw_202 pw_70 pw_134) hV_X1_land qr314 1 hqr315 rfl rfl rfl (Nat.le_of_ble_eq_true rfl) dX0_loopStatement_111 ⟨(by show (1 + (rE (g 2 q4) - rS (g 2 q4))) + 0 ≤ ((rE (g 2 q) - rS (g 2 q)) + 1); omega), (by show (6 + (6 * (rE (g 2 q4) - rS (g 2 q4)))) + 0 ≤ (6 * (rE (g 2 q) - rS (g 2 q)) + 6); omega)⟩ ⟨(by show 2 + 1 ≤ (5 * n + 46); omega), (by show 8 + (5 + 11) + 60 ≤ (200 * n + 1120); omega)⟩ (fun v313 u311 H locs hw312 hP hD hS => ?_)
      obtain ⟨w, f316⟩ := u311
      obtain ⟨hw312, hO⟩ := hw312
      obtain rfl : v313 = none := hw312
      have hO : OKP G h0 a (upd (upd (upd (upd (upd (upd (upd (upd (upd (upd F 2 (nI sz)) 5 (nI cs278)) 6 (nI rg285)) 7 (nI hd283)) 8 (nI dp284)) 12 (nI vr282)) 13 as279) 14 wt280) 15 wf281) 16 ls286) (updR (updR (updR R 2 (.ref pq)) 3 (.ref mq)) 4 (.ref q219)) Z (updA B277 17 f316) J K276 w := hO.to rfl
      refine W.widen (k := (1 + (rE (g 2 q4) - rS (g 2 q4)))) (n := (6 + (6 * (rE (g 2 q4) - rS (g 2 q4))))) (by show (1 + (rE (g 2 q4) - rS (g 2 q4))) + 0 ≤ (1 + (rE (g 2 q4) - rS (g 2 q4))); omega) (by show (6 + (6 * (rE (g 2 q4) - rS (g 2 q4)))) + 0 ≤ (6 + (6 * (rE (g 2 q4) - rS (g 2 q4)))); omega) ?_
      refine W.eq (g2 := F0 m 114 ls []) rfl ?_
      refine lv_aload_n hx hb dX0_loopStatement_114 rfl (lv_at hl 6 rfl) ?_
      refine p_get (v := .ref z3) (C := RX7) (Tc := TX7) (N := 11) (ci := 13) hx hb hq pin_wsX70 hown hE hP hO (by rw [hf298]; decide) (rep_1 hf298) rfl 8 (by decide) (hq _ pw_196) (fun _ h9 => h9) (congrArg (fun z => some (va_rf z)) hf304) dX0_loopStatement_115 ?_
      refine lv_ifnull hx hb dX0_loopStatement_118 ?_
      refine lv_aload_n hx hb dX0_loopStatement_121 rfl (lv_at hl 5 rfl) ?_
      refine lv_dup hx hb dX0_loopStatement_122 rfl ?_
      refine c_get (v := .int as279) (C := RX0) (Tc := TX0) (N := 13) (ci := 0) hx hb hq pin_wsX00 hown hE hP hO 24 (sg_24 G h0 a _ _ _ _ _) rfl 8 (by decide) (hq _ pw_55) (fun _ h9 => h9) rfl dX0_loopStatement_123 ?_
      refine lv_aload_n hx hb dX0_loopStatement_126 rfl (lv_at hl 5 rfl) ?_
      refine c_get (v := .ref q219) (C := RX0) (Tc := TX0) (N := 13) (ci := 0) hx hb hq pin_wsX00 hown hE hP hO 24 (sg_24 G h0 a _ _ _ _ _) rfl 11 (by decide) (hq _ pw_73) (fun _ h9 => h9) rfl dX0_loopStatement_127 ?_
      refine p_get (v := .int (K276.2.1 30 q219)) (C := RX4) (Tc := TX4) (N := 6) (ci := 11) hx hb hq pin_wsX40 hown hE hP hO (by rw [hf306]; decide) (rep_9 hf306) rfl 5 (by decide) (hq _ pw_285) (fun _ h9 => h9) rfl dX0_loopStatement_130 ?_
      refine lv_iand hx hb dX0_loopStatement_133 ?_
      refine lv_topi (fun x317 e318 => ?_)
      refine c_put (v := .int x317) (ty := .int) (C := RX0) (Tc := TX0) (N := 13) (ci := 0) hx hb hq pin_wsX00 tyX0 tyX0_ok nmX0 hown hE hP hD hS hO 24 (sg_24 G h0 a _ _ _ _ _) rfl 8 (by decide) (hq _ pw_55) (fun _ h9 => h9) rfl (by decide +kernel) rfl rfl (Nat.le_of_ble_eq_true rfl) (sf_13 G h0 a _ _ _ _ _ x317) dX0_loopStatement_134 (fun H locs w hP hD hS hO => ?_)
      refine lv_aload_n hx hb dX0_loopStatement_137 rfl (lv_at hl 5 rfl) ?_
      refine lv_aload_n hx hb dX0_loopStatement_138 rfl (lv_at hl 6 rfl) ?_
      refine p_get (v := .ref z3) (C := RX7) (Tc := TX7) (N := 11) (ci := 13) hx hb hq pin_wsX70 hown hE hP hO (by rw [hf298]; decide) (rep_1 hf298) rfl 8 (by decide) (hq _ pw_196) (fun _ h9 => h9) (congrArg (fun z => some (va_rf z)) hf304) dX0_loopStatement_139 ?_
      refine lv_iconst (v := 0) hx hb dX0_loopStatement_142 (by decide) ?_
      have hO : OKP G h0 a (upd (upd (upd (upd (upd (upd (upd (upd (upd (upd (upd (upd (upd (upd (upd (upd (upd (upd (upd (upd (upd (upd (upd F 2 (nI sz)) 5 (nI cs)) 6 (nI rg)) 7 (nI hd)) 8 (nI dp)) 12 (nI vr)) 16 ls9) 5 (nI cs278)) 6 (nI rg285)) 7 (nI hd283)) 8 (nI dp284)) 12 (nI vr282)) 13 x317) 14 wt280) 15 wf281) 16 ls286) 2 (nI sz)) 5 (nI cs278)) 6 (nI rg285)) 7 (nI hd283)) 8 (nI dp284)) 12 (nI vr282)) 16 ls286) (updR (updR (updR (updR (updR (updR R 2 (.ref pq)) 3 (.ref mq)) 4 (.ref q219)) 2 (.ref pq)) 3 (.ref mq)) 4 (va_rf (some q219))) Z (updA B277 17 f316) J K276 w := hO.to rfl
      obtain ⟨_, qr322, hqr323⟩ := hO.2.1 24 _ (sg_24 G h0 a _ _ _ _ _)
      refine pn_V0 (G := G) (As := [.ref z3, .int (nI 0)]) (rest := []) hx hb hml hown hq hE hX pX0_al hP hD hS hA hl.1 ((ist (n - 1) (by omega)) h0 a (upd (upd (upd (upd (upd (upd (upd (upd (upd (upd (upd (upd (upd (upd (upd (upd F 2 (nI sz)) 5 (nI cs)) 6 (nI rg)) 7 (nI hd)) 8 (nI dp)) 12 (nI vr)) 16 ls9) 5 (nI cs278)) 6 (nI rg285)) 7 (nI hd283)) 8 (nI dp284)) 12 (nI vr282)) 13 x317) 14 wt280) 15 wf281) 16 ls286) (updR (updR (updR R 2 (.ref pq)) 3 (.ref mq)) 4 (.ref q219)) Z (updA B277 17 f316) J K276 w pq dr ml nd nm cp it s9 z3 mq cs278 vr282 sz 0 hd283 dp284 rg285 ls286 (some q219) g rk (by omega) (BdE.wp hbe308 hwp) (BdE.pt hbe308 hwp hps) (BdE.rko hbe308 hrk) (by omega) (by omega) hng310 hf299 hf305 ⟨hcv2.1, (by have z9 := hcv2; omega)⟩ (by omega) (by omega) (by omega) (fun x9 h9 => by cases h9; exact hf306) (by omega) hO hl0) (gV pw_300 pw_301 pw_302 pw_63 pw_323) hV_X0_statement qr322 0 hqr323 rfl rfl rfl (Nat.le_of_ble_eq_true rfl) dX0_loopStatement_143 ⟨(by show (1 + (rE (g 2 q4) - rS (g 2 q4))) + ((rE (g 2 z3) - rS (g 2 z3)) + 1) ≤ ((rE (g 2 q) - rS (g 2 q)) + 1); omega), (by show (6 + (6 * (rE (g 2 q4) - rS (g 2 q4)))) + (6 * (rE (g 2 z3) - rS (g 2 z3)) + 6) ≤ (6 * (rE (g 2 q) - rS (g 2 q)) + 6); omega)⟩ ⟨(by show (5 * (n - 1) + 50) + 1 ≤ (5 * n + 46); omega), (by show 8 + (3 + 11) + (200 * (n - 1) + 1200) ≤ (200 * n + 1120); omega)⟩ (fun v321 u319 H locs hw320 hP hD hS => ?_) (fun ux ce9 q9 H9 locs9 hux hP9 hD9 hS9 hce hcv hcl => pb_out ux (ThQ.up (Thx.same (Thx.same (Thx.same (Thx.same (Thx.same (Thx.same (Thx.same (Thx.b (Thx.f (Thx.f (Thx.f (Thx.f (Thx.f (Thx.f (Thx.f (Thx.f (Thx.f (Bth.thx hbb309) (by omega)) (by omega)) (by omega)) (by omega)) (by omega)) (by omega)) (by omega)) (by omega)) (by omega)) (by omega) (by decide)) rfl) rfl) rfl) rfl) rfl) rfl) rfl) (show RhX (updR (updR (updR R 2 (.ref pq)) 3 (.ref mq)) 4 (va_rf lo)) (updR (updR (updR (updR (updR (updR R 2 (.ref pq)) 3 (.ref mq)) 4 (.ref q219)) 2 (.ref pq)) 3 (.ref mq)) 4 (va_rf (some q219))) from fun k9 hk9 => by unfold updR; simp only [show ¬ k9 = 1 by omega, show ¬ k9 = 2 by omega, show ¬ k9 = 3 by omega, show ¬ k9 = 4 by omega, if_false]) hux) hnt hlocks hce hcv hcl hP9 hD9 hS9 (by show (1 + (rE (g 2 q4) - rS (g 2 q4))) + ((rE (g 2 z3) - rS (g 2 z3)) + 1) ≤ ((rE (g 2 q) - rS (g 2 q)) + 1); omega) (by show (6 + (6 * (rE (g 2 q4) - rS (g 2 q4)))) + (6 * (rE (g 2 z3) - rS (g 2 z3)) + 6) ≤ (6 * (rE (g 2 q) - rS (g 2 q)) + 6); omega))
      obtain ⟨w, K324, B325, cs326, as327, wt328, wf329, vr330, hd331, dp332, rg333, ls334⟩ := u319
      obtain ⟨hw320, h335, h336, h337, h338, hO⟩ := hw320
      have h335 : BdE K276 K324 := h335
      have h336 : Bth (updA B277 17 f316) B325 := h336
      have h337 : cs326 ≤ 10000 ∧ rg333 ≤ 625 ∧ dp332 ≤ 1000 := h337
      have h338 : vr282 ≤ vr330 ∧ vr330 ≤ 30 ∧ hd331 + vr282 = hd283 + vr330 := h338
      obtain rfl : v321 = none := hw320
      have hf339 : K324.1 pq = 7 := (BdE.T h335 hf291 (by decide))
      have hf340 : K324.2.2.1 18 pq = some (a 1) := (BdE.C h335 (by rw [hf291]; decide) 18).trans hf292
      have hf341 : K324.2.2.1 14 pq = some dr := (BdE.C h335 (by rw [hf291]; decide) 14).trans hf293
      have hf342 : K324.1 dr = 8 := (BdE.T h335 hf294 (by decide))
      have hf343 : K324.2.2.1 15 pq = some ml := (BdE.C h335 (by rw [hf291]; decide) 15).trans hf295
      have hf344 : K324.1 ml = 5 := (BdE.T h335 hf296 (by decide))
      have hf345 : K324.2.1 24 pq = (nI nd) := (BdE.I h335 (by rw [hf291]; decide) (by decide) (by decide)).trans hf297
      have hf346 : K324.1 q = 1 := (BdE.T h335 hf298 (by decide))
      have hf347 : K324.1 mq = 3 := (BdE.T h335 hf299 (by decide))
      have hf348 : K324.2.2.1 3 q = some q4 := (BdE.C h335 (by rw [hf298]; decide) 3).trans hf300
      have hf349 : K324.1 q4 = 1 := (BdE.T h335 hf301 (by decide))
      have hf350 : K324.2.2.1 1 q = ob := (BdE.C h335 (by rw [hf298]; decide) 1).trans hf302
      have hf351 : K324.2.2.1 0 q = none := (BdE.C h335 (by rw [hf298]; decide) 0).trans hf303
      have hf352 : K324.2.2.1 2 q = some z3 := (BdE.C h335 (by rw [hf298]; decide) 2).trans hf304
      have hf353 : K324.1 z3 = 1 := (BdE.T h335 hf305 (by decide))
      have hf354 : K324.1 q219 = 9 := (BdE.T h335 hf306 (by decide))
      have hf355 : K324.2.2.1 16 q219 = lo := (BdE.C h335 (by rw [hf306]; decide) 16).trans hf307
      have hO : OKP G h0 a (upd (upd (upd (upd (upd (upd (upd (upd (upd (upd F 2 (nI sz)) 5 (nI cs326)) 6 (nI rg333)) 7 (nI hd331)) 8 (nI dp332)) 12 (nI vr330)) 13 as327) 14 wt328) 15 wf329) 16 ls334) (updR (updR (updR R 2 (.ref pq)) 3 (.ref mq)) 4 (.ref q219)) Z B325 J K324 w := hO.to rfl
      refine W.widen (k := ((1 + (rE (g 2 q4) - rS (g 2 q4))) + (rE (g 2 z3) - rS (g 2 z3)))) (n := ((6 + (6 * (rE (g 2 q4) - rS (g 2 q4)))) + (6 * (rE (g 2 z3) - rS (g 2 z3))))) (by show (1 + (rE (g 2 q4) - rS (g 2 q4))) + (rE (g 2 z3) - rS (g 2 z3)) ≤ ((1 + (rE (g 2 q4) - rS (g 2 q4))) + (rE (g 2 z3) - rS (g 2 z3))); omega) (by show (6 + (6 * (rE (g 2 q4) - rS (g 2 q4)))) + (6 * (rE (g 2 z3) - rS (g 2 z3))) ≤ ((6 + (6 * (rE (g 2 q4) - rS (g 2 q4)))) + (6 * (rE (g 2 z3) - rS (g 2 z3)))); omega) ?_
      refine W.eq (g2 := F0 m 146 ls []) rfl ?_
      have hbe356 := BdE.trans hbe308 h335
      have hbb357 : Bth B B325 := Bth.trans (show Thx (upd (upd (upd (upd (upd (upd (upd F 2 (nI sz)) 5 (nI cs)) 6 (nI rg)) 7 (nI hd)) 8 (nI dp)) 12 (nI vr)) 16 ls9) (upd (upd (upd (upd (upd (upd (upd (upd (upd (upd (upd (upd (upd (upd (upd (upd F 2 (nI sz)) 5 (nI cs)) 6 (nI rg)) 7 (nI hd)) 8 (nI dp)) 12 (nI vr)) 16 ls9) 5 (nI cs278)) 6 (nI rg285)) 7 (nI hd283)) 8 (nI dp284)) 12 (nI vr282)) 13 x317) 14 wt280) 15 wf281) 16 ls286) B (updA B277 17 f316) from (Thx.b (Thx.f (Thx.f (Thx.f (Thx.f (Thx.f (Thx.f (Thx.f (Thx.f (Thx.f (Bth.thx hbb309) (by omega)) (by omega)) (by omega)) (by omega)) (by omega)) (by omega)) (by omega)) (by omega)) (by omega)) (by omega) (by decide))).2 h336
      have hng358 : Nng (B325 18) := h336.2 hng310
      refine lv_aload_n hx hb dX0_loopStatement_146 rfl (lv_at hl 5 rfl) ?_
      refine c_get (v := .ref (a 2)) (C := RX0) (Tc := TX0) (N := 13) (ci := 0) hx hb hq pin_wsX00 hown hE hP hO 24 (sg_24 G h0 a _ _ _ _ _) rfl 1 (by decide) (hq _ pw_5) (fun _ h9 => h9) rfl dX0_loopStatement_147 ?_
      refine lv_bipush (v := 6) hx hb dX0_loopStatement_150 (by decide) ?_
      refine lv_iload hx hb dX0_loopStatement_152 (lv_at hl 2 rfl) ?_
      refine lv_iconst (v := 0) hx hb dX0_loopStatement_154 (by decide) ?_
      have hO : OKW G h0 a (upd (upd (upd (upd (upd (upd (upd (upd (upd (upd (upd F 2 (nI sz)) 5 (nI cs326)) 6 (nI rg333)) 7 (nI hd331)) 8 (nI dp332)) 12 (nI vr330)) 13 as327) 14 wt328) 15 wf329) 16 ls334) 5 (nI cs326)) (updR (updR (updR R 2 (.ref pq)) 3 (.ref mq)) 4 (.ref q219)) Z B325 J K324.1 (fun q99 x99 => x99 = rep G a K324 q99) w := hO.to rfl
      obtain ⟨_, qr362, hqr363⟩ := hO.2.1 13 _ (sg_13 G h0 a _ _ _ _ _)
      refine pc_V0 (G := G) (As := [.int 6, .int (nI cs), .int (nI 0)]) (rest := []) hx hb hml hown hq hE hX pX0_al hP hD hS hA hl.1 (K_emit l G h0 a (upd (upd (upd (upd (upd (upd (upd (upd (upd (upd F 2 (nI sz)) 5 (nI cs326)) 6 (nI rg333)) 7 (nI hd331)) 8 (nI dp332)) 12 (nI vr330)) 13 as327) 14 wt328) 15 wf329) 16 ls334) (updR (updR (updR R 2 (.ref pq)) 3 (.ref mq)) 4 (.ref q219)) Z B325 J K324.1 (fun q99 x99 => x99 = rep G a K324 q99) w 6 (nI cs) 0 cs326 (by omega) (by omega) hng358 hO) (gV pw_129 pw_130 pw_131 pw_70 pw_115) hV_X1_emit qr362 1 hqr363 rfl rfl rfl (Nat.le_of_ble_eq_true rfl) dX0_loopStatement_155 ⟨(by show ((1 + (rE (g 2 q4) - rS (g 2 q4))) + (rE (g 2 z3) - rS (g 2 z3))) + 0 ≤ ((rE (g 2 q) - rS (g 2 q)) + 1); omega), (by show ((6 + (6 * (rE (g 2 q4) - rS (g 2 q4)))) + (6 * (rE (g 2 z3) - rS (g 2 z3)))) + 0 ≤ (6 * (rE (g 2 q) - rS (g 2 q)) + 6); omega)⟩ ⟨(by show 2 + 1 ≤ (5 * n + 46); omega), (by show 8 + (4 + 11) + 60 ≤ (200 * n + 1120); omega)⟩ (fun v361 u359 H locs hw360 hP hD hS => ?_)
      obtain ⟨w, cs364, f365, f366, f367, f368⟩ := u359
      obtain ⟨hw360, h369, h370, hO⟩ := hw360
      have h369 : cs326 ≤ cs364 ∧ cs364 ≤ cs326 + 1 ∧ cs364 ≤ 10000 := h369
      have h370 : Nng f367 := h370
      obtain rfl : v361 = none := hw360
      have hO : OKP G h0 a (upd (upd (upd (upd (upd (upd (upd (upd (upd (upd F 2 (nI sz)) 5 (nI cs364)) 6 (nI rg333)) 7 (nI hd331)) 8 (nI dp332)) 12 (nI vr330)) 13 as327) 14 wt328) 15 wf329) 16 ls334) (updR (updR (updR R 2 (.ref pq)) 3 (.ref mq)) 4 (.ref q219)) Z (updA (updA (updA (updA B325 16 f365) 17 f366) 18 f367) 19 f368) J K324 w := hO.to rfl
      refine W.widen (k := ((1 + (rE (g 2 q4) - rS (g 2 q4))) + (rE (g 2 z3) - rS (g 2 z3)))) (n := ((6 + (6 * (rE (g 2 q4) - rS (g 2 q4)))) + (6 * (rE (g 2 z3) - rS (g 2 z3))))) (by show ((1 + (rE (g 2 q4) - rS (g 2 q4))) + (rE (g 2 z3) - rS (g 2 z3))) + 0 ≤ ((1 + (rE (g 2 q4) - rS (g 2 q4))) + (rE (g 2 z3) - rS (g 2 z3))); omega) (by show ((6 + (6 * (rE (g 2 q4) - rS (g 2 q4)))) + (6 * (rE (g 2 z3) - rS (g 2 z3)))) + 0 ≤ ((6 + (6 * (rE (g 2 q4) - rS (g 2 q4)))) + (6 * (rE (g 2 z3) - rS (g 2 z3)))); omega) ?_
      refine W.eq (g2 := F0 m 158 ls []) rfl ?_
      refine lv_aload_n hx hb dX0_loopStatement_158 rfl (lv_at hl 5 rfl) ?_
      refine c_get (v := .ref (a 2)) (C := RX0) (Tc := TX0) (N := 13) (ci := 0) hx hb hq pin_wsX00 hown hE hP hO 24 (sg_24 G h0 a _ _ _ _ _) rfl 1 (by decide) (hq _ pw_5) (fun _ h9 => h9) rfl dX0_loopStatement_159 ?_
      refine lv_iload hx hb dX0_loopStatement_162 (lv_at hl 1 rfl) ?_
      have hO : OKW G h0 a (upd (upd (upd (upd (upd (upd (upd (upd (upd (upd (upd F 2 (nI sz)) 5 (nI cs364)) 6 (nI rg333)) 7 (nI hd331)) 8 (nI dp332)) 12 (nI vr330)) 13 as327) 14 wt328) 15 wf329) 16 ls334) 5 (nI cs364)) (updR (updR (updR R 2 (.ref pq)) 3 (.ref mq)) 4 (.ref q219)) Z (updA (updA (updA (updA B325 16 f365) 17 f366) 18 f367) 19 f368) J K324.1 (fun q99 x99 => x99 = rep G a K324 q99) w := hO.to rfl
      obtain ⟨_, qr374, hqr375⟩ := hO.2.1 13 _ (sg_13 G h0 a _ _ _ _ _)
      refine pc_V0 (G := G) (As := [.int r197]) (rest := []) hx hb hml hown hq hE hX pX0_al hP hD hS hA hl.1 (K_land l G h0 a (upd (upd (upd (upd (upd (upd (upd (upd (upd (upd F 2 (nI sz)) 5 (nI cs364)) 6 (nI rg333)) 7 (nI hd331)) 8 (nI dp332)) 12 (nI vr330)) 13 as327) 14 wt328) 15 wf329) 16 ls334) (updR (updR (updR R 2 (.ref pq)) 3 (.ref mq)) 4 (.ref q219)) Z (updA (updA (updA (updA B325 16 f365) 17 f366) 18 f367) 19 f368) J K324.1 (fun q99 x99 => x99 = rep G a K324 q99) w r197 cs364 (by omega) hO) (gV pw_200 pw_201 pw_202 pw_70 pw_134) hV_X1_land qr374 1 hqr375 rfl rfl rfl (Nat.le_of_ble_eq_true rfl) dX0_loopStatement_164 ⟨(by show ((1 + (rE (g 2 q4) - rS (g 2 q4))) + (rE (g 2 z3) - rS (g 2 z3))) + 0 ≤ ((rE (g 2 q) - rS (g 2 q)) + 1); omega), (by show ((6 + (6 * (rE (g 2 q4) - rS (g 2 q4)))) + (6 * (rE (g 2 z3) - rS (g 2 z3)))) + 0 ≤ (6 * (rE (g 2 q) - rS (g 2 q)) + 6); omega)⟩ ⟨(by show 2 + 1 ≤ (5 * n + 46); omega), (by show 8 + (5 + 11) + 60 ≤ (200 * n + 1120); omega)⟩ (fun v373 u371 H locs hw372 hP hD hS => ?_)
      obtain ⟨w, f376⟩ := u371
      obtain ⟨hw372, hO⟩ := hw372
      obtain rfl : v373 = none := hw372
      have hO : OKP G h0 a (upd (upd (upd (upd (upd (upd (upd (upd (upd (upd F 2 (nI sz)) 5 (nI cs364)) 6 (nI rg333)) 7 (nI hd331)) 8 (nI dp332)) 12 (nI vr330)) 13 as327) 14 wt328) 15 wf329) 16 ls334) (updR (updR (updR R 2 (.ref pq)) 3 (.ref mq)) 4 (.ref q219)) Z (updA (updA (updA (updA B325 16 f365) 17 f376) 18 f367) 19 f368) J K324 w := hO.to rfl
      refine W.widen (k := ((1 + (rE (g 2 q4) - rS (g 2 q4))) + (rE (g 2 z3) - rS (g 2 z3)))) (n := ((6 + (6 * (rE (g 2 q4) - rS (g 2 q4)))) + (6 * (rE (g 2 z3) - rS (g 2 z3))))) (by show ((1 + (rE (g 2 q4) - rS (g 2 q4))) + (rE (g 2 z3) - rS (g 2 z3))) + 0 ≤ ((1 + (rE (g 2 q4) - rS (g 2 q4))) + (rE (g 2 z3) - rS (g 2 z3))); omega) (by show ((6 + (6 * (rE (g 2 q4) - rS (g 2 q4)))) + (6 * (rE (g 2 z3) - rS (g 2 z3)))) + 0 ≤ ((6 + (6 * (rE (g 2 q4) - rS (g 2 q4)))) + (6 * (rE (g 2 z3) - rS (g 2 z3)))); omega) ?_
      refine W.eq (g2 := F0 m 167 ls []) rfl ?_
      refine lv_aload_n hx hb dX0_loopStatement_167 rfl (lv_at hl 5 rfl) ?_
      refine c_get (v := .ref (a 2)) (C := RX0) (Tc := TX0) (N := 13) (ci := 0) hx hb hq pin_wsX00 hown hE hP hO 24 (sg_24 G h0 a _ _ _ _ _) rfl 1 (by decide) (hq _ pw_5) (fun _ h9 => h9) rfl dX0_loopStatement_168 ?_
      refine lv_aload_n hx hb dX0_loopStatement_171 rfl (lv_at hl 5 rfl) ?_
      refine c_get (v := .ref q219) (C := RX0) (Tc := TX0) (N := 13) (ci := 0) hx hb hq pin_wsX00 hown hE hP hO 24 (sg_24 G h0 a _ _ _ _ _) rfl 11 (by decide) (hq _ pw_73) (fun _ h9 => h9) rfl dX0_loopStatement_172 ?_
      refine p_get (v := .int (K324.2.1 27 q219)) (C := RX4) (Tc := TX4) (N := 6) (ci := 11) hx hb hq pin_wsX40 hown hE hP hO (by rw [hf354]; decide) (rep_9 hf354) rfl 2 (by decide) (hq _ pw_282) (fun _ h9 => h9) rfl dX0_loopStatement_175 ?_
      have hO : OKW G h0 a (upd (upd (upd (upd (upd (upd (upd (upd (upd (upd (upd F 2 (nI sz)) 5 (nI cs364)) 6 (nI rg333)) 7 (nI hd331)) 8 (nI dp332)) 12 (nI vr330)) 13 as327) 14 wt328) 15 wf329) 16 ls334) 5 (nI cs364)) (updR (updR (updR R 2 (.ref pq)) 3 (.ref mq)) 4 (.ref q219)) Z (updA (updA (updA (updA B325 16 f365) 17 f376) 18 f367) 19 f368) J K324.1 (fun q99 x99 => x99 = rep G a K324 q99) w := hO.to rfl
      obtain ⟨_, qr380, hqr381⟩ := hO.2.1 13 _ (sg_13 G h0 a _ _ _ _ _)
      refine pc_V0 (G := G) (As := [.int (K324.2.1 27 q219)]) (rest := []) hx hb hml hown hq hE hX pX0_al hP hD hS hA hl.1 (K_land l G h0 a (upd (upd (upd (upd (upd (upd (upd (upd (upd (upd F 2 (nI sz)) 5 (nI cs364)) 6 (nI rg333)) 7 (nI hd331)) 8 (nI dp332)) 12 (nI vr330)) 13 as327) 14 wt328) 15 wf329) 16 ls334) (updR (updR (updR R 2 (.ref pq)) 3 (.ref mq)) 4 (.ref q219)) Z (updA (updA (updA (updA B325 16 f365) 17 f376) 18 f367) 19 f368) J K324.1 (fun q99 x99 => x99 = rep G a K324 q99) w (K324.2.1 27 q219) cs364 (by omega) hO) (gV pw_200 pw_201 pw_202 pw_70 pw_134) hV_X1_land qr380 1 hqr381 rfl rfl rfl (Nat.le_of_ble_eq_true rfl) dX0_loopStatement_178 ⟨(by show ((1 + (rE (g 2 q4) - rS (g 2 q4))) + (rE (g 2 z3) - rS (g 2 z3))) + 0 ≤ ((rE (g 2 q) - rS (g 2 q)) + 1); omega), (by show ((6 + (6 * (rE (g 2 q4) - rS (g 2 q4)))) + (6 * (rE (g 2 z3) - rS (g 2 z3)))) + 0 ≤ (6 * (rE (g 2 q) - rS (g 2 q)) + 6); omega)⟩ ⟨(by show 2 + 1 ≤ (5 * n + 46); omega), (by show 8 + (5 + 11) + 60 ≤ (200 * n + 1120); omega)⟩ (fun v379 u377 H locs hw378 hP hD hS => ?_)
      obtain ⟨w, f382⟩ := u377
      obtain ⟨hw378, hO⟩ := hw378
      obtain rfl : v379 = none := hw378
      have hO : OKP G h0 a (upd (upd (upd (upd (upd (upd (upd (upd (upd (upd F 2 (nI sz)) 5 (nI cs364)) 6 (nI rg333)) 7 (nI hd331)) 8 (nI dp332)) 12 (nI vr330)) 13 as327) 14 wt328) 15 wf329) 16 ls334) (updR (updR (updR R 2 (.ref pq)) 3 (.ref mq)) 4 (.ref q219)) Z (updA (updA (updA (updA B325 16 f365) 17 f382) 18 f367) 19 f368) J K324 w := hO.to rfl
      refine W.widen (k := ((1 + (rE (g 2 q4) - rS (g 2 q4))) + (rE (g 2 z3) - rS (g 2 z3)))) (n := ((6 + (6 * (rE (g 2 q4) - rS (g 2 q4)))) + (6 * (rE (g 2 z3) - rS (g 2 z3))))) (by show ((1 + (rE (g 2 q4) - rS (g 2 q4))) + (rE (g 2 z3) - rS (g 2 z3))) + 0 ≤ ((1 + (rE (g 2 q4) - rS (g 2 q4))) + (rE (g 2 z3) - rS (g 2 z3))); omega) (by show ((6 + (6 * (rE (g 2 q4) - rS (g 2 q4)))) + (6 * (rE (g 2 z3) - rS (g 2 z3)))) + 0 ≤ ((6 + (6 * (rE (g 2 q4) - rS (g 2 q4)))) + (6 * (rE (g 2 z3) - rS (g 2 z3)))); omega) ?_
      refine W.eq (g2 := F0 m 181 ls []) rfl ?_
      refine lv_aload_n hx hb dX0_loopStatement_181 rfl (lv_at hl 5 rfl) ?_
      refine lv_iload hx hb dX0_loopStatement_182 (lv_at hl 0 rfl) ?_
      refine lv_aload_n hx hb dX0_loopStatement_184 rfl (lv_at hl 5 rfl) ?_
      refine c_get (v := .ref q219) (C := RX0) (Tc := TX0) (N := 13) (ci := 0) hx hb hq pin_wsX00 hown hE hP hO 24 (sg_24 G h0 a _ _ _ _ _) rfl 11 (by decide) (hq _ pw_73) (fun _ h9 => h9) rfl dX0_loopStatement_185 ?_
      refine p_get (v := .int (K324.2.1 29 q219)) (C := RX4) (Tc := TX4) (N := 6) (ci := 11) hx hb hq pin_wsX40 hown hE hP hO (by rw [hf354]; decide) (rep_9 hf354) rfl 4 (by decide) (hq _ pw_283) (fun _ h9 => h9) rfl dX0_loopStatement_188 ?_
      refine lv_iand hx hb dX0_loopStatement_191 ?_
      refine lv_topi (fun x383 e384 => ?_)
      refine c_put (v := .int x383) (ty := .int) (C := RX0) (Tc := TX0) (N := 13) (ci := 0) hx hb hq pin_wsX00 tyX0 tyX0_ok nmX0 hown hE hP hD hS hO 24 (sg_24 G h0 a _ _ _ _ _) rfl 8 (by decide) (hq _ pw_55) (fun _ h9 => h9) rfl (by decide +kernel) rfl rfl (Nat.le_of_ble_eq_true rfl) (sf_13 G h0 a _ _ _ _ _ x383) dX0_loopStatement_192 (fun H locs w hP hD hS hO => ?_)
      refine lv_aload_n hx hb dX0_loopStatement_195 rfl (lv_at hl 5 rfl) ?_
      refine lv_aload_n hx hb dX0_loopStatement_196 rfl (lv_at hl 5 rfl) ?_
      refine c_get (v := .ref q219) (C := RX0) (Tc := TX0) (N := 13) (ci := 0) hx hb hq pin_wsX00 hown hE hP hO 24 (sg_24 G h0 a _ _ _ _ _) rfl 11 (by decide) (hq _ pw_73) (fun _ h9 => h9) rfl dX0_loopStatement_197 ?_
      refine p_get (v := va_rf lo) (C := RX4) (Tc := TX4) (N := 6) (ci := 11) hx hb hq pin_wsX40 hown hE hP hO (by rw [hf354]; decide) (rep_9 hf354) rfl 0 (by decide) (hq _ pw_317) (fun _ h9 => h9) (congrArg (fun z => some (va_rf z)) hf355) dX0_loopStatement_200 ?_
      refine c_put (v := va_rf lo) (ty := (.object "JinjaTongue$Loop")) (C := RX0) (Tc := TX0) (N := 13) (ci := 0) hx hb hq pin_wsX00 tyX0 tyX0_ok nmX0 hown hE hP hD hS hO 24 (sg_24 G h0 a _ _ _ _ _) rfl 11 (by decide) (hq _ pw_73) (fun _ h9 => h9) rfl (by decide +kernel) (by cases lo <;> first | rfl | exact Nat.le_of_ble_eq_true rfl) (by cases lo <;> first | rfl | exact Nat.le_of_ble_eq_true rfl) (by cases lo <;> first | rfl | exact Nat.le_of_ble_eq_true rfl) (sr_4 G h0 a _ _ _ _ _ (va_rf lo)) dX0_loopStatement_203 (fun H locs w hP hD hS hO => ?_)
      refine lv_aload_n hx hb dX0_loopStatement_206 rfl (lv_at hl 5 rfl) ?_
      refine lv_iload_n hx hb dX0_loopStatement_207 rfl (lv_at hl 4 rfl) ?_
      refine lv_iload_n hx hb dX0_loopStatement_208 rfl (lv_at hl 3 rfl) ?_
      have hO : OKW G h0 a (upd (upd (upd (upd (upd (upd (upd (upd (upd (upd F 2 (nI sz)) 5 (nI cs364)) 6 (nI rg333)) 7 (nI hd331)) 8 (nI dp332)) 12 (nI vr330)) 13 x383) 14 wt328) 15 wf329) 16 ls334) (updR (updR (updR R 2 (.ref pq)) 3 (.ref mq)) 4 (va_rf lo)) Z (updA (updA (updA (updA B325 16 f365) 17 f382) 18 f367) 19 f368) J K324.1 (fun q99 x99 => x99 = rep G a K324 q99) w := hO.to rfl
      obtain ⟨_, qr388, hqr389⟩ := hO.2.1 24 _ (sg_24 G h0 a _ _ _ _ _)
      refine pc_V0 (G := G) (As := [.int (nI vr), .int (nI hd)]) (rest := []) hx hb hml hown hq hE hX pX0_al hP hD hS hA hl.1 (B_endScope l G h0 a (upd (upd (upd (upd (upd (upd (upd (upd (upd (upd F 2 (nI sz)) 5 (nI cs364)) 6 (nI rg333)) 7 (nI hd331)) 8 (nI dp332)) 12 (nI vr330)) 13 x383) 14 wt328) 15 wf329) 16 ls334) (updR (updR (updR R 2 (.ref pq)) 3 (.ref mq)) 4 (va_rf lo)) Z (updA (updA (updA (updA B325 16 f365) 17 f382) 18 f367) 19 f368) J K324.1 (fun q99 x99 => x99 = rep G a K324 q99) w (nI vr) (nI hd) hO) (gV pw_303 pw_304 pw_305 pw_63 pw_99) hV_X0_endScope qr388 0 hqr389 rfl rfl rfl (Nat.le_of_ble_eq_true rfl) dX0_loopStatement_209 ⟨(by show ((1 + (rE (g 2 q4) - rS (g 2 q4))) + (rE (g 2 z3) - rS (g 2 z3))) + 0 ≤ ((rE (g 2 q) - rS (g 2 q)) + 1); omega), (by show ((6 + (6 * (rE (g 2 q4) - rS (g 2 q4)))) + (6 * (rE (g 2 z3) - rS (g 2 z3)))) + 0 ≤ (6 * (rE (g 2 q) - rS (g 2 q)) + 6); omega)⟩ ⟨(by show 2 + 1 ≤ (5 * n + 46); omega), (by show 8 + (3 + 11) + 60 ≤ (200 * n + 1120); omega)⟩ (fun v387 u385 H locs hw386 hP hD hS => ?_)
      obtain ⟨w, _⟩ := u385
      obtain ⟨hw386, hO⟩ := hw386
      obtain rfl : v387 = none := hw386
      have hO : OKP G h0 a (upd (upd (upd (upd (upd (upd (upd (upd (upd (upd F 2 (nI sz)) 5 (nI cs364)) 6 (nI rg333)) 7 (nI hd)) 8 (nI dp332)) 12 (nI vr)) 13 x383) 14 wt328) 15 wf329) 16 ls334) (updR (updR (updR R 2 (.ref pq)) 3 (.ref mq)) 4 (va_rf lo)) Z (updA (updA (updA (updA B325 16 f365) 17 f382) 18 f367) 19 f368) J K324 w := hO.to rfl
      refine W.widen (k := ((1 + (rE (g 2 q4) - rS (g 2 q4))) + (rE (g 2 z3) - rS (g 2 z3)))) (n := ((6 + (6 * (rE (g 2 q4) - rS (g 2 q4)))) + (6 * (rE (g 2 z3) - rS (g 2 z3))))) (by show ((1 + (rE (g 2 q4) - rS (g 2 q4))) + (rE (g 2 z3) - rS (g 2 z3))) + 0 ≤ ((1 + (rE (g 2 q4) - rS (g 2 q4))) + (rE (g 2 z3) - rS (g 2 z3))); omega) (by show ((6 + (6 * (rE (g 2 q4) - rS (g 2 q4)))) + (6 * (rE (g 2 z3) - rS (g 2 z3)))) + 0 ≤ ((6 + (6 * (rE (g 2 q4) - rS (g 2 q4)))) + (6 * (rE (g 2 z3) - rS (g 2 z3)))); omega) ?_
      refine W.eq (g2 := F0 m 212 ls []) rfl ?_
      refine W_size (fun hz1 hz2 => ?_)
      refine vx_ret ?_
      have hz390 : BdE K K324 := hbe356
      have hz391 : Bth B (updA (updA (updA (updA B325 16 f365) 17 f382) 18 f367) 19 f368) := (show Thx (upd (upd (upd (upd (upd (upd (upd F 2 (nI sz)) 5 (nI cs)) 6 (nI rg)) 7 (nI hd)) 8 (nI dp)) 12 (nI vr)) 16 ls9) (upd (upd (upd (upd (upd (upd (upd (upd (upd (upd (upd (upd (upd (upd F 2 (nI sz)) 5 (nI cs)) 6 (nI rg)) 7 (nI hd)) 8 (nI dp)) 12 (nI vr)) 16 ls9) 5 (nI cs364)) 6 (nI rg333)) 8 (nI dp332)) 13 x383) 14 wt328) 15 wf329) 16 ls334) B (updA (updA (updA (updA B325 16 f365) 17 f382) 18 f367) 19 f368) from (Thx.b (Thx.b8 (Thx.b (Thx.b (Thx.f (Thx.f (Thx.f (Thx.f (Thx.f (Thx.f (Thx.f (Bth.thx hbb357) (by omega)) (by omega)) (by omega)) (by omega)) (by omega)) (by omega)) (by omega)) (by omega) (by decide)) (by omega) (by decide)) h370) (by omega) (by decide))).2
      have hz392 : cs364 ≤ 10000 ∧ rg333 ≤ 625 ∧ dp332 ≤ 1000 := (by omega)
      have hz393 : vr ≤ vr ∧ vr ≤ 30 ∧ hd + vr = hd + vr := (by omega)
      have hO : OKP G h0 a (upd (upd (upd (upd (upd (upd (upd (upd (upd (upd F 2 (nI sz)) 5 (nI cs364)) 6 (nI rg333)) 7 (nI hd)) 8 (nI dp332)) 12 (nI vr)) 13 x383) 14 wt328) 15 wf329) 16 ls334) (updR (updR (updR R 2 (.ref pq)) 3 (.ref mq)) 4 (va_rf lo)) Z (updA (updA (updA (updA B325 16 f365) 17 f382) 18 f367) 19 f368) J K324 w := hO.to rfl
      refine W.widen (k := ((rE (g 2 q) - rS (g 2 q)) + 1)) (n := (6 * (rE (g 2 q) - rS (g 2 q)) + 6)) (by omega) (by omega) ?_
      have hzz1 : H.size ≤ s.heap.size + ((rE (g 2 q) - rS (g 2 q))) := (by have z : ((1 + (rE (g 2 q4) - rS (g 2 q4))) + (rE (g 2 z3) - rS (g 2 z3))) ≤ (rE (g 2 q) - rS (g 2 q)) := (by omega); omega)
      have hzz2 : hSl H ≤ hSl s.heap + ((6 * (rE (g 2 q) - rS (g 2 q)))) := (by have z : ((6 + (6 * (rE (g 2 q4) - rS (g 2 q4)))) + (6 * (rE (g 2 z3) - rS (g 2 z3)))) ≤ (6 * (rE (g 2 q) - rS (g 2 q))) := (by omega); omega)
      exact W.vret hx hb hr (fun t99 ht99 hW99 => ⟨⟨_, (w, (K324, (updA (updA (updA (updA B325 16 f365) 17 f382) 18 f367) 19 f368), cs364, x383, wt328, wf329, vr, hd, dp332, rg333, ls334)), rfl, ⟨rfl, hz390, hz391, hz392, hz393, hO⟩, by rw [ht99]; exact hP, hD, by rw [ht99]; exact hzz1, by rw [ht99]; exact hzz2⟩, hS.F ht99⟩) hS.2.2 dX0_loopStatement_212
  · skip
    have hcz0 := hnd.2.1 0 z1 (by decide) hos0
    have hcT0 := hcz0.1
    have hcv0 : 1 ≤ g 0 z1 ∧ g 0 z1 + 1 ≤ n := ⟨hcz0.2.1, (by have z := hcz0.2.2.1; omega)⟩
    have hri0 := NdO.iv26a hnd hkd hos0
    have hrx0 := (hwp.1 z1 hcT0 hcz0.2.1).it
    refine lv_aload_n hx hb dX0_loopStatement_0 rfl (lv_at hl 0 rfl) ?_
    rcases hos2 : K.2.2.1 2 q with _ | z3
    · skip
      refine c_get (v := .int (nI vr)) (C := RX0) (Tc := TX0) (N := 13) (ci := 0) hx hb hq pin_wsX00 hown hE hP hO 24 (sg_24 G h0 a _ _ _ _ _) rfl 5 (by decide) (hq _ pw_42) (fun _ h9 => h9) rfl dX0_loopStatement_1 ?_
      refine lv_istore_n (lv' := [(2, .int (nI vr)), (0, .ref (a 4)), (1, .ref q)]) hx hb dX0_loopStatement_4 rfl hl (by decide) rfl (fun ls hl => ?_)
      refine lv_aload_n hx hb dX0_loopStatement_5 rfl (lv_at hl 1 rfl) ?_
      refine c_get (v := .ref (a 2)) (C := RX0) (Tc := TX0) (N := 13) (ci := 0) hx hb hq pin_wsX00 hown hE hP hO 24 (sg_24 G h0 a _ _ _ _ _) rfl 1 (by decide) (hq _ pw_5) (fun _ h9 => h9) rfl dX0_loopStatement_6 ?_
      refine c_get (v := .int (nI hd)) (C := RX1) (Tc := TX1) (N := 13) (ci := 1) hx hb hq pin_wsX10 hown hE hP hO 13 (sg_13 G h0 a _ _ _ _ _) rfl 11 (by decide) (hq _ pw_54) (fun _ h9 => h9) rfl dX0_loopStatement_9 ?_
      refine lv_istore_n (lv' := [(3, .int (nI hd)), (2, .int (nI vr)), (0, .ref (a 4)), (1, .ref q)]) hx hb dX0_loopStatement_12 rfl hl (by decide) rfl (fun ls hl => ?_)
      refine lv_aload_n hx hb dX0_loopStatement_13 rfl (lv_at hl 3 rfl) ?_
      refine p_get (v := .ref z1) (C := RX7) (Tc := TX7) (N := 11) (ci := 13) hx hb hq pin_wsX70 hown hE hP hO (by rw [hqT]; decide) (rep_1 hqT) rfl 6 (by decide) (hq _ pw_180) (fun _ h9 => h9) (congrArg (fun z => some (va_rf z)) hos0) dX0_loopStatement_14 ?_
      refine lv_ifnull hx hb dX0_loopStatement_17 ?_
      refine lv_aload_n hx hb dX0_loopStatement_20 rfl (lv_at hl 2 rfl) ?_
      refine lv_aload_n hx hb dX0_loopStatement_21 rfl (lv_at hl 3 rfl) ?_
      refine p_get (v := .ref z1) (C := RX7) (Tc := TX7) (N := 11) (ci := 13) hx hb hq pin_wsX70 hown hE hP hO (by rw [hqT]; decide) (rep_1 hqT) rfl 6 (by decide) (hq _ pw_180) (fun _ h9 => h9) (congrArg (fun z => some (va_rf z)) hos0) dX0_loopStatement_22 ?_
      refine lv_iconst (v := 0) hx hb dX0_loopStatement_25 (by decide) ?_
      have hO : OKP G h0 a (upd (upd (upd (upd (upd (upd (upd (upd (upd (upd (upd (upd (upd (upd F 2 (nI sz)) 5 (nI cs)) 6 (nI rg)) 7 (nI hd)) 8 (nI dp)) 12 (nI vr)) 16 ls9) 2 (nI sz)) 5 (nI cs)) 6 (nI rg)) 7 (nI hd)) 8 (nI dp)) 12 (nI vr)) 16 ls9) (updR (updR (updR (updR (updR (updR R 2 (.ref pq)) 3 (.ref mq)) 4 (va_rf lo)) 2 (.ref pq)) 3 (.ref mq)) 4 (va_rf lo)) Z B J K w := hO.to rfl
      obtain ⟨_, qr397, hqr398⟩ := hO.2.1 24 _ (sg_24 G h0 a _ _ _ _ _)
      refine pn_V0 (G := G) (As := [.ref z1, .int (nI 0)]) (rest := []) hx hb hml hown hq hE hX pX0_al hP hD hS hA hl.1 ((ist (n - 1) (by omega)) h0 a (upd (upd (upd (upd (upd (upd (upd F 2 (nI sz)) 5 (nI cs)) 6 (nI rg)) 7 (nI hd)) 8 (nI dp)) 12 (nI vr)) 16 ls9) (updR (updR (updR R 2 (.ref pq)) 3 (.ref mq)) 4 (va_rf lo)) Z B J K w pq dr ml nd nm cp it s9 z1 mq cs vr sz 0 hd dp rg ls9 lo g rk (by omega) (BdE.wp BdE.rfl hwp) (BdE.pt BdE.rfl hwp hps) (BdE.rko BdE.rfl hrk) (by omega) (by omega) hng hmq hcT0 ⟨hcv0.1, (by have z9 := hcv0; omega)⟩ (by omega) (by omega) (by omega) (LpO.be BdE.rfl hlo) (by omega) hO hl0) (gV pw_300 pw_301 pw_302 pw_63 pw_323) hV_X0_statement qr397 0 hqr398 rfl rfl rfl (Nat.le_of_ble_eq_true rfl) dX0_loopStatement_26 ⟨(by show 0 + ((rE (g 2 z1) - rS (g 2 z1)) + 1) ≤ ((rE (g 2 q) - rS (g 2 q)) + 1); omega), (by show 0 + (6 * (rE (g 2 z1) - rS (g 2 z1)) + 6) ≤ (6 * (rE (g 2 q) - rS (g 2 q)) + 6); omega)⟩ ⟨(by show (5 * (n - 1) + 50) + 1 ≤ (5 * n + 46); omega), (by show 8 + (3 + 11) + (200 * (n - 1) + 1200) ≤ (200 * n + 1120); omega)⟩ (fun v396 u394 H locs hw395 hP hD hS => ?_) (fun ux ce9 q9 H9 locs9 hux hP9 hD9 hS9 hce hcv hcl => pb_out ux (ThQ.up (Thx.same (Thx.same (Thx.same (Thx.same (Thx.same (Thx.same (Thx.same Thx.rfl rfl) rfl) rfl) rfl) rfl) rfl) rfl) (show RhX (updR (updR (updR R 2 (.ref pq)) 3 (.ref mq)) 4 (va_rf lo)) (updR (updR (updR (updR (updR (updR R 2 (.ref pq)) 3 (.ref mq)) 4 (va_rf lo)) 2 (.ref pq)) 3 (.ref mq)) 4 (va_rf lo)) from fun k9 hk9 => by unfold updR; simp only [show ¬ k9 = 1 by omega, show ¬ k9 = 2 by omega, show ¬ k9 = 3 by omega, show ¬ k9 = 4 by omega, if_false]) hux) hnt hlocks hce hcv hcl hP9 hD9 hS9 (by show 0 + ((rE (g 2 z1) - rS (g 2 z1)) + 1) ≤ ((rE (g 2 q) - rS (g 2 q)) + 1); omega) (by show 0 + (6 * (rE (g 2 z1) - rS (g 2 z1)) + 6) ≤ (6 * (rE (g 2 q) - rS (g 2 q)) + 6); omega))
      obtain ⟨w, K399, B400, cs401, as402, wt403, wf404, vr405, hd406, dp407, rg408, ls409⟩ := u394
      obtain ⟨hw395, h410, h411, h412, h413, hO⟩ := hw395
      have h410 : BdE K K399 := h410
      have h411 : Bth B B400 := h411
      have h412 : cs401 ≤ 10000 ∧ rg408 ≤ 625 ∧ dp407 ≤ 1000 := h412
      have h413 : vr ≤ vr405 ∧ vr405 ≤ 30 ∧ hd406 + vr = hd + vr405 := h413
      obtain rfl : v396 = none := hw395
      have hf414 : K399.1 pq = 7 := (BdE.T h410 hp1 (by decide))
      have hf415 : K399.2.2.1 18 pq = some (a 1) := (BdE.C h410 (by rw [hp1]; decide) 18).trans hp2
      have hf416 : K399.2.2.1 14 pq = some dr := (BdE.C h410 (by rw [hp1]; decide) 14).trans hp3
      have hf417 : K399.1 dr = 8 := (BdE.T h410 hp4 (by decide))
      have hf418 : K399.2.2.1 15 pq = some ml := (BdE.C h410 (by rw [hp1]; decide) 15).trans hp5
      have hf419 : K399.1 ml = 5 := (BdE.T h410 hp6 (by decide))
      have hf420 : K399.2.1 24 pq = (nI nd) := (BdE.I h410 (by rw [hp1]; decide) (by decide) (by decide)).trans hp8
      have hf421 : K399.1 q = 1 := (BdE.T h410 hqT (by decide))
      have hf422 : K399.1 mq = 3 := (BdE.T h410 hmq (by decide))
      have hf423 : K399.2.2.1 3 q = some q4 := (BdE.C h410 (by rw [hqT]; decide) 3).trans hc3
      have hf424 : K399.1 q4 = 1 := (BdE.T h410 ht3 (by decide))
      have hf425 : K399.2.2.1 1 q = ob := (BdE.C h410 (by rw [hqT]; decide) 1).trans hob
      have hf426 : K399.2.2.1 0 q = some z1 := (BdE.C h410 (by rw [hqT]; decide) 0).trans hos0
      have hf427 : K399.1 z1 = 1 := (BdE.T h410 hcT0 (by decide))
      have hf428 : K399.2.2.1 2 q = none := (BdE.C h410 (by rw [hqT]; decide) 2).trans hos2
      have hO : OKP G h0 a (upd (upd (upd (upd (upd (upd (upd (upd (upd (upd F 2 (nI sz)) 5 (nI cs401)) 6 (nI rg408)) 7 (nI hd406)) 8 (nI dp407)) 12 (nI vr405)) 13 as402) 14 wt403) 15 wf404) 16 ls409) (updR (updR (updR R 2 (.ref pq)) 3 (.ref mq)) 4 (va_rf lo)) Z B400 J K399 w := hO.to rfl
      refine W.widen (k := (rE (g 2 z1) - rS (g 2 z1))) (n := (6 * (rE (g 2 z1) - rS (g 2 z1)))) (by show 0 + (rE (g 2 z1) - rS (g 2 z1)) ≤ (rE (g 2 z1) - rS (g 2 z1)); omega) (by show 0 + (6 * (rE (g 2 z1) - rS (g 2 z1))) ≤ (6 * (rE (g 2 z1) - rS (g 2 z1))); omega) ?_
      refine W.eq (g2 := F0 m 29 ls []) rfl ?_
      have hbe429 := BdE.trans BdE.rfl h410
      have hbb430 : Bth B B400 := Bth.trans (show Thx (upd (upd (upd (upd (upd (upd (upd F 2 (nI sz)) 5 (nI cs)) 6 (nI rg)) 7 (nI hd)) 8 (nI dp)) 12 (nI vr)) 16 ls9) (upd (upd (upd (upd (upd (upd (upd F 2 (nI sz)) 5 (nI cs)) 6 (nI rg)) 7 (nI hd)) 8 (nI dp)) 12 (nI vr)) 16 ls9) B B from Thx.rfl).2 h411
      have hng431 : Nng (B400 18) := h411.2 hng
      refine lv_aload_n hx hb dX0_loopStatement_29 rfl (lv_at hl 2 rfl) ?_
      refine c_get (v := .ref (a 2)) (C := RX0) (Tc := TX0) (N := 13) (ci := 0) hx hb hq pin_wsX00 hown hE hP hO 24 (sg_24 G h0 a _ _ _ _ _) rfl 1 (by decide) (hq _ pw_5) (fun _ h9 => h9) rfl dX0_loopStatement_30 ?_
      refine c_get (v := .int (nI cs401)) (C := RX1) (Tc := TX1) (N := 13) (ci := 1) hx hb hq pin_wsX10 hown hE hP hO 13 (sg_13 G h0 a _ _ _ _ _) rfl 4 (by decide) (hq _ pw_75) (fun _ h9 => h9) rfl dX0_loopStatement_33 ?_
      refine lv_istore (lv' := [(4, .int (nI cs401)), (3, .int (nI hd)), (2, .int (nI vr)), (0, .ref (a 4)), (1, .ref q)]) hx hb dX0_loopStatement_36 hl (by decide) rfl (fun ls hl => ?_)
      refine lv_aload_n hx hb dX0_loopStatement_38 rfl (lv_at hl 3 rfl) ?_
      refine c_get (v := .ref (a 2)) (C := RX0) (Tc := TX0) (N := 13) (ci := 0) hx hb hq pin_wsX00 hown hE hP hO 24 (sg_24 G h0 a _ _ _ _ _) rfl 1 (by decide) (hq _ pw_5) (fun _ h9 => h9) rfl dX0_loopStatement_39 ?_
      refine lv_iconst (v := 0) hx hb dX0_loopStatement_42 (by decide) ?_
      refine lv_iconst (v := 0) hx hb dX0_loopStatement_43 (by decide) ?_
      refine lv_iconst (v := 0) hx hb dX0_loopStatement_44 (by decide) ?_
      have hO : OKW G h0 a (upd (upd (upd (upd (upd (upd (upd (upd (upd (upd (upd F 2 (nI sz)) 5 (nI cs401)) 6 (nI rg408)) 7 (nI hd406)) 8 (nI dp407)) 12 (nI vr405)) 13 as402) 14 wt403) 15 wf404) 16 ls409) 5 (nI cs401)) (updR (updR (updR R 2 (.ref pq)) 3 (.ref mq)) 4 (va_rf lo)) Z B400 J K399.1 (fun q99 x99 => x99 = rep G a K399 q99) w := hO.to rfl
      obtain ⟨_, qr435, hqr436⟩ := hO.2.1 13 _ (sg_13 G h0 a _ _ _ _ _)
      refine pc_V0 (G := G) (As := [.int 0, .int 0, .int (nI 0)]) (rest := []) hx hb hml hown hq hE hX pX0_al hP hD hS hA hl.1 (K_emit l G h0 a (upd (upd (upd (upd (upd (upd (upd (upd (upd (upd F 2 (nI sz)) 5 (nI cs401)) 6 (nI rg408)) 7 (nI hd406)) 8 (nI dp407)) 12 (nI vr405)) 13 as402) 14 wt403) 15 wf404) 16 ls409) (updR (updR (updR R 2 (.ref pq)) 3 (.ref mq)) 4 (va_rf lo)) Z B400 J K399.1 (fun q99 x99 => x99 = rep G a K399 q99) w 0 0 0 cs401 (by omega) (by omega) hng431 hO) (gV pw_129 pw_130 pw_131 pw_70 pw_115) hV_X1_emit qr435 1 hqr436 rfl rfl rfl (Nat.le_of_ble_eq_true rfl) dX0_loopStatement_45 ⟨(by show (rE (g 2 z1) - rS (g 2 z1)) + 0 ≤ ((rE (g 2 q) - rS (g 2 q)) + 1); omega), (by show (6 * (rE (g 2 z1) - rS (g 2 z1))) + 0 ≤ (6 * (rE (g 2 q) - rS (g 2 q)) + 6); omega)⟩ ⟨(by show 2 + 1 ≤ (5 * n + 46); omega), (by show 8 + (4 + 11) + 60 ≤ (200 * n + 1120); omega)⟩ (fun v434 u432 H locs hw433 hP hD hS => ?_)
      obtain ⟨w, cs437, f438, f439, f440, f441⟩ := u432
      obtain ⟨hw433, h442, h443, hO⟩ := hw433
      have h442 : cs401 ≤ cs437 ∧ cs437 ≤ cs401 + 1 ∧ cs437 ≤ 10000 := h442
      have h443 : Nng f440 := h443
      obtain rfl : v434 = none := hw433
      have hO : OKP G h0 a (upd (upd (upd (upd (upd (upd (upd (upd (upd (upd F 2 (nI sz)) 5 (nI cs437)) 6 (nI rg408)) 7 (nI hd406)) 8 (nI dp407)) 12 (nI vr405)) 13 as402) 14 wt403) 15 wf404) 16 ls409) (updR (updR (updR R 2 (.ref pq)) 3 (.ref mq)) 4 (va_rf lo)) Z (updA (updA (updA (updA B400 16 f438) 17 f439) 18 f440) 19 f441) J K399 w := hO.to rfl
      refine W.widen (k := (rE (g 2 z1) - rS (g 2 z1))) (n := (6 * (rE (g 2 z1) - rS (g 2 z1)))) (by show (rE (g 2 z1) - rS (g 2 z1)) + 0 ≤ (rE (g 2 z1) - rS (g 2 z1)); omega) (by show (6 * (rE (g 2 z1) - rS (g 2 z1))) + 0 ≤ (6 * (rE (g 2 z1) - rS (g 2 z1))); omega) ?_
      refine W.eq (g2 := F0 m 48 ls []) rfl ?_
      refine lv_aload_n hx hb dX0_loopStatement_48 rfl (lv_at hl 3 rfl) ?_
      refine lv_aload_n hx hb dX0_loopStatement_49 rfl (lv_at hl 4 rfl) ?_
      refine p_get (v := va_rf ob) (C := RX7) (Tc := TX7) (N := 11) (ci := 13) hx hb hq pin_wsX70 hown hE hP hO (by rw [hf421]; decide) (rep_1 hf421) rfl 7 (by decide) (hq _ pw_169) (fun _ h9 => h9) (congrArg (fun z => some (va_rf z)) hf425) dX0_loopStatement_50 ?_
      have hO : OKP G h0 a (upd (upd (upd (upd (upd (upd (upd (upd (upd (upd (upd (upd (upd (upd (upd (upd (upd (upd (upd F 2 (nI sz)) 5 (nI cs)) 6 (nI rg)) 7 (nI hd)) 8 (nI dp)) 12 (nI vr)) 16 ls9) 5 (nI cs437)) 6 (nI rg408)) 7 (nI hd406)) 8 (nI dp407)) 12 (nI vr405)) 13 as402) 14 wt403) 15 wf404) 16 ls409) 2 (nI sz)) 5 (nI cs437)) 12 (nI vr405)) (updR (updR (updR (updR (updR R 2 (.ref pq)) 3 (.ref mq)) 4 (va_rf lo)) 2 (.ref pq)) 3 (.ref mq)) Z (updA (updA (updA (updA B400 16 f438) 17 f439) 18 f440) 19 f441) J K399 w := hO.to rfl
      obtain ⟨_, qr447, hqr448⟩ := hO.2.1 24 _ (sg_24 G h0 a _ _ _ _ _)
      refine pn_V0 (G := G) (As := [va_rf ob]) (rest := []) hx hb hml hown hq hE hX pX0_al hP hD hS hA hl.1 (B_loopCondO l G h0 a (upd (upd (upd (upd (upd (upd (upd (upd (upd (upd (upd (upd (upd (upd (upd (upd F 2 (nI sz)) 5 (nI cs)) 6 (nI rg)) 7 (nI hd)) 8 (nI dp)) 12 (nI vr)) 16 ls9) 5 (nI cs437)) 6 (nI rg408)) 7 (nI hd406)) 8 (nI dp407)) 12 (nI vr405)) 13 as402) 14 wt403) 15 wf404) 16 ls409) (updR (updR (updR R 2 (.ref pq)) 3 (.ref mq)) 4 (va_rf lo)) Z (updA (updA (updA (updA B400 16 f438) 17 f439) 18 f440) 19 f441) J K399 w pq dr ml nd nm cp it s9 q mq cs437 vr405 sz n ob g rk (by omega) (BdE.wp hbe429 hwp) (BdE.pt hbe429 hwp hps) (BdE.rko hbe429 hrk) (by omega) (by omega) h443 hf422 hf421 hqL (KvO.of ((BdE.wp hbe429 hwp).1 q hf421 hqL.1) (by decide) hf425 hqL.2) (PV_all l G n) hO hl0) (gV pw_318 pw_319 pw_320 pw_63 pw_271) hV_X0_loopCondition qr447 0 hqr448 rfl rfl rfl (Nat.le_of_ble_eq_true rfl) dX0_loopStatement_53 ⟨(by show (rE (g 2 z1) - rS (g 2 z1)) + 1 ≤ ((rE (g 2 q) - rS (g 2 q)) + 1); omega), (by show (6 * (rE (g 2 z1) - rS (g 2 z1))) + 6 ≤ (6 * (rE (g 2 q) - rS (g 2 q)) + 6); omega)⟩ ⟨(by show (5 * n + 35) + 1 ≤ (5 * n + 46); omega), (by show 8 + (2 + 11) + (200 * n + 640) ≤ (200 * n + 1120); omega)⟩ (fun v446 u444 H locs hw445 hP hD hS => ?_) (fun ux ce9 q9 H9 locs9 hux hP9 hD9 hS9 hce hcv hcl => pb_out ux (ThQ.up (Thx.same (Thx.same (Thx.same (Thx.b (Thx.b8 (Thx.b (Thx.b (Thx.f (Thx.f (Thx.f (Thx.f (Thx.f (Thx.f (Thx.f (Thx.f (Thx.f (Bth.thx hbb430) (by omega)) (by omega)) (by omega)) (by omega)) (by omega)) (by omega)) (by omega)) (by omega)) (by omega)) (by omega) (by decide)) (by omega) (by decide)) h443) (by omega) (by decide)) rfl) rfl) rfl) (show RhX (updR (updR (updR R 2 (.ref pq)) 3 (.ref mq)) 4 (va_rf lo)) (updR (updR (updR (updR (updR R 2 (.ref pq)) 3 (.ref mq)) 4 (va_rf lo)) 2 (.ref pq)) 3 (.ref mq)) from fun k9 hk9 => by unfold updR; simp only [show ¬ k9 = 1 by omega, show ¬ k9 = 2 by omega, show ¬ k9 = 3 by omega, show ¬ k9 = 4 by omega, if_false]) hux) hnt hlocks hce hcv hcl hP9 hD9 hS9 (by show (rE (g 2 z1) - rS (g 2 z1)) + 1 ≤ ((rE (g 2 q) - rS (g 2 q)) + 1); omega) (by show (6 * (rE (g 2 z1) - rS (g 2 z1))) + 6 ≤ (6 * (rE (g 2 q) - rS (g 2 q)) + 6); omega))
      obtain ⟨w, K449, B450, cs451, as452, wt453, wf454, r455⟩ := u444
      obtain ⟨hw445, h456, h457, h458, hO⟩ := hw445
      have h456 : BdE K399 K449 := h456
      have h457 : Bth (updA (updA (updA (updA B400 16 f438) 17 f439) 18 f440) 19 f441) B450 := h457
      have h458 : cs451 ≤ 10000 := h458
      obtain rfl : v446 = some (.int r455) := hw445
      have hf459 : K449.1 pq = 7 := (BdE.T h456 hf414 (by decide))
      have hf460 : K449.2.2.1 18 pq = some (a 1) := (BdE.C h456 (by rw [hf414]; decide) 18).trans hf415
      have hf461 : K449.2.2.1 14 pq = some dr := (BdE.C h456 (by rw [hf414]; decide) 14).trans hf416
      have hf462 : K449.1 dr = 8 := (BdE.T h456 hf417 (by decide))
      have hf463 : K449.2.2.1 15 pq = some ml := (BdE.C h456 (by rw [hf414]; decide) 15).trans hf418
      have hf464 : K449.1 ml = 5 := (BdE.T h456 hf419 (by decide))
      have hf465 : K449.2.1 24 pq = (nI nd) := (BdE.I h456 (by rw [hf414]; decide) (by decide) (by decide)).trans hf420
      have hf466 : K449.1 q = 1 := (BdE.T h456 hf421 (by decide))
      have hf467 : K449.1 mq = 3 := (BdE.T h456 hf422 (by decide))
      have hf468 : K449.2.2.1 3 q = some q4 := (BdE.C h456 (by rw [hf421]; decide) 3).trans hf423
      have hf469 : K449.1 q4 = 1 := (BdE.T h456 hf424 (by decide))
      have hf470 : K449.2.2.1 1 q = ob := (BdE.C h456 (by rw [hf421]; decide) 1).trans hf425
      have hf471 : K449.2.2.1 0 q = some z1 := (BdE.C h456 (by rw [hf421]; decide) 0).trans hf426
      have hf472 : K449.1 z1 = 1 := (BdE.T h456 hf427 (by decide))
      have hf473 : K449.2.2.1 2 q = none := (BdE.C h456 (by rw [hf421]; decide) 2).trans hf428
      have hO : OKP G h0 a (upd (upd (upd (upd (upd (upd (upd (upd (upd (upd F 2 (nI sz)) 5 (nI cs451)) 6 (nI rg408)) 7 (nI hd406)) 8 (nI dp407)) 12 (nI vr405)) 13 as452) 14 wt453) 15 wf454) 16 ls409) (updR (updR (updR R 2 (.ref pq)) 3 (.ref mq)) 4 (va_rf lo)) Z B450 J K449 w := hO.to rfl
      refine W.widen (k := (rE (g 2 z1) - rS (g 2 z1))) (n := (6 * (rE (g 2 z1) - rS (g 2 z1)))) (by show (rE (g 2 z1) - rS (g 2 z1)) + 0 ≤ (rE (g 2 z1) - rS (g 2 z1)); omega) (by show (6 * (rE (g 2 z1) - rS (g 2 z1))) + 0 ≤ (6 * (rE (g 2 z1) - rS (g 2 z1))); omega) ?_
      refine W.eq (g2 := F0 m 56 ls [.int r455]) rfl ?_
      have hbe474 := BdE.trans hbe429 h456
      have hbb475 : Bth B B450 := Bth.trans (show Thx (upd (upd (upd (upd (upd (upd (upd F 2 (nI sz)) 5 (nI cs)) 6 (nI rg)) 7 (nI hd)) 8 (nI dp)) 12 (nI vr)) 16 ls9) (upd (upd (upd (upd (upd (upd (upd (upd (upd (upd (upd (upd (upd (upd (upd (upd F 2 (nI sz)) 5 (nI cs)) 6 (nI rg)) 7 (nI hd)) 8 (nI dp)) 12 (nI vr)) 16 ls9) 5 (nI cs437)) 6 (nI rg408)) 7 (nI hd406)) 8 (nI dp407)) 12 (nI vr405)) 13 as402) 14 wt403) 15 wf404) 16 ls409) B (updA (updA (updA (updA B400 16 f438) 17 f439) 18 f440) 19 f441) from (Thx.b (Thx.b8 (Thx.b (Thx.b (Thx.f (Thx.f (Thx.f (Thx.f (Thx.f (Thx.f (Thx.f (Thx.f (Thx.f (Bth.thx hbb430) (by omega)) (by omega)) (by omega)) (by omega)) (by omega)) (by omega)) (by omega)) (by omega)) (by omega)) (by omega) (by decide)) (by omega) (by decide)) h443) (by omega) (by decide))).2 h457
      have hng476 : Nng (B450 18) := h457.2 h443
      refine lv_istore (lv' := [(5, .int r455), (4, .int (nI cs401)), (3, .int (nI hd)), (2, .int (nI vr)), (0, .ref (a 4)), (1, .ref q)]) hx hb dX0_loopStatement_56 hl (by decide) rfl (fun ls hl => ?_)
      refine lv_aload_n hx hb dX0_loopStatement_58 rfl (lv_at hl 4 rfl) ?_
      refine c_get (v := .int wf454) (C := RX0) (Tc := TX0) (N := 13) (ci := 0) hx hb hq pin_wsX00 hown hE hP hO 24 (sg_24 G h0 a _ _ _ _ _) rfl 10 (by decide) (hq _ pw_157) (fun _ h9 => h9) rfl dX0_loopStatement_59 ?_
      refine lv_istore (lv' := [(6, .int wf454), (5, .int r455), (4, .int (nI cs401)), (3, .int (nI hd)), (2, .int (nI vr)), (0, .ref (a 4)), (1, .ref q)]) hx hb dX0_loopStatement_62 hl (by decide) rfl (fun ls hl => ?_)
      refine lv_aload_n hx hb dX0_loopStatement_64 rfl (lv_at hl 5 rfl) ?_
      refine lv_aload_n hx hb dX0_loopStatement_65 rfl (lv_at hl 5 rfl) ?_
      refine c_get (v := .int wt453) (C := RX0) (Tc := TX0) (N := 13) (ci := 0) hx hb hq pin_wsX00 hown hE hP hO 24 (sg_24 G h0 a _ _ _ _ _) rfl 9 (by decide) (hq _ pw_156) (fun _ h9 => h9) rfl dX0_loopStatement_66 ?_
      refine c_put (v := .int wt453) (ty := .int) (C := RX0) (Tc := TX0) (N := 13) (ci := 0) hx hb hq pin_wsX00 tyX0 tyX0_ok nmX0 hown hE hP hD hS hO 24 (sg_24 G h0 a _ _ _ _ _) rfl 8 (by decide) (hq _ pw_55) (fun _ h9 => h9) rfl (by decide +kernel) rfl rfl (Nat.le_of_ble_eq_true rfl) (sf_13 G h0 a _ _ _ _ _ wt453) dX0_loopStatement_69 (fun H locs w hP hD hS hO => ?_)
      refine lv_aload_n hx hb dX0_loopStatement_72 rfl (lv_at hl 5 rfl) ?_
      refine p_new (s9 := 9) (C := RX4) (T := TX4) (N := 6) (ci := 11) (fs := [.null, .int 0, .int 0, .int 0, .int 0, .int 0]) hx hb hq pin_wsX40 tyX4 tyX4_ok hown (hq _ pw_313) (hq _ pw_314) (hq _ pw_315) hE hP hD hS hA hO rfl nw_X4 (by decide) (fun q => by rw [rep_9 (show (kN K449 q 9 0).1 q = 9 from if_pos rfl)]; unfold fsLoop kN; simp only [if_true]; rfl) (by show (rE (g 2 z1) - rS (g 2 z1)) + 1 ≤ ((rE (g 2 q) - rS (g 2 q)) + 1); omega) (by show (6 * (rE (g 2 z1) - rS (g 2 z1))) + 6 ≤ (6 * (rE (g 2 q) - rS (g 2 q)) + 6); omega) dX0_loopStatement_73 (fun q477 H w hq478 hP hD hS hO => ?_)
      have hf479 : (kN K449 q477 9 0).1 pq = 7 := (if_neg (fun z => by have z2 := hf459; rw [z, hq478] at z2; exact absurd z2 (by decide))).trans hf459
      have hf480 : (kN K449 q477 9 0).2.2.1 18 pq = some (a 1) := (if_neg (fun z => by have z2 := hf459; rw [z, hq478] at z2; exact absurd z2 (by decide))).trans hf460
      have hf481 : (kN K449 q477 9 0).2.2.1 14 pq = some dr := (if_neg (fun z => by have z2 := hf459; rw [z, hq478] at z2; exact absurd z2 (by decide))).trans hf461
      have hf482 : (kN K449 q477 9 0).1 dr = 8 := (if_neg (fun z => by have z2 := hf462; rw [z, hq478] at z2; exact absurd z2 (by decide))).trans hf462
      have hf483 : (kN K449 q477 9 0).2.2.1 15 pq = some ml := (if_neg (fun z => by have z2 := hf459; rw [z, hq478] at z2; exact absurd z2 (by decide))).trans hf463
      have hf484 : (kN K449 q477 9 0).1 ml = 5 := (if_neg (fun z => by have z2 := hf464; rw [z, hq478] at z2; exact absurd z2 (by decide))).trans hf464
      have hf485 : (kN K449 q477 9 0).2.1 24 pq = (nI nd) := (if_neg (fun z => by have z2 := hf459; rw [z, hq478] at z2; exact absurd z2 (by decide))).trans hf465
      have hf486 : (kN K449 q477 9 0).1 q = 1 := (if_neg (fun z => by have z2 := hf466; rw [z, hq478] at z2; exact absurd z2 (by decide))).trans hf466
      have hf487 : (kN K449 q477 9 0).1 mq = 3 := (if_neg (fun z => by have z2 := hf467; rw [z, hq478] at z2; exact absurd z2 (by decide))).trans hf467
      have hf488 : (kN K449 q477 9 0).2.2.1 3 q = some q4 := (if_neg (fun z => by have z2 := hf466; rw [z, hq478] at z2; exact absurd z2 (by decide))).trans hf468
      have hf489 : (kN K449 q477 9 0).1 q4 = 1 := (if_neg (fun z => by have z2 := hf469; rw [z, hq478] at z2; exact absurd z2 (by decide))).trans hf469
      have hf490 : (kN K449 q477 9 0).2.2.1 1 q = ob := (if_neg (fun z => by have z2 := hf466; rw [z, hq478] at z2; exact absurd z2 (by decide))).trans hf470
      have hf491 : (kN K449 q477 9 0).2.2.1 0 q = some z1 := (if_neg (fun z => by have z2 := hf466; rw [z, hq478] at z2; exact absurd z2 (by decide))).trans hf471
      have hf492 : (kN K449 q477 9 0).1 z1 = 1 := (if_neg (fun z => by have z2 := hf472; rw [z, hq478] at z2; exact absurd z2 (by decide))).trans hf472
      have hf493 : (kN K449 q477 9 0).2.2.1 2 q = none := (if_neg (fun z => by have z2 := hf466; rw [z, hq478] at z2; exact absurd z2 (by decide))).trans hf473
      have hf494 : (kN K449 q477 9 0).1 q477 = 9 := if_pos rfl
      refine W.widen (k := ((rE (g 2 z1) - rS (g 2 z1)) + 1)) (n := ((6 * (rE (g 2 z1) - rS (g 2 z1))) + 6)) (by show (rE (g 2 z1) - rS (g 2 z1)) + 1 ≤ ((rE (g 2 z1) - rS (g 2 z1)) + 1); omega) (by show (6 * (rE (g 2 z1) - rS (g 2 z1))) + 6 ≤ ((6 * (rE (g 2 z1) - rS (g 2 z1))) + 6); omega) ?_
      refine lv_dup hx hb dX0_loopStatement_76 rfl ?_
      refine lv_aload_n hx hb dX0_loopStatement_77 rfl (lv_at hl 5 rfl) ?_
      refine c_get (v := va_rf lo) (C := RX0) (Tc := TX0) (N := 13) (ci := 0) hx hb hq pin_wsX00 hown hE hP hO 24 (sg_24 G h0 a _ _ _ _ _) rfl 11 (by decide) (hq _ pw_73) (fun _ h9 => h9) rfl dX0_loopStatement_78 ?_
      refine lv_aload_n hx hb dX0_loopStatement_81 rfl (lv_at hl 5 rfl) ?_
      refine c_get (v := .int ls409) (C := RX0) (Tc := TX0) (N := 13) (ci := 0) hx hb hq pin_wsX00 hown hE hP hO 24 (sg_24 G h0 a _ _ _ _ _) rfl 12 (by decide) (hq _ pw_74) (fun _ h9 => h9) rfl dX0_loopStatement_82 ?_
      have hO : OKP G h0 a (upd (upd (upd (upd (upd (upd (upd (upd (upd (upd F 2 (nI sz)) 5 (nI cs451)) 6 (nI rg408)) 7 (nI hd406)) 8 (nI dp407)) 12 (nI vr405)) 13 wt453) 14 wt453) 15 wf454) 16 ls409) (updR (updR (updR R 2 (.ref pq)) 3 (.ref mq)) 4 (va_rf lo)) Z B450 J (kN K449 q477 9 0) w := hO.to rfl
      obtain ⟨qr498, hqr499⟩ := p_recv hO (by rw [hf494]; decide) (rep_9 hf494)
      refine pc_I0 (G := G) (As := [va_rf lo, .int ls409]) (rest := [.ref q477, .ref (a 4)]) hx hb hml hown hq hE hX pX0_al hP hD hS hA hl.1 (O_initV l G h0 a (upd (upd (upd (upd (upd (upd (upd (upd (upd (upd F 2 (nI sz)) 5 (nI cs451)) 6 (nI rg408)) 7 (nI hd406)) 8 (nI dp407)) 12 (nI vr405)) 13 wt453) 14 wt453) 15 wf454) 16 ls409) (updR (updR (updR R 2 (.ref pq)) 3 (.ref mq)) 4 (va_rf lo)) Z B450 J (kN K449 q477 9 0) w q477 lo ls409 hf494 hO) pw_321 pw_322 pw_315 pw_272 rfl hS_X4_init rfl (Nat.le_of_ble_eq_true rfl) dX0_loopStatement_85 ⟨(by show ((rE (g 2 z1) - rS (g 2 z1)) + 1) + 0 ≤ ((rE (g 2 q) - rS (g 2 q)) + 1); omega), (by show ((6 * (rE (g 2 z1) - rS (g 2 z1))) + 6) + 0 ≤ (6 * (rE (g 2 q) - rS (g 2 q)) + 6); omega)⟩ ⟨(by show 2 + 1 ≤ (5 * n + 46); omega), (by show 8 + (3 + 11) + 60 ≤ (200 * n + 1120); omega)⟩ (fun v497 u495 H locs hw496 hP hD hS => ?_)
      obtain ⟨w, _⟩ := u495
      obtain ⟨hw496, hO⟩ := hw496
      obtain rfl : v497 = none := hw496
      have hf500 : (kI (kI (kI (kI (kI (kC (kN K449 q477 9 0) 16 q477 lo) 26 q477 ls409) 27 q477 (-1)) 28 q477 (-1)) 29 q477 (-1)) 30 q477 (-1)).1 pq = 7 := hf479
      have hf501 : (kI (kI (kI (kI (kI (kC (kN K449 q477 9 0) 16 q477 lo) 26 q477 ls409) 27 q477 (-1)) 28 q477 (-1)) 29 q477 (-1)) 30 q477 (-1)).1 dr = 8 := hf482
      have hf502 : (kI (kI (kI (kI (kI (kC (kN K449 q477 9 0) 16 q477 lo) 26 q477 ls409) 27 q477 (-1)) 28 q477 (-1)) 29 q477 (-1)) 30 q477 (-1)).1 ml = 5 := hf484
      have hf503 : (kI (kI (kI (kI (kI (kC (kN K449 q477 9 0) 16 q477 lo) 26 q477 ls409) 27 q477 (-1)) 28 q477 (-1)) 29 q477 (-1)) 30 q477 (-1)).1 q = 1 := hf486
      have hf504 : (kI (kI (kI (kI (kI (kC (kN K449 q477 9 0) 16 q477 lo) 26 q477 ls409) 27 q477 (-1)) 28 q477 (-1)) 29 q477 (-1)) 30 q477 (-1)).1 mq = 3 := hf487
      have hf505 : (kI (kI (kI (kI (kI (kC (kN K449 q477 9 0) 16 q477 lo) 26 q477 ls409) 27 q477 (-1)) 28 q477 (-1)) 29 q477 (-1)) 30 q477 (-1)).1 q4 = 1 := hf489
      have hf506 : (kI (kI (kI (kI (kI (kC (kN K449 q477 9 0) 16 q477 lo) 26 q477 ls409) 27 q477 (-1)) 28 q477 (-1)) 29 q477 (-1)) 30 q477 (-1)).1 z1 = 1 := hf492
      have hf507 : (kI (kI (kI (kI (kI (kC (kN K449 q477 9 0) 16 q477 lo) 26 q477 ls409) 27 q477 (-1)) 28 q477 (-1)) 29 q477 (-1)) 30 q477 (-1)).1 q477 = 9 := hf494
      have hO : OKP G h0 a (upd (upd (upd (upd (upd (upd (upd (upd (upd (upd F 2 (nI sz)) 5 (nI cs451)) 6 (nI rg408)) 7 (nI hd406)) 8 (nI dp407)) 12 (nI vr405)) 13 wt453) 14 wt453) 15 wf454) 16 ls409) (updR (updR (updR R 2 (.ref pq)) 3 (.ref mq)) 4 (va_rf lo)) Z B450 J (kI (kI (kI (kI (kI (kC (kN K449 q477 9 0) 16 q477 lo) 26 q477 ls409) 27 q477 (-1)) 28 q477 (-1)) 29 q477 (-1)) 30 q477 (-1)) w := hO.to rfl
      refine W.widen (k := ((rE (g 2 z1) - rS (g 2 z1)) + 1)) (n := ((6 * (rE (g 2 z1) - rS (g 2 z1))) + 6)) (by show ((rE (g 2 z1) - rS (g 2 z1)) + 1) + 0 ≤ ((rE (g 2 z1) - rS (g 2 z1)) + 1); omega) (by show ((6 * (rE (g 2 z1) - rS (g 2 z1))) + 6) + 0 ≤ ((6 * (rE (g 2 z1) - rS (g 2 z1))) + 6); omega) ?_
      refine W.eq (g2 := F0 m 88 ls [.ref q477, .ref (a 4)]) rfl ?_
      obtain ⟨K508, hK509⟩ : ∃ z : PK, z = (kI (kI (kI (kI (kI (kC (kN K449 q477 9 0) 16 q477 lo) 26 q477 ls409) 27 q477 (-1)) 28 q477 (-1)) 29 q477 (-1)) 30 q477 (-1)) := ⟨_, rfl⟩
      rw [← hK509] at hO
      have hbx510 : BdE K449 K508 := by rw [hK509]; exact BdE.loop hq478
      have hbe511 := BdE.trans hbe474 hbx510
      have hf512 : K508.1 pq = 7 := (BdE.T hbx510 hf459 (by decide))
      have hf513 : K508.2.2.1 18 pq = some (a 1) := (BdE.C hbx510 (by rw [hf459]; decide) 18).trans hf460
      have hf514 : K508.2.2.1 14 pq = some dr := (BdE.C hbx510 (by rw [hf459]; decide) 14).trans hf461
      have hf515 : K508.1 dr = 8 := (BdE.T hbx510 hf462 (by decide))
      have hf516 : K508.2.2.1 15 pq = some ml := (BdE.C hbx510 (by rw [hf459]; decide) 15).trans hf463
      have hf517 : K508.1 ml = 5 := (BdE.T hbx510 hf464 (by decide))
      have hf518 : K508.2.1 24 pq = (nI nd) := (BdE.I hbx510 (by rw [hf459]; decide) (by decide) (by decide)).trans hf465
      have hf519 : K508.1 q = 1 := (BdE.T hbx510 hf466 (by decide))
      have hf520 : K508.1 mq = 3 := (BdE.T hbx510 hf467 (by decide))
      have hf521 : K508.2.2.1 3 q = some q4 := (BdE.C hbx510 (by rw [hf466]; decide) 3).trans hf468
      have hf522 : K508.1 q4 = 1 := (BdE.T hbx510 hf469 (by decide))
      have hf523 : K508.2.2.1 1 q = ob := (BdE.C hbx510 (by rw [hf466]; decide) 1).trans hf470
      have hf524 : K508.2.2.1 0 q = some z1 := (BdE.C hbx510 (by rw [hf466]; decide) 0).trans hf471
      have hf525 : K508.1 z1 = 1 := (BdE.T hbx510 hf472 (by decide))
      have hf526 : K508.2.2.1 2 q = none := (BdE.C hbx510 (by rw [hf466]; decide) 2).trans hf473
      have hf527 : K508.1 q477 = 9 := by rw [hK509]; exact if_pos rfl
      have hf528 : K508.2.2.1 16 q477 = lo := by rw [hK509]; exact kC_eq
      refine c_put (v := .ref q477) (ty := (.object "JinjaTongue$Loop")) (C := RX0) (Tc := TX0) (N := 13) (ci := 0) hx hb hq pin_wsX00 tyX0 tyX0_ok nmX0 hown hE hP hD hS hO 24 (sg_24 G h0 a _ _ _ _ _) rfl 11 (by decide) (hq _ pw_73) (fun _ h9 => h9) rfl (by decide +kernel) rfl rfl (Nat.le_of_ble_eq_true rfl) (sr_4 G h0 a _ _ _ _ _ (.ref q477)) dX0_loopStatement_88 (fun H locs w hP hD hS hO => ?_)
      refine lv_aload_n hx hb dX0_loopStatement_91 rfl (lv_at hl 5 rfl) ?_
      refine lv_aload_n hx hb dX0_loopStatement_92 rfl (lv_at hl 6 rfl) ?_
      refine p_get (v := .ref q4) (C := RX7) (Tc := TX7) (N := 11) (ci := 13) hx hb hq pin_wsX70 hown hE hP hO (by rw [hf519]; decide) (rep_1 hf519) rfl 9 (by decide) (hq _ pw_316) (fun _ h9 => h9) (congrArg (fun z => some (va_rf z)) hf521) dX0_loopStatement_93 ?_
      refine lv_iconst (v := 1) hx hb dX0_loopStatement_96 (by decide) ?_
      have hO : OKP G h0 a (upd (upd (upd (upd (upd (upd (upd (upd (upd (upd (upd (upd (upd (upd (upd (upd (upd (upd (upd (upd (upd (upd (upd F 2 (nI sz)) 5 (nI cs)) 6 (nI rg)) 7 (nI hd)) 8 (nI dp)) 12 (nI vr)) 16 ls9) 5 (nI cs451)) 6 (nI rg408)) 7 (nI hd406)) 8 (nI dp407)) 12 (nI vr405)) 13 wt453) 14 wt453) 15 wf454) 16 ls409) 2 (nI sz)) 5 (nI cs451)) 6 (nI rg408)) 7 (nI hd406)) 8 (nI dp407)) 12 (nI vr405)) 16 ls409) (updR (updR (updR (updR (updR (updR R 2 (.ref pq)) 3 (.ref mq)) 4 (.ref q477)) 2 (.ref pq)) 3 (.ref mq)) 4 (va_rf (some q477))) Z B450 J K508 w := hO.to rfl
      obtain ⟨_, qr532, hqr533⟩ := hO.2.1 24 _ (sg_24 G h0 a _ _ _ _ _)
      refine pn_V0 (G := G) (As := [.ref q4, .int (nI 1)]) (rest := []) hx hb hml hown hq hE hX pX0_al hP hD hS hA hl.1 ((ist (n - 1) (by omega)) h0 a (upd (upd (upd (upd (upd (upd (upd (upd (upd (upd (upd (upd (upd (upd (upd (upd F 2 (nI sz)) 5 (nI cs)) 6 (nI rg)) 7 (nI hd)) 8 (nI dp)) 12 (nI vr)) 16 ls9) 5 (nI cs451)) 6 (nI rg408)) 7 (nI hd406)) 8 (nI dp407)) 12 (nI vr405)) 13 wt453) 14 wt453) 15 wf454) 16 ls409) (updR (updR (updR R 2 (.ref pq)) 3 (.ref mq)) 4 (.ref q477)) Z B450 J K508 w pq dr ml nd nm cp it s9 q4 mq cs451 vr405 sz 1 hd406 dp407 rg408 ls409 (some q477) g rk (by omega) (BdE.wp hbe511 hwp) (BdE.pt hbe511 hwp hps) (BdE.rko hbe511 hrk) (by omega) (by omega) hng476 hf520 hf522 ⟨hv3.1, (by have z9 := hv3; omega)⟩ (by omega) (by omega) (by omega) (fun x9 h9 => by cases h9; exact hf527) (by omega) hO hl0) (gV pw_300 pw_301 pw_302 pw_63 pw_323) hV_X0_statement qr532 0 hqr533 rfl rfl rfl (Nat.le_of_ble_eq_true rfl) dX0_loopStatement_97 ⟨(by show ((rE (g 2 z1) - rS (g 2 z1)) + 1) + ((rE (g 2 q4) - rS (g 2 q4)) + 1) ≤ ((rE (g 2 q) - rS (g 2 q)) + 1); omega), (by show ((6 * (rE (g 2 z1) - rS (g 2 z1))) + 6) + (6 * (rE (g 2 q4) - rS (g 2 q4)) + 6) ≤ (6 * (rE (g 2 q) - rS (g 2 q)) + 6); omega)⟩ ⟨(by show (5 * (n - 1) + 50) + 1 ≤ (5 * n + 46); omega), (by show 8 + (3 + 11) + (200 * (n - 1) + 1200) ≤ (200 * n + 1120); omega)⟩ (fun v531 u529 H locs hw530 hP hD hS => ?_) (fun ux ce9 q9 H9 locs9 hux hP9 hD9 hS9 hce hcv hcl => pb_out ux (ThQ.up (Thx.same (Thx.same (Thx.same (Thx.same (Thx.same (Thx.same (Thx.same (Thx.f (Thx.f (Thx.f (Thx.f (Thx.f (Thx.f (Thx.f (Thx.f (Thx.f (Bth.thx hbb475) (by omega)) (by omega)) (by omega)) (by omega)) (by omega)) (by omega)) (by omega)) (by omega)) (by omega)) rfl) rfl) rfl) rfl) rfl) rfl) rfl) (show RhX (updR (updR (updR R 2 (.ref pq)) 3 (.ref mq)) 4 (va_rf lo)) (updR (updR (updR (updR (updR (updR R 2 (.ref pq)) 3 (.ref mq)) 4 (.ref q477)) 2 (.ref pq)) 3 (.ref mq)) 4 (va_rf (some q477))) from fun k9 hk9 => by unfold updR; simp only [show ¬ k9 = 1 by omega, show ¬ k9 = 2 by omega, show ¬ k9 = 3 by omega, show ¬ k9 = 4 by omega, if_false]) hux) hnt hlocks hce hcv hcl hP9 hD9 hS9 (by show ((rE (g 2 z1) - rS (g 2 z1)) + 1) + ((rE (g 2 q4) - rS (g 2 q4)) + 1) ≤ ((rE (g 2 q) - rS (g 2 q)) + 1); omega) (by show ((6 * (rE (g 2 z1) - rS (g 2 z1))) + 6) + (6 * (rE (g 2 q4) - rS (g 2 q4)) + 6) ≤ (6 * (rE (g 2 q) - rS (g 2 q)) + 6); omega))
      obtain ⟨w, K534, B535, cs536, as537, wt538, wf539, vr540, hd541, dp542, rg543, ls544⟩ := u529
      obtain ⟨hw530, h545, h546, h547, h548, hO⟩ := hw530
      have h545 : BdE K508 K534 := h545
      have h546 : Bth B450 B535 := h546
      have h547 : cs536 ≤ 10000 ∧ rg543 ≤ 625 ∧ dp542 ≤ 1000 := h547
      have h548 : vr405 ≤ vr540 ∧ vr540 ≤ 30 ∧ hd541 + vr405 = hd406 + vr540 := h548
      obtain rfl : v531 = none := hw530
      have hf549 : K534.1 pq = 7 := (BdE.T h545 hf512 (by decide))
      have hf550 : K534.2.2.1 18 pq = some (a 1) := (BdE.C h545 (by rw [hf512]; decide) 18).trans hf513
      have hf551 : K534.2.2.1 14 pq = some dr := (BdE.C h545 (by rw [hf512]; decide) 14).trans hf514
      have hf552 : K534.1 dr = 8 := (BdE.T h545 hf515 (by decide))
      have hf553 : K534.2.2.1 15 pq = some ml := (BdE.C h545 (by rw [hf512]; decide) 15).trans hf516
      have hf554 : K534.1 ml = 5 := (BdE.T h545 hf517 (by decide))
      have hf555 : K534.2.1 24 pq = (nI nd) := (BdE.I h545 (by rw [hf512]; decide) (by decide) (by decide)).trans hf518
      have hf556 : K534.1 q = 1 := (BdE.T h545 hf519 (by decide))
      have hf557 : K534.1 mq = 3 := (BdE.T h545 hf520 (by decide))
      have hf558 : K534.2.2.1 3 q = some q4 := (BdE.C h545 (by rw [hf519]; decide) 3).trans hf521
      have hf559 : K534.1 q4 = 1 := (BdE.T h545 hf522 (by decide))
      have hf560 : K534.2.2.1 1 q = ob := (BdE.C h545 (by rw [hf519]; decide) 1).trans hf523
      have hf561 : K534.2.2.1 0 q = some z1 := (BdE.C h545 (by rw [hf519]; decide) 0).trans hf524
      have hf562 : K534.1 z1 = 1 := (BdE.T h545 hf525 (by decide))
      have hf563 : K534.2.2.1 2 q = none := (BdE.C h545 (by rw [hf519]; decide) 2).trans hf526
      have hf564 : K534.1 q477 = 9 := (BdE.T h545 hf527 (by decide))
      have hf565 : K534.2.2.1 16 q477 = lo := (BdE.C h545 (by rw [hf527]; decide) 16).trans hf528
      have hO : OKP G h0 a (upd (upd (upd (upd (upd (upd (upd (upd (upd (upd F 2 (nI sz)) 5 (nI cs536)) 6 (nI rg543)) 7 (nI hd541)) 8 (nI dp542)) 12 (nI vr540)) 13 as537) 14 wt538) 15 wf539) 16 ls544) (updR (updR (updR R 2 (.ref pq)) 3 (.ref mq)) 4 (.ref q477)) Z B535 J K534 w := hO.to rfl
      refine W.widen (k := (((rE (g 2 z1) - rS (g 2 z1)) + 1) + (rE (g 2 q4) - rS (g 2 q4)))) (n := (((6 * (rE (g 2 z1) - rS (g 2 z1))) + 6) + (6 * (rE (g 2 q4) - rS (g 2 q4))))) (by show ((rE (g 2 z1) - rS (g 2 z1)) + 1) + (rE (g 2 q4) - rS (g 2 q4)) ≤ (((rE (g 2 z1) - rS (g 2 z1)) + 1) + (rE (g 2 q4) - rS (g 2 q4))); omega) (by show ((6 * (rE (g 2 z1) - rS (g 2 z1))) + 6) + (6 * (rE (g 2 q4) - rS (g 2 q4))) ≤ (((6 * (rE (g 2 z1) - rS (g 2 z1))) + 6) + (6 * (rE (g 2 q4) - rS (g 2 q4)))); omega) ?_
      refine W.eq (g2 := F0 m 100 ls []) rfl ?_
      have hbe566 := BdE.trans hbe511 h545
      have hbb567 : Bth B B535 := Bth.trans (show Thx (upd (upd (upd (upd (upd (upd (upd F 2 (nI sz)) 5 (nI cs)) 6 (nI rg)) 7 (nI hd)) 8 (nI dp)) 12 (nI vr)) 16 ls9) (upd (upd (upd (upd (upd (upd (upd (upd (upd (upd (upd (upd (upd (upd (upd (upd F 2 (nI sz)) 5 (nI cs)) 6 (nI rg)) 7 (nI hd)) 8 (nI dp)) 12 (nI vr)) 16 ls9) 5 (nI cs451)) 6 (nI rg408)) 7 (nI hd406)) 8 (nI dp407)) 12 (nI vr405)) 13 wt453) 14 wt453) 15 wf454) 16 ls409) B B450 from (Thx.f (Thx.f (Thx.f (Thx.f (Thx.f (Thx.f (Thx.f (Thx.f (Thx.f (Bth.thx hbb475) (by omega)) (by omega)) (by omega)) (by omega)) (by omega)) (by omega)) (by omega)) (by omega)) (by omega))).2 h546
      have hng568 : Nng (B535 18) := h546.2 hng476
      refine lv_aload_n hx hb dX0_loopStatement_100 rfl (lv_at hl 5 rfl) ?_
      refine c_get (v := .ref (a 2)) (C := RX0) (Tc := TX0) (N := 13) (ci := 0) hx hb hq pin_wsX00 hown hE hP hO 24 (sg_24 G h0 a _ _ _ _ _) rfl 1 (by decide) (hq _ pw_5) (fun _ h9 => h9) rfl dX0_loopStatement_101 ?_
      refine lv_aload_n hx hb dX0_loopStatement_104 rfl (lv_at hl 5 rfl) ?_
      refine c_get (v := .ref q477) (C := RX0) (Tc := TX0) (N := 13) (ci := 0) hx hb hq pin_wsX00 hown hE hP hO 24 (sg_24 G h0 a _ _ _ _ _) rfl 11 (by decide) (hq _ pw_73) (fun _ h9 => h9) rfl dX0_loopStatement_105 ?_
      refine p_get (v := .int (K534.2.1 28 q477)) (C := RX4) (Tc := TX4) (N := 6) (ci := 11) hx hb hq pin_wsX40 hown hE hP hO (by rw [hf564]; decide) (rep_9 hf564) rfl 3 (by decide) (hq _ pw_284) (fun _ h9 => h9) rfl dX0_loopStatement_108 ?_
      have hO : OKW G h0 a (upd (upd (upd (upd (upd (upd (upd (upd (upd (upd (upd F 2 (nI sz)) 5 (nI cs536)) 6 (nI rg543)) 7 (nI hd541)) 8 (nI dp542)) 12 (nI vr540)) 13 as537) 14 wt538) 15 wf539) 16 ls544) 5 (nI cs536)) (updR (updR (updR R 2 (.ref pq)) 3 (.ref mq)) 4 (.ref q477)) Z B535 J K534.1 (fun q99 x99 => x99 = rep G a K534 q99) w := hO.to rfl
      obtain ⟨_, qr572, hqr573⟩ := hO.2.1 13 _ (sg_13 G h0 a _ _ _ _ _)
      refine pc_V0 (G := G) (As := [.int (K534.2.1 28 q477)]) (rest := []) hx hb hml hown hq hE hX pX0_al hP hD hS hA hl.1 (K_land l G h0 a (upd (upd (upd (upd (upd (upd (upd (upd (upd (upd F 2 (nI sz)) 5 (nI cs536)) 6 (nI rg543)) 7 (nI hd541)) 8 (nI dp542)) 12 (nI vr540)) 13 as537) 14 wt538) 15 wf539) 16 ls544) (updR (updR (updR R 2 (.ref pq)) 3 (.ref mq)) 4 (.ref q477)) Z B535 J K534.1 (fun q99 x99 => x99 = rep G a K534 q99) w (K534.2.1 28 q477) cs536 (by omega) hO) (gV pw_200 pw_201 pw_202 pw_70 pw_134) hV_X1_land qr572 1 hqr573 rfl rfl rfl (Nat.le_of_ble_eq_true rfl) dX0_loopStatement_111 ⟨(by show (((rE (g 2 z1) - rS (g 2 z1)) + 1) + (rE (g 2 q4) - rS (g 2 q4))) + 0 ≤ ((rE (g 2 q) - rS (g 2 q)) + 1); omega), (by show (((6 * (rE (g 2 z1) - rS (g 2 z1))) + 6) + (6 * (rE (g 2 q4) - rS (g 2 q4)))) + 0 ≤ (6 * (rE (g 2 q) - rS (g 2 q)) + 6); omega)⟩ ⟨(by show 2 + 1 ≤ (5 * n + 46); omega), (by show 8 + (5 + 11) + 60 ≤ (200 * n + 1120); omega)⟩ (fun v571 u569 H locs hw570 hP hD hS => ?_)
      obtain ⟨w, f574⟩ := u569
      obtain ⟨hw570, hO⟩ := hw570
      obtain rfl : v571 = none := hw570
      have hO : OKP G h0 a (upd (upd (upd (upd (upd (upd (upd (upd (upd (upd F 2 (nI sz)) 5 (nI cs536)) 6 (nI rg543)) 7 (nI hd541)) 8 (nI dp542)) 12 (nI vr540)) 13 as537) 14 wt538) 15 wf539) 16 ls544) (updR (updR (updR R 2 (.ref pq)) 3 (.ref mq)) 4 (.ref q477)) Z (updA B535 17 f574) J K534 w := hO.to rfl
      refine W.widen (k := (((rE (g 2 z1) - rS (g 2 z1)) + 1) + (rE (g 2 q4) - rS (g 2 q4)))) (n := (((6 * (rE (g 2 z1) - rS (g 2 z1))) + 6) + (6 * (rE (g 2 q4) - rS (g 2 q4))))) (by show (((rE (g 2 z1) - rS (g 2 z1)) + 1) + (rE (g 2 q4) - rS (g 2 q4))) + 0 ≤ (((rE (g 2 z1) - rS (g 2 z1)) + 1) + (rE (g 2 q4) - rS (g 2 q4))); omega) (by show (((6 * (rE (g 2 z1) - rS (g 2 z1))) + 6) + (6 * (rE (g 2 q4) - rS (g 2 q4)))) + 0 ≤ (((6 * (rE (g 2 z1) - rS (g 2 z1))) + 6) + (6 * (rE (g 2 q4) - rS (g 2 q4)))); omega) ?_
      refine W.eq (g2 := F0 m 114 ls []) rfl ?_
      refine lv_aload_n hx hb dX0_loopStatement_114 rfl (lv_at hl 6 rfl) ?_
      refine p_get (v := .null) (C := RX7) (Tc := TX7) (N := 11) (ci := 13) hx hb hq pin_wsX70 hown hE hP hO (by rw [hf556]; decide) (rep_1 hf556) rfl 8 (by decide) (hq _ pw_196) (fun _ h9 => h9) (congrArg (fun z => some (va_rf z)) hf563) dX0_loopStatement_115 ?_
      refine lv_ifnullN (tgt := 146) hx hb dX0_loopStatement_118 (by decide) ?_
      refine lv_aload_n hx hb dX0_loopStatement_146 rfl (lv_at hl 5 rfl) ?_
      refine c_get (v := .ref (a 2)) (C := RX0) (Tc := TX0) (N := 13) (ci := 0) hx hb hq pin_wsX00 hown hE hP hO 24 (sg_24 G h0 a _ _ _ _ _) rfl 1 (by decide) (hq _ pw_5) (fun _ h9 => h9) rfl dX0_loopStatement_147 ?_
      refine lv_bipush (v := 6) hx hb dX0_loopStatement_150 (by decide) ?_
      refine lv_iload hx hb dX0_loopStatement_152 (lv_at hl 2 rfl) ?_
      refine lv_iconst (v := 0) hx hb dX0_loopStatement_154 (by decide) ?_
      have hO : OKW G h0 a (upd (upd (upd (upd (upd (upd (upd (upd (upd (upd (upd F 2 (nI sz)) 5 (nI cs536)) 6 (nI rg543)) 7 (nI hd541)) 8 (nI dp542)) 12 (nI vr540)) 13 as537) 14 wt538) 15 wf539) 16 ls544) 5 (nI cs536)) (updR (updR (updR R 2 (.ref pq)) 3 (.ref mq)) 4 (.ref q477)) Z (updA B535 17 f574) J K534.1 (fun q99 x99 => x99 = rep G a K534 q99) w := hO.to rfl
      obtain ⟨_, qr578, hqr579⟩ := hO.2.1 13 _ (sg_13 G h0 a _ _ _ _ _)
      refine pc_V0 (G := G) (As := [.int 6, .int (nI cs401), .int (nI 0)]) (rest := []) hx hb hml hown hq hE hX pX0_al hP hD hS hA hl.1 (K_emit l G h0 a (upd (upd (upd (upd (upd (upd (upd (upd (upd (upd F 2 (nI sz)) 5 (nI cs536)) 6 (nI rg543)) 7 (nI hd541)) 8 (nI dp542)) 12 (nI vr540)) 13 as537) 14 wt538) 15 wf539) 16 ls544) (updR (updR (updR R 2 (.ref pq)) 3 (.ref mq)) 4 (.ref q477)) Z (updA B535 17 f574) J K534.1 (fun q99 x99 => x99 = rep G a K534 q99) w 6 (nI cs401) 0 cs536 (by omega) (by omega) hng568 hO) (gV pw_129 pw_130 pw_131 pw_70 pw_115) hV_X1_emit qr578 1 hqr579 rfl rfl rfl (Nat.le_of_ble_eq_true rfl) dX0_loopStatement_155 ⟨(by show (((rE (g 2 z1) - rS (g 2 z1)) + 1) + (rE (g 2 q4) - rS (g 2 q4))) + 0 ≤ ((rE (g 2 q) - rS (g 2 q)) + 1); omega), (by show (((6 * (rE (g 2 z1) - rS (g 2 z1))) + 6) + (6 * (rE (g 2 q4) - rS (g 2 q4)))) + 0 ≤ (6 * (rE (g 2 q) - rS (g 2 q)) + 6); omega)⟩ ⟨(by show 2 + 1 ≤ (5 * n + 46); omega), (by show 8 + (4 + 11) + 60 ≤ (200 * n + 1120); omega)⟩ (fun v577 u575 H locs hw576 hP hD hS => ?_)
      obtain ⟨w, cs580, f581, f582, f583, f584⟩ := u575
      obtain ⟨hw576, h585, h586, hO⟩ := hw576
      have h585 : cs536 ≤ cs580 ∧ cs580 ≤ cs536 + 1 ∧ cs580 ≤ 10000 := h585
      have h586 : Nng f583 := h586
      obtain rfl : v577 = none := hw576
      have hO : OKP G h0 a (upd (upd (upd (upd (upd (upd (upd (upd (upd (upd F 2 (nI sz)) 5 (nI cs580)) 6 (nI rg543)) 7 (nI hd541)) 8 (nI dp542)) 12 (nI vr540)) 13 as537) 14 wt538) 15 wf539) 16 ls544) (updR (updR (updR R 2 (.ref pq)) 3 (.ref mq)) 4 (.ref q477)) Z (updA (updA (updA (updA B535 16 f581) 17 f582) 18 f583) 19 f584) J K534 w := hO.to rfl
      refine W.widen (k := (((rE (g 2 z1) - rS (g 2 z1)) + 1) + (rE (g 2 q4) - rS (g 2 q4)))) (n := (((6 * (rE (g 2 z1) - rS (g 2 z1))) + 6) + (6 * (rE (g 2 q4) - rS (g 2 q4))))) (by show (((rE (g 2 z1) - rS (g 2 z1)) + 1) + (rE (g 2 q4) - rS (g 2 q4))) + 0 ≤ (((rE (g 2 z1) - rS (g 2 z1)) + 1) + (rE (g 2 q4) - rS (g 2 q4))); omega) (by show (((6 * (rE (g 2 z1) - rS (g 2 z1))) + 6) + (6 * (rE (g 2 q4) - rS (g 2 q4)))) + 0 ≤ (((6 * (rE (g 2 z1) - rS (g 2 z1))) + 6) + (6 * (rE (g 2 q4) - rS (g 2 q4)))); omega) ?_
      refine W.eq (g2 := F0 m 158 ls []) rfl ?_
      refine lv_aload_n hx hb dX0_loopStatement_158 rfl (lv_at hl 5 rfl) ?_
      refine c_get (v := .ref (a 2)) (C := RX0) (Tc := TX0) (N := 13) (ci := 0) hx hb hq pin_wsX00 hown hE hP hO 24 (sg_24 G h0 a _ _ _ _ _) rfl 1 (by decide) (hq _ pw_5) (fun _ h9 => h9) rfl dX0_loopStatement_159 ?_
      refine lv_iload hx hb dX0_loopStatement_162 (lv_at hl 1 rfl) ?_
      have hO : OKW G h0 a (upd (upd (upd (upd (upd (upd (upd (upd (upd (upd (upd F 2 (nI sz)) 5 (nI cs580)) 6 (nI rg543)) 7 (nI hd541)) 8 (nI dp542)) 12 (nI vr540)) 13 as537) 14 wt538) 15 wf539) 16 ls544) 5 (nI cs580)) (updR (updR (updR R 2 (.ref pq)) 3 (.ref mq)) 4 (.ref q477)) Z (updA (updA (updA (updA B535 16 f581) 17 f582) 18 f583) 19 f584) J K534.1 (fun q99 x99 => x99 = rep G a K534 q99) w := hO.to rfl
      obtain ⟨_, qr590, hqr591⟩ := hO.2.1 13 _ (sg_13 G h0 a _ _ _ _ _)
      refine pc_V0 (G := G) (As := [.int r455]) (rest := []) hx hb hml hown hq hE hX pX0_al hP hD hS hA hl.1 (K_land l G h0 a (upd (upd (upd (upd (upd (upd (upd (upd (upd (upd F 2 (nI sz)) 5 (nI cs580)) 6 (nI rg543)) 7 (nI hd541)) 8 (nI dp542)) 12 (nI vr540)) 13 as537) 14 wt538) 15 wf539) 16 ls544) (updR (updR (updR R 2 (.ref pq)) 3 (.ref mq)) 4 (.ref q477)) Z (updA (updA (updA (updA B535 16 f581) 17 f582) 18 f583) 19 f584) J K534.1 (fun q99 x99 => x99 = rep G a K534 q99) w r455 cs580 (by omega) hO) (gV pw_200 pw_201 pw_202 pw_70 pw_134) hV_X1_land qr590 1 hqr591 rfl rfl rfl (Nat.le_of_ble_eq_true rfl) dX0_loopStatement_164 ⟨(by show (((rE (g 2 z1) - rS (g 2 z1)) + 1) + (rE (g 2 q4) - rS (g 2 q4))) + 0 ≤ ((rE (g 2 q) - rS (g 2 q)) + 1); omega), (by show (((6 * (rE (g 2 z1) - rS (g 2 z1))) + 6) + (6 * (rE (g 2 q4) - rS (g 2 q4)))) + 0 ≤ (6 * (rE (g 2 q) - rS (g 2 q)) + 6); omega)⟩ ⟨(by show 2 + 1 ≤ (5 * n + 46); omega), (by show 8 + (5 + 11) + 60 ≤ (200 * n + 1120); omega)⟩ (fun v589 u587 H locs hw588 hP hD hS => ?_)
      obtain ⟨w, f592⟩ := u587
      obtain ⟨hw588, hO⟩ := hw588
      obtain rfl : v589 = none := hw588
      have hO : OKP G h0 a (upd (upd (upd (upd (upd (upd (upd (upd (upd (upd F 2 (nI sz)) 5 (nI cs580)) 6 (nI rg543)) 7 (nI hd541)) 8 (nI dp542)) 12 (nI vr540)) 13 as537) 14 wt538) 15 wf539) 16 ls544) (updR (updR (updR R 2 (.ref pq)) 3 (.ref mq)) 4 (.ref q477)) Z (updA (updA (updA (updA B535 16 f581) 17 f592) 18 f583) 19 f584) J K534 w := hO.to rfl
      refine W.widen (k := (((rE (g 2 z1) - rS (g 2 z1)) + 1) + (rE (g 2 q4) - rS (g 2 q4)))) (n := (((6 * (rE (g 2 z1) - rS (g 2 z1))) + 6) + (6 * (rE (g 2 q4) - rS (g 2 q4))))) (by show (((rE (g 2 z1) - rS (g 2 z1)) + 1) + (rE (g 2 q4) - rS (g 2 q4))) + 0 ≤ (((rE (g 2 z1) - rS (g 2 z1)) + 1) + (rE (g 2 q4) - rS (g 2 q4))); omega) (by show (((6 * (rE (g 2 z1) - rS (g 2 z1))) + 6) + (6 * (rE (g 2 q4) - rS (g 2 q4)))) + 0 ≤ (((6 * (rE (g 2 z1) - rS (g 2 z1))) + 6) + (6 * (rE (g 2 q4) - rS (g 2 q4)))); omega) ?_
      refine W.eq (g2 := F0 m 167 ls []) rfl ?_
      refine lv_aload_n hx hb dX0_loopStatement_167 rfl (lv_at hl 5 rfl) ?_
      refine c_get (v := .ref (a 2)) (C := RX0) (Tc := TX0) (N := 13) (ci := 0) hx hb hq pin_wsX00 hown hE hP hO 24 (sg_24 G h0 a _ _ _ _ _) rfl 1 (by decide) (hq _ pw_5) (fun _ h9 => h9) rfl dX0_loopStatement_168 ?_
      refine lv_aload_n hx hb dX0_loopStatement_171 rfl (lv_at hl 5 rfl) ?_
      refine c_get (v := .ref q477) (C := RX0) (Tc := TX0) (N := 13) (ci := 0) hx hb hq pin_wsX00 hown hE hP hO 24 (sg_24 G h0 a _ _ _ _ _) rfl 11 (by decide) (hq _ pw_73) (fun _ h9 => h9) rfl dX0_loopStatement_172 ?_
      refine p_get (v := .int (K534.2.1 27 q477)) (C := RX4) (Tc := TX4) (N := 6) (ci := 11) hx hb hq pin_wsX40 hown hE hP hO (by rw [hf564]; decide) (rep_9 hf564) rfl 2 (by decide) (hq _ pw_282) (fun _ h9 => h9) rfl dX0_loopStatement_175 ?_
      have hO : OKW G h0 a (upd (upd (upd (upd (upd (upd (upd (upd (upd (upd (upd F 2 (nI sz)) 5 (nI cs580)) 6 (nI rg543)) 7 (nI hd541)) 8 (nI dp542)) 12 (nI vr540)) 13 as537) 14 wt538) 15 wf539) 16 ls544) 5 (nI cs580)) (updR (updR (updR R 2 (.ref pq)) 3 (.ref mq)) 4 (.ref q477)) Z (updA (updA (updA (updA B535 16 f581) 17 f592) 18 f583) 19 f584) J K534.1 (fun q99 x99 => x99 = rep G a K534 q99) w := hO.to rfl
      obtain ⟨_, qr596, hqr597⟩ := hO.2.1 13 _ (sg_13 G h0 a _ _ _ _ _)
      refine pc_V0 (G := G) (As := [.int (K534.2.1 27 q477)]) (rest := []) hx hb hml hown hq hE hX pX0_al hP hD hS hA hl.1 (K_land l G h0 a (upd (upd (upd (upd (upd (upd (upd (upd (upd (upd F 2 (nI sz)) 5 (nI cs580)) 6 (nI rg543)) 7 (nI hd541)) 8 (nI dp542)) 12 (nI vr540)) 13 as537) 14 wt538) 15 wf539) 16 ls544) (updR (updR (updR R 2 (.ref pq)) 3 (.ref mq)) 4 (.ref q477)) Z (updA (updA (updA (updA B535 16 f581) 17 f592) 18 f583) 19 f584) J K534.1 (fun q99 x99 => x99 = rep G a K534 q99) w (K534.2.1 27 q477) cs580 (by omega) hO) (gV pw_200 pw_201 pw_202 pw_70 pw_134) hV_X1_land qr596 1 hqr597 rfl rfl rfl (Nat.le_of_ble_eq_true rfl) dX0_loopStatement_178 ⟨(by show (((rE (g 2 z1) - rS (g 2 z1)) + 1) + (rE (g 2 q4) - rS (g 2 q4))) + 0 ≤ ((rE (g 2 q) - rS (g 2 q)) + 1); omega), (by show (((6 * (rE (g 2 z1) - rS (g 2 z1))) + 6) + (6 * (rE (g 2 q4) - rS (g 2 q4)))) + 0 ≤ (6 * (rE (g 2 q) - rS (g 2 q)) + 6); omega)⟩ ⟨(by show 2 + 1 ≤ (5 * n + 46); omega), (by show 8 + (5 + 11) + 60 ≤ (200 * n + 1120); omega)⟩ (fun v595 u593 H locs hw594 hP hD hS => ?_)
      obtain ⟨w, f598⟩ := u593
      obtain ⟨hw594, hO⟩ := hw594
      obtain rfl : v595 = none := hw594
      have hO : OKP G h0 a (upd (upd (upd (upd (upd (upd (upd (upd (upd (upd F 2 (nI sz)) 5 (nI cs580)) 6 (nI rg543)) 7 (nI hd541)) 8 (nI dp542)) 12 (nI vr540)) 13 as537) 14 wt538) 15 wf539) 16 ls544) (updR (updR (updR R 2 (.ref pq)) 3 (.ref mq)) 4 (.ref q477)) Z (updA (updA (updA (updA B535 16 f581) 17 f598) 18 f583) 19 f584) J K534 w := hO.to rfl
      refine W.widen (k := (((rE (g 2 z1) - rS (g 2 z1)) + 1) + (rE (g 2 q4) - rS (g 2 q4)))) (n := (((6 * (rE (g 2 z1) - rS (g 2 z1))) + 6) + (6 * (rE (g 2 q4) - rS (g 2 q4))))) (by show (((rE (g 2 z1) - rS (g 2 z1)) + 1) + (rE (g 2 q4) - rS (g 2 q4))) + 0 ≤ (((rE (g 2 z1) - rS (g 2 z1)) + 1) + (rE (g 2 q4) - rS (g 2 q4))); omega) (by show (((6 * (rE (g 2 z1) - rS (g 2 z1))) + 6) + (6 * (rE (g 2 q4) - rS (g 2 q4)))) + 0 ≤ (((6 * (rE (g 2 z1) - rS (g 2 z1))) + 6) + (6 * (rE (g 2 q4) - rS (g 2 q4)))); omega) ?_
      refine W.eq (g2 := F0 m 181 ls []) rfl ?_
      refine lv_aload_n hx hb dX0_loopStatement_181 rfl (lv_at hl 5 rfl) ?_
      refine lv_iload hx hb dX0_loopStatement_182 (lv_at hl 0 rfl) ?_
      refine lv_aload_n hx hb dX0_loopStatement_184 rfl (lv_at hl 5 rfl) ?_
      refine c_get (v := .ref q477) (C := RX0) (Tc := TX0) (N := 13) (ci := 0) hx hb hq pin_wsX00 hown hE hP hO 24 (sg_24 G h0 a _ _ _ _ _) rfl 11 (by decide) (hq _ pw_73) (fun _ h9 => h9) rfl dX0_loopStatement_185 ?_
      refine p_get (v := .int (K534.2.1 29 q477)) (C := RX4) (Tc := TX4) (N := 6) (ci := 11) hx hb hq pin_wsX40 hown hE hP hO (by rw [hf564]; decide) (rep_9 hf564) rfl 4 (by decide) (hq _ pw_283) (fun _ h9 => h9) rfl dX0_loopStatement_188 ?_
      refine lv_iand hx hb dX0_loopStatement_191 ?_
      refine lv_topi (fun x599 e600 => ?_)
      refine c_put (v := .int x599) (ty := .int) (C := RX0) (Tc := TX0) (N := 13) (ci := 0) hx hb hq pin_wsX00 tyX0 tyX0_ok nmX0 hown hE hP hD hS hO 24 (sg_24 G h0 a _ _ _ _ _) rfl 8 (by decide) (hq _ pw_55) (fun _ h9 => h9) rfl (by decide +kernel) rfl rfl (Nat.le_of_ble_eq_true rfl) (sf_13 G h0 a _ _ _ _ _ x599) dX0_loopStatement_192 (fun H locs w hP hD hS hO => ?_)
      refine lv_aload_n hx hb dX0_loopStatement_195 rfl (lv_at hl 5 rfl) ?_
      refine lv_aload_n hx hb dX0_loopStatement_196 rfl (lv_at hl 5 rfl) ?_
      refine c_get (v := .ref q477) (C := RX0) (Tc := TX0) (N := 13) (ci := 0) hx hb hq pin_wsX00 hown hE hP hO 24 (sg_24 G h0 a _ _ _ _ _) rfl 11 (by decide) (hq _ pw_73) (fun _ h9 => h9) rfl dX0_loopStatement_197 ?_
      refine p_get (v := va_rf lo) (C := RX4) (Tc := TX4) (N := 6) (ci := 11) hx hb hq pin_wsX40 hown hE hP hO (by rw [hf564]; decide) (rep_9 hf564) rfl 0 (by decide) (hq _ pw_317) (fun _ h9 => h9) (congrArg (fun z => some (va_rf z)) hf565) dX0_loopStatement_200 ?_
      refine c_put (v := va_rf lo) (ty := (.object "JinjaTongue$Loop")) (C := RX0) (Tc := TX0) (N := 13) (ci := 0) hx hb hq pin_wsX00 tyX0 tyX0_ok nmX0 hown hE hP hD hS hO 24 (sg_24 G h0 a _ _ _ _ _) rfl 11 (by decide) (hq _ pw_73) (fun _ h9 => h9) rfl (by decide +kernel) (by cases lo <;> first | rfl | exact Nat.le_of_ble_eq_true rfl) (by cases lo <;> first | rfl | exact Nat.le_of_ble_eq_true rfl) (by cases lo <;> first | rfl | exact Nat.le_of_ble_eq_true rfl) (sr_4 G h0 a _ _ _ _ _ (va_rf lo)) dX0_loopStatement_203 (fun H locs w hP hD hS hO => ?_)
      refine lv_aload_n hx hb dX0_loopStatement_206 rfl (lv_at hl 5 rfl) ?_
      refine lv_iload_n hx hb dX0_loopStatement_207 rfl (lv_at hl 4 rfl) ?_
      refine lv_iload_n hx hb dX0_loopStatement_208 rfl (lv_at hl 3 rfl) ?_
      have hO : OKW G h0 a (upd (upd (upd (upd (upd (upd (upd (upd (upd (upd F 2 (nI sz)) 5 (nI cs580)) 6 (nI rg543)) 7 (nI hd541)) 8 (nI dp542)) 12 (nI vr540)) 13 x599) 14 wt538) 15 wf539) 16 ls544) (updR (updR (updR R 2 (.ref pq)) 3 (.ref mq)) 4 (va_rf lo)) Z (updA (updA (updA (updA B535 16 f581) 17 f598) 18 f583) 19 f584) J K534.1 (fun q99 x99 => x99 = rep G a K534 q99) w := hO.to rfl
      obtain ⟨_, qr604, hqr605⟩ := hO.2.1 24 _ (sg_24 G h0 a _ _ _ _ _)
      refine pc_V0 (G := G) (As := [.int (nI vr), .int (nI hd)]) (rest := []) hx hb hml hown hq hE hX pX0_al hP hD hS hA hl.1 (B_endScope l G h0 a (upd (upd (upd (upd (upd (upd (upd (upd (upd (upd F 2 (nI sz)) 5 (nI cs580)) 6 (nI rg543)) 7 (nI hd541)) 8 (nI dp542)) 12 (nI vr540)) 13 x599) 14 wt538) 15 wf539) 16 ls544) (updR (updR (updR R 2 (.ref pq)) 3 (.ref mq)) 4 (va_rf lo)) Z (updA (updA (updA (updA B535 16 f581) 17 f598) 18 f583) 19 f584) J K534.1 (fun q99 x99 => x99 = rep G a K534 q99) w (nI vr) (nI hd) hO) (gV pw_303 pw_304 pw_305 pw_63 pw_99) hV_X0_endScope qr604 0 hqr605 rfl rfl rfl (Nat.le_of_ble_eq_true rfl) dX0_loopStatement_209 ⟨(by show (((rE (g 2 z1) - rS (g 2 z1)) + 1) + (rE (g 2 q4) - rS (g 2 q4))) + 0 ≤ ((rE (g 2 q) - rS (g 2 q)) + 1); omega), (by show (((6 * (rE (g 2 z1) - rS (g 2 z1))) + 6) + (6 * (rE (g 2 q4) - rS (g 2 q4)))) + 0 ≤ (6 * (rE (g 2 q) - rS (g 2 q)) + 6); omega)⟩ ⟨(by show 2 + 1 ≤ (5 * n + 46); omega), (by show 8 + (3 + 11) + 60 ≤ (200 * n + 1120); omega)⟩ (fun v603 u601 H locs hw602 hP hD hS => ?_)
      obtain ⟨w, _⟩ := u601
      obtain ⟨hw602, hO⟩ := hw602
      obtain rfl : v603 = none := hw602
      have hO : OKP G h0 a (upd (upd (upd (upd (upd (upd (upd (upd (upd (upd F 2 (nI sz)) 5 (nI cs580)) 6 (nI rg543)) 7 (nI hd)) 8 (nI dp542)) 12 (nI vr)) 13 x599) 14 wt538) 15 wf539) 16 ls544) (updR (updR (updR R 2 (.ref pq)) 3 (.ref mq)) 4 (va_rf lo)) Z (updA (updA (updA (updA B535 16 f581) 17 f598) 18 f583) 19 f584) J K534 w := hO.to rfl
      refine W.widen (k := (((rE (g 2 z1) - rS (g 2 z1)) + 1) + (rE (g 2 q4) - rS (g 2 q4)))) (n := (((6 * (rE (g 2 z1) - rS (g 2 z1))) + 6) + (6 * (rE (g 2 q4) - rS (g 2 q4))))) (by show (((rE (g 2 z1) - rS (g 2 z1)) + 1) + (rE (g 2 q4) - rS (g 2 q4))) + 0 ≤ (((rE (g 2 z1) - rS (g 2 z1)) + 1) + (rE (g 2 q4) - rS (g 2 q4))); omega) (by show (((6 * (rE (g 2 z1) - rS (g 2 z1))) + 6) + (6 * (rE (g 2 q4) - rS (g 2 q4)))) + 0 ≤ (((6 * (rE (g 2 z1) - rS (g 2 z1))) + 6) + (6 * (rE (g 2 q4) - rS (g 2 q4)))); omega) ?_
      refine W.eq (g2 := F0 m 212 ls []) rfl ?_
      refine W_size (fun hz1 hz2 => ?_)
      refine vx_ret ?_
      have hz606 : BdE K K534 := hbe566
      have hz607 : Bth B (updA (updA (updA (updA B535 16 f581) 17 f598) 18 f583) 19 f584) := (show Thx (upd (upd (upd (upd (upd (upd (upd F 2 (nI sz)) 5 (nI cs)) 6 (nI rg)) 7 (nI hd)) 8 (nI dp)) 12 (nI vr)) 16 ls9) (upd (upd (upd (upd (upd (upd (upd (upd (upd (upd (upd (upd (upd (upd F 2 (nI sz)) 5 (nI cs)) 6 (nI rg)) 7 (nI hd)) 8 (nI dp)) 12 (nI vr)) 16 ls9) 5 (nI cs580)) 6 (nI rg543)) 8 (nI dp542)) 13 x599) 14 wt538) 15 wf539) 16 ls544) B (updA (updA (updA (updA B535 16 f581) 17 f598) 18 f583) 19 f584) from (Thx.b (Thx.b8 (Thx.b (Thx.b (Thx.f (Thx.f (Thx.f (Thx.f (Thx.f (Thx.f (Thx.f (Bth.thx hbb567) (by omega)) (by omega)) (by omega)) (by omega)) (by omega)) (by omega)) (by omega)) (by omega) (by decide)) (by omega) (by decide)) h586) (by omega) (by decide))).2
      have hz608 : cs580 ≤ 10000 ∧ rg543 ≤ 625 ∧ dp542 ≤ 1000 := (by omega)
      have hz609 : vr ≤ vr ∧ vr ≤ 30 ∧ hd + vr = hd + vr := (by omega)
      have hO : OKP G h0 a (upd (upd (upd (upd (upd (upd (upd (upd (upd (upd F 2 (nI sz)) 5 (nI cs580)) 6 (nI rg543)) 7 (nI hd)) 8 (nI dp542)) 12 (nI vr)) 13 x599) 14 wt538) 15 wf539) 16 ls544) (updR (updR (updR R 2 (.ref pq)) 3 (.ref mq)) 4 (va_rf lo)) Z (updA (updA (updA (updA B535 16 f581) 17 f598) 18 f583) 19 f584) J K534 w := hO.to rfl
      refine W.widen (k := ((rE (g 2 q) - rS (g 2 q)) + 1)) (n := (6 * (rE (g 2 q) - rS (g 2 q)) + 6)) (by omega) (by omega) ?_
      have hzz1 : H.size ≤ s.heap.size + ((rE (g 2 q) - rS (g 2 q))) := (by have z : (((rE (g 2 z1) - rS (g 2 z1)) + 1) + (rE (g 2 q4) - rS (g 2 q4))) ≤ (rE (g 2 q) - rS (g 2 q)) := (by omega); omega)
      have hzz2 : hSl H ≤ hSl s.heap + ((6 * (rE (g 2 q) - rS (g 2 q)))) := (by have z : (((6 * (rE (g 2 z1) - rS (g 2 z1))) + 6) + (6 * (rE (g 2 q4) - rS (g 2 q4)))) ≤ (6 * (rE (g 2 q) - rS (g 2 q))) := (by omega); omega)
      exact W.vret hx hb hr (fun t99 ht99 hW99 => ⟨⟨_, (w, (K534, (updA (updA (updA (updA B535 16 f581) 17 f598) 18 f583) 19 f584), cs580, x599, wt538, wf539, vr, hd, dp542, rg543, ls544)), rfl, ⟨rfl, hz606, hz607, hz608, hz609, hO⟩, by rw [ht99]; exact hP, hD, by rw [ht99]; exact hzz1, by rw [ht99]; exact hzz2⟩, hS.F ht99⟩) hS.2.2 dX0_loopStatement_212
    · skip
      have hcz2 := hnd.2.1 2 z3 (by decide) hos2
      have hcT2 := hcz2.1
      have hcv2 : 1 ≤ g 0 z3 ∧ g 0 z3 + 1 ≤ n := ⟨hcz2.2.1, (by have z := hcz2.2.2.1; omega)⟩
      have hri2 := NdO.iv26c hnd hkd hos2
      have hrx2 := (hwp.1 z3 hcT2 hcz2.2.1).it
      refine c_get (v := .int (nI vr)) (C := RX0) (Tc := TX0) (N := 13) (ci := 0) hx hb hq pin_wsX00 hown hE hP hO 24 (sg_24 G h0 a _ _ _ _ _) rfl 5 (by decide) (hq _ pw_42) (fun _ h9 => h9) rfl dX0_loopStatement_1 ?_
      refine lv_istore_n (lv' := [(2, .int (nI vr)), (0, .ref (a 4)), (1, .ref q)]) hx hb dX0_loopStatement_4 rfl hl (by decide) rfl (fun ls hl => ?_)
      refine lv_aload_n hx hb dX0_loopStatement_5 rfl (lv_at hl 1 rfl) ?_
      refine c_get (v := .ref (a 2)) (C := RX0) (Tc := TX0) (N := 13) (ci := 0) hx hb hq pin_wsX00 hown hE hP hO 24 (sg_24 G h0 a _ _ _ _ _) rfl 1 (by decide) (hq _ pw_5) (fun _ h9 => h9) rfl dX0_loopStatement_6 ?_
      refine c_get (v := .int (nI hd)) (C := RX1) (Tc := TX1) (N := 13) (ci := 1) hx hb hq pin_wsX10 hown hE hP hO 13 (sg_13 G h0 a _ _ _ _ _) rfl 11 (by decide) (hq _ pw_54) (fun _ h9 => h9) rfl dX0_loopStatement_9 ?_
      refine lv_istore_n (lv' := [(3, .int (nI hd)), (2, .int (nI vr)), (0, .ref (a 4)), (1, .ref q)]) hx hb dX0_loopStatement_12 rfl hl (by decide) rfl (fun ls hl => ?_)
      refine lv_aload_n hx hb dX0_loopStatement_13 rfl (lv_at hl 3 rfl) ?_
      refine p_get (v := .ref z1) (C := RX7) (Tc := TX7) (N := 11) (ci := 13) hx hb hq pin_wsX70 hown hE hP hO (by rw [hqT]; decide) (rep_1 hqT) rfl 6 (by decide) (hq _ pw_180) (fun _ h9 => h9) (congrArg (fun z => some (va_rf z)) hos0) dX0_loopStatement_14 ?_
      refine lv_ifnull hx hb dX0_loopStatement_17 ?_
      refine lv_aload_n hx hb dX0_loopStatement_20 rfl (lv_at hl 2 rfl) ?_
      refine lv_aload_n hx hb dX0_loopStatement_21 rfl (lv_at hl 3 rfl) ?_
      refine p_get (v := .ref z1) (C := RX7) (Tc := TX7) (N := 11) (ci := 13) hx hb hq pin_wsX70 hown hE hP hO (by rw [hqT]; decide) (rep_1 hqT) rfl 6 (by decide) (hq _ pw_180) (fun _ h9 => h9) (congrArg (fun z => some (va_rf z)) hos0) dX0_loopStatement_22 ?_
      refine lv_iconst (v := 0) hx hb dX0_loopStatement_25 (by decide) ?_
      have hO : OKP G h0 a (upd (upd (upd (upd (upd (upd (upd (upd (upd (upd (upd (upd (upd (upd F 2 (nI sz)) 5 (nI cs)) 6 (nI rg)) 7 (nI hd)) 8 (nI dp)) 12 (nI vr)) 16 ls9) 2 (nI sz)) 5 (nI cs)) 6 (nI rg)) 7 (nI hd)) 8 (nI dp)) 12 (nI vr)) 16 ls9) (updR (updR (updR (updR (updR (updR R 2 (.ref pq)) 3 (.ref mq)) 4 (va_rf lo)) 2 (.ref pq)) 3 (.ref mq)) 4 (va_rf lo)) Z B J K w := hO.to rfl
      obtain ⟨_, qr613, hqr614⟩ := hO.2.1 24 _ (sg_24 G h0 a _ _ _ _ _)
      refine pn_V0 (G := G) (As := [.ref z1, .int (nI 0)]) (rest := []) hx hb hml hown hq hE hX pX0_al hP hD hS hA hl.1 ((ist (n - 1) (by omega)) h0 a (upd (upd (upd (upd (upd (upd (upd F 2 (nI sz)) 5 (nI cs)) 6 (nI rg)) 7 (nI hd)) 8 (nI dp)) 12 (nI vr)) 16 ls9) (updR (updR (updR R 2 (.ref pq)) 3 (.ref mq)) 4 (va_rf lo)) Z B J K w pq dr ml nd nm cp it s9 z1 mq cs vr sz 0 hd dp rg ls9 lo g rk (by omega) (BdE.wp BdE.rfl hwp) (BdE.pt BdE.rfl hwp hps) (BdE.rko BdE.rfl hrk) (by omega) (by omega) hng hmq hcT0 ⟨hcv0.1, (by have z9 := hcv0; omega)⟩ (by omega) (by omega) (by omega) (LpO.be BdE.rfl hlo) (by omega) hO hl0) (gV pw_300 pw_301 pw_302 pw_63 pw_323) hV_X0_statement qr613 0 hqr614 rfl rfl rfl (Nat.le_of_ble_eq_true rfl) dX0_loopStatement_26 ⟨(by show 0 + ((rE (g 2 z1) - rS (g 2 z1)) + 1) ≤ ((rE (g 2 q) - rS (g 2 q)) + 1); omega), (by show 0 + (6 * (rE (g 2 z1) - rS (g 2 z1)) + 6) ≤ (6 * (rE (g 2 q) - rS (g 2 q)) + 6); omega)⟩ ⟨(by show (5 * (n - 1) + 50) + 1 ≤ (5 * n + 46); omega), (by show 8 + (3 + 11) + (200 * (n - 1) + 1200) ≤ (200 * n + 1120); omega)⟩ (fun v612 u610 H locs hw611 hP hD hS => ?_) (fun ux ce9 q9 H9 locs9 hux hP9 hD9 hS9 hce hcv hcl => pb_out ux (ThQ.up (Thx.same (Thx.same (Thx.same (Thx.same (Thx.same (Thx.same (Thx.same Thx.rfl rfl) rfl) rfl) rfl) rfl) rfl) rfl) (show RhX (updR (updR (updR R 2 (.ref pq)) 3 (.ref mq)) 4 (va_rf lo)) (updR (updR (updR (updR (updR (updR R 2 (.ref pq)) 3 (.ref mq)) 4 (va_rf lo)) 2 (.ref pq)) 3 (.ref mq)) 4 (va_rf lo)) from fun k9 hk9 => by unfold updR; simp only [show ¬ k9 = 1 by omega, show ¬ k9 = 2 by omega, show ¬ k9 = 3 by omega, show ¬ k9 = 4 by omega, if_false]) hux) hnt hlocks hce hcv hcl hP9 hD9 hS9 (by show 0 + ((rE (g 2 z1) - rS (g 2 z1)) + 1) ≤ ((rE (g 2 q) - rS (g 2 q)) + 1); omega) (by show 0 + (6 * (rE (g 2 z1) - rS (g 2 z1)) + 6) ≤ (6 * (rE (g 2 q) - rS (g 2 q)) + 6); omega))
      obtain ⟨w, K615, B616, cs617, as618, wt619, wf620, vr621, hd622, dp623, rg624, ls625⟩ := u610
      obtain ⟨hw611, h626, h627, h628, h629, hO⟩ := hw611
      have h626 : BdE K K615 := h626
      have h627 : Bth B B616 := h627
      have h628 : cs617 ≤ 10000 ∧ rg624 ≤ 625 ∧ dp623 ≤ 1000 := h628
      have h629 : vr ≤ vr621 ∧ vr621 ≤ 30 ∧ hd622 + vr = hd + vr621 := h629
      obtain rfl : v612 = none := hw611
      have hf630 : K615.1 pq = 7 := (BdE.T h626 hp1 (by decide))
      have hf631 : K615.2.2.1 18 pq = some (a 1) := (BdE.C h626 (by rw [hp1]; decide) 18).trans hp2
      have hf632 : K615.2.2.1 14 pq = some dr := (BdE.C h626 (by rw [hp1]; decide) 14).trans hp3
      have hf633 : K615.1 dr = 8 := (BdE.T h626 hp4 (by decide))
      have hf634 : K615.2.2.1 15 pq = some ml := (BdE.C h626 (by rw [hp1]; decide) 15).trans hp5
      have hf635 : K615.1 ml = 5 := (BdE.T h626 hp6 (by decide))
      have hf636 : K615.2.1 24 pq = (nI nd) := (BdE.I h626 (by rw [hp1]; decide) (by decide) (by decide)).trans hp8
      have hf637 : K615.1 q = 1 := (BdE.T h626 hqT (by decide))
      have hf638 : K615.1 mq = 3 := (BdE.T h626 hmq (by decide))
      have hf639 : K615.2.2.1 3 q = some q4 := (BdE.C h626 (by rw [hqT]; decide) 3).trans hc3
      have hf640 : K615.1 q4 = 1 := (BdE.T h626 ht3 (by decide))
      have hf641 : K615.2.2.1 1 q = ob := (BdE.C h626 (by rw [hqT]; decide) 1).trans hob
      have hf642 : K615.2.2.1 0 q = some z1 := (BdE.C h626 (by rw [hqT]; decide) 0).trans hos0
      have hf643 : K615.1 z1 = 1 := (BdE.T h626 hcT0 (by decide))
      have hf644 : K615.2.2.1 2 q = some z3 := (BdE.C h626 (by rw [hqT]; decide) 2).trans hos2
      have hf645 : K615.1 z3 = 1 := (BdE.T h626 hcT2 (by decide))
      have hO : OKP G h0 a (upd (upd (upd (upd (upd (upd (upd (upd (upd (upd F 2 (nI sz)) 5 (nI cs617)) 6 (nI rg624)) 7 (nI hd622)) 8 (nI dp623)) 12 (nI vr621)) 13 as618) 14 wt619) 15 wf620) 16 ls625) (updR (updR (updR R 2 (.ref pq)) 3 (.ref mq)) 4 (va_rf lo)) Z B616 J K615 w := hO.to rfl
      refine W.widen (k := (rE (g 2 z1) - rS (g 2 z1))) (n := (6 * (rE (g 2 z1) - rS (g 2 z1)))) (by show 0 + (rE (g 2 z1) - rS (g 2 z1)) ≤ (rE (g 2 z1) - rS (g 2 z1)); omega) (by show 0 + (6 * (rE (g 2 z1) - rS (g 2 z1))) ≤ (6 * (rE (g 2 z1) - rS (g 2 z1))); omega) ?_
      refine W.eq (g2 := F0 m 29 ls []) rfl ?_
      have hbe646 := BdE.trans BdE.rfl h626
      have hbb647 : Bth B B616 := Bth.trans (show Thx (upd (upd (upd (upd (upd (upd (upd F 2 (nI sz)) 5 (nI cs)) 6 (nI rg)) 7 (nI hd)) 8 (nI dp)) 12 (nI vr)) 16 ls9) (upd (upd (upd (upd (upd (upd (upd F 2 (nI sz)) 5 (nI cs)) 6 (nI rg)) 7 (nI hd)) 8 (nI dp)) 12 (nI vr)) 16 ls9) B B from Thx.rfl).2 h627
      have hng648 : Nng (B616 18) := h627.2 hng
      refine lv_aload_n hx hb dX0_loopStatement_29 rfl (lv_at hl 2 rfl) ?_
      refine c_get (v := .ref (a 2)) (C := RX0) (Tc := TX0) (N := 13) (ci := 0) hx hb hq pin_wsX00 hown hE hP hO 24 (sg_24 G h0 a _ _ _ _ _) rfl 1 (by decide) (hq _ pw_5) (fun _ h9 => h9) rfl dX0_loopStatement_30 ?_
      refine c_get (v := .int (nI cs617)) (C := RX1) (Tc := TX1) (N := 13) (ci := 1) hx hb hq pin_wsX10 hown hE hP hO 13 (sg_13 G h0 a _ _ _ _ _) rfl 4 (by decide) (hq _ pw_75) (fun _ h9 => h9) rfl dX0_loopStatement_33 ?_
      refine lv_istore (lv' := [(4, .int (nI cs617)), (3, .int (nI hd)), (2, .int (nI vr)), (0, .ref (a 4)), (1, .ref q)]) hx hb dX0_loopStatement_36 hl (by decide) rfl (fun ls hl => ?_)
      refine lv_aload_n hx hb dX0_loopStatement_38 rfl (lv_at hl 3 rfl) ?_
      refine c_get (v := .ref (a 2)) (C := RX0) (Tc := TX0) (N := 13) (ci := 0) hx hb hq pin_wsX00 hown hE hP hO 24 (sg_24 G h0 a _ _ _ _ _) rfl 1 (by decide) (hq _ pw_5) (fun _ h9 => h9) rfl dX0_loopStatement_39 ?_
      refine lv_iconst (v := 0) hx hb dX0_loopStatement_42 (by decide) ?_
      refine lv_iconst (v := 0) hx hb dX0_loopStatement_43 (by decide) ?_
      refine lv_iconst (v := 0) hx hb dX0_loopStatement_44 (by decide) ?_
      have hO : OKW G h0 a (upd (upd (upd (upd (upd (upd (upd (upd (upd (upd (upd F 2 (nI sz)) 5 (nI cs617)) 6 (nI rg624)) 7 (nI hd622)) 8 (nI dp623)) 12 (nI vr621)) 13 as618) 14 wt619) 15 wf620) 16 ls625) 5 (nI cs617)) (updR (updR (updR R 2 (.ref pq)) 3 (.ref mq)) 4 (va_rf lo)) Z B616 J K615.1 (fun q99 x99 => x99 = rep G a K615 q99) w := hO.to rfl
      obtain ⟨_, qr652, hqr653⟩ := hO.2.1 13 _ (sg_13 G h0 a _ _ _ _ _)
      refine pc_V0 (G := G) (As := [.int 0, .int 0, .int (nI 0)]) (rest := []) hx hb hml hown hq hE hX pX0_al hP hD hS hA hl.1 (K_emit l G h0 a (upd (upd (upd (upd (upd (upd (upd (upd (upd (upd F 2 (nI sz)) 5 (nI cs617)) 6 (nI rg624)) 7 (nI hd622)) 8 (nI dp623)) 12 (nI vr621)) 13 as618) 14 wt619) 15 wf620) 16 ls625) (updR (updR (updR R 2 (.ref pq)) 3 (.ref mq)) 4 (va_rf lo)) Z B616 J K615.1 (fun q99 x99 => x99 = rep G a K615 q99) w 0 0 0 cs617 (by omega) (by omega) hng648 hO) (gV pw_129 pw_130 pw_131 pw_70 pw_115) hV_X1_emit qr652 1 hqr653 rfl rfl rfl (Nat.le_of_ble_eq_true rfl) dX0_loopStatement_45 ⟨(by show (rE (g 2 z1) - rS (g 2 z1)) + 0 ≤ ((rE (g 2 q) - rS (g 2 q)) + 1); omega), (by show (6 * (rE (g 2 z1) - rS (g 2 z1))) + 0 ≤ (6 * (rE (g 2 q) - rS (g 2 q)) + 6); omega)⟩ ⟨(by show 2 + 1 ≤ (5 * n + 46); omega), (by show 8 + (4 + 11) + 60 ≤ (200 * n + 1120); omega)⟩ (fun v651 u649 H locs hw650 hP hD hS => ?_)
      obtain ⟨w, cs654, f655, f656, f657, f658⟩ := u649
      obtain ⟨hw650, h659, h660, hO⟩ := hw650
      have h659 : cs617 ≤ cs654 ∧ cs654 ≤ cs617 + 1 ∧ cs654 ≤ 10000 := h659
      have h660 : Nng f657 := h660
      obtain rfl : v651 = none := hw650
      have hO : OKP G h0 a (upd (upd (upd (upd (upd (upd (upd (upd (upd (upd F 2 (nI sz)) 5 (nI cs654)) 6 (nI rg624)) 7 (nI hd622)) 8 (nI dp623)) 12 (nI vr621)) 13 as618) 14 wt619) 15 wf620) 16 ls625) (updR (updR (updR R 2 (.ref pq)) 3 (.ref mq)) 4 (va_rf lo)) Z (updA (updA (updA (updA B616 16 f655) 17 f656) 18 f657) 19 f658) J K615 w := hO.to rfl
      refine W.widen (k := (rE (g 2 z1) - rS (g 2 z1))) (n := (6 * (rE (g 2 z1) - rS (g 2 z1)))) (by show (rE (g 2 z1) - rS (g 2 z1)) + 0 ≤ (rE (g 2 z1) - rS (g 2 z1)); omega) (by show (6 * (rE (g 2 z1) - rS (g 2 z1))) + 0 ≤ (6 * (rE (g 2 z1) - rS (g 2 z1))); omega) ?_
      refine W.eq (g2 := F0 m 48 ls []) rfl ?_
      refine lv_aload_n hx hb dX0_loopStatement_48 rfl (lv_at hl 3 rfl) ?_
      refine lv_aload_n hx hb dX0_loopStatement_49 rfl (lv_at hl 4 rfl) ?_
      refine p_get (v := va_rf ob) (C := RX7) (Tc := TX7) (N := 11) (ci := 13) hx hb hq pin_wsX70 hown hE hP hO (by rw [hf637]; decide) (rep_1 hf637) rfl 7 (by decide) (hq _ pw_169) (fun _ h9 => h9) (congrArg (fun z => some (va_rf z)) hf641) dX0_loopStatement_50 ?_
      have hO : OKP G h0 a (upd (upd (upd (upd (upd (upd (upd (upd (upd (upd (upd (upd (upd (upd (upd (upd (upd (upd (upd F 2 (nI sz)) 5 (nI cs)) 6 (nI rg)) 7 (nI hd)) 8 (nI dp)) 12 (nI vr)) 16 ls9) 5 (nI cs654)) 6 (nI rg624)) 7 (nI hd622)) 8 (nI dp623)) 12 (nI vr621)) 13 as618) 14 wt619) 15 wf620) 16 ls625) 2 (nI sz)) 5 (nI cs654)) 12 (nI vr621)) (updR (updR (updR (updR (updR R 2 (.ref pq)) 3 (.ref mq)) 4 (va_rf lo)) 2 (.ref pq)) 3 (.ref mq)) Z (updA (updA (updA (updA B616 16 f655) 17 f656) 18 f657) 19 f658) J K615 w := hO.to rfl
      obtain ⟨_, qr664, hqr665⟩ := hO.2.1 24 _ (sg_24 G h0 a _ _ _ _ _)
      refine pn_V0 (G := G) (As := [va_rf ob]) (rest := []) hx hb hml hown hq hE hX pX0_al hP hD hS hA hl.1 (B_loopCondO l G h0 a (upd (upd (upd (upd (upd (upd (upd (upd (upd (upd (upd (upd (upd (upd (upd (upd F 2 (nI sz)) 5 (nI cs)) 6 (nI rg)) 7 (nI hd)) 8 (nI dp)) 12 (nI vr)) 16 ls9) 5 (nI cs654)) 6 (nI rg624)) 7 (nI hd622)) 8 (nI dp623)) 12 (nI vr621)) 13 as618) 14 wt619) 15 wf620) 16 ls625) (updR (updR (updR R 2 (.ref pq)) 3 (.ref mq)) 4 (va_rf lo)) Z (updA (updA (updA (updA B616 16 f655) 17 f656) 18 f657) 19 f658) J K615 w pq dr ml nd nm cp it s9 q mq cs654 vr621 sz n ob g rk (by omega) (BdE.wp hbe646 hwp) (BdE.pt hbe646 hwp hps) (BdE.rko hbe646 hrk) (by omega) (by omega) h660 hf638 hf637 hqL (KvO.of ((BdE.wp hbe646 hwp).1 q hf637 hqL.1) (by decide) hf641 hqL.2) (PV_all l G n) hO hl0) (gV pw_318 pw_319 pw_320 pw_63 pw_271) hV_X0_loopCondition qr664 0 hqr665 rfl rfl rfl (Nat.le_of_ble_eq_true rfl) dX0_loopStatement_53 ⟨(by show (rE (g 2 z1) - rS (g 2 z1)) + 1 ≤ ((rE (g 2 q) - rS (g 2 q)) + 1); omega), (by show (6 * (rE (g 2 z1) - rS (g 2 z1))) + 6 ≤ (6 * (rE (g 2 q) - rS (g 2 q)) + 6); omega)⟩ ⟨(by show (5 * n + 35) + 1 ≤ (5 * n + 46); omega), (by show 8 + (2 + 11) + (200 * n + 640) ≤ (200 * n + 1120); omega)⟩ (fun v663 u661 H locs hw662 hP hD hS => ?_) (fun ux ce9 q9 H9 locs9 hux hP9 hD9 hS9 hce hcv hcl => pb_out ux (ThQ.up (Thx.same (Thx.same (Thx.same (Thx.b (Thx.b8 (Thx.b (Thx.b (Thx.f (Thx.f (Thx.f (Thx.f (Thx.f (Thx.f (Thx.f (Thx.f (Thx.f (Bth.thx hbb647) (by omega)) (by omega)) (by omega)) (by omega)) (by omega)) (by omega)) (by omega)) (by omega)) (by omega)) (by omega) (by decide)) (by omega) (by decide)) h660) (by omega) (by decide)) rfl) rfl) rfl) (show RhX (updR (updR (updR R 2 (.ref pq)) 3 (.ref mq)) 4 (va_rf lo)) (updR (updR (updR (updR (updR R 2 (.ref pq)) 3 (.ref mq)) 4 (va_rf lo)) 2 (.ref pq)) 3 (.ref mq)) from fun k9 hk9 => by unfold updR; simp only [show ¬ k9 = 1 by omega, show ¬ k9 = 2 by omega, show ¬ k9 = 3 by omega, show ¬ k9 = 4 by omega, if_false]) hux) hnt hlocks hce hcv hcl hP9 hD9 hS9 (by show (rE (g 2 z1) - rS (g 2 z1)) + 1 ≤ ((rE (g 2 q) - rS (g 2 q)) + 1); omega) (by show (6 * (rE (g 2 z1) - rS (g 2 z1))) + 6 ≤ (6 * (rE (g 2 q) - rS (g 2 q)) + 6); omega))
      obtain ⟨w, K666, B667, cs668, as669, wt670, wf671, r672⟩ := u661
      obtain ⟨hw662, h673, h674, h675, hO⟩ := hw662
      have h673 : BdE K615 K666 := h673
      have h674 : Bth (updA (updA (updA (updA B616 16 f655) 17 f656) 18 f657) 19 f658) B667 := h674
      have h675 : cs668 ≤ 10000 := h675
      obtain rfl : v663 = some (.int r672) := hw662
      have hf676 : K666.1 pq = 7 := (BdE.T h673 hf630 (by decide))
      have hf677 : K666.2.2.1 18 pq = some (a 1) := (BdE.C h673 (by rw [hf630]; decide) 18).trans hf631
      have hf678 : K666.2.2.1 14 pq = some dr := (BdE.C h673 (by rw [hf630]; decide) 14).trans hf632
      have hf679 : K666.1 dr = 8 := (BdE.T h673 hf633 (by decide))
      have hf680 : K666.2.2.1 15 pq = some ml := (BdE.C h673 (by rw [hf630]; decide) 15).trans hf634
      have hf681 : K666.1 ml = 5 := (BdE.T h673 hf635 (by decide))
      have hf682 : K666.2.1 24 pq = (nI nd) := (BdE.I h673 (by rw [hf630]; decide) (by decide) (by decide)).trans hf636
      have hf683 : K666.1 q = 1 := (BdE.T h673 hf637 (by decide))
      have hf684 : K666.1 mq = 3 := (BdE.T h673 hf638 (by decide))
      have hf685 : K666.2.2.1 3 q = some q4 := (BdE.C h673 (by rw [hf637]; decide) 3).trans hf639
      have hf686 : K666.1 q4 = 1 := (BdE.T h673 hf640 (by decide))
      have hf687 : K666.2.2.1 1 q = ob := (BdE.C h673 (by rw [hf637]; decide) 1).trans hf641
      have hf688 : K666.2.2.1 0 q = some z1 := (BdE.C h673 (by rw [hf637]; decide) 0).trans hf642
      have hf689 : K666.1 z1 = 1 := (BdE.T h673 hf643 (by decide))
      have hf690 : K666.2.2.1 2 q = some z3 := (BdE.C h673 (by rw [hf637]; decide) 2).trans hf644
      have hf691 : K666.1 z3 = 1 := (BdE.T h673 hf645 (by decide))
      have hO : OKP G h0 a (upd (upd (upd (upd (upd (upd (upd (upd (upd (upd F 2 (nI sz)) 5 (nI cs668)) 6 (nI rg624)) 7 (nI hd622)) 8 (nI dp623)) 12 (nI vr621)) 13 as669) 14 wt670) 15 wf671) 16 ls625) (updR (updR (updR R 2 (.ref pq)) 3 (.ref mq)) 4 (va_rf lo)) Z B667 J K666 w := hO.to rfl
      refine W.widen (k := (rE (g 2 z1) - rS (g 2 z1))) (n := (6 * (rE (g 2 z1) - rS (g 2 z1)))) (by show (rE (g 2 z1) - rS (g 2 z1)) + 0 ≤ (rE (g 2 z1) - rS (g 2 z1)); omega) (by show (6 * (rE (g 2 z1) - rS (g 2 z1))) + 0 ≤ (6 * (rE (g 2 z1) - rS (g 2 z1))); omega) ?_
      refine W.eq (g2 := F0 m 56 ls [.int r672]) rfl ?_
      have hbe692 := BdE.trans hbe646 h673
      have hbb693 : Bth B B667 := Bth.trans (show Thx (upd (upd (upd (upd (upd (upd (upd F 2 (nI sz)) 5 (nI cs)) 6 (nI rg)) 7 (nI hd)) 8 (nI dp)) 12 (nI vr)) 16 ls9) (upd (upd (upd (upd (upd (upd (upd (upd (upd (upd (upd (upd (upd (upd (upd (upd F 2 (nI sz)) 5 (nI cs)) 6 (nI rg)) 7 (nI hd)) 8 (nI dp)) 12 (nI vr)) 16 ls9) 5 (nI cs654)) 6 (nI rg624)) 7 (nI hd622)) 8 (nI dp623)) 12 (nI vr621)) 13 as618) 14 wt619) 15 wf620) 16 ls625) B (updA (updA (updA (updA B616 16 f655) 17 f656) 18 f657) 19 f658) from (Thx.b (Thx.b8 (Thx.b (Thx.b (Thx.f (Thx.f (Thx.f (Thx.f (Thx.f (Thx.f (Thx.f (Thx.f (Thx.f (Bth.thx hbb647) (by omega)) (by omega)) (by omega)) (by omega)) (by omega)) (by omega)) (by omega)) (by omega)) (by omega)) (by omega) (by decide)) (by omega) (by decide)) h660) (by omega) (by decide))).2 h674
      have hng694 : Nng (B667 18) := h674.2 h660
      refine lv_istore (lv' := [(5, .int r672), (4, .int (nI cs617)), (3, .int (nI hd)), (2, .int (nI vr)), (0, .ref (a 4)), (1, .ref q)]) hx hb dX0_loopStatement_56 hl (by decide) rfl (fun ls hl => ?_)
      refine lv_aload_n hx hb dX0_loopStatement_58 rfl (lv_at hl 4 rfl) ?_
      refine c_get (v := .int wf671) (C := RX0) (Tc := TX0) (N := 13) (ci := 0) hx hb hq pin_wsX00 hown hE hP hO 24 (sg_24 G h0 a _ _ _ _ _) rfl 10 (by decide) (hq _ pw_157) (fun _ h9 => h9) rfl dX0_loopStatement_59 ?_
      refine lv_istore (lv' := [(6, .int wf671), (5, .int r672), (4, .int (nI cs617)), (3, .int (nI hd)), (2, .int (nI vr)), (0, .ref (a 4)), (1, .ref q)]) hx hb dX0_loopStatement_62 hl (by decide) rfl (fun ls hl => ?_)
      refine lv_aload_n hx hb dX0_loopStatement_64 rfl (lv_at hl 5 rfl) ?_
      refine lv_aload_n hx hb dX0_loopStatement_65 rfl (lv_at hl 5 rfl) ?_
      refine c_get (v := .int wt670) (C := RX0) (Tc := TX0) (N := 13) (ci := 0) hx hb hq pin_wsX00 hown hE hP hO 24 (sg_24 G h0 a _ _ _ _ _) rfl 9 (by decide) (hq _ pw_156) (fun _ h9 => h9) rfl dX0_loopStatement_66 ?_
      refine c_put (v := .int wt670) (ty := .int) (C := RX0) (Tc := TX0) (N := 13) (ci := 0) hx hb hq pin_wsX00 tyX0 tyX0_ok nmX0 hown hE hP hD hS hO 24 (sg_24 G h0 a _ _ _ _ _) rfl 8 (by decide) (hq _ pw_55) (fun _ h9 => h9) rfl (by decide +kernel) rfl rfl (Nat.le_of_ble_eq_true rfl) (sf_13 G h0 a _ _ _ _ _ wt670) dX0_loopStatement_69 (fun H locs w hP hD hS hO => ?_)
      refine lv_aload_n hx hb dX0_loopStatement_72 rfl (lv_at hl 5 rfl) ?_
      refine p_new (s9 := 9) (C := RX4) (T := TX4) (N := 6) (ci := 11) (fs := [.null, .int 0, .int 0, .int 0, .int 0, .int 0]) hx hb hq pin_wsX40 tyX4 tyX4_ok hown (hq _ pw_313) (hq _ pw_314) (hq _ pw_315) hE hP hD hS hA hO rfl nw_X4 (by decide) (fun q => by rw [rep_9 (show (kN K666 q 9 0).1 q = 9 from if_pos rfl)]; unfold fsLoop kN; simp only [if_true]; rfl) (by show (rE (g 2 z1) - rS (g 2 z1)) + 1 ≤ ((rE (g 2 q) - rS (g 2 q)) + 1); omega) (by show (6 * (rE (g 2 z1) - rS (g 2 z1))) + 6 ≤ (6 * (rE (g 2 q) - rS (g 2 q)) + 6); omega) dX0_loopStatement_73 (fun q695 H w hq696 hP hD hS hO => ?_)
      have hf697 : (kN K666 q695 9 0).1 pq = 7 := (if_neg (fun z => by have z2 := hf676; rw [z, hq696] at z2; exact absurd z2 (by decide))).trans hf676
      have hf698 : (kN K666 q695 9 0).2.2.1 18 pq = some (a 1) := (if_neg (fun z => by have z2 := hf676; rw [z, hq696] at z2; exact absurd z2 (by decide))).trans hf677
      have hf699 : (kN K666 q695 9 0).2.2.1 14 pq = some dr := (if_neg (fun z => by have z2 := hf676; rw [z, hq696] at z2; exact absurd z2 (by decide))).trans hf678
      have hf700 : (kN K666 q695 9 0).1 dr = 8 := (if_neg (fun z => by have z2 := hf679; rw [z, hq696] at z2; exact absurd z2 (by decide))).trans hf679
      have hf701 : (kN K666 q695 9 0).2.2.1 15 pq = some ml := (if_neg (fun z => by have z2 := hf676; rw [z, hq696] at z2; exact absurd z2 (by decide))).trans hf680
      have hf702 : (kN K666 q695 9 0).1 ml = 5 := (if_neg (fun z => by have z2 := hf681; rw [z, hq696] at z2; exact absurd z2 (by decide))).trans hf681
      have hf703 : (kN K666 q695 9 0).2.1 24 pq = (nI nd) := (if_neg (fun z => by have z2 := hf676; rw [z, hq696] at z2; exact absurd z2 (by decide))).trans hf682
      have hf704 : (kN K666 q695 9 0).1 q = 1 := (if_neg (fun z => by have z2 := hf683; rw [z, hq696] at z2; exact absurd z2 (by decide))).trans hf683
      have hf705 : (kN K666 q695 9 0).1 mq = 3 := (if_neg (fun z => by have z2 := hf684; rw [z, hq696] at z2; exact absurd z2 (by decide))).trans hf684
      have hf706 : (kN K666 q695 9 0).2.2.1 3 q = some q4 := (if_neg (fun z => by have z2 := hf683; rw [z, hq696] at z2; exact absurd z2 (by decide))).trans hf685
      have hf707 : (kN K666 q695 9 0).1 q4 = 1 := (if_neg (fun z => by have z2 := hf686; rw [z, hq696] at z2; exact absurd z2 (by decide))).trans hf686
      have hf708 : (kN K666 q695 9 0).2.2.1 1 q = ob := (if_neg (fun z => by have z2 := hf683; rw [z, hq696] at z2; exact absurd z2 (by decide))).trans hf687
      have hf709 : (kN K666 q695 9 0).2.2.1 0 q = some z1 := (if_neg (fun z => by have z2 := hf683; rw [z, hq696] at z2; exact absurd z2 (by decide))).trans hf688
      have hf710 : (kN K666 q695 9 0).1 z1 = 1 := (if_neg (fun z => by have z2 := hf689; rw [z, hq696] at z2; exact absurd z2 (by decide))).trans hf689
      have hf711 : (kN K666 q695 9 0).2.2.1 2 q = some z3 := (if_neg (fun z => by have z2 := hf683; rw [z, hq696] at z2; exact absurd z2 (by decide))).trans hf690
      have hf712 : (kN K666 q695 9 0).1 z3 = 1 := (if_neg (fun z => by have z2 := hf691; rw [z, hq696] at z2; exact absurd z2 (by decide))).trans hf691
      have hf713 : (kN K666 q695 9 0).1 q695 = 9 := if_pos rfl
      refine W.widen (k := ((rE (g 2 z1) - rS (g 2 z1)) + 1)) (n := ((6 * (rE (g 2 z1) - rS (g 2 z1))) + 6)) (by show (rE (g 2 z1) - rS (g 2 z1)) + 1 ≤ ((rE (g 2 z1) - rS (g 2 z1)) + 1); omega) (by show (6 * (rE (g 2 z1) - rS (g 2 z1))) + 6 ≤ ((6 * (rE (g 2 z1) - rS (g 2 z1))) + 6); omega) ?_
      refine lv_dup hx hb dX0_loopStatement_76 rfl ?_
      refine lv_aload_n hx hb dX0_loopStatement_77 rfl (lv_at hl 5 rfl) ?_
      refine c_get (v := va_rf lo) (C := RX0) (Tc := TX0) (N := 13) (ci := 0) hx hb hq pin_wsX00 hown hE hP hO 24 (sg_24 G h0 a _ _ _ _ _) rfl 11 (by decide) (hq _ pw_73) (fun _ h9 => h9) rfl dX0_loopStatement_78 ?_
      refine lv_aload_n hx hb dX0_loopStatement_81 rfl (lv_at hl 5 rfl) ?_
      refine c_get (v := .int ls625) (C := RX0) (Tc := TX0) (N := 13) (ci := 0) hx hb hq pin_wsX00 hown hE hP hO 24 (sg_24 G h0 a _ _ _ _ _) rfl 12 (by decide) (hq _ pw_74) (fun _ h9 => h9) rfl dX0_loopStatement_82 ?_
      have hO : OKP G h0 a (upd (upd (upd (upd (upd (upd (upd (upd (upd (upd F 2 (nI sz)) 5 (nI cs668)) 6 (nI rg624)) 7 (nI hd622)) 8 (nI dp623)) 12 (nI vr621)) 13 wt670) 14 wt670) 15 wf671) 16 ls625) (updR (updR (updR R 2 (.ref pq)) 3 (.ref mq)) 4 (va_rf lo)) Z B667 J (kN K666 q695 9 0) w := hO.to rfl
      obtain ⟨qr717, hqr718⟩ := p_recv hO (by rw [hf713]; decide) (rep_9 hf713)
      refine pc_I0 (G := G) (As := [va_rf lo, .int ls625]) (rest := [.ref q695, .ref (a 4)]) hx hb hml hown hq hE hX pX0_al hP hD hS hA hl.1 (O_initV l G h0 a (upd (upd (upd (upd (upd (upd (upd (upd (upd (upd F 2 (nI sz)) 5 (nI cs668)) 6 (nI rg624)) 7 (nI hd622)) 8 (nI dp623)) 12 (nI vr621)) 13 wt670) 14 wt670) 15 wf671) 16 ls625) (updR (updR (updR R 2 (.ref pq)) 3 (.ref mq)) 4 (va_rf lo)) Z B667 J (kN K666 q695 9 0) w q695 lo ls625 hf713 hO) pw_321 pw_322 pw_315 pw_272 rfl hS_X4_init rfl (Nat.le_of_ble_eq_true rfl) dX0_loopStatement_85 ⟨(by show ((rE (g 2 z1) - rS (g 2 z1)) + 1) + 0 ≤ ((rE (g 2 q) - rS (g 2 q)) + 1); omega), (by show ((6 * (rE (g 2 z1) - rS (g 2 z1))) + 6) + 0 ≤ (6 * (rE (g 2 q) - rS (g 2 q)) + 6); omega)⟩ ⟨(by show 2 + 1 ≤ (5 * n + 46); omega), (by show 8 + (3 + 11) + 60 ≤ (200 * n + 1120); omega)⟩ (fun v716 u714 H locs hw715 hP hD hS => ?_)
      obtain ⟨w, _⟩ := u714
      obtain ⟨hw715, hO⟩ := hw715
      obtain rfl : v716 = none := hw715
      have hf719 : (kI (kI (kI (kI (kI (kC (kN K666 q695 9 0) 16 q695 lo) 26 q695 ls625) 27 q695 (-1)) 28 q695 (-1)) 29 q695 (-1)) 30 q695 (-1)).1 pq = 7 := hf697
      have hf720 : (kI (kI (kI (kI (kI (kC (kN K666 q695 9 0) 16 q695 lo) 26 q695 ls625) 27 q695 (-1)) 28 q695 (-1)) 29 q695 (-1)) 30 q695 (-1)).1 dr = 8 := hf700
      have hf721 : (kI (kI (kI (kI (kI (kC (kN K666 q695 9 0) 16 q695 lo) 26 q695 ls625) 27 q695 (-1)) 28 q695 (-1)) 29 q695 (-1)) 30 q695 (-1)).1 ml = 5 := hf702
      have hf722 : (kI (kI (kI (kI (kI (kC (kN K666 q695 9 0) 16 q695 lo) 26 q695 ls625) 27 q695 (-1)) 28 q695 (-1)) 29 q695 (-1)) 30 q695 (-1)).1 q = 1 := hf704
      have hf723 : (kI (kI (kI (kI (kI (kC (kN K666 q695 9 0) 16 q695 lo) 26 q695 ls625) 27 q695 (-1)) 28 q695 (-1)) 29 q695 (-1)) 30 q695 (-1)).1 mq = 3 := hf705
      have hf724 : (kI (kI (kI (kI (kI (kC (kN K666 q695 9 0) 16 q695 lo) 26 q695 ls625) 27 q695 (-1)) 28 q695 (-1)) 29 q695 (-1)) 30 q695 (-1)).1 q4 = 1 := hf707
      have hf725 : (kI (kI (kI (kI (kI (kC (kN K666 q695 9 0) 16 q695 lo) 26 q695 ls625) 27 q695 (-1)) 28 q695 (-1)) 29 q695 (-1)) 30 q695 (-1)).1 z1 = 1 := hf710
      have hf726 : (kI (kI (kI (kI (kI (kC (kN K666 q695 9 0) 16 q695 lo) 26 q695 ls625) 27 q695 (-1)) 28 q695 (-1)) 29 q695 (-1)) 30 q695 (-1)).1 z3 = 1 := hf712
      have hf727 : (kI (kI (kI (kI (kI (kC (kN K666 q695 9 0) 16 q695 lo) 26 q695 ls625) 27 q695 (-1)) 28 q695 (-1)) 29 q695 (-1)) 30 q695 (-1)).1 q695 = 9 := hf713
      have hO : OKP G h0 a (upd (upd (upd (upd (upd (upd (upd (upd (upd (upd F 2 (nI sz)) 5 (nI cs668)) 6 (nI rg624)) 7 (nI hd622)) 8 (nI dp623)) 12 (nI vr621)) 13 wt670) 14 wt670) 15 wf671) 16 ls625) (updR (updR (updR R 2 (.ref pq)) 3 (.ref mq)) 4 (va_rf lo)) Z B667 J (kI (kI (kI (kI (kI (kC (kN K666 q695 9 0) 16 q695 lo) 26 q695 ls625) 27 q695 (-1)) 28 q695 (-1)) 29 q695 (-1)) 30 q695 (-1)) w := hO.to rfl
      refine W.widen (k := ((rE (g 2 z1) - rS (g 2 z1)) + 1)) (n := ((6 * (rE (g 2 z1) - rS (g 2 z1))) + 6)) (by show ((rE (g 2 z1) - rS (g 2 z1)) + 1) + 0 ≤ ((rE (g 2 z1) - rS (g 2 z1)) + 1); omega) (by show ((6 * (rE (g 2 z1) - rS (g 2 z1))) + 6) + 0 ≤ ((6 * (rE (g 2 z1) - rS (g 2 z1))) + 6); omega) ?_
      refine W.eq (g2 := F0 m 88 ls [.ref q695, .ref (a 4)]) rfl ?_
      obtain ⟨K728, hK729⟩ : ∃ z : PK, z = (kI (kI (kI (kI (kI (kC (kN K666 q695 9 0) 16 q695 lo) 26 q695 ls625) 27 q695 (-1)) 28 q695 (-1)) 29 q695 (-1)) 30 q695 (-1)) := ⟨_, rfl⟩
      rw [← hK729] at hO
      have hbx730 : BdE K666 K728 := by rw [hK729]; exact BdE.loop hq696
      have hbe731 := BdE.trans hbe692 hbx730
      have hf732 : K728.1 pq = 7 := (BdE.T hbx730 hf676 (by decide))
      have hf733 : K728.2.2.1 18 pq = some (a 1) := (BdE.C hbx730 (by rw [hf676]; decide) 18).trans hf677
      have hf734 : K728.2.2.1 14 pq = some dr := (BdE.C hbx730 (by rw [hf676]; decide) 14).trans hf678
      have hf735 : K728.1 dr = 8 := (BdE.T hbx730 hf679 (by decide))
      have hf736 : K728.2.2.1 15 pq = some ml := (BdE.C hbx730 (by rw [hf676]; decide) 15).trans hf680
      have hf737 : K728.1 ml = 5 := (BdE.T hbx730 hf681 (by decide))
      have hf738 : K728.2.1 24 pq = (nI nd) := (BdE.I hbx730 (by rw [hf676]; decide) (by decide) (by decide)).trans hf682
      have hf739 : K728.1 q = 1 := (BdE.T hbx730 hf683 (by decide))
      have hf740 : K728.1 mq = 3 := (BdE.T hbx730 hf684 (by decide))
      have hf741 : K728.2.2.1 3 q = some q4 := (BdE.C hbx730 (by rw [hf683]; decide) 3).trans hf685
      have hf742 : K728.1 q4 = 1 := (BdE.T hbx730 hf686 (by decide))
      have hf743 : K728.2.2.1 1 q = ob := (BdE.C hbx730 (by rw [hf683]; decide) 1).trans hf687
      have hf744 : K728.2.2.1 0 q = some z1 := (BdE.C hbx730 (by rw [hf683]; decide) 0).trans hf688
      have hf745 : K728.1 z1 = 1 := (BdE.T hbx730 hf689 (by decide))
      have hf746 : K728.2.2.1 2 q = some z3 := (BdE.C hbx730 (by rw [hf683]; decide) 2).trans hf690
      have hf747 : K728.1 z3 = 1 := (BdE.T hbx730 hf691 (by decide))
      have hf748 : K728.1 q695 = 9 := by rw [hK729]; exact if_pos rfl
      have hf749 : K728.2.2.1 16 q695 = lo := by rw [hK729]; exact kC_eq
      refine c_put (v := .ref q695) (ty := (.object "JinjaTongue$Loop")) (C := RX0) (Tc := TX0) (N := 13) (ci := 0) hx hb hq pin_wsX00 tyX0 tyX0_ok nmX0 hown hE hP hD hS hO 24 (sg_24 G h0 a _ _ _ _ _) rfl 11 (by decide) (hq _ pw_73) (fun _ h9 => h9) rfl (by decide +kernel) rfl rfl (Nat.le_of_ble_eq_true rfl) (sr_4 G h0 a _ _ _ _ _ (.ref q695)) dX0_loopStatement_88 (fun H locs w hP hD hS hO => ?_)
      refine lv_aload_n hx hb dX0_loopStatement_91 rfl (lv_at hl 5 rfl) ?_
      refine lv_aload_n hx hb dX0_loopStatement_92 rfl (lv_at hl 6 rfl) ?_
      refine p_get (v := .ref q4) (C := RX7) (Tc := TX7) (N := 11) (ci := 13) hx hb hq pin_wsX70 hown hE hP hO (by rw [hf739]; decide) (rep_1 hf739) rfl 9 (by decide) (hq _ pw_316) (fun _ h9 => h9) (congrArg (fun z => some (va_rf z)) hf741) dX0_loopStatement_93 ?_
      refine lv_iconst (v := 1) hx hb dX0_loopStatement_96 (by decide) ?_
      have hO : OKP G h0 a (upd (upd (upd (upd (upd (upd (upd (upd (upd (upd (upd (upd (upd (upd (upd (upd (upd (upd (upd (upd (upd (upd (upd F 2 (nI sz)) 5 (nI cs)) 6 (nI rg)) 7 (nI hd)) 8 (nI dp)) 12 (nI vr)) 16 ls9) 5 (nI cs668)) 6 (nI rg624)) 7 (nI hd622)) 8 (nI dp623)) 12 (nI vr621)) 13 wt670) 14 wt670) 15 wf671) 16 ls625) 2 (nI sz)) 5 (nI cs668)) 6 (nI rg624)) 7 (nI hd622)) 8 (nI dp623)) 12 (nI vr621)) 16 ls625) (updR (updR (updR (updR (updR (updR R 2 (.ref pq)) 3 (.ref mq)) 4 (.ref q695)) 2 (.ref pq)) 3 (.ref mq)) 4 (va_rf (some q695))) Z B667 J K728 w := hO.to rfl
      obtain ⟨_, qr753, hqr754⟩ := hO.2.1 24 _ (sg_24 G h0 a _ _ _ _ _)
      refine pn_V0 (G := G) (As := [.ref q4, .int (nI 1)]) (rest := []) hx hb hml hown hq hE hX pX0_al hP hD hS hA hl.1 ((ist (n - 1) (by omega)) h0 a (upd (upd (upd (upd (upd (upd (upd (upd (upd (upd (upd (upd (upd (upd (upd (upd F 2 (nI sz)) 5 (nI cs)) 6 (nI rg)) 7 (nI hd)) 8 (nI dp)) 12 (nI vr)) 16 ls9) 5 (nI cs668)) 6 (nI rg624)) 7 (nI hd622)) 8 (nI dp623)) 12 (nI vr621)) 13 wt670) 14 wt670) 15 wf671) 16 ls625) (updR (updR (updR R 2 (.ref pq)) 3 (.ref mq)) 4 (.ref q695)) Z B667 J K728 w pq dr ml nd nm cp it s9 q4 mq cs668 vr621 sz 1 hd622 dp623 rg624 ls625 (some q695) g rk (by omega) (BdE.wp hbe731 hwp) (BdE.pt hbe731 hwp hps) (BdE.rko hbe731 hrk) (by omega) (by omega) hng694 hf740 hf742 ⟨hv3.1, (by have z9 := hv3; omega)⟩ (by omega) (by omega) (by omega) (fun x9 h9 => by cases h9; exact hf748) (by omega) hO hl0) (gV pw_300 pw_301 pw_302 pw_63 pw_323) hV_X0_statement qr753 0 hqr754 rfl rfl rfl (Nat.le_of_ble_eq_true rfl) dX0_loopStatement_97 ⟨(by show ((rE (g 2 z1) - rS (g 2 z1)) + 1) + ((rE (g 2 q4) - rS (g 2 q4)) + 1) ≤ ((rE (g 2 q) - rS (g 2 q)) + 1); omega), (by show ((6 * (rE (g 2 z1) - rS (g 2 z1))) + 6) + (6 * (rE (g 2 q4) - rS (g 2 q4)) + 6) ≤ (6 * (rE (g 2 q) - rS (g 2 q)) + 6); omega)⟩ ⟨(by show (5 * (n - 1) + 50) + 1 ≤ (5 * n + 46); omega), (by show 8 + (3 + 11) + (200 * (n - 1) + 1200) ≤ (200 * n + 1120); omega)⟩ (fun v752 u750 H locs hw751 hP hD hS => ?_) (fun ux ce9 q9 H9 locs9 hux hP9 hD9 hS9 hce hcv hcl => pb_out ux (ThQ.up (Thx.same (Thx.same (Thx.same (Thx.same (Thx.same (Thx.same (Thx.same (Thx.f (Thx.f (Thx.f (Thx.f (Thx.f (Thx.f (Thx.f (Thx.f (Thx.f (Bth.thx hbb693) (by omega)) (by omega)) (by omega)) (by omega)) (by omega)) (by omega)) (by omega)) (by omega)) (by omega)) rfl) rfl) rfl) rfl) rfl) rfl) rfl) (show RhX (updR (updR (updR R 2 (.ref pq)) 3 (.ref mq)) 4 (va_rf lo)) (updR (updR (updR (updR (updR (updR R 2 (.ref pq)) 3 (.ref mq)) 4 (.ref q695)) 2 (.ref pq)) 3 (.ref mq)) 4 (va_rf (some q695))) from fun k9 hk9 => by unfold updR; simp only [show ¬ k9 = 1 by omega, show ¬ k9 = 2 by omega, show ¬ k9 = 3 by omega, show ¬ k9 = 4 by omega, if_false]) hux) hnt hlocks hce hcv hcl hP9 hD9 hS9 (by show ((rE (g 2 z1) - rS (g 2 z1)) + 1) + ((rE (g 2 q4) - rS (g 2 q4)) + 1) ≤ ((rE (g 2 q) - rS (g 2 q)) + 1); omega) (by show ((6 * (rE (g 2 z1) - rS (g 2 z1))) + 6) + (6 * (rE (g 2 q4) - rS (g 2 q4)) + 6) ≤ (6 * (rE (g 2 q) - rS (g 2 q)) + 6); omega))
      obtain ⟨w, K755, B756, cs757, as758, wt759, wf760, vr761, hd762, dp763, rg764, ls765⟩ := u750
      obtain ⟨hw751, h766, h767, h768, h769, hO⟩ := hw751
      have h766 : BdE K728 K755 := h766
      have h767 : Bth B667 B756 := h767
      have h768 : cs757 ≤ 10000 ∧ rg764 ≤ 625 ∧ dp763 ≤ 1000 := h768
      have h769 : vr621 ≤ vr761 ∧ vr761 ≤ 30 ∧ hd762 + vr621 = hd622 + vr761 := h769
      obtain rfl : v752 = none := hw751
      have hf770 : K755.1 pq = 7 := (BdE.T h766 hf732 (by decide))
      have hf771 : K755.2.2.1 18 pq = some (a 1) := (BdE.C h766 (by rw [hf732]; decide) 18).trans hf733
      have hf772 : K755.2.2.1 14 pq = some dr := (BdE.C h766 (by rw [hf732]; decide) 14).trans hf734
      have hf773 : K755.1 dr = 8 := (BdE.T h766 hf735 (by decide))
      have hf774 : K755.2.2.1 15 pq = some ml := (BdE.C h766 (by rw [hf732]; decide) 15).trans hf736
      have hf775 : K755.1 ml = 5 := (BdE.T h766 hf737 (by decide))
      have hf776 : K755.2.1 24 pq = (nI nd) := (BdE.I h766 (by rw [hf732]; decide) (by decide) (by decide)).trans hf738
      have hf777 : K755.1 q = 1 := (BdE.T h766 hf739 (by decide))
      have hf778 : K755.1 mq = 3 := (BdE.T h766 hf740 (by decide))
      have hf779 : K755.2.2.1 3 q = some q4 := (BdE.C h766 (by rw [hf739]; decide) 3).trans hf741
      have hf780 : K755.1 q4 = 1 := (BdE.T h766 hf742 (by decide))
      have hf781 : K755.2.2.1 1 q = ob := (BdE.C h766 (by rw [hf739]; decide) 1).trans hf743
      have hf782 : K755.2.2.1 0 q = some z1 := (BdE.C h766 (by rw [hf739]; decide) 0).trans hf744
      have hf783 : K755.1 z1 = 1 := (BdE.T h766 hf745 (by decide))
      have hf784 : K755.2.2.1 2 q = some z3 := (BdE.C h766 (by rw [hf739]; decide) 2).trans hf746
      have hf785 : K755.1 z3 = 1 := (BdE.T h766 hf747 (by decide))
      have hf786 : K755.1 q695 = 9 := (BdE.T h766 hf748 (by decide))
      have hf787 : K755.2.2.1 16 q695 = lo := (BdE.C h766 (by rw [hf748]; decide) 16).trans hf749
      have hO : OKP G h0 a (upd (upd (upd (upd (upd (upd (upd (upd (upd (upd F 2 (nI sz)) 5 (nI cs757)) 6 (nI rg764)) 7 (nI hd762)) 8 (nI dp763)) 12 (nI vr761)) 13 as758) 14 wt759) 15 wf760) 16 ls765) (updR (updR (updR R 2 (.ref pq)) 3 (.ref mq)) 4 (.ref q695)) Z B756 J K755 w := hO.to rfl
      refine W.widen (k := (((rE (g 2 z1) - rS (g 2 z1)) + 1) + (rE (g 2 q4) - rS (g 2 q4)))) (n := (((6 * (rE (g 2 z1) - rS (g 2 z1))) + 6) + (6 * (rE (g 2 q4) - rS (g 2 q4))))) (by show ((rE (g 2 z1) - rS (g 2 z1)) + 1) + (rE (g 2 q4) - rS (g 2 q4)) ≤ (((rE (g 2 z1) - rS (g 2 z1)) + 1) + (rE (g 2 q4) - rS (g 2 q4))); omega) (by show ((6 * (rE (g 2 z1) - rS (g 2 z1))) + 6) + (6 * (rE (g 2 q4) - rS (g 2 q4))) ≤ (((6 * (rE (g 2 z1) - rS (g 2 z1))) + 6) + (6 * (rE (g 2 q4) - rS (g 2 q4)))); omega) ?_
      refine W.eq (g2 := F0 m 100 ls []) rfl ?_
      have hbe788 := BdE.trans hbe731 h766
      have hbb789 : Bth B B756 := Bth.trans (show Thx (upd (upd (upd (upd (upd (upd (upd F 2 (nI sz)) 5 (nI cs)) 6 (nI rg)) 7 (nI hd)) 8 (nI dp)) 12 (nI vr)) 16 ls9) (upd (upd (upd (upd (upd (upd (upd (upd (upd (upd (upd (upd (upd (upd (upd (upd F 2 (nI sz)) 5 (nI cs)) 6 (nI rg)) 7 (nI hd)) 8 (nI dp)) 12 (nI vr)) 16 ls9) 5 (nI cs668)) 6 (nI rg624)) 7 (nI hd622)) 8 (nI dp623)) 12 (nI vr621)) 13 wt670) 14 wt670) 15 wf671) 16 ls625) B B667 from (Thx.f (Thx.f (Thx.f (Thx.f (Thx.f (Thx.f (Thx.f (Thx.f (Thx.f (Bth.thx hbb693) (by omega)) (by omega)) (by omega)) (by omega)) (by omega)) (by omega)) (by omega)) (by omega)) (by omega))).2 h767
      have hng790 : Nng (B756 18) := h767.2 hng694
      refine lv_aload_n hx hb dX0_loopStatement_100 rfl (lv_at hl 5 rfl) ?_
      refine c_get (v := .ref (a 2)) (C := RX0) (Tc := TX0) (N := 13) (ci := 0) hx hb hq pin_wsX00 hown hE hP hO 24 (sg_24 G h0 a _ _ _ _ _) rfl 1 (by decide) (hq _ pw_5) (fun _ h9 => h9) rfl dX0_loopStatement_101 ?_
      refine lv_aload_n hx hb dX0_loopStatement_104 rfl (lv_at hl 5 rfl) ?_
      refine c_get (v := .ref q695) (C := RX0) (Tc := TX0) (N := 13) (ci := 0) hx hb hq pin_wsX00 hown hE hP hO 24 (sg_24 G h0 a _ _ _ _ _) rfl 11 (by decide) (hq _ pw_73) (fun _ h9 => h9) rfl dX0_loopStatement_105 ?_
      refine p_get (v := .int (K755.2.1 28 q695)) (C := RX4) (Tc := TX4) (N := 6) (ci := 11) hx hb hq pin_wsX40 hown hE hP hO (by rw [hf786]; decide) (rep_9 hf786) rfl 3 (by decide) (hq _ pw_284) (fun _ h9 => h9) rfl dX0_loopStatement_108 ?_
      have hO : OKW G h0 a (upd (upd (upd (upd (upd (upd (upd (upd (upd (upd (upd F 2 (nI sz)) 5 (nI cs757)) 6 (nI rg764)) 7 (nI hd762)) 8 (nI dp763)) 12 (nI vr761)) 13 as758) 14 wt759) 15 wf760) 16 ls765) 5 (nI cs757)) (updR (updR (updR R 2 (.ref pq)) 3 (.ref mq)) 4 (.ref q695)) Z B756 J K755.1 (fun q99 x99 => x99 = rep G a K755 q99) w := hO.to rfl
      obtain ⟨_, qr794, hqr795⟩ := hO.2.1 13 _ (sg_13 G h0 a _ _ _ _ _)
      refine pc_V0 (G := G) (As := [.int (K755.2.1 28 q695)]) (rest := []) hx hb hml hown hq hE hX pX0_al hP hD hS hA hl.1 (K_land l G h0 a (upd (upd (upd (upd (upd (upd (upd (upd (upd (upd F 2 (nI sz)) 5 (nI cs757)) 6 (nI rg764)) 7 (nI hd762)) 8 (nI dp763)) 12 (nI vr761)) 13 as758) 14 wt759) 15 wf760) 16 ls765) (updR (updR (updR R 2 (.ref pq)) 3 (.ref mq)) 4 (.ref q695)) Z B756 J K755.1 (fun q99 x99 => x99 = rep G a K755 q99) w (K755.2.1 28 q695) cs757 (by omega) hO) (gV pw_200 pw_201 pw_202 pw_70 pw_134) hV_X1_land qr794 1 hqr795 rfl rfl rfl (Nat.le_of_ble_eq_true rfl) dX0_loopStatement_111 ⟨(by show (((rE (g 2 z1) - rS (g 2 z1)) + 1) + (rE (g 2 q4) - rS (g 2 q4))) + 0 ≤ ((rE (g 2 q) - rS (g 2 q)) + 1); omega), (by show (((6 * (rE (g 2 z1) - rS (g 2 z1))) + 6) + (6 * (rE (g 2 q4) - rS (g 2 q4)))) + 0 ≤ (6 * (rE (g 2 q) - rS (g 2 q)) + 6); omega)⟩ ⟨(by show 2 + 1 ≤ (5 * n + 46); omega), (by show 8 + (5 + 11) + 60 ≤ (200 * n + 1120); omega)⟩ (fun v793 u791 H locs hw792 hP hD hS => ?_)
      obtain ⟨w, f796⟩ := u791
      obtain ⟨hw792, hO⟩ := hw792
      obtain rfl : v793 = none := hw792
      have hO : OKP G h0 a (upd (upd (upd (upd (upd (upd (upd (upd (upd (upd F 2 (nI sz)) 5 (nI cs757)) 6 (nI rg764)) 7 (nI hd762)) 8 (nI dp763)) 12 (nI vr761)) 13 as758) 14 wt759) 15 wf760) 16 ls765) (updR (updR (updR R 2 (.ref pq)) 3 (.ref mq)) 4 (.ref q695)) Z (updA B756 17 f796) J K755 w := hO.to rfl
      refine W.widen (k := (((rE (g 2 z1) - rS (g 2 z1)) + 1) + (rE (g 2 q4) - rS (g 2 q4)))) (n := (((6 * (rE (g 2 z1) - rS (g 2 z1))) + 6) + (6 * (rE (g 2 q4) - rS (g 2 q4))))) (by show (((rE (g 2 z1) - rS (g 2 z1)) + 1) + (rE (g 2 q4) - rS (g 2 q4))) + 0 ≤ (((rE (g 2 z1) - rS (g 2 z1)) + 1) + (rE (g 2 q4) - rS (g 2 q4))); omega) (by show (((6 * (rE (g 2 z1) - rS (g 2 z1))) + 6) + (6 * (rE (g 2 q4) - rS (g 2 q4)))) + 0 ≤ (((6 * (rE (g 2 z1) - rS (g 2 z1))) + 6) + (6 * (rE (g 2 q4) - rS (g 2 q4)))); omega) ?_
      refine W.eq (g2 := F0 m 114 ls []) rfl ?_
      refine lv_aload_n hx hb dX0_loopStatement_114 rfl (lv_at hl 6 rfl) ?_
      refine p_get (v := .ref z3) (C := RX7) (Tc := TX7) (N := 11) (ci := 13) hx hb hq pin_wsX70 hown hE hP hO (by rw [hf777]; decide) (rep_1 hf777) rfl 8 (by decide) (hq _ pw_196) (fun _ h9 => h9) (congrArg (fun z => some (va_rf z)) hf784) dX0_loopStatement_115 ?_
      refine lv_ifnull hx hb dX0_loopStatement_118 ?_
      refine lv_aload_n hx hb dX0_loopStatement_121 rfl (lv_at hl 5 rfl) ?_
      refine lv_dup hx hb dX0_loopStatement_122 rfl ?_
      refine c_get (v := .int as758) (C := RX0) (Tc := TX0) (N := 13) (ci := 0) hx hb hq pin_wsX00 hown hE hP hO 24 (sg_24 G h0 a _ _ _ _ _) rfl 8 (by decide) (hq _ pw_55) (fun _ h9 => h9) rfl dX0_loopStatement_123 ?_
      refine lv_aload_n hx hb dX0_loopStatement_126 rfl (lv_at hl 5 rfl) ?_
      refine c_get (v := .ref q695) (C := RX0) (Tc := TX0) (N := 13) (ci := 0) hx hb hq pin_wsX00 hown hE hP hO 24 (sg_24 G h0 a _ _ _ _ _) rfl 11 (by decide) (hq _ pw_73) (fun _ h9 => h9) rfl dX0_loopStatement_127 ?_
      refine p_get (v := .int (K755.2.1 30 q695)) (C := RX4) (Tc := TX4) (N := 6) (ci := 11) hx hb hq pin_wsX40 hown hE hP hO (by rw [hf786]; decide) (rep_9 hf786) rfl 5 (by decide) (hq _ pw_285) (fun _ h9 => h9) rfl dX0_loopStatement_130 ?_
      refine lv_iand hx hb dX0_loopStatement_133 ?_
      refine lv_topi (fun x797 e798 => ?_)
      refine c_put (v := .int x797) (ty := .int) (C := RX0) (Tc := TX0) (N := 13) (ci := 0) hx hb hq pin_wsX00 tyX0 tyX0_ok nmX0 hown hE hP hD hS hO 24 (sg_24 G h0 a _ _ _ _ _) rfl 8 (by decide) (hq _ pw_55) (fun _ h9 => h9) rfl (by decide +kernel) rfl rfl (Nat.le_of_ble_eq_true rfl) (sf_13 G h0 a _ _ _ _ _ x797) dX0_loopStatement_134 (fun H locs w hP hD hS hO => ?_)
      refine lv_aload_n hx hb dX0_loopStatement_137 rfl (lv_at hl 5 rfl) ?_
      refine lv_aload_n hx hb dX0_loopStatement_138 rfl (lv_at hl 6 rfl) ?_
      refine p_get (v := .ref z3) (C := RX7) (Tc := TX7) (N := 11) (ci := 13) hx hb hq pin_wsX70 hown hE hP hO (by rw [hf777]; decide) (rep_1 hf777) rfl 8 (by decide) (hq _ pw_196) (fun _ h9 => h9) (congrArg (fun z => some (va_rf z)) hf784) dX0_loopStatement_139 ?_
      refine lv_iconst (v := 0) hx hb dX0_loopStatement_142 (by decide) ?_
      have hO : OKP G h0 a (upd (upd (upd (upd (upd (upd (upd (upd (upd (upd (upd (upd (upd (upd (upd (upd (upd (upd (upd (upd (upd (upd (upd F 2 (nI sz)) 5 (nI cs)) 6 (nI rg)) 7 (nI hd)) 8 (nI dp)) 12 (nI vr)) 16 ls9) 5 (nI cs757)) 6 (nI rg764)) 7 (nI hd762)) 8 (nI dp763)) 12 (nI vr761)) 13 x797) 14 wt759) 15 wf760) 16 ls765) 2 (nI sz)) 5 (nI cs757)) 6 (nI rg764)) 7 (nI hd762)) 8 (nI dp763)) 12 (nI vr761)) 16 ls765) (updR (updR (updR (updR (updR (updR R 2 (.ref pq)) 3 (.ref mq)) 4 (.ref q695)) 2 (.ref pq)) 3 (.ref mq)) 4 (va_rf (some q695))) Z (updA B756 17 f796) J K755 w := hO.to rfl
      obtain ⟨_, qr802, hqr803⟩ := hO.2.1 24 _ (sg_24 G h0 a _ _ _ _ _)
      refine pn_V0 (G := G) (As := [.ref z3, .int (nI 0)]) (rest := []) hx hb hml hown hq hE hX pX0_al hP hD hS hA hl.1 ((ist (n - 1) (by omega)) h0 a (upd (upd (upd (upd (upd (upd (upd (upd (upd (upd (upd (upd (upd (upd (upd (upd F 2 (nI sz)) 5 (nI cs)) 6 (nI rg)) 7 (nI hd)) 8 (nI dp)) 12 (nI vr)) 16 ls9) 5 (nI cs757)) 6 (nI rg764)) 7 (nI hd762)) 8 (nI dp763)) 12 (nI vr761)) 13 x797) 14 wt759) 15 wf760) 16 ls765) (updR (updR (updR R 2 (.ref pq)) 3 (.ref mq)) 4 (.ref q695)) Z (updA B756 17 f796) J K755 w pq dr ml nd nm cp it s9 z3 mq cs757 vr761 sz 0 hd762 dp763 rg764 ls765 (some q695) g rk (by omega) (BdE.wp hbe788 hwp) (BdE.pt hbe788 hwp hps) (BdE.rko hbe788 hrk) (by omega) (by omega) hng790 hf778 hf785 ⟨hcv2.1, (by have z9 := hcv2; omega)⟩ (by omega) (by omega) (by omega) (fun x9 h9 => by cases h9; exact hf786) (by omega) hO hl0) (gV pw_300 pw_301 pw_302 pw_63 pw_323) hV_X0_statement qr802 0 hqr803 rfl rfl rfl (Nat.le_of_ble_eq_true rfl) dX0_loopStatement_143 ⟨(by show (((rE (g 2 z1) - rS (g 2 z1)) + 1) + (rE (g 2 q4) - rS (g 2 q4))) + ((rE (g 2 z3) - rS (g 2 z3)) + 1) ≤ ((rE (g 2 q) - rS (g 2 q)) + 1); omega), (by show (((6 * (rE (g 2 z1) - rS (g 2 z1))) + 6) + (6 * (rE (g 2 q4) - rS (g 2 q4)))) + (6 * (rE (g 2 z3) - rS (g 2 z3)) + 6) ≤ (6 * (rE (g 2 q) - rS (g 2 q)) + 6); omega)⟩ ⟨(by show (5 * (n - 1) + 50) + 1 ≤ (5 * n + 46); omega), (by show 8 + (3 + 11) + (200 * (n - 1) + 1200) ≤ (200 * n + 1120); omega)⟩ (fun v801 u799 H locs hw800 hP hD hS => ?_) (fun ux ce9 q9 H9 locs9 hux hP9 hD9 hS9 hce hcv hcl => pb_out ux (ThQ.up (Thx.same (Thx.same (Thx.same (Thx.same (Thx.same (Thx.same (Thx.same (Thx.b (Thx.f (Thx.f (Thx.f (Thx.f (Thx.f (Thx.f (Thx.f (Thx.f (Thx.f (Bth.thx hbb789) (by omega)) (by omega)) (by omega)) (by omega)) (by omega)) (by omega)) (by omega)) (by omega)) (by omega)) (by omega) (by decide)) rfl) rfl) rfl) rfl) rfl) rfl) rfl) (show RhX (updR (updR (updR R 2 (.ref pq)) 3 (.ref mq)) 4 (va_rf lo)) (updR (updR (updR (updR (updR (updR R 2 (.ref pq)) 3 (.ref mq)) 4 (.ref q695)) 2 (.ref pq)) 3 (.ref mq)) 4 (va_rf (some q695))) from fun k9 hk9 => by unfold updR; simp only [show ¬ k9 = 1 by omega, show ¬ k9 = 2 by omega, show ¬ k9 = 3 by omega, show ¬ k9 = 4 by omega, if_false]) hux) hnt hlocks hce hcv hcl hP9 hD9 hS9 (by show (((rE (g 2 z1) - rS (g 2 z1)) + 1) + (rE (g 2 q4) - rS (g 2 q4))) + ((rE (g 2 z3) - rS (g 2 z3)) + 1) ≤ ((rE (g 2 q) - rS (g 2 q)) + 1); omega) (by show (((6 * (rE (g 2 z1) - rS (g 2 z1))) + 6) + (6 * (rE (g 2 q4) - rS (g 2 q4)))) + (6 * (rE (g 2 z3) - rS (g 2 z3)) + 6) ≤ (6 * (rE (g 2 q) - rS (g 2 q)) + 6); omega))
      obtain ⟨w, K804, B805, cs806, as807, wt808, wf809, vr810, hd811, dp812, rg813, ls814⟩ := u799
      obtain ⟨hw800, h815, h816, h817, h818, hO⟩ := hw800
      have h815 : BdE K755 K804 := h815
      have h816 : Bth (updA B756 17 f796) B805 := h816
      have h817 : cs806 ≤ 10000 ∧ rg813 ≤ 625 ∧ dp812 ≤ 1000 := h817
      have h818 : vr761 ≤ vr810 ∧ vr810 ≤ 30 ∧ hd811 + vr761 = hd762 + vr810 := h818
      obtain rfl : v801 = none := hw800
      have hf819 : K804.1 pq = 7 := (BdE.T h815 hf770 (by decide))
      have hf820 : K804.2.2.1 18 pq = some (a 1) := (BdE.C h815 (by rw [hf770]; decide) 18).trans hf771
      have hf821 : K804.2.2.1 14 pq = some dr := (BdE.C h815 (by rw [hf770]; decide) 14).trans hf772
      have hf822 : K804.1 dr = 8 := (BdE.T h815 hf773 (by decide))
      have hf823 : K804.2.2.1 15 pq = some ml := (BdE.C h815 (by rw [hf770]; decide) 15).trans hf774
      have hf824 : K804.1 ml = 5 := (BdE.T h815 hf775 (by decide))
      have hf825 : K804.2.1 24 pq = (nI nd) := (BdE.I h815 (by rw [hf770]; decide) (by decide) (by decide)).trans hf776
      have hf826 : K804.1 q = 1 := (BdE.T h815 hf777 (by decide))
      have hf827 : K804.1 mq = 3 := (BdE.T h815 hf778 (by decide))
      have hf828 : K804.2.2.1 3 q = some q4 := (BdE.C h815 (by rw [hf777]; decide) 3).trans hf779
      have hf829 : K804.1 q4 = 1 := (BdE.T h815 hf780 (by decide))
      have hf830 : K804.2.2.1 1 q = ob := (BdE.C h815 (by rw [hf777]; decide) 1).trans hf781
      have hf831 : K804.2.2.1 0 q = some z1 := (BdE.C h815 (by rw [hf777]; decide) 0).trans hf782
      have hf832 : K804.1 z1 = 1 := (BdE.T h815 hf783 (by decide))
      have hf833 : K804.2.2.1 2 q = some z3 := (BdE.C h815 (by rw [hf777]; decide) 2).trans hf784
      have hf834 : K804.1 z3 = 1 := (BdE.T h815 hf785 (by decide))
      have hf835 : K804.1 q695 = 9 := (BdE.T h815 hf786 (by decide))
      have hf836 : K804.2.2.1 16 q695 = lo := (BdE.C h815 (by rw [hf786]; decide) 16).trans hf787
      have hO : OKP G h0 a (upd (upd (upd (upd (upd (upd (upd (upd (upd (upd F 2 (nI sz)) 5 (nI cs806)) 6 (nI rg813)) 7 (nI hd811)) 8 (nI dp812)) 12 (nI vr810)) 13 as807) 14 wt808) 15 wf809) 16 ls814) (updR (updR (updR R 2 (.ref pq)) 3 (.ref mq)) 4 (.ref q695)) Z B805 J K804 w := hO.to rfl
      refine W.widen (k := ((((rE (g 2 z1) - rS (g 2 z1)) + 1) + (rE (g 2 q4) - rS (g 2 q4))) + (rE (g 2 z3) - rS (g 2 z3)))) (n := ((((6 * (rE (g 2 z1) - rS (g 2 z1))) + 6) + (6 * (rE (g 2 q4) - rS (g 2 q4)))) + (6 * (rE (g 2 z3) - rS (g 2 z3))))) (by show (((rE (g 2 z1) - rS (g 2 z1)) + 1) + (rE (g 2 q4) - rS (g 2 q4))) + (rE (g 2 z3) - rS (g 2 z3)) ≤ ((((rE (g 2 z1) - rS (g 2 z1)) + 1) + (rE (g 2 q4) - rS (g 2 q4))) + (rE (g 2 z3) - rS (g 2 z3))); omega) (by show (((6 * (rE (g 2 z1) - rS (g 2 z1))) + 6) + (6 * (rE (g 2 q4) - rS (g 2 q4)))) + (6 * (rE (g 2 z3) - rS (g 2 z3))) ≤ ((((6 * (rE (g 2 z1) - rS (g 2 z1))) + 6) + (6 * (rE (g 2 q4) - rS (g 2 q4)))) + (6 * (rE (g 2 z3) - rS (g 2 z3)))); omega) ?_
      refine W.eq (g2 := F0 m 146 ls []) rfl ?_
      have hbe837 := BdE.trans hbe788 h815
      have hbb838 : Bth B B805 := Bth.trans (show Thx (upd (upd (upd (upd (upd (upd (upd F 2 (nI sz)) 5 (nI cs)) 6 (nI rg)) 7 (nI hd)) 8 (nI dp)) 12 (nI vr)) 16 ls9) (upd (upd (upd (upd (upd (upd (upd (upd (upd (upd (upd (upd (upd (upd (upd (upd F 2 (nI sz)) 5 (nI cs)) 6 (nI rg)) 7 (nI hd)) 8 (nI dp)) 12 (nI vr)) 16 ls9) 5 (nI cs757)) 6 (nI rg764)) 7 (nI hd762)) 8 (nI dp763)) 12 (nI vr761)) 13 x797) 14 wt759) 15 wf760) 16 ls765) B (updA B756 17 f796) from (Thx.b (Thx.f (Thx.f (Thx.f (Thx.f (Thx.f (Thx.f (Thx.f (Thx.f (Thx.f (Bth.thx hbb789) (by omega)) (by omega)) (by omega)) (by omega)) (by omega)) (by omega)) (by omega)) (by omega)) (by omega)) (by omega) (by decide))).2 h816
      have hng839 : Nng (B805 18) := h816.2 hng790
      refine lv_aload_n hx hb dX0_loopStatement_146 rfl (lv_at hl 5 rfl) ?_
      refine c_get (v := .ref (a 2)) (C := RX0) (Tc := TX0) (N := 13) (ci := 0) hx hb hq pin_wsX00 hown hE hP hO 24 (sg_24 G h0 a _ _ _ _ _) rfl 1 (by decide) (hq _ pw_5) (fun _ h9 => h9) rfl dX0_loopStatement_147 ?_
      refine lv_bipush (v := 6) hx hb dX0_loopStatement_150 (by decide) ?_
      refine lv_iload hx hb dX0_loopStatement_152 (lv_at hl 2 rfl) ?_
      refine lv_iconst (v := 0) hx hb dX0_loopStatement_154 (by decide) ?_
      have hO : OKW G h0 a (upd (upd (upd (upd (upd (upd (upd (upd (upd (upd (upd F 2 (nI sz)) 5 (nI cs806)) 6 (nI rg813)) 7 (nI hd811)) 8 (nI dp812)) 12 (nI vr810)) 13 as807) 14 wt808) 15 wf809) 16 ls814) 5 (nI cs806)) (updR (updR (updR R 2 (.ref pq)) 3 (.ref mq)) 4 (.ref q695)) Z B805 J K804.1 (fun q99 x99 => x99 = rep G a K804 q99) w := hO.to rfl
      obtain ⟨_, qr843, hqr844⟩ := hO.2.1 13 _ (sg_13 G h0 a _ _ _ _ _)
      refine pc_V0 (G := G) (As := [.int 6, .int (nI cs617), .int (nI 0)]) (rest := []) hx hb hml hown hq hE hX pX0_al hP hD hS hA hl.1 (K_emit l G h0 a (upd (upd (upd (upd (upd (upd (upd (upd (upd (upd F 2 (nI sz)) 5 (nI cs806)) 6 (nI rg813)) 7 (nI hd811)) 8 (nI dp812)) 12 (nI vr810)) 13 as807) 14 wt808) 15 wf809) 16 ls814) (updR (updR (updR R 2 (.ref pq)) 3 (.ref mq)) 4 (.ref q695)) Z B805 J K804.1 (fun q99 x99 => x99 = rep G a K804 q99) w 6 (nI cs617) 0 cs806 (by omega) (by omega) hng839 hO) (gV pw_129 pw_130 pw_131 pw_70 pw_115) hV_X1_emit qr843 1 hqr844 rfl rfl rfl (Nat.le_of_ble_eq_true rfl) dX0_loopStatement_155 ⟨(by show ((((rE (g 2 z1) - rS (g 2 z1)) + 1) + (rE (g 2 q4) - rS (g 2 q4))) + (rE (g 2 z3) - rS (g 2 z3))) + 0 ≤ ((rE (g 2 q) - rS (g 2 q)) + 1); omega), (by show ((((6 * (rE (g 2 z1) - rS (g 2 z1))) + 6) + (6 * (rE (g 2 q4) - rS (g 2 q4)))) + (6 * (rE (g 2 z3) - rS (g 2 z3)))) + 0 ≤ (6 * (rE (g 2 q) - rS (g 2 q)) + 6); omega)⟩ ⟨(by show 2 + 1 ≤ (5 * n + 46); omega), (by show 8 + (4 + 11) + 60 ≤ (200 * n + 1120); omega)⟩ (fun v842 u840 H locs hw841 hP hD hS => ?_)
      obtain ⟨w, cs845, f846, f847, f848, f849⟩ := u840
      obtain ⟨hw841, h850, h851, hO⟩ := hw841
      have h850 : cs806 ≤ cs845 ∧ cs845 ≤ cs806 + 1 ∧ cs845 ≤ 10000 := h850
      have h851 : Nng f848 := h851
      obtain rfl : v842 = none := hw841
      have hO : OKP G h0 a (upd (upd (upd (upd (upd (upd (upd (upd (upd (upd F 2 (nI sz)) 5 (nI cs845)) 6 (nI rg813)) 7 (nI hd811)) 8 (nI dp812)) 12 (nI vr810)) 13 as807) 14 wt808) 15 wf809) 16 ls814) (updR (updR (updR R 2 (.ref pq)) 3 (.ref mq)) 4 (.ref q695)) Z (updA (updA (updA (updA B805 16 f846) 17 f847) 18 f848) 19 f849) J K804 w := hO.to rfl
      refine W.widen (k := ((((rE (g 2 z1) - rS (g 2 z1)) + 1) + (rE (g 2 q4) - rS (g 2 q4))) + (rE (g 2 z3) - rS (g 2 z3)))) (n := ((((6 * (rE (g 2 z1) - rS (g 2 z1))) + 6) + (6 * (rE (g 2 q4) - rS (g 2 q4)))) + (6 * (rE (g 2 z3) - rS (g 2 z3))))) (by show ((((rE (g 2 z1) - rS (g 2 z1)) + 1) + (rE (g 2 q4) - rS (g 2 q4))) + (rE (g 2 z3) - rS (g 2 z3))) + 0 ≤ ((((rE (g 2 z1) - rS (g 2 z1)) + 1) + (rE (g 2 q4) - rS (g 2 q4))) + (rE (g 2 z3) - rS (g 2 z3))); omega) (by show ((((6 * (rE (g 2 z1) - rS (g 2 z1))) + 6) + (6 * (rE (g 2 q4) - rS (g 2 q4)))) + (6 * (rE (g 2 z3) - rS (g 2 z3)))) + 0 ≤ ((((6 * (rE (g 2 z1) - rS (g 2 z1))) + 6) + (6 * (rE (g 2 q4) - rS (g 2 q4)))) + (6 * (rE (g 2 z3) - rS (g 2 z3)))); omega) ?_
      refine W.eq (g2 := F0 m 158 ls []) rfl ?_
      refine lv_aload_n hx hb dX0_loopStatement_158 rfl (lv_at hl 5 rfl) ?_
      refine c_get (v := .ref (a 2)) (C := RX0) (Tc := TX0) (N := 13) (ci := 0) hx hb hq pin_wsX00 hown hE hP hO 24 (sg_24 G h0 a _ _ _ _ _) rfl 1 (by decide) (hq _ pw_5) (fun _ h9 => h9) rfl dX0_loopStatement_159 ?_
      refine lv_iload hx hb dX0_loopStatement_162 (lv_at hl 1 rfl) ?_
      have hO : OKW G h0 a (upd (upd (upd (upd (upd (upd (upd (upd (upd (upd (upd F 2 (nI sz)) 5 (nI cs845)) 6 (nI rg813)) 7 (nI hd811)) 8 (nI dp812)) 12 (nI vr810)) 13 as807) 14 wt808) 15 wf809) 16 ls814) 5 (nI cs845)) (updR (updR (updR R 2 (.ref pq)) 3 (.ref mq)) 4 (.ref q695)) Z (updA (updA (updA (updA B805 16 f846) 17 f847) 18 f848) 19 f849) J K804.1 (fun q99 x99 => x99 = rep G a K804 q99) w := hO.to rfl
      obtain ⟨_, qr855, hqr856⟩ := hO.2.1 13 _ (sg_13 G h0 a _ _ _ _ _)
      refine pc_V0 (G := G) (As := [.int r672]) (rest := []) hx hb hml hown hq hE hX pX0_al hP hD hS hA hl.1 (K_land l G h0 a (upd (upd (upd (upd (upd (upd (upd (upd (upd (upd F 2 (nI sz)) 5 (nI cs845)) 6 (nI rg813)) 7 (nI hd811)) 8 (nI dp812)) 12 (nI vr810)) 13 as807) 14 wt808) 15 wf809) 16 ls814) (updR (updR (updR R 2 (.ref pq)) 3 (.ref mq)) 4 (.ref q695)) Z (updA (updA (updA (updA B805 16 f846) 17 f847) 18 f848) 19 f849) J K804.1 (fun q99 x99 => x99 = rep G a K804 q99) w r672 cs845 (by omega) hO) (gV pw_200 pw_201 pw_202 pw_70 pw_134) hV_X1_land qr855 1 hqr856 rfl rfl rfl (Nat.le_of_ble_eq_true rfl) dX0_loopStatement_164 ⟨(by show ((((rE (g 2 z1) - rS (g 2 z1)) + 1) + (rE (g 2 q4) - rS (g 2 q4))) + (rE (g 2 z3) - rS (g 2 z3))) + 0 ≤ ((rE (g 2 q) - rS (g 2 q)) + 1); omega), (by show ((((6 * (rE (g 2 z1) - rS (g 2 z1))) + 6) + (6 * (rE (g 2 q4) - rS (g 2 q4)))) + (6 * (rE (g 2 z3) - rS (g 2 z3)))) + 0 ≤ (6 * (rE (g 2 q) - rS (g 2 q)) + 6); omega)⟩ ⟨(by show 2 + 1 ≤ (5 * n + 46); omega), (by show 8 + (5 + 11) + 60 ≤ (200 * n + 1120); omega)⟩ (fun v854 u852 H locs hw853 hP hD hS => ?_)
      obtain ⟨w, f857⟩ := u852
      obtain ⟨hw853, hO⟩ := hw853
      obtain rfl : v854 = none := hw853
      have hO : OKP G h0 a (upd (upd (upd (upd (upd (upd (upd (upd (upd (upd F 2 (nI sz)) 5 (nI cs845)) 6 (nI rg813)) 7 (nI hd811)) 8 (nI dp812)) 12 (nI vr810)) 13 as807) 14 wt808) 15 wf809) 16 ls814) (updR (updR (updR R 2 (.ref pq)) 3 (.ref mq)) 4 (.ref q695)) Z (updA (updA (updA (updA B805 16 f846) 17 f857) 18 f848) 19 f849) J K804 w := hO.to rfl
      refine W.widen (k := ((((rE (g 2 z1) - rS (g 2 z1)) + 1) + (rE (g 2 q4) - rS (g 2 q4))) + (rE (g 2 z3) - rS (g 2 z3)))) (n := ((((6 * (rE (g 2 z1) - rS (g 2 z1))) + 6) + (6 * (rE (g 2 q4) - rS (g 2 q4)))) + (6 * (rE (g 2 z3) - rS (g 2 z3))))) (by show ((((rE (g 2 z1) - rS (g 2 z1)) + 1) + (rE (g 2 q4) - rS (g 2 q4))) + (rE (g 2 z3) - rS (g 2 z3))) + 0 ≤ ((((rE (g 2 z1) - rS (g 2 z1)) + 1) + (rE (g 2 q4) - rS (g 2 q4))) + (rE (g 2 z3) - rS (g 2 z3))); omega) (by show ((((6 * (rE (g 2 z1) - rS (g 2 z1))) + 6) + (6 * (rE (g 2 q4) - rS (g 2 q4)))) + (6 * (rE (g 2 z3) - rS (g 2 z3)))) + 0 ≤ ((((6 * (rE (g 2 z1) - rS (g 2 z1))) + 6) + (6 * (rE (g 2 q4) - rS (g 2 q4)))) + (6 * (rE (g 2 z3) - rS (g 2 z3)))); omega) ?_
      refine W.eq (g2 := F0 m 167 ls []) rfl ?_
      refine lv_aload_n hx hb dX0_loopStatement_167 rfl (lv_at hl 5 rfl) ?_
      refine c_get (v := .ref (a 2)) (C := RX0) (Tc := TX0) (N := 13) (ci := 0) hx hb hq pin_wsX00 hown hE hP hO 24 (sg_24 G h0 a _ _ _ _ _) rfl 1 (by decide) (hq _ pw_5) (fun _ h9 => h9) rfl dX0_loopStatement_168 ?_
      refine lv_aload_n hx hb dX0_loopStatement_171 rfl (lv_at hl 5 rfl) ?_
      refine c_get (v := .ref q695) (C := RX0) (Tc := TX0) (N := 13) (ci := 0) hx hb hq pin_wsX00 hown hE hP hO 24 (sg_24 G h0 a _ _ _ _ _) rfl 11 (by decide) (hq _ pw_73) (fun _ h9 => h9) rfl dX0_loopStatement_172 ?_
      refine p_get (v := .int (K804.2.1 27 q695)) (C := RX4) (Tc := TX4) (N := 6) (ci := 11) hx hb hq pin_wsX40 hown hE hP hO (by rw [hf835]; decide) (rep_9 hf835) rfl 2 (by decide) (hq _ pw_282) (fun _ h9 => h9) rfl dX0_loopStatement_175 ?_
      have hO : OKW G h0 a (upd (upd (upd (upd (upd (upd (upd (upd (upd (upd (upd F 2 (nI sz)) 5 (nI cs845)) 6 (nI rg813)) 7 (nI hd811)) 8 (nI dp812)) 12 (nI vr810)) 13 as807) 14 wt808) 15 wf809) 16 ls814) 5 (nI cs845)) (updR (updR (updR R 2 (.ref pq)) 3 (.ref mq)) 4 (.ref q695)) Z (updA (updA (updA (updA B805 16 f846) 17 f857) 18 f848) 19 f849) J K804.1 (fun q99 x99 => x99 = rep G a K804 q99) w := hO.to rfl
      obtain ⟨_, qr861, hqr862⟩ := hO.2.1 13 _ (sg_13 G h0 a _ _ _ _ _)
      refine pc_V0 (G := G) (As := [.int (K804.2.1 27 q695)]) (rest := []) hx hb hml hown hq hE hX pX0_al hP hD hS hA hl.1 (K_land l G h0 a (upd (upd (upd (upd (upd (upd (upd (upd (upd (upd F 2 (nI sz)) 5 (nI cs845)) 6 (nI rg813)) 7 (nI hd811)) 8 (nI dp812)) 12 (nI vr810)) 13 as807) 14 wt808) 15 wf809) 16 ls814) (updR (updR (updR R 2 (.ref pq)) 3 (.ref mq)) 4 (.ref q695)) Z (updA (updA (updA (updA B805 16 f846) 17 f857) 18 f848) 19 f849) J K804.1 (fun q99 x99 => x99 = rep G a K804 q99) w (K804.2.1 27 q695) cs845 (by omega) hO) (gV pw_200 pw_201 pw_202 pw_70 pw_134) hV_X1_land qr861 1 hqr862 rfl rfl rfl (Nat.le_of_ble_eq_true rfl) dX0_loopStatement_178 ⟨(by show ((((rE (g 2 z1) - rS (g 2 z1)) + 1) + (rE (g 2 q4) - rS (g 2 q4))) + (rE (g 2 z3) - rS (g 2 z3))) + 0 ≤ ((rE (g 2 q) - rS (g 2 q)) + 1); omega), (by show ((((6 * (rE (g 2 z1) - rS (g 2 z1))) + 6) + (6 * (rE (g 2 q4) - rS (g 2 q4)))) + (6 * (rE (g 2 z3) - rS (g 2 z3)))) + 0 ≤ (6 * (rE (g 2 q) - rS (g 2 q)) + 6); omega)⟩ ⟨(by show 2 + 1 ≤ (5 * n + 46); omega), (by show 8 + (5 + 11) + 60 ≤ (200 * n + 1120); omega)⟩ (fun v860 u858 H locs hw859 hP hD hS => ?_)
      obtain ⟨w, f863⟩ := u858
      obtain ⟨hw859, hO⟩ := hw859
      obtain rfl : v860 = none := hw859
      have hO : OKP G h0 a (upd (upd (upd (upd (upd (upd (upd (upd (upd (upd F 2 (nI sz)) 5 (nI cs845)) 6 (nI rg813)) 7 (nI hd811)) 8 (nI dp812)) 12 (nI vr810)) 13 as807) 14 wt808) 15 wf809) 16 ls814) (updR (updR (updR R 2 (.ref pq)) 3 (.ref mq)) 4 (.ref q695)) Z (updA (updA (updA (updA B805 16 f846) 17 f863) 18 f848) 19 f849) J K804 w := hO.to rfl
      refine W.widen (k := ((((rE (g 2 z1) - rS (g 2 z1)) + 1) + (rE (g 2 q4) - rS (g 2 q4))) + (rE (g 2 z3) - rS (g 2 z3)))) (n := ((((6 * (rE (g 2 z1) - rS (g 2 z1))) + 6) + (6 * (rE (g 2 q4) - rS (g 2 q4)))) + (6 * (rE (g 2 z3) - rS (g 2 z3))))) (by show ((((rE (g 2 z1) - rS (g 2 z1)) + 1) + (rE (g 2 q4) - rS (g 2 q4))) + (rE (g 2 z3) - rS (g 2 z3))) + 0 ≤ ((((rE (g 2 z1) - rS (g 2 z1)) + 1) + (rE (g 2 q4) - rS (g 2 q4))) + (rE (g 2 z3) - rS (g 2 z3))); omega) (by show ((((6 * (rE (g 2 z1) - rS (g 2 z1))) + 6) + (6 * (rE (g 2 q4) - rS (g 2 q4)))) + (6 * (rE (g 2 z3) - rS (g 2 z3)))) + 0 ≤ ((((6 * (rE (g 2 z1) - rS (g 2 z1))) + 6) + (6 * (rE (g 2 q4) - rS (g 2 q4)))) + (6 * (rE (g 2 z3) - rS (g 2 z3)))); omega) ?_
      refine W.eq (g2 := F0 m 181 ls []) rfl ?_
      refine lv_aload_n hx hb dX0_loopStatement_181 rfl (lv_at hl 5 rfl) ?_
      refine lv_iload hx hb dX0_loopStatement_182 (lv_at hl 0 rfl) ?_
      refine lv_aload_n hx hb dX0_loopStatement_184 rfl (lv_at hl 5 rfl) ?_
      refine c_get (v := .ref q695) (C := RX0) (Tc := TX0) (N := 13) (ci := 0) hx hb hq pin_wsX00 hown hE hP hO 24 (sg_24 G h0 a _ _ _ _ _) rfl 11 (by decide) (hq _ pw_73) (fun _ h9 => h9) rfl dX0_loopStatement_185 ?_
      refine p_get (v := .int (K804.2.1 29 q695)) (C := RX4) (Tc := TX4) (N := 6) (ci := 11) hx hb hq pin_wsX40 hown hE hP hO (by rw [hf835]; decide) (rep_9 hf835) rfl 4 (by decide) (hq _ pw_283) (fun _ h9 => h9) rfl dX0_loopStatement_188 ?_
      refine lv_iand hx hb dX0_loopStatement_191 ?_
      refine lv_topi (fun x864 e865 => ?_)
      refine c_put (v := .int x864) (ty := .int) (C := RX0) (Tc := TX0) (N := 13) (ci := 0) hx hb hq pin_wsX00 tyX0 tyX0_ok nmX0 hown hE hP hD hS hO 24 (sg_24 G h0 a _ _ _ _ _) rfl 8 (by decide) (hq _ pw_55) (fun _ h9 => h9) rfl (by decide +kernel) rfl rfl (Nat.le_of_ble_eq_true rfl) (sf_13 G h0 a _ _ _ _ _ x864) dX0_loopStatement_192 (fun H locs w hP hD hS hO => ?_)
      refine lv_aload_n hx hb dX0_loopStatement_195 rfl (lv_at hl 5 rfl) ?_
      refine lv_aload_n hx hb dX0_loopStatement_196 rfl (lv_at hl 5 rfl) ?_
      refine c_get (v := .ref q695) (C := RX0) (Tc := TX0) (N := 13) (ci := 0) hx hb hq pin_wsX00 hown hE hP hO 24 (sg_24 G h0 a _ _ _ _ _) rfl 11 (by decide) (hq _ pw_73) (fun _ h9 => h9) rfl dX0_loopStatement_197 ?_
      refine p_get (v := va_rf lo) (C := RX4) (Tc := TX4) (N := 6) (ci := 11) hx hb hq pin_wsX40 hown hE hP hO (by rw [hf835]; decide) (rep_9 hf835) rfl 0 (by decide) (hq _ pw_317) (fun _ h9 => h9) (congrArg (fun z => some (va_rf z)) hf836) dX0_loopStatement_200 ?_
      refine c_put (v := va_rf lo) (ty := (.object "JinjaTongue$Loop")) (C := RX0) (Tc := TX0) (N := 13) (ci := 0) hx hb hq pin_wsX00 tyX0 tyX0_ok nmX0 hown hE hP hD hS hO 24 (sg_24 G h0 a _ _ _ _ _) rfl 11 (by decide) (hq _ pw_73) (fun _ h9 => h9) rfl (by decide +kernel) (by cases lo <;> first | rfl | exact Nat.le_of_ble_eq_true rfl) (by cases lo <;> first | rfl | exact Nat.le_of_ble_eq_true rfl) (by cases lo <;> first | rfl | exact Nat.le_of_ble_eq_true rfl) (sr_4 G h0 a _ _ _ _ _ (va_rf lo)) dX0_loopStatement_203 (fun H locs w hP hD hS hO => ?_)
      refine lv_aload_n hx hb dX0_loopStatement_206 rfl (lv_at hl 5 rfl) ?_
      refine lv_iload_n hx hb dX0_loopStatement_207 rfl (lv_at hl 4 rfl) ?_
      refine lv_iload_n hx hb dX0_loopStatement_208 rfl (lv_at hl 3 rfl) ?_
      have hO : OKW G h0 a (upd (upd (upd (upd (upd (upd (upd (upd (upd (upd F 2 (nI sz)) 5 (nI cs845)) 6 (nI rg813)) 7 (nI hd811)) 8 (nI dp812)) 12 (nI vr810)) 13 x864) 14 wt808) 15 wf809) 16 ls814) (updR (updR (updR R 2 (.ref pq)) 3 (.ref mq)) 4 (va_rf lo)) Z (updA (updA (updA (updA B805 16 f846) 17 f863) 18 f848) 19 f849) J K804.1 (fun q99 x99 => x99 = rep G a K804 q99) w := hO.to rfl
      obtain ⟨_, qr869, hqr870⟩ := hO.2.1 24 _ (sg_24 G h0 a _ _ _ _ _)
      refine pc_V0 (G := G) (As := [.int (nI vr), .int (nI hd)]) (rest := []) hx hb hml hown hq hE hX pX0_al hP hD hS hA hl.1 (B_endScope l G h0 a (upd (upd (upd (upd (upd (upd (upd (upd (upd (upd F 2 (nI sz)) 5 (nI cs845)) 6 (nI rg813)) 7 (nI hd811)) 8 (nI dp812)) 12 (nI vr810)) 13 x864) 14 wt808) 15 wf809) 16 ls814) (updR (updR (updR R 2 (.ref pq)) 3 (.ref mq)) 4 (va_rf lo)) Z (updA (updA (updA (updA B805 16 f846) 17 f863) 18 f848) 19 f849) J K804.1 (fun q99 x99 => x99 = rep G a K804 q99) w (nI vr) (nI hd) hO) (gV pw_303 pw_304 pw_305 pw_63 pw_99) hV_X0_endScope qr869 0 hqr870 rfl rfl rfl (Nat.le_of_ble_eq_true rfl) dX0_loopStatement_209 ⟨(by show ((((rE (g 2 z1) - rS (g 2 z1)) + 1) + (rE (g 2 q4) - rS (g 2 q4))) + (rE (g 2 z3) - rS (g 2 z3))) + 0 ≤ ((rE (g 2 q) - rS (g 2 q)) + 1); omega), (by show ((((6 * (rE (g 2 z1) - rS (g 2 z1))) + 6) + (6 * (rE (g 2 q4) - rS (g 2 q4)))) + (6 * (rE (g 2 z3) - rS (g 2 z3)))) + 0 ≤ (6 * (rE (g 2 q) - rS (g 2 q)) + 6); omega)⟩ ⟨(by show 2 + 1 ≤ (5 * n + 46); omega), (by show 8 + (3 + 11) + 60 ≤ (200 * n + 1120); omega)⟩ (fun v868 u866 H locs hw867 hP hD hS => ?_)
      obtain ⟨w, _⟩ := u866
      obtain ⟨hw867, hO⟩ := hw867
      obtain rfl : v868 = none := hw867
      have hO : OKP G h0 a (upd (upd (upd (upd (upd (upd (upd (upd (upd (upd F 2 (nI sz)) 5 (nI cs845)) 6 (nI rg813)) 7 (nI hd)) 8 (nI dp812)) 12 (nI vr)) 13 x864) 14 wt808) 15 wf809) 16 ls814) (updR (updR (updR R 2 (.ref pq)) 3 (.ref mq)) 4 (va_rf lo)) Z (updA (updA (updA (updA B805 16 f846) 17 f863) 18 f848) 19 f849) J K804 w := hO.to rfl
      refine W.widen (k := ((((rE (g 2 z1) - rS (g 2 z1)) + 1) + (rE (g 2 q4) - rS (g 2 q4))) + (rE (g 2 z3) - rS (g 2 z3)))) (n := ((((6 * (rE (g 2 z1) - rS (g 2 z1))) + 6) + (6 * (rE (g 2 q4) - rS (g 2 q4)))) + (6 * (rE (g 2 z3) - rS (g 2 z3))))) (by show ((((rE (g 2 z1) - rS (g 2 z1)) + 1) + (rE (g 2 q4) - rS (g 2 q4))) + (rE (g 2 z3) - rS (g 2 z3))) + 0 ≤ ((((rE (g 2 z1) - rS (g 2 z1)) + 1) + (rE (g 2 q4) - rS (g 2 q4))) + (rE (g 2 z3) - rS (g 2 z3))); omega) (by show ((((6 * (rE (g 2 z1) - rS (g 2 z1))) + 6) + (6 * (rE (g 2 q4) - rS (g 2 q4)))) + (6 * (rE (g 2 z3) - rS (g 2 z3)))) + 0 ≤ ((((6 * (rE (g 2 z1) - rS (g 2 z1))) + 6) + (6 * (rE (g 2 q4) - rS (g 2 q4)))) + (6 * (rE (g 2 z3) - rS (g 2 z3)))); omega) ?_
      refine W.eq (g2 := F0 m 212 ls []) rfl ?_
      refine W_size (fun hz1 hz2 => ?_)
      refine vx_ret ?_
      have hz871 : BdE K K804 := hbe837
      have hz872 : Bth B (updA (updA (updA (updA B805 16 f846) 17 f863) 18 f848) 19 f849) := (show Thx (upd (upd (upd (upd (upd (upd (upd F 2 (nI sz)) 5 (nI cs)) 6 (nI rg)) 7 (nI hd)) 8 (nI dp)) 12 (nI vr)) 16 ls9) (upd (upd (upd (upd (upd (upd (upd (upd (upd (upd (upd (upd (upd (upd F 2 (nI sz)) 5 (nI cs)) 6 (nI rg)) 7 (nI hd)) 8 (nI dp)) 12 (nI vr)) 16 ls9) 5 (nI cs845)) 6 (nI rg813)) 8 (nI dp812)) 13 x864) 14 wt808) 15 wf809) 16 ls814) B (updA (updA (updA (updA B805 16 f846) 17 f863) 18 f848) 19 f849) from (Thx.b (Thx.b8 (Thx.b (Thx.b (Thx.f (Thx.f (Thx.f (Thx.f (Thx.f (Thx.f (Thx.f (Bth.thx hbb838) (by omega)) (by omega)) (by omega)) (by omega)) (by omega)) (by omega)) (by omega)) (by omega) (by decide)) (by omega) (by decide)) h851) (by omega) (by decide))).2
      have hz873 : cs845 ≤ 10000 ∧ rg813 ≤ 625 ∧ dp812 ≤ 1000 := (by omega)
      have hz874 : vr ≤ vr ∧ vr ≤ 30 ∧ hd + vr = hd + vr := (by omega)
      have hO : OKP G h0 a (upd (upd (upd (upd (upd (upd (upd (upd (upd (upd F 2 (nI sz)) 5 (nI cs845)) 6 (nI rg813)) 7 (nI hd)) 8 (nI dp812)) 12 (nI vr)) 13 x864) 14 wt808) 15 wf809) 16 ls814) (updR (updR (updR R 2 (.ref pq)) 3 (.ref mq)) 4 (va_rf lo)) Z (updA (updA (updA (updA B805 16 f846) 17 f863) 18 f848) 19 f849) J K804 w := hO.to rfl
      refine W.widen (k := ((rE (g 2 q) - rS (g 2 q)) + 1)) (n := (6 * (rE (g 2 q) - rS (g 2 q)) + 6)) (by omega) (by omega) ?_
      have hzz1 : H.size ≤ s.heap.size + ((rE (g 2 q) - rS (g 2 q))) := (by have z : ((((rE (g 2 z1) - rS (g 2 z1)) + 1) + (rE (g 2 q4) - rS (g 2 q4))) + (rE (g 2 z3) - rS (g 2 z3))) ≤ (rE (g 2 q) - rS (g 2 q)) := (by omega); omega)
      have hzz2 : hSl H ≤ hSl s.heap + ((6 * (rE (g 2 q) - rS (g 2 q)))) := (by have z : ((((6 * (rE (g 2 z1) - rS (g 2 z1))) + 6) + (6 * (rE (g 2 q4) - rS (g 2 q4)))) + (6 * (rE (g 2 z3) - rS (g 2 z3)))) ≤ (6 * (rE (g 2 q) - rS (g 2 q))) := (by omega); omega)
      exact W.vret hx hb hr (fun t99 ht99 hW99 => ⟨⟨_, (w, (K804, (updA (updA (updA (updA B805 16 f846) 17 f863) 18 f848) 19 f849), cs845, x864, wt808, wf809, vr, hd, dp812, rg813, ls814)), rfl, ⟨rfl, hz871, hz872, hz873, hz874, hO⟩, by rw [ht99]; exact hP, hD, by rw [ht99]; exact hzz1, by rw [ht99]; exact hzz2⟩, hS.F ht99⟩) hS.2.2 dX0_loopStatement_212
