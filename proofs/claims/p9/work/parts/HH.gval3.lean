theorem dX0_shortened_0 : decode cX0_shortened 0 = .ok (.aload_n 0, 1) := by decide +kernel
theorem dX0_shortened_1 : decode cX0_shortened 1 = .ok (.aload_n 1, 1) := by decide +kernel
theorem dX0_shortened_2 : decode cX0_shortened 2 = .ok (.getfield 165, 3) := by decide +kernel
theorem dX0_shortened_5 : decode cX0_shortened 5 = .ok (.aload_n 0, 1) := by decide +kernel
theorem dX0_shortened_6 : decode cX0_shortened 6 = .ok (.aload_n 1, 1) := by decide +kernel
theorem dX0_shortened_7 : decode cX0_shortened 7 = .ok (.getfield 165, 3) := by decide +kernel
theorem dX0_shortened_10 : decode cX0_shortened 10 = .ok (.invokevirtual 209, 3) := by decide +kernel
theorem dX0_shortened_13 : decode cX0_shortened 13 = .ok (.bipush 61, 2) := by decide +kernel
theorem dX0_shortened_15 : decode cX0_shortened 15 = .ok (.invokevirtual 213, 3) := by decide +kernel
theorem dX0_shortened_18 : decode cX0_shortened 18 = .ok (.aload_n 0, 1) := by decide +kernel
theorem dX0_shortened_19 : decode cX0_shortened 19 = .ok (.getfield 240, 3) := by decide +kernel
theorem dX0_shortened_22 : decode cX0_shortened 22 = .ok (.istore_n 3, 1) := by decide +kernel
theorem dX0_shortened_23 : decode cX0_shortened 23 = .ok (.aload_n 0, 1) := by decide +kernel
theorem dX0_shortened_24 : decode cX0_shortened 24 = .ok (.getfield 237, 3) := by decide +kernel
theorem dX0_shortened_27 : decode cX0_shortened 27 = .ok (.istore 4, 2) := by decide +kernel
theorem dX0_shortened_29 : decode cX0_shortened 29 = .ok (.aload_n 0, 1) := by decide +kernel
theorem dX0_shortened_30 : decode cX0_shortened 30 = .ok (.getfield 15, 3) := by decide +kernel
theorem dX0_shortened_33 : decode cX0_shortened 33 = .ok (.iload_n 2, 1) := by decide +kernel
theorem dX0_shortened_34 : decode cX0_shortened 34 = .ok (.ifCond .eq 8, 3) := by decide +kernel
theorem dX0_shortened_42 : decode cX0_shortened 42 = .ok (.bipush 9, 2) := by decide +kernel
theorem dX0_shortened_44 : decode cX0_shortened 44 = .ok (.iconst (-1), 1) := by decide +kernel
theorem dX0_shortened_45 : decode cX0_shortened 45 = .ok (.iconst 0, 1) := by decide +kernel
theorem dX0_shortened_46 : decode cX0_shortened 46 = .ok (.invokevirtual 243, 3) := by decide +kernel
theorem dX0_shortened_49 : decode cX0_shortened 49 = .ok (.istore 5, 2) := by decide +kernel
theorem dX0_shortened_51 : decode cX0_shortened 51 = .ok (.aload_n 0, 1) := by decide +kernel
theorem dX0_shortened_52 : decode cX0_shortened 52 = .ok (.iload_n 2, 1) := by decide +kernel
theorem dX0_shortened_53 : decode cX0_shortened 53 = .ok (.ifCond .eq 7, 3) := by decide +kernel
theorem dX0_shortened_60 : decode cX0_shortened 60 = .ok (.iload 4, 2) := by decide +kernel
theorem dX0_shortened_62 : decode cX0_shortened 62 = .ok (.putfield 94, 3) := by decide +kernel
theorem dX0_shortened_65 : decode cX0_shortened 65 = .ok (.aload_n 0, 1) := by decide +kernel
theorem dX0_shortened_66 : decode cX0_shortened 66 = .ok (.aload_n 1, 1) := by decide +kernel
theorem dX0_shortened_67 : decode cX0_shortened 67 = .ok (.getfield 202, 3) := by decide +kernel
theorem dX0_shortened_70 : decode cX0_shortened 70 = .ok (.aload_n 0, 1) := by decide +kernel
theorem dX0_shortened_71 : decode cX0_shortened 71 = .ok (.aload_n 1, 1) := by decide +kernel
theorem dX0_shortened_72 : decode cX0_shortened 72 = .ok (.getfield 202, 3) := by decide +kernel
theorem dX0_shortened_75 : decode cX0_shortened 75 = .ok (.invokevirtual 209, 3) := by decide +kernel
theorem dX0_shortened_78 : decode cX0_shortened 78 = .ok (.bipush 61, 2) := by decide +kernel
theorem dX0_shortened_80 : decode cX0_shortened 80 = .ok (.invokevirtual 213, 3) := by decide +kernel
theorem dX0_shortened_83 : decode cX0_shortened 83 = .ok (.aload_n 0, 1) := by decide +kernel
theorem dX0_shortened_84 : decode cX0_shortened 84 = .ok (.getfield 15, 3) := by decide +kernel
theorem dX0_shortened_87 : decode cX0_shortened 87 = .ok (.iload 5, 2) := by decide +kernel
theorem dX0_shortened_89 : decode cX0_shortened 89 = .ok (.invokevirtual 250, 3) := by decide +kernel
theorem dX0_shortened_92 : decode cX0_shortened 92 = .ok (.iload_n 2, 1) := by decide +kernel
theorem dX0_shortened_93 : decode cX0_shortened 93 = .ok (.ifCond .eq 17, 3) := by decide +kernel
theorem dX0_shortened_110 : decode cX0_shortened 110 = .ok (.aload_n 0, 1) := by decide +kernel
theorem dX0_shortened_111 : decode cX0_shortened 111 = .ok (.dup, 1) := by decide +kernel
theorem dX0_shortened_112 : decode cX0_shortened 112 = .ok (.getfield 240, 3) := by decide +kernel
theorem dX0_shortened_115 : decode cX0_shortened 115 = .ok (.iload_n 3, 1) := by decide +kernel
theorem dX0_shortened_116 : decode cX0_shortened 116 = .ok (.iand, 1) := by decide +kernel
theorem dX0_shortened_117 : decode cX0_shortened 117 = .ok (.putfield 240, 3) := by decide +kernel
theorem dX0_shortened_120 : decode cX0_shortened 120 = .ok (.aload_n 0, 1) := by decide +kernel
theorem dX0_shortened_121 : decode cX0_shortened 121 = .ok (.aload_n 0, 1) := by decide +kernel
theorem dX0_shortened_122 : decode cX0_shortened 122 = .ok (.getfield 240, 3) := by decide +kernel
theorem dX0_shortened_125 : decode cX0_shortened 125 = .ok (.aload_n 0, 1) := by decide +kernel
theorem dX0_shortened_126 : decode cX0_shortened 126 = .ok (.getfield 237, 3) := by decide +kernel
theorem dX0_shortened_129 : decode cX0_shortened 129 = .ok (.iand, 1) := by decide +kernel
theorem dX0_shortened_130 : decode cX0_shortened 130 = .ok (.putfield 94, 3) := by decide +kernel
theorem dX0_shortened_133 : decode cX0_shortened 133 = .ok (.bipush 61, 2) := by decide +kernel
theorem dX0_shortened_135 : decode cX0_shortened 135 = .ok (.ireturn, 1) := by decide +kernel
theorem dX0_shortened_96 : decode cX0_shortened 96 = .ok (.aload_n 0, 1) := by decide +kernel
theorem dX0_shortened_97 : decode cX0_shortened 97 = .ok (.dup, 1) := by decide +kernel
theorem dX0_shortened_98 : decode cX0_shortened 98 = .ok (.getfield 237, 3) := by decide +kernel
theorem dX0_shortened_101 : decode cX0_shortened 101 = .ok (.iload 4, 2) := by decide +kernel
theorem dX0_shortened_103 : decode cX0_shortened 103 = .ok (.iand, 1) := by decide +kernel
theorem dX0_shortened_104 : decode cX0_shortened 104 = .ok (.putfield 237, 3) := by decide +kernel
theorem dX0_shortened_107 : decode cX0_shortened 107 = .ok (.goto 13, 3) := by decide +kernel
theorem dX0_shortened_56 : decode cX0_shortened 56 = .ok (.iload_n 3, 1) := by decide +kernel
theorem dX0_shortened_57 : decode cX0_shortened 57 = .ok (.goto 5, 3) := by decide +kernel
theorem dX0_shortened_37 : decode cX0_shortened 37 = .ok (.bipush 8, 2) := by decide +kernel
theorem dX0_shortened_39 : decode cX0_shortened 39 = .ok (.goto 5, 3) := by decide +kernel
theorem hV_X1_jump : yX1_jump.cls = RX1 ∧ yX1_jump.cls ≠ "java/lang/invoke/MethodHandle" ∧ yX1_jump.cls ≠ "java/lang/invoke/VarHandle" ∧ (parseMethodDescriptor yX1_jump.desc).map (fun d => d.parameters.length) = some 3 := by decide +kernel
theorem hV_X1_land : yX1_land.cls = RX1 ∧ yX1_land.cls ≠ "java/lang/invoke/MethodHandle" ∧ yX1_land.cls ≠ "java/lang/invoke/VarHandle" ∧ (parseMethodDescriptor yX1_land.desc).map (fun d => d.parameters.length) = some 1 := by decide +kernel
set_option maxHeartbeats 16000000 in
set_option maxRecDepth 100000 in
theorem B_shortened (l : Launch) (G : pT) (h0 : Nat) (a : Nat → Nat) (F : Nat → Int32) (R : Nat → Value) (Z : Int64) (B : Nat → Nat → Int32) (J : Nat → Nat → Int64) (K : PK) (w : va_W) (pq : Nat) (dr : Nat) (ml : Nat) (nd : Nat) (nm : Nat) (cp : Nat) (it : Nat → Nat) (s9 : Nat) (q : Nat) (mq : Nat) (cs : Nat) (vr : Nat) (sz : Nat) (n : Nat) (q1 : Nat) (q2 : Nat) (b9 : Nat) (g : Nat → Nat → Nat) (rk : Nat → Nat) (hsz : sz ≤ 5000) (hwp : WPr G K g) (hps : PgT G K g (a 1) pq dr ml nd nm cp it s9) (hrk : RkO K rk) (hcs : cs ≤ 10000) (hvr : vr ≤ 30) (hng : Nng (B 18)) (hmq : K.1 mq = 3) (hqT : K.1 q = 1) (hqL : 1 ≤ g 0 q ∧ g 0 q ≤ n) (hc0 : K.2.2.1 0 q = some q1) (ht0 : K.1 q1 = 1) (hv0 : 1 ≤ g 0 q1 ∧ g 0 q1 + 1 ≤ n) (hc1 : K.2.2.1 1 q = some q2) (ht1 : K.1 q2 = 1) (hv1 : 1 ≤ g 0 q2 ∧ g 0 q2 + 1 ≤ n) (hb9 : b9 ≤ 1) (ihv : IhV l G n) (hO : OKP G h0 a (upd (upd (upd F 2 (nI sz)) 5 (nI cs)) 12 (nI vr)) (updR (updR R 2 (.ref pq)) 3 (.ref mq)) Z B J K w) (hl0 : l.stackTraces = false) : PBn l G pX0 yX0_shortened cX0_shortened 6 (some .int) ({ frames := (5 * n + 33), cells := 1, slots := 6, locals := (200 * n + 560) }) [.ref (a 4), .ref q, .int (nI b9)] w (fun (v : Option Value) (u : va_W × (PK × (Nat → Nat → Int32) × Nat × Int32 × Int32 × Int32 × Int32)) => v = some (.int u.2.2.2.2.2.2.2) ∧ (BdE K u.2.1) ∧ (Bth B u.2.2.1) ∧ (u.2.2.2.1 ≤ 10000) ∧ (OKP G h0 a (upd (upd (upd (upd (upd (upd F 2 (nI sz)) 5 (nI u.2.2.2.1)) 12 (nI vr)) 13 u.2.2.2.2.1) 14 u.2.2.2.2.2.1) 15 u.2.2.2.2.2.2.1) (updR (updR R 2 (.ref pq)) 3 (.ref mq)) Z u.2.2.1 J u.2.1 u.1)) (fun u => u.1) (fun (u : va_W × (PK × (Nat → Nat → Int32) × Nat × Int32 × Int32 × Int32 × Int32)) => 0) (fun (u : va_W × (PK × (Nat → Nat → Int32) × Nat × Int32 × Int32 × Int32 × Int32)) => 0) (fun (u : va_W × (Nat → Int32) × (Nat → Value) × (Nat → Nat → Int32)) => ThQ G h0 a (upd (upd (upd F 2 (nI sz)) 5 (nI cs)) 12 (nI vr)) (updR (updR R 2 (.ref pq)) 3 (.ref mq)) Z B J u) (fun u => u.1) := by
  intro sz
  refine vx_ofW (cc := cX0_shortened) (maxL := 6) (ret := (some .int)) (by decide) rfl ?_
  intro p e s m args below meth c s₁ B9 hml hnt hv
  obtain ⟨rfl, hsz, hP, hD0, hE, hX⟩ := hv
  have hx := B9.exec
  have hb := B9.bytes
  have hr := B9.returns
  have hts := atoms_spec (ws := Cond.code yX0_shortened cX0_shortened 6 (some .int) :: pw) B9.pre
  have hq : ∀ w ∈ pw, w.before _ s = true := fun w h => hts w (List.mem_cons_of_mem _ h)
  have hown : s.vm.findClass RX0 = some m.cls := findClass_of_methodNamed B9.named
  have hlocks := B9.notSynchronized
  subst hsz
  have hD := hD0.self (sz := s.heap.size)
  have hA : ∀ q : Nat, s.heap.size ≤ q → va_A w s.heap.size q := fun q h => Or.inr h
  generalize va_A w s.heap.size = A at hD hE hA ⊢
  have hS : va_S A s.heap s.heap [] := va_S.rf
  have hl := lv_entry ([.ref (a 4), .ref q, .int (nI b9)]) (n := 6) (Nat.le_of_ble_eq_true rfl)
  rw [lg_entry_eq]
  generalize (lg_sl ([.ref (a 4), .ref q, .int (nI b9)]) ++ List.replicate (6 - (lg_sl ([.ref (a 4), .ref q, .int (nI b9)])).length) Slot.unset).toArray = ls at hl ⊢
  have hl : lv_has ls 6 [(0, .ref (a 4)), (1, .ref q), (2, .int (nI b9))] := hl
  have hpg := hps.1
  have hp1 := hpg.1
  have hp2 := hpg.2.1
  have hp3 := hpg.2.2.1
  have hp4 := hpg.2.2.2.1
  have hp5 := hpg.2.2.2.2.1
  have hp6 := hpg.2.2.2.2.2.1
  have hp8 := hpg.2.2.2.2.2.2.2.1
  have hp9 := hpg.2.2.2.2.2.2.2.2
  refine lv_aload_n hx hb dX0_shortened_0 rfl (lv_at hl 0 rfl) ?_
  refine lv_aload_n hx hb dX0_shortened_1 rfl (lv_at hl 1 rfl) ?_
  refine p_get (v := .ref q1) (C := RX7) (Tc := TX7) (N := 11) (ci := 13) hx hb hq pin_wsX70 hown hE hP hO (by rw [hqT]; decide) (rep_1 hqT) rfl 6 (by decide) (hq _ pw_180) (fun _ h9 => h9) (congrArg (fun z => some (va_rf z)) hc0) dX0_shortened_2 ?_
  refine lv_aload_n hx hb dX0_shortened_5 rfl (lv_at hl 0 rfl) ?_
  refine lv_aload_n hx hb dX0_shortened_6 rfl (lv_at hl 1 rfl) ?_
  refine p_get (v := .ref q1) (C := RX7) (Tc := TX7) (N := 11) (ci := 13) hx hb hq pin_wsX70 hown hE hP hO (by rw [hqT]; decide) (rep_1 hqT) rfl 6 (by decide) (hq _ pw_180) (fun _ h9 => h9) (congrArg (fun z => some (va_rf z)) hc0) dX0_shortened_7 ?_
  have hO : OKP G h0 a (upd (upd (upd (upd (upd (upd F 2 (nI sz)) 5 (nI cs)) 12 (nI vr)) 2 (nI sz)) 5 (nI cs)) 12 (nI vr)) (updR (updR (updR (updR R 2 (.ref pq)) 3 (.ref mq)) 2 (.ref pq)) 3 (.ref mq)) Z B J K w := hO.to rfl
  obtain ⟨_, qr4, hqr5⟩ := hO.2.1 24 _ (sg_24 G h0 a _ _ _ _ _)
  refine pn_V0 (G := G) (As := [.ref q1]) (rest := [.ref q1, .ref (a 4)]) hx hb hml hown hq hE hX pX0_al hP hD hS hA hl.1 ((ihv (by omega)) h0 a (upd (upd (upd F 2 (nI sz)) 5 (nI cs)) 12 (nI vr)) (updR (updR R 2 (.ref pq)) 3 (.ref mq)) Z B J K w pq dr ml nd nm cp it s9 q1 mq cs vr sz g rk (by omega) (BdE.wp BdE.rfl hwp) (BdE.pt BdE.rfl hwp hps) (BdE.rko BdE.rfl hrk) (by omega) (by omega) hng hmq ht0 ⟨hv0.1, (by have z9 := hv0; omega)⟩ hO hl0) (gV pw_173 pw_174 pw_175 pw_63 pw_224) hV_X0_value qr4 0 hqr5 rfl rfl rfl (Nat.le_of_ble_eq_true rfl) dX0_shortened_10 ⟨(by show 0 + 1 ≤ 1; omega), (by show 0 + 6 ≤ 6; omega)⟩ ⟨(by show (5 * (n - 1) + 34) + 1 ≤ (5 * n + 33); omega), (by show 8 + (3 + 11) + (200 * (n - 1) + 600) ≤ (200 * n + 560); omega)⟩ (fun v3 u1 H locs hw2 hP hD hS => ?_) (fun ux ce9 q9 H9 locs9 hux hP9 hD9 hS9 hce hcv hcl => pb_out ux (ThQ.up (Thx.same (Thx.same (Thx.same Thx.rfl rfl) rfl) rfl) (show RhX (updR (updR R 2 (.ref pq)) 3 (.ref mq)) (updR (updR (updR (updR R 2 (.ref pq)) 3 (.ref mq)) 2 (.ref pq)) 3 (.ref mq)) from fun k9 hk9 => by unfold updR; simp only [show ¬ k9 = 1 by omega, show ¬ k9 = 2 by omega, show ¬ k9 = 3 by omega, show ¬ k9 = 4 by omega, if_false]) hux) hnt hlocks hce hcv hcl hP9 hD9 hS9 (by show 0 + 1 ≤ 1; omega) (by show 0 + 6 ≤ 6; omega))
  obtain ⟨w, K6, B7, cs8, as9, wt10, wf11, r12⟩ := u1
  obtain ⟨hw2, h13, h14, h15, hO⟩ := hw2
  have h13 : BdE K K6 := h13
  have h14 : Bth B B7 := h14
  have h15 : cs8 ≤ 10000 := h15
  obtain rfl : v3 = some (.int r12) := hw2
  have hf16 : K6.1 pq = 7 := (BdE.T h13 hp1 (by decide))
  have hf17 : K6.2.2.1 18 pq = some (a 1) := (BdE.C h13 (by rw [hp1]; decide) 18).trans hp2
  have hf18 : K6.2.2.1 14 pq = some dr := (BdE.C h13 (by rw [hp1]; decide) 14).trans hp3
  have hf19 : K6.1 dr = 8 := (BdE.T h13 hp4 (by decide))
  have hf20 : K6.2.2.1 15 pq = some ml := (BdE.C h13 (by rw [hp1]; decide) 15).trans hp5
  have hf21 : K6.1 ml = 5 := (BdE.T h13 hp6 (by decide))
  have hf22 : K6.2.1 24 pq = (nI nd) := (BdE.I h13 (by rw [hp1]; decide) (by decide) (by decide)).trans hp8
  have hf23 : K6.1 q = 1 := (BdE.T h13 hqT (by decide))
  have hf24 : K6.1 mq = 3 := (BdE.T h13 hmq (by decide))
  have hf25 : K6.2.2.1 0 q = some q1 := (BdE.C h13 (by rw [hqT]; decide) 0).trans hc0
  have hf26 : K6.1 q1 = 1 := (BdE.T h13 ht0 (by decide))
  have hf27 : K6.2.2.1 1 q = some q2 := (BdE.C h13 (by rw [hqT]; decide) 1).trans hc1
  have hf28 : K6.1 q2 = 1 := (BdE.T h13 ht1 (by decide))
  have hO : OKP G h0 a (upd (upd (upd (upd (upd (upd F 2 (nI sz)) 5 (nI cs8)) 12 (nI vr)) 13 as9) 14 wt10) 15 wf11) (updR (updR R 2 (.ref pq)) 3 (.ref mq)) Z B7 J K6 w := hO.to rfl
  refine W.widen (k := 0) (n := 0) (by show 0 + 0 ≤ 0; omega) (by show 0 + 0 ≤ 0; omega) ?_
  refine W.eq (g2 := F0 m 13 ls [.int r12, .ref q1, .ref (a 4)]) rfl ?_
  have hbe29 := BdE.trans BdE.rfl h13
  have hbb30 : Bth B B7 := Bth.trans (show Thx (upd (upd (upd F 2 (nI sz)) 5 (nI cs)) 12 (nI vr)) (upd (upd (upd F 2 (nI sz)) 5 (nI cs)) 12 (nI vr)) B B from Thx.rfl).2 h14
  have hng31 : Nng (B7 18) := h14.2 hng
  refine lv_bipush (v := 61) hx hb dX0_shortened_13 (by decide) ?_
  have hO : OKP G h0 a (upd (upd (upd (upd (upd (upd (upd (upd F 2 (nI sz)) 5 (nI cs)) 12 (nI vr)) 5 (nI cs8)) 13 as9) 14 wt10) 15 wf11) 2 (nI sz)) (updR (updR (updR R 2 (.ref pq)) 3 (.ref mq)) 2 (.ref pq)) Z B7 J K6 w := hO.to rfl
  obtain ⟨_, qr35, hqr36⟩ := hO.2.1 24 _ (sg_24 G h0 a _ _ _ _ _)
  refine pn_V0 (G := G) (As := [.ref q1, .int r12, .int 61]) (rest := []) hx hb hml hown hq hE hX pX0_al hP hD hS hA hl.1 (B_fit l G h0 a (upd (upd (upd (upd (upd (upd (upd F 2 (nI sz)) 5 (nI cs)) 12 (nI vr)) 5 (nI cs8)) 13 as9) 14 wt10) 15 wf11) (updR (updR R 2 (.ref pq)) 3 (.ref mq)) Z B7 J K6 w pq dr ml nd q1 sz r12 61 g (by omega) (BdE.pt hbe29 hwp hps).1 (BdE.pt hbe29 hwp hps).2.1 hf26 hO hl0) (gV pw_176 pw_177 pw_178 pw_63 pw_114) hV_X0_fit qr35 0 hqr36 rfl rfl rfl (Nat.le_of_ble_eq_true rfl) dX0_shortened_15 ⟨(by show 0 + 1 ≤ 1; omega), (by show 0 + 6 ≤ 6; omega)⟩ ⟨(by show 7 + 1 ≤ (5 * n + 33); omega), (by show 8 + (4 + 11) + 122 ≤ (200 * n + 560); omega)⟩ (fun v34 u32 H locs hw33 hP hD hS => ?_) (fun ux ce9 q9 H9 locs9 hux hP9 hD9 hS9 hce hcv hcl => pb_out ux (ThQ.up (Thx.same (Thx.f (Thx.f (Thx.f (Thx.f (Bth.thx hbb30) (by omega)) (by omega)) (by omega)) (by omega)) rfl) (show RhX (updR (updR R 2 (.ref pq)) 3 (.ref mq)) (updR (updR (updR R 2 (.ref pq)) 3 (.ref mq)) 2 (.ref pq)) from fun k9 hk9 => by unfold updR; simp only [show ¬ k9 = 1 by omega, show ¬ k9 = 2 by omega, show ¬ k9 = 3 by omega, show ¬ k9 = 4 by omega, if_false]) hux) hnt hlocks hce hcv hcl hP9 hD9 hS9 (by show 0 + 1 ≤ 1; omega) (by show 0 + 6 ≤ 6; omega))
  obtain ⟨w, _⟩ := u32
  obtain ⟨hw33, hO⟩ := hw33
  obtain rfl : v34 = none := hw33
  have hO : OKP G h0 a (upd (upd (upd (upd (upd (upd F 2 (nI sz)) 5 (nI cs8)) 12 (nI vr)) 13 as9) 14 wt10) 15 wf11) (updR (updR R 2 (.ref pq)) 3 (.ref mq)) Z B7 J K6 w := hO.to rfl
  refine W.widen (k := 0) (n := 0) (by show 0 + 0 ≤ 0; omega) (by show 0 + 0 ≤ 0; omega) ?_
  refine W.eq (g2 := F0 m 18 ls []) rfl ?_
  refine lv_aload_n hx hb dX0_shortened_18 rfl (lv_at hl 0 rfl) ?_
  refine c_get (v := .int wt10) (C := RX0) (Tc := TX0) (N := 13) (ci := 0) hx hb hq pin_wsX00 hown hE hP hO 24 (sg_24 G h0 a _ _ _ _ _) rfl 9 (by decide) (hq _ pw_156) (fun _ h9 => h9) rfl dX0_shortened_19 ?_
  refine lv_istore_n (lv' := [(3, .int wt10), (0, .ref (a 4)), (1, .ref q), (2, .int (nI b9))]) hx hb dX0_shortened_22 rfl hl (by decide) rfl (fun ls hl => ?_)
  refine lv_aload_n hx hb dX0_shortened_23 rfl (lv_at hl 1 rfl) ?_
  refine c_get (v := .int wf11) (C := RX0) (Tc := TX0) (N := 13) (ci := 0) hx hb hq pin_wsX00 hown hE hP hO 24 (sg_24 G h0 a _ _ _ _ _) rfl 10 (by decide) (hq _ pw_157) (fun _ h9 => h9) rfl dX0_shortened_24 ?_
  refine lv_istore (lv' := [(4, .int wf11), (3, .int wt10), (0, .ref (a 4)), (1, .ref q), (2, .int (nI b9))]) hx hb dX0_shortened_27 hl (by decide) rfl (fun ls hl => ?_)
  refine lv_aload_n hx hb dX0_shortened_29 rfl (lv_at hl 2 rfl) ?_
  refine c_get (v := .ref (a 2)) (C := RX0) (Tc := TX0) (N := 13) (ci := 0) hx hb hq pin_wsX00 hown hE hP hO 24 (sg_24 G h0 a _ _ _ _ _) rfl 1 (by decide) (hq _ pw_5) (fun _ h9 => h9) rfl dX0_shortened_30 ?_
  refine lv_iload_n hx hb dX0_shortened_33 rfl (lv_at hl 4 rfl) ?_
  refine lv_if_eq (tgt := 42) hx hb dX0_shortened_34 (by decide) (fun c37 => ?_) (fun c37 => ?_)
  · have n38 : b9 = 0 := (nI_eq (a := b9) (b := 0) (by omega) (by omega)).mp c37
    refine lv_bipush (v := 9) hx hb dX0_shortened_42 (by decide) ?_
    refine lv_iconst (v := (-1)) hx hb dX0_shortened_44 (by decide) ?_
    refine lv_iconst (v := 0) hx hb dX0_shortened_45 (by decide) ?_
    have hO : OKW G h0 a (upd (upd (upd (upd (upd (upd (upd F 2 (nI sz)) 5 (nI cs8)) 12 (nI vr)) 13 as9) 14 wt10) 15 wf11) 5 (nI cs8)) (updR (updR R 2 (.ref pq)) 3 (.ref mq)) Z B7 J K6.1 (fun q99 x99 => x99 = rep G a K6 q99) w := hO.to rfl
    obtain ⟨_, qr42, hqr43⟩ := hO.2.1 13 _ (sg_13 G h0 a _ _ _ _ _)
    refine pc_V0 (G := G) (As := [.int 9, .int (-1), .int (nI 0)]) (rest := []) hx hb hml hown hq hE hX pX0_al hP hD hS hA hl.1 (K_jump l G h0 a (upd (upd (upd (upd (upd (upd F 2 (nI sz)) 5 (nI cs8)) 12 (nI vr)) 13 as9) 14 wt10) 15 wf11) (updR (updR R 2 (.ref pq)) 3 (.ref mq)) Z B7 J K6.1 (fun q99 x99 => x99 = rep G a K6 q99) w 9 (-1) 0 cs8 (by omega) (by omega) hng31 hO) (gV pw_197 pw_198 pw_199 pw_70 pw_132) hV_X1_jump qr42 1 hqr43 rfl rfl rfl (Nat.le_of_ble_eq_true rfl) dX0_shortened_46 ⟨(by show 0 + 0 ≤ 1; omega), (by show 0 + 0 ≤ 6; omega)⟩ ⟨(by show 3 + 1 ≤ (5 * n + 33); omega), (by show 8 + (4 + 11) + 83 ≤ (200 * n + 560); omega)⟩ (fun v41 u39 H locs hw40 hP hD hS => ?_)
    obtain ⟨w, cs44, f45, f46, f47, f48, r49⟩ := u39
    obtain ⟨hw40, h50, h51, hO⟩ := hw40
    have h50 : cs8 ≤ cs44 ∧ cs44 ≤ cs8 + 1 ∧ cs44 ≤ 10000 := h50
    have h51 : Nng f47 := h51
    obtain rfl : v41 = some (.int r49) := hw40
    have hO : OKP G h0 a (upd (upd (upd (upd (upd (upd F 2 (nI sz)) 5 (nI cs44)) 12 (nI vr)) 13 as9) 14 wt10) 15 wf11) (updR (updR R 2 (.ref pq)) 3 (.ref mq)) Z (updA (updA (updA (updA B7 16 f45) 17 f46) 18 f47) 19 f48) J K6 w := hO.to rfl
    refine W.widen (k := 0) (n := 0) (Nat.le_of_ble_eq_true rfl) (Nat.le_of_ble_eq_true rfl) ?_
    refine W.eq (g2 := F0 m 49 ls [.int r49]) rfl ?_
    refine lv_istore (lv' := [(5, .int r49), (4, .int wf11), (3, .int wt10), (0, .ref (a 4)), (1, .ref q), (2, .int (nI b9))]) hx hb dX0_shortened_49 hl (by decide) rfl (fun ls hl => ?_)
    refine lv_aload_n hx hb dX0_shortened_51 rfl (lv_at hl 3 rfl) ?_
    refine lv_iload_n hx hb dX0_shortened_52 rfl (lv_at hl 5 rfl) ?_
    refine lv_if_eq (tgt := 60) hx hb dX0_shortened_53 (by decide) (fun c52 => ?_) (fun c52 => ?_)
    · have n53 : b9 = 0 := (nI_eq (a := b9) (b := 0) (by omega) (by omega)).mp c52
      refine lv_iload hx hb dX0_shortened_60 (lv_at hl 1 rfl) ?_
      refine c_put (v := .int wf11) (ty := .int) (C := RX0) (Tc := TX0) (N := 13) (ci := 0) hx hb hq pin_wsX00 tyX0 tyX0_ok nmX0 hown hE hP hD hS hO 24 (sg_24 G h0 a _ _ _ _ _) rfl 8 (by decide) (hq _ pw_55) (fun _ h9 => h9) rfl (by decide +kernel) rfl rfl (Nat.le_of_ble_eq_true rfl) (sf_13 G h0 a _ _ _ _ _ wf11) dX0_shortened_62 (fun H locs w hP hD hS hO => ?_)
      refine lv_aload_n hx hb dX0_shortened_65 rfl (lv_at hl 3 rfl) ?_
      refine lv_aload_n hx hb dX0_shortened_66 rfl (lv_at hl 4 rfl) ?_
      refine p_get (v := .ref q2) (C := RX7) (Tc := TX7) (N := 11) (ci := 13) hx hb hq pin_wsX70 hown hE hP hO (by rw [hf23]; decide) (rep_1 hf23) rfl 7 (by decide) (hq _ pw_169) (fun _ h9 => h9) (congrArg (fun z => some (va_rf z)) hf27) dX0_shortened_67 ?_
      refine lv_aload_n hx hb dX0_shortened_70 rfl (lv_at hl 3 rfl) ?_
      refine lv_aload_n hx hb dX0_shortened_71 rfl (lv_at hl 4 rfl) ?_
      refine p_get (v := .ref q2) (C := RX7) (Tc := TX7) (N := 11) (ci := 13) hx hb hq pin_wsX70 hown hE hP hO (by rw [hf23]; decide) (rep_1 hf23) rfl 7 (by decide) (hq _ pw_169) (fun _ h9 => h9) (congrArg (fun z => some (va_rf z)) hf27) dX0_shortened_72 ?_
      have hO : OKP G h0 a (upd (upd (upd (upd (upd (upd (upd (upd (upd (upd F 2 (nI sz)) 5 (nI cs)) 12 (nI vr)) 5 (nI cs44)) 13 wf11) 14 wt10) 15 wf11) 2 (nI sz)) 5 (nI cs44)) 12 (nI vr)) (updR (updR (updR (updR R 2 (.ref pq)) 3 (.ref mq)) 2 (.ref pq)) 3 (.ref mq)) Z (updA (updA (updA (updA B7 16 f45) 17 f46) 18 f47) 19 f48) J K6 w := hO.to rfl
      obtain ⟨_, qr57, hqr58⟩ := hO.2.1 24 _ (sg_24 G h0 a _ _ _ _ _)
      refine pn_V0 (G := G) (As := [.ref q2]) (rest := [.ref q2, .ref (a 4)]) hx hb hml hown hq hE hX pX0_al hP hD hS hA hl.1 ((ihv (by omega)) h0 a (upd (upd (upd (upd (upd (upd (upd F 2 (nI sz)) 5 (nI cs)) 12 (nI vr)) 5 (nI cs44)) 13 wf11) 14 wt10) 15 wf11) (updR (updR R 2 (.ref pq)) 3 (.ref mq)) Z (updA (updA (updA (updA B7 16 f45) 17 f46) 18 f47) 19 f48) J K6 w pq dr ml nd nm cp it s9 q2 mq cs44 vr sz g rk (by omega) (BdE.wp hbe29 hwp) (BdE.pt hbe29 hwp hps) (BdE.rko hbe29 hrk) (by omega) (by omega) h51 hf24 hf28 ⟨hv1.1, (by have z9 := hv1; omega)⟩ hO hl0) (gV pw_173 pw_174 pw_175 pw_63 pw_224) hV_X0_value qr57 0 hqr58 rfl rfl rfl (Nat.le_of_ble_eq_true rfl) dX0_shortened_75 ⟨(by show 0 + 1 ≤ 1; omega), (by show 0 + 6 ≤ 6; omega)⟩ ⟨(by show (5 * (n - 1) + 34) + 1 ≤ (5 * n + 33); omega), (by show 8 + (3 + 11) + (200 * (n - 1) + 600) ≤ (200 * n + 560); omega)⟩ (fun v56 u54 H locs hw55 hP hD hS => ?_) (fun ux ce9 q9 H9 locs9 hux hP9 hD9 hS9 hce hcv hcl => pb_out ux (ThQ.up (Thx.same (Thx.same (Thx.same (Thx.b (Thx.b8 (Thx.b (Thx.b (Thx.f (Thx.f (Thx.f (Thx.f (Bth.thx hbb30) (by omega)) (by omega)) (by omega)) (by omega)) (by omega) (by decide)) (by omega) (by decide)) h51) (by omega) (by decide)) rfl) rfl) rfl) (show RhX (updR (updR R 2 (.ref pq)) 3 (.ref mq)) (updR (updR (updR (updR R 2 (.ref pq)) 3 (.ref mq)) 2 (.ref pq)) 3 (.ref mq)) from fun k9 hk9 => by unfold updR; simp only [show ¬ k9 = 1 by omega, show ¬ k9 = 2 by omega, show ¬ k9 = 3 by omega, show ¬ k9 = 4 by omega, if_false]) hux) hnt hlocks hce hcv hcl hP9 hD9 hS9 (by show 0 + 1 ≤ 1; omega) (by show 0 + 6 ≤ 6; omega))
      obtain ⟨w, K59, B60, cs61, as62, wt63, wf64, r65⟩ := u54
      obtain ⟨hw55, h66, h67, h68, hO⟩ := hw55
      have h66 : BdE K6 K59 := h66
      have h67 : Bth (updA (updA (updA (updA B7 16 f45) 17 f46) 18 f47) 19 f48) B60 := h67
      have h68 : cs61 ≤ 10000 := h68
      obtain rfl : v56 = some (.int r65) := hw55
      have hf69 : K59.1 pq = 7 := (BdE.T h66 hf16 (by decide))
      have hf70 : K59.2.2.1 18 pq = some (a 1) := (BdE.C h66 (by rw [hf16]; decide) 18).trans hf17
      have hf71 : K59.2.2.1 14 pq = some dr := (BdE.C h66 (by rw [hf16]; decide) 14).trans hf18
      have hf72 : K59.1 dr = 8 := (BdE.T h66 hf19 (by decide))
      have hf73 : K59.2.2.1 15 pq = some ml := (BdE.C h66 (by rw [hf16]; decide) 15).trans hf20
      have hf74 : K59.1 ml = 5 := (BdE.T h66 hf21 (by decide))
      have hf75 : K59.2.1 24 pq = (nI nd) := (BdE.I h66 (by rw [hf16]; decide) (by decide) (by decide)).trans hf22
      have hf76 : K59.1 q = 1 := (BdE.T h66 hf23 (by decide))
      have hf77 : K59.1 mq = 3 := (BdE.T h66 hf24 (by decide))
      have hf78 : K59.2.2.1 0 q = some q1 := (BdE.C h66 (by rw [hf23]; decide) 0).trans hf25
      have hf79 : K59.1 q1 = 1 := (BdE.T h66 hf26 (by decide))
      have hf80 : K59.2.2.1 1 q = some q2 := (BdE.C h66 (by rw [hf23]; decide) 1).trans hf27
      have hf81 : K59.1 q2 = 1 := (BdE.T h66 hf28 (by decide))
      have hO : OKP G h0 a (upd (upd (upd (upd (upd (upd F 2 (nI sz)) 5 (nI cs61)) 12 (nI vr)) 13 as62) 14 wt63) 15 wf64) (updR (updR R 2 (.ref pq)) 3 (.ref mq)) Z B60 J K59 w := hO.to rfl
      refine W.widen (k := 0) (n := 0) (by show 0 + 0 ≤ 0; omega) (by show 0 + 0 ≤ 0; omega) ?_
      refine W.eq (g2 := F0 m 78 ls [.int r65, .ref q2, .ref (a 4)]) rfl ?_
      have hbe82 := BdE.trans hbe29 h66
      have hbb83 : Bth B B60 := Bth.trans (show Thx (upd (upd (upd F 2 (nI sz)) 5 (nI cs)) 12 (nI vr)) (upd (upd (upd (upd (upd (upd (upd F 2 (nI sz)) 5 (nI cs)) 12 (nI vr)) 5 (nI cs44)) 13 wf11) 14 wt10) 15 wf11) B (updA (updA (updA (updA B7 16 f45) 17 f46) 18 f47) 19 f48) from (Thx.b (Thx.b8 (Thx.b (Thx.b (Thx.f (Thx.f (Thx.f (Thx.f (Bth.thx hbb30) (by omega)) (by omega)) (by omega)) (by omega)) (by omega) (by decide)) (by omega) (by decide)) h51) (by omega) (by decide))).2 h67
      have hng84 : Nng (B60 18) := h67.2 h51
      refine lv_bipush (v := 61) hx hb dX0_shortened_78 (by decide) ?_
      have hO : OKP G h0 a (upd (upd (upd (upd (upd (upd (upd (upd F 2 (nI sz)) 5 (nI cs)) 12 (nI vr)) 5 (nI cs61)) 13 as62) 14 wt63) 15 wf64) 2 (nI sz)) (updR (updR (updR R 2 (.ref pq)) 3 (.ref mq)) 2 (.ref pq)) Z B60 J K59 w := hO.to rfl
      obtain ⟨_, qr88, hqr89⟩ := hO.2.1 24 _ (sg_24 G h0 a _ _ _ _ _)
      refine pn_V0 (G := G) (As := [.ref q2, .int r65, .int 61]) (rest := []) hx hb hml hown hq hE hX pX0_al hP hD hS hA hl.1 (B_fit l G h0 a (upd (upd (upd (upd (upd (upd (upd F 2 (nI sz)) 5 (nI cs)) 12 (nI vr)) 5 (nI cs61)) 13 as62) 14 wt63) 15 wf64) (updR (updR R 2 (.ref pq)) 3 (.ref mq)) Z B60 J K59 w pq dr ml nd q2 sz r65 61 g (by omega) (BdE.pt hbe82 hwp hps).1 (BdE.pt hbe82 hwp hps).2.1 hf81 hO hl0) (gV pw_176 pw_177 pw_178 pw_63 pw_114) hV_X0_fit qr88 0 hqr89 rfl rfl rfl (Nat.le_of_ble_eq_true rfl) dX0_shortened_80 ⟨(by show 0 + 1 ≤ 1; omega), (by show 0 + 6 ≤ 6; omega)⟩ ⟨(by show 7 + 1 ≤ (5 * n + 33); omega), (by show 8 + (4 + 11) + 122 ≤ (200 * n + 560); omega)⟩ (fun v87 u85 H locs hw86 hP hD hS => ?_) (fun ux ce9 q9 H9 locs9 hux hP9 hD9 hS9 hce hcv hcl => pb_out ux (ThQ.up (Thx.same (Thx.f (Thx.f (Thx.f (Thx.f (Bth.thx hbb83) (by omega)) (by omega)) (by omega)) (by omega)) rfl) (show RhX (updR (updR R 2 (.ref pq)) 3 (.ref mq)) (updR (updR (updR R 2 (.ref pq)) 3 (.ref mq)) 2 (.ref pq)) from fun k9 hk9 => by unfold updR; simp only [show ¬ k9 = 1 by omega, show ¬ k9 = 2 by omega, show ¬ k9 = 3 by omega, show ¬ k9 = 4 by omega, if_false]) hux) hnt hlocks hce hcv hcl hP9 hD9 hS9 (by show 0 + 1 ≤ 1; omega) (by show 0 + 6 ≤ 6; omega))
      obtain ⟨w, _⟩ := u85
      obtain ⟨hw86, hO⟩ := hw86
      obtain rfl : v87 = none := hw86
      have hO : OKP G h0 a (upd (upd (upd (upd (upd (upd F 2 (nI sz)) 5 (nI cs61)) 12 (nI vr)) 13 as62) 14 wt63) 15 wf64) (updR (updR R 2 (.ref pq)) 3 (.ref mq)) Z B60 J K59 w := hO.to rfl
      refine W.widen (k := 0) (n := 0) (by show 0 + 0 ≤ 0; omega) (by show 0 + 0 ≤ 0; omega) ?_
      refine W.eq (g2 := F0 m 83 ls []) rfl ?_
      refine lv_aload_n hx hb dX0_shortened_83 rfl (lv_at hl 3 rfl) ?_
      refine c_get (v := .ref (a 2)) (C := RX0) (Tc := TX0) (N := 13) (ci := 0) hx hb hq pin_wsX00 hown hE hP hO 24 (sg_24 G h0 a _ _ _ _ _) rfl 1 (by decide) (hq _ pw_5) (fun _ h9 => h9) rfl dX0_shortened_84 ?_
      refine lv_iload hx hb dX0_shortened_87 (lv_at hl 0 rfl) ?_
      have hO : OKW G h0 a (upd (upd (upd (upd (upd (upd (upd F 2 (nI sz)) 5 (nI cs61)) 12 (nI vr)) 13 as62) 14 wt63) 15 wf64) 5 (nI cs61)) (updR (updR R 2 (.ref pq)) 3 (.ref mq)) Z B60 J K59.1 (fun q99 x99 => x99 = rep G a K59 q99) w := hO.to rfl
      obtain ⟨_, qr93, hqr94⟩ := hO.2.1 13 _ (sg_13 G h0 a _ _ _ _ _)
      refine pc_V0 (G := G) (As := [.int r49]) (rest := []) hx hb hml hown hq hE hX pX0_al hP hD hS hA hl.1 (K_land l G h0 a (upd (upd (upd (upd (upd (upd F 2 (nI sz)) 5 (nI cs61)) 12 (nI vr)) 13 as62) 14 wt63) 15 wf64) (updR (updR R 2 (.ref pq)) 3 (.ref mq)) Z B60 J K59.1 (fun q99 x99 => x99 = rep G a K59 q99) w r49 cs61 (by omega) hO) (gV pw_200 pw_201 pw_202 pw_70 pw_134) hV_X1_land qr93 1 hqr94 rfl rfl rfl (Nat.le_of_ble_eq_true rfl) dX0_shortened_89 ⟨(by show 0 + 0 ≤ 1; omega), (by show 0 + 0 ≤ 6; omega)⟩ ⟨(by show 2 + 1 ≤ (5 * n + 33); omega), (by show 8 + (5 + 11) + 60 ≤ (200 * n + 560); omega)⟩ (fun v92 u90 H locs hw91 hP hD hS => ?_)
      obtain ⟨w, f95⟩ := u90
      obtain ⟨hw91, hO⟩ := hw91
      obtain rfl : v92 = none := hw91
      have hO : OKP G h0 a (upd (upd (upd (upd (upd (upd F 2 (nI sz)) 5 (nI cs61)) 12 (nI vr)) 13 as62) 14 wt63) 15 wf64) (updR (updR R 2 (.ref pq)) 3 (.ref mq)) Z (updA B60 17 f95) J K59 w := hO.to rfl
      refine W.widen (k := 0) (n := 0) (Nat.le_of_ble_eq_true rfl) (Nat.le_of_ble_eq_true rfl) ?_
      refine W.eq (g2 := F0 m 92 ls []) rfl ?_
      refine lv_iload_n hx hb dX0_shortened_92 rfl (lv_at hl 5 rfl) ?_
      refine lv_if_eq (tgt := 110) hx hb dX0_shortened_93 (by decide) (fun c96 => ?_) (fun c96 => ?_)
      · have n97 : b9 = 0 := (nI_eq (a := b9) (b := 0) (by omega) (by omega)).mp c96
        refine lv_aload_n hx hb dX0_shortened_110 rfl (lv_at hl 3 rfl) ?_
        refine lv_dup hx hb dX0_shortened_111 rfl ?_
        refine c_get (v := .int wt63) (C := RX0) (Tc := TX0) (N := 13) (ci := 0) hx hb hq pin_wsX00 hown hE hP hO 24 (sg_24 G h0 a _ _ _ _ _) rfl 9 (by decide) (hq _ pw_156) (fun _ h9 => h9) rfl dX0_shortened_112 ?_
        refine lv_iload_n hx hb dX0_shortened_115 rfl (lv_at hl 2 rfl) ?_
        refine lv_iand hx hb dX0_shortened_116 ?_
        refine lv_topi (fun x98 e99 => ?_)
        refine c_put (v := .int x98) (ty := .int) (C := RX0) (Tc := TX0) (N := 13) (ci := 0) hx hb hq pin_wsX00 tyX0 tyX0_ok nmX0 hown hE hP hD hS hO 24 (sg_24 G h0 a _ _ _ _ _) rfl 9 (by decide) (hq _ pw_156) (fun _ h9 => h9) rfl (by decide +kernel) rfl rfl (Nat.le_of_ble_eq_true rfl) (sf_14 G h0 a _ _ _ _ _ x98) dX0_shortened_117 (fun H locs w hP hD hS hO => ?_)
        refine lv_aload_n hx hb dX0_shortened_120 rfl (lv_at hl 3 rfl) ?_
        refine lv_aload_n hx hb dX0_shortened_121 rfl (lv_at hl 3 rfl) ?_
        refine c_get (v := .int x98) (C := RX0) (Tc := TX0) (N := 13) (ci := 0) hx hb hq pin_wsX00 hown hE hP hO 24 (sg_24 G h0 a _ _ _ _ _) rfl 9 (by decide) (hq _ pw_156) (fun _ h9 => h9) rfl dX0_shortened_122 ?_
        refine lv_aload_n hx hb dX0_shortened_125 rfl (lv_at hl 3 rfl) ?_
        refine c_get (v := .int wf64) (C := RX0) (Tc := TX0) (N := 13) (ci := 0) hx hb hq pin_wsX00 hown hE hP hO 24 (sg_24 G h0 a _ _ _ _ _) rfl 10 (by decide) (hq _ pw_157) (fun _ h9 => h9) rfl dX0_shortened_126 ?_
        refine lv_iand hx hb dX0_shortened_129 ?_
        refine lv_topi (fun x100 e101 => ?_)
        refine c_put (v := .int x100) (ty := .int) (C := RX0) (Tc := TX0) (N := 13) (ci := 0) hx hb hq pin_wsX00 tyX0 tyX0_ok nmX0 hown hE hP hD hS hO 24 (sg_24 G h0 a _ _ _ _ _) rfl 8 (by decide) (hq _ pw_55) (fun _ h9 => h9) rfl (by decide +kernel) rfl rfl (Nat.le_of_ble_eq_true rfl) (sf_13 G h0 a _ _ _ _ _ x100) dX0_shortened_130 (fun H locs w hP hD hS hO => ?_)
        refine lv_bipush (v := 61) hx hb dX0_shortened_133 (by decide) ?_
        refine W_size (fun hz1 hz2 => ?_)
        refine vx_ret ?_
        have hz102 : BdE K K59 := hbe82
        have hz103 : Bth B (updA B60 17 f95) := (show Thx (upd (upd (upd F 2 (nI sz)) 5 (nI cs)) 12 (nI vr)) (upd (upd (upd (upd (upd (upd (upd F 2 (nI sz)) 5 (nI cs)) 12 (nI vr)) 5 (nI cs61)) 13 x100) 14 x98) 15 wf64) B (updA B60 17 f95) from (Thx.b (Thx.f (Thx.f (Thx.f (Thx.f (Bth.thx hbb83) (by omega)) (by omega)) (by omega)) (by omega)) (by omega) (by decide))).2
        have hz104 : cs61 ≤ 10000 := (by omega)
        have hO : OKP G h0 a (upd (upd (upd (upd (upd (upd F 2 (nI sz)) 5 (nI cs61)) 12 (nI vr)) 13 x100) 14 x98) 15 wf64) (updR (updR R 2 (.ref pq)) 3 (.ref mq)) Z (updA B60 17 f95) J K59 w := hO.to rfl
        refine W.widen (k := 1) (n := 6) (by omega) (by omega) ?_
        have hzz1 : H.size ≤ s.heap.size + (0) := (by have z : 0 ≤ 0 := (by omega); omega)
        have hzz2 : hSl H ≤ hSl s.heap + (0) := (by have z : 0 ≤ 0 := (by omega); omega)
        exact W.iret (v := 61) hx hb hr (fun t99 ht99 hW99 => ⟨⟨_, (w, (K59, (updA B60 17 f95), cs61, x100, x98, wf64, (61 : Int32))), rfl, ⟨rfl, hz102, hz103, hz104, hO⟩, by rw [ht99]; exact hP, hD, by rw [ht99]; exact hzz1, by rw [ht99]; exact hzz2⟩, hS.F ht99⟩) hS.2.2 dX0_shortened_135
      · have n105 : ¬ (b9 = 0) := fun h9 => c96 ((nI_eq (a := b9) (b := 0) (by omega) (by omega)).mpr h9)
        refine lv_aload_n hx hb dX0_shortened_96 rfl (lv_at hl 3 rfl) ?_
        refine lv_dup hx hb dX0_shortened_97 rfl ?_
        refine c_get (v := .int wf64) (C := RX0) (Tc := TX0) (N := 13) (ci := 0) hx hb hq pin_wsX00 hown hE hP hO 24 (sg_24 G h0 a _ _ _ _ _) rfl 10 (by decide) (hq _ pw_157) (fun _ h9 => h9) rfl dX0_shortened_98 ?_
        refine lv_iload hx hb dX0_shortened_101 (lv_at hl 1 rfl) ?_
        refine lv_iand hx hb dX0_shortened_103 ?_
        refine lv_topi (fun x106 e107 => ?_)
        refine c_put (v := .int x106) (ty := .int) (C := RX0) (Tc := TX0) (N := 13) (ci := 0) hx hb hq pin_wsX00 tyX0 tyX0_ok nmX0 hown hE hP hD hS hO 24 (sg_24 G h0 a _ _ _ _ _) rfl 10 (by decide) (hq _ pw_157) (fun _ h9 => h9) rfl (by decide +kernel) rfl rfl (Nat.le_of_ble_eq_true rfl) (sf_15 G h0 a _ _ _ _ _ x106) dX0_shortened_104 (fun H locs w hP hD hS hO => ?_)
        refine lv_goto (tgt := 120) hx hb dX0_shortened_107 (by decide) ?_
        refine lv_aload_n hx hb dX0_shortened_120 rfl (lv_at hl 3 rfl) ?_
        refine lv_aload_n hx hb dX0_shortened_121 rfl (lv_at hl 3 rfl) ?_
        refine c_get (v := .int wt63) (C := RX0) (Tc := TX0) (N := 13) (ci := 0) hx hb hq pin_wsX00 hown hE hP hO 24 (sg_24 G h0 a _ _ _ _ _) rfl 9 (by decide) (hq _ pw_156) (fun _ h9 => h9) rfl dX0_shortened_122 ?_
        refine lv_aload_n hx hb dX0_shortened_125 rfl (lv_at hl 3 rfl) ?_
        refine c_get (v := .int x106) (C := RX0) (Tc := TX0) (N := 13) (ci := 0) hx hb hq pin_wsX00 hown hE hP hO 24 (sg_24 G h0 a _ _ _ _ _) rfl 10 (by decide) (hq _ pw_157) (fun _ h9 => h9) rfl dX0_shortened_126 ?_
        refine lv_iand hx hb dX0_shortened_129 ?_
        refine lv_topi (fun x108 e109 => ?_)
        refine c_put (v := .int x108) (ty := .int) (C := RX0) (Tc := TX0) (N := 13) (ci := 0) hx hb hq pin_wsX00 tyX0 tyX0_ok nmX0 hown hE hP hD hS hO 24 (sg_24 G h0 a _ _ _ _ _) rfl 8 (by decide) (hq _ pw_55) (fun _ h9 => h9) rfl (by decide +kernel) rfl rfl (Nat.le_of_ble_eq_true rfl) (sf_13 G h0 a _ _ _ _ _ x108) dX0_shortened_130 (fun H locs w hP hD hS hO => ?_)
        refine lv_bipush (v := 61) hx hb dX0_shortened_133 (by decide) ?_
        refine W_size (fun hz1 hz2 => ?_)
        refine vx_ret ?_
        have hz110 : BdE K K59 := hbe82
        have hz111 : Bth B (updA B60 17 f95) := (show Thx (upd (upd (upd F 2 (nI sz)) 5 (nI cs)) 12 (nI vr)) (upd (upd (upd (upd (upd (upd (upd F 2 (nI sz)) 5 (nI cs)) 12 (nI vr)) 5 (nI cs61)) 13 x108) 14 wt63) 15 x106) B (updA B60 17 f95) from (Thx.b (Thx.f (Thx.f (Thx.f (Thx.f (Bth.thx hbb83) (by omega)) (by omega)) (by omega)) (by omega)) (by omega) (by decide))).2
        have hz112 : cs61 ≤ 10000 := (by omega)
        have hO : OKP G h0 a (upd (upd (upd (upd (upd (upd F 2 (nI sz)) 5 (nI cs61)) 12 (nI vr)) 13 x108) 14 wt63) 15 x106) (updR (updR R 2 (.ref pq)) 3 (.ref mq)) Z (updA B60 17 f95) J K59 w := hO.to rfl
        refine W.widen (k := 1) (n := 6) (by omega) (by omega) ?_
        have hzz1 : H.size ≤ s.heap.size + (0) := (by have z : 0 ≤ 0 := (by omega); omega)
        have hzz2 : hSl H ≤ hSl s.heap + (0) := (by have z : 0 ≤ 0 := (by omega); omega)
        exact W.iret (v := 61) hx hb hr (fun t99 ht99 hW99 => ⟨⟨_, (w, (K59, (updA B60 17 f95), cs61, x108, wt63, x106, (61 : Int32))), rfl, ⟨rfl, hz110, hz111, hz112, hO⟩, by rw [ht99]; exact hP, hD, by rw [ht99]; exact hzz1, by rw [ht99]; exact hzz2⟩, hS.F ht99⟩) hS.2.2 dX0_shortened_135
    · have n113 : ¬ (b9 = 0) := fun h9 => c52 ((nI_eq (a := b9) (b := 0) (by omega) (by omega)).mpr h9)
      refine lv_iload_n hx hb dX0_shortened_56 rfl (lv_at hl 2 rfl) ?_
      refine lv_goto (tgt := 62) hx hb dX0_shortened_57 (by decide) ?_
      refine c_put (v := .int wt10) (ty := .int) (C := RX0) (Tc := TX0) (N := 13) (ci := 0) hx hb hq pin_wsX00 tyX0 tyX0_ok nmX0 hown hE hP hD hS hO 24 (sg_24 G h0 a _ _ _ _ _) rfl 8 (by decide) (hq _ pw_55) (fun _ h9 => h9) rfl (by decide +kernel) rfl rfl (Nat.le_of_ble_eq_true rfl) (sf_13 G h0 a _ _ _ _ _ wt10) dX0_shortened_62 (fun H locs w hP hD hS hO => ?_)
      refine lv_aload_n hx hb dX0_shortened_65 rfl (lv_at hl 3 rfl) ?_
      refine lv_aload_n hx hb dX0_shortened_66 rfl (lv_at hl 4 rfl) ?_
      refine p_get (v := .ref q2) (C := RX7) (Tc := TX7) (N := 11) (ci := 13) hx hb hq pin_wsX70 hown hE hP hO (by rw [hf23]; decide) (rep_1 hf23) rfl 7 (by decide) (hq _ pw_169) (fun _ h9 => h9) (congrArg (fun z => some (va_rf z)) hf27) dX0_shortened_67 ?_
      refine lv_aload_n hx hb dX0_shortened_70 rfl (lv_at hl 3 rfl) ?_
      refine lv_aload_n hx hb dX0_shortened_71 rfl (lv_at hl 4 rfl) ?_
      refine p_get (v := .ref q2) (C := RX7) (Tc := TX7) (N := 11) (ci := 13) hx hb hq pin_wsX70 hown hE hP hO (by rw [hf23]; decide) (rep_1 hf23) rfl 7 (by decide) (hq _ pw_169) (fun _ h9 => h9) (congrArg (fun z => some (va_rf z)) hf27) dX0_shortened_72 ?_
      have hO : OKP G h0 a (upd (upd (upd (upd (upd (upd (upd (upd (upd (upd F 2 (nI sz)) 5 (nI cs)) 12 (nI vr)) 5 (nI cs44)) 13 wt10) 14 wt10) 15 wf11) 2 (nI sz)) 5 (nI cs44)) 12 (nI vr)) (updR (updR (updR (updR R 2 (.ref pq)) 3 (.ref mq)) 2 (.ref pq)) 3 (.ref mq)) Z (updA (updA (updA (updA B7 16 f45) 17 f46) 18 f47) 19 f48) J K6 w := hO.to rfl
      obtain ⟨_, qr117, hqr118⟩ := hO.2.1 24 _ (sg_24 G h0 a _ _ _ _ _)
      refine pn_V0 (G := G) (As := [.ref q2]) (rest := [.ref q2, .ref (a 4)]) hx hb hml hown hq hE hX pX0_al hP hD hS hA hl.1 ((ihv (by omega)) h0 a (upd (upd (upd (upd (upd (upd (upd F 2 (nI sz)) 5 (nI cs)) 12 (nI vr)) 5 (nI cs44)) 13 wt10) 14 wt10) 15 wf11) (updR (updR R 2 (.ref pq)) 3 (.ref mq)) Z (updA (updA (updA (updA B7 16 f45) 17 f46) 18 f47) 19 f48) J K6 w pq dr ml nd nm cp it s9 q2 mq cs44 vr sz g rk (by omega) (BdE.wp hbe29 hwp) (BdE.pt hbe29 hwp hps) (BdE.rko hbe29 hrk) (by omega) (by omega) h51 hf24 hf28 ⟨hv1.1, (by have z9 := hv1; omega)⟩ hO hl0) (gV pw_173 pw_174 pw_175 pw_63 pw_224) hV_X0_value qr117 0 hqr118 rfl rfl rfl (Nat.le_of_ble_eq_true rfl) dX0_shortened_75 ⟨(by show 0 + 1 ≤ 1; omega), (by show 0 + 6 ≤ 6; omega)⟩ ⟨(by show (5 * (n - 1) + 34) + 1 ≤ (5 * n + 33); omega), (by show 8 + (3 + 11) + (200 * (n - 1) + 600) ≤ (200 * n + 560); omega)⟩ (fun v116 u114 H locs hw115 hP hD hS => ?_) (fun ux ce9 q9 H9 locs9 hux hP9 hD9 hS9 hce hcv hcl => pb_out ux (ThQ.up (Thx.same (Thx.same (Thx.same (Thx.b (Thx.b8 (Thx.b (Thx.b (Thx.f (Thx.f (Thx.f (Thx.f (Bth.thx hbb30) (by omega)) (by omega)) (by omega)) (by omega)) (by omega) (by decide)) (by omega) (by decide)) h51) (by omega) (by decide)) rfl) rfl) rfl) (show RhX (updR (updR R 2 (.ref pq)) 3 (.ref mq)) (updR (updR (updR (updR R 2 (.ref pq)) 3 (.ref mq)) 2 (.ref pq)) 3 (.ref mq)) from fun k9 hk9 => by unfold updR; simp only [show ¬ k9 = 1 by omega, show ¬ k9 = 2 by omega, show ¬ k9 = 3 by omega, show ¬ k9 = 4 by omega, if_false]) hux) hnt hlocks hce hcv hcl hP9 hD9 hS9 (by show 0 + 1 ≤ 1; omega) (by show 0 + 6 ≤ 6; omega))
      obtain ⟨w, K119, B120, cs121, as122, wt123, wf124, r125⟩ := u114
      obtain ⟨hw115, h126, h127, h128, hO⟩ := hw115
      have h126 : BdE K6 K119 := h126
      have h127 : Bth (updA (updA (updA (updA B7 16 f45) 17 f46) 18 f47) 19 f48) B120 := h127
      have h128 : cs121 ≤ 10000 := h128
      obtain rfl : v116 = some (.int r125) := hw115
      have hf129 : K119.1 pq = 7 := (BdE.T h126 hf16 (by decide))
      have hf130 : K119.2.2.1 18 pq = some (a 1) := (BdE.C h126 (by rw [hf16]; decide) 18).trans hf17
      have hf131 : K119.2.2.1 14 pq = some dr := (BdE.C h126 (by rw [hf16]; decide) 14).trans hf18
      have hf132 : K119.1 dr = 8 := (BdE.T h126 hf19 (by decide))
      have hf133 : K119.2.2.1 15 pq = some ml := (BdE.C h126 (by rw [hf16]; decide) 15).trans hf20
      have hf134 : K119.1 ml = 5 := (BdE.T h126 hf21 (by decide))
      have hf135 : K119.2.1 24 pq = (nI nd) := (BdE.I h126 (by rw [hf16]; decide) (by decide) (by decide)).trans hf22
      have hf136 : K119.1 q = 1 := (BdE.T h126 hf23 (by decide))
      have hf137 : K119.1 mq = 3 := (BdE.T h126 hf24 (by decide))
      have hf138 : K119.2.2.1 0 q = some q1 := (BdE.C h126 (by rw [hf23]; decide) 0).trans hf25
      have hf139 : K119.1 q1 = 1 := (BdE.T h126 hf26 (by decide))
      have hf140 : K119.2.2.1 1 q = some q2 := (BdE.C h126 (by rw [hf23]; decide) 1).trans hf27
      have hf141 : K119.1 q2 = 1 := (BdE.T h126 hf28 (by decide))
      have hO : OKP G h0 a (upd (upd (upd (upd (upd (upd F 2 (nI sz)) 5 (nI cs121)) 12 (nI vr)) 13 as122) 14 wt123) 15 wf124) (updR (updR R 2 (.ref pq)) 3 (.ref mq)) Z B120 J K119 w := hO.to rfl
      refine W.widen (k := 0) (n := 0) (by show 0 + 0 ≤ 0; omega) (by show 0 + 0 ≤ 0; omega) ?_
      refine W.eq (g2 := F0 m 78 ls [.int r125, .ref q2, .ref (a 4)]) rfl ?_
      have hbe142 := BdE.trans hbe29 h126
      have hbb143 : Bth B B120 := Bth.trans (show Thx (upd (upd (upd F 2 (nI sz)) 5 (nI cs)) 12 (nI vr)) (upd (upd (upd (upd (upd (upd (upd F 2 (nI sz)) 5 (nI cs)) 12 (nI vr)) 5 (nI cs44)) 13 wt10) 14 wt10) 15 wf11) B (updA (updA (updA (updA B7 16 f45) 17 f46) 18 f47) 19 f48) from (Thx.b (Thx.b8 (Thx.b (Thx.b (Thx.f (Thx.f (Thx.f (Thx.f (Bth.thx hbb30) (by omega)) (by omega)) (by omega)) (by omega)) (by omega) (by decide)) (by omega) (by decide)) h51) (by omega) (by decide))).2 h127
      have hng144 : Nng (B120 18) := h127.2 h51
      refine lv_bipush (v := 61) hx hb dX0_shortened_78 (by decide) ?_
      have hO : OKP G h0 a (upd (upd (upd (upd (upd (upd (upd (upd F 2 (nI sz)) 5 (nI cs)) 12 (nI vr)) 5 (nI cs121)) 13 as122) 14 wt123) 15 wf124) 2 (nI sz)) (updR (updR (updR R 2 (.ref pq)) 3 (.ref mq)) 2 (.ref pq)) Z B120 J K119 w := hO.to rfl
      obtain ⟨_, qr148, hqr149⟩ := hO.2.1 24 _ (sg_24 G h0 a _ _ _ _ _)
      refine pn_V0 (G := G) (As := [.ref q2, .int r125, .int 61]) (rest := []) hx hb hml hown hq hE hX pX0_al hP hD hS hA hl.1 (B_fit l G h0 a (upd (upd (upd (upd (upd (upd (upd F 2 (nI sz)) 5 (nI cs)) 12 (nI vr)) 5 (nI cs121)) 13 as122) 14 wt123) 15 wf124) (updR (updR R 2 (.ref pq)) 3 (.ref mq)) Z B120 J K119 w pq dr ml nd q2 sz r125 61 g (by omega) (BdE.pt hbe142 hwp hps).1 (BdE.pt hbe142 hwp hps).2.1 hf141 hO hl0) (gV pw_176 pw_177 pw_178 pw_63 pw_114) hV_X0_fit qr148 0 hqr149 rfl rfl rfl (Nat.le_of_ble_eq_true rfl) dX0_shortened_80 ⟨(by show 0 + 1 ≤ 1; omega), (by show 0 + 6 ≤ 6; omega)⟩ ⟨(by show 7 + 1 ≤ (5 * n + 33); omega), (by show 8 + (4 + 11) + 122 ≤ (200 * n + 560); omega)⟩ (fun v147 u145 H locs hw146 hP hD hS => ?_) (fun ux ce9 q9 H9 locs9 hux hP9 hD9 hS9 hce hcv hcl => pb_out ux (ThQ.up (Thx.same (Thx.f (Thx.f (Thx.f (Thx.f (Bth.thx hbb143) (by omega)) (by omega)) (by omega)) (by omega)) rfl) (show RhX (updR (updR R 2 (.ref pq)) 3 (.ref mq)) (updR (updR (updR R 2 (.ref pq)) 3 (.ref mq)) 2 (.ref pq)) from fun k9 hk9 => by unfold updR; simp only [show ¬ k9 = 1 by omega, show ¬ k9 = 2 by omega, show ¬ k9 = 3 by omega, show ¬ k9 = 4 by omega, if_false]) hux) hnt hlocks hce hcv hcl hP9 hD9 hS9 (by show 0 + 1 ≤ 1; omega) (by show 0 + 6 ≤ 6; omega))
      obtain ⟨w, _⟩ := u145
      obtain ⟨hw146, hO⟩ := hw146
      obtain rfl : v147 = none := hw146
      have hO : OKP G h0 a (upd (upd (upd (upd (upd (upd F 2 (nI sz)) 5 (nI cs121)) 12 (nI vr)) 13 as122) 14 wt123) 15 wf124) (updR (updR R 2 (.ref pq)) 3 (.ref mq)) Z B120 J K119 w := hO.to rfl
      refine W.widen (k := 0) (n := 0) (by show 0 + 0 ≤ 0; omega) (by show 0 + 0 ≤ 0; omega) ?_
      refine W.eq (g2 := F0 m 83 ls []) rfl ?_
      refine lv_aload_n hx hb dX0_shortened_83 rfl (lv_at hl 3 rfl) ?_
      refine c_get (v := .ref (a 2)) (C := RX0) (Tc := TX0) (N := 13) (ci := 0) hx hb hq pin_wsX00 hown hE hP hO 24 (sg_24 G h0 a _ _ _ _ _) rfl 1 (by decide) (hq _ pw_5) (fun _ h9 => h9) rfl dX0_shortened_84 ?_
      refine lv_iload hx hb dX0_shortened_87 (lv_at hl 0 rfl) ?_
      have hO : OKW G h0 a (upd (upd (upd (upd (upd (upd (upd F 2 (nI sz)) 5 (nI cs121)) 12 (nI vr)) 13 as122) 14 wt123) 15 wf124) 5 (nI cs121)) (updR (updR R 2 (.ref pq)) 3 (.ref mq)) Z B120 J K119.1 (fun q99 x99 => x99 = rep G a K119 q99) w := hO.to rfl
      obtain ⟨_, qr153, hqr154⟩ := hO.2.1 13 _ (sg_13 G h0 a _ _ _ _ _)
      refine pc_V0 (G := G) (As := [.int r49]) (rest := []) hx hb hml hown hq hE hX pX0_al hP hD hS hA hl.1 (K_land l G h0 a (upd (upd (upd (upd (upd (upd F 2 (nI sz)) 5 (nI cs121)) 12 (nI vr)) 13 as122) 14 wt123) 15 wf124) (updR (updR R 2 (.ref pq)) 3 (.ref mq)) Z B120 J K119.1 (fun q99 x99 => x99 = rep G a K119 q99) w r49 cs121 (by omega) hO) (gV pw_200 pw_201 pw_202 pw_70 pw_134) hV_X1_land qr153 1 hqr154 rfl rfl rfl (Nat.le_of_ble_eq_true rfl) dX0_shortened_89 ⟨(by show 0 + 0 ≤ 1; omega), (by show 0 + 0 ≤ 6; omega)⟩ ⟨(by show 2 + 1 ≤ (5 * n + 33); omega), (by show 8 + (5 + 11) + 60 ≤ (200 * n + 560); omega)⟩ (fun v152 u150 H locs hw151 hP hD hS => ?_)
      obtain ⟨w, f155⟩ := u150
      obtain ⟨hw151, hO⟩ := hw151
      obtain rfl : v152 = none := hw151
      have hO : OKP G h0 a (upd (upd (upd (upd (upd (upd F 2 (nI sz)) 5 (nI cs121)) 12 (nI vr)) 13 as122) 14 wt123) 15 wf124) (updR (updR R 2 (.ref pq)) 3 (.ref mq)) Z (updA B120 17 f155) J K119 w := hO.to rfl
      refine W.widen (k := 0) (n := 0) (Nat.le_of_ble_eq_true rfl) (Nat.le_of_ble_eq_true rfl) ?_
      refine W.eq (g2 := F0 m 92 ls []) rfl ?_
      refine lv_iload_n hx hb dX0_shortened_92 rfl (lv_at hl 5 rfl) ?_
      refine lv_if_eq (tgt := 110) hx hb dX0_shortened_93 (by decide) (fun c156 => ?_) (fun c156 => ?_)
      · have n157 : b9 = 0 := (nI_eq (a := b9) (b := 0) (by omega) (by omega)).mp c156
        refine lv_aload_n hx hb dX0_shortened_110 rfl (lv_at hl 3 rfl) ?_
        refine lv_dup hx hb dX0_shortened_111 rfl ?_
        refine c_get (v := .int wt123) (C := RX0) (Tc := TX0) (N := 13) (ci := 0) hx hb hq pin_wsX00 hown hE hP hO 24 (sg_24 G h0 a _ _ _ _ _) rfl 9 (by decide) (hq _ pw_156) (fun _ h9 => h9) rfl dX0_shortened_112 ?_
        refine lv_iload_n hx hb dX0_shortened_115 rfl (lv_at hl 2 rfl) ?_
        refine lv_iand hx hb dX0_shortened_116 ?_
        refine lv_topi (fun x158 e159 => ?_)
        refine c_put (v := .int x158) (ty := .int) (C := RX0) (Tc := TX0) (N := 13) (ci := 0) hx hb hq pin_wsX00 tyX0 tyX0_ok nmX0 hown hE hP hD hS hO 24 (sg_24 G h0 a _ _ _ _ _) rfl 9 (by decide) (hq _ pw_156) (fun _ h9 => h9) rfl (by decide +kernel) rfl rfl (Nat.le_of_ble_eq_true rfl) (sf_14 G h0 a _ _ _ _ _ x158) dX0_shortened_117 (fun H locs w hP hD hS hO => ?_)
        refine lv_aload_n hx hb dX0_shortened_120 rfl (lv_at hl 3 rfl) ?_
        refine lv_aload_n hx hb dX0_shortened_121 rfl (lv_at hl 3 rfl) ?_
        refine c_get (v := .int x158) (C := RX0) (Tc := TX0) (N := 13) (ci := 0) hx hb hq pin_wsX00 hown hE hP hO 24 (sg_24 G h0 a _ _ _ _ _) rfl 9 (by decide) (hq _ pw_156) (fun _ h9 => h9) rfl dX0_shortened_122 ?_
        refine lv_aload_n hx hb dX0_shortened_125 rfl (lv_at hl 3 rfl) ?_
        refine c_get (v := .int wf124) (C := RX0) (Tc := TX0) (N := 13) (ci := 0) hx hb hq pin_wsX00 hown hE hP hO 24 (sg_24 G h0 a _ _ _ _ _) rfl 10 (by decide) (hq _ pw_157) (fun _ h9 => h9) rfl dX0_shortened_126 ?_
        refine lv_iand hx hb dX0_shortened_129 ?_
        refine lv_topi (fun x160 e161 => ?_)
        refine c_put (v := .int x160) (ty := .int) (C := RX0) (Tc := TX0) (N := 13) (ci := 0) hx hb hq pin_wsX00 tyX0 tyX0_ok nmX0 hown hE hP hD hS hO 24 (sg_24 G h0 a _ _ _ _ _) rfl 8 (by decide) (hq _ pw_55) (fun _ h9 => h9) rfl (by decide +kernel) rfl rfl (Nat.le_of_ble_eq_true rfl) (sf_13 G h0 a _ _ _ _ _ x160) dX0_shortened_130 (fun H locs w hP hD hS hO => ?_)
        refine lv_bipush (v := 61) hx hb dX0_shortened_133 (by decide) ?_
        refine W_size (fun hz1 hz2 => ?_)
        refine vx_ret ?_
        have hz162 : BdE K K119 := hbe142
        have hz163 : Bth B (updA B120 17 f155) := (show Thx (upd (upd (upd F 2 (nI sz)) 5 (nI cs)) 12 (nI vr)) (upd (upd (upd (upd (upd (upd (upd F 2 (nI sz)) 5 (nI cs)) 12 (nI vr)) 5 (nI cs121)) 13 x160) 14 x158) 15 wf124) B (updA B120 17 f155) from (Thx.b (Thx.f (Thx.f (Thx.f (Thx.f (Bth.thx hbb143) (by omega)) (by omega)) (by omega)) (by omega)) (by omega) (by decide))).2
        have hz164 : cs121 ≤ 10000 := (by omega)
        have hO : OKP G h0 a (upd (upd (upd (upd (upd (upd F 2 (nI sz)) 5 (nI cs121)) 12 (nI vr)) 13 x160) 14 x158) 15 wf124) (updR (updR R 2 (.ref pq)) 3 (.ref mq)) Z (updA B120 17 f155) J K119 w := hO.to rfl
        refine W.widen (k := 1) (n := 6) (by omega) (by omega) ?_
        have hzz1 : H.size ≤ s.heap.size + (0) := (by have z : 0 ≤ 0 := (by omega); omega)
        have hzz2 : hSl H ≤ hSl s.heap + (0) := (by have z : 0 ≤ 0 := (by omega); omega)
        exact W.iret (v := 61) hx hb hr (fun t99 ht99 hW99 => ⟨⟨_, (w, (K119, (updA B120 17 f155), cs121, x160, x158, wf124, (61 : Int32))), rfl, ⟨rfl, hz162, hz163, hz164, hO⟩, by rw [ht99]; exact hP, hD, by rw [ht99]; exact hzz1, by rw [ht99]; exact hzz2⟩, hS.F ht99⟩) hS.2.2 dX0_shortened_135
      · have n165 : ¬ (b9 = 0) := fun h9 => c156 ((nI_eq (a := b9) (b := 0) (by omega) (by omega)).mpr h9)
        refine lv_aload_n hx hb dX0_shortened_96 rfl (lv_at hl 3 rfl) ?_
        refine lv_dup hx hb dX0_shortened_97 rfl ?_
        refine c_get (v := .int wf124) (C := RX0) (Tc := TX0) (N := 13) (ci := 0) hx hb hq pin_wsX00 hown hE hP hO 24 (sg_24 G h0 a _ _ _ _ _) rfl 10 (by decide) (hq _ pw_157) (fun _ h9 => h9) rfl dX0_shortened_98 ?_
        refine lv_iload hx hb dX0_shortened_101 (lv_at hl 1 rfl) ?_
        refine lv_iand hx hb dX0_shortened_103 ?_
        refine lv_topi (fun x166 e167 => ?_)
        refine c_put (v := .int x166) (ty := .int) (C := RX0) (Tc := TX0) (N := 13) (ci := 0) hx hb hq pin_wsX00 tyX0 tyX0_ok nmX0 hown hE hP hD hS hO 24 (sg_24 G h0 a _ _ _ _ _) rfl 10 (by decide) (hq _ pw_157) (fun _ h9 => h9) rfl (by decide +kernel) rfl rfl (Nat.le_of_ble_eq_true rfl) (sf_15 G h0 a _ _ _ _ _ x166) dX0_shortened_104 (fun H locs w hP hD hS hO => ?_)
        refine lv_goto (tgt := 120) hx hb dX0_shortened_107 (by decide) ?_
        refine lv_aload_n hx hb dX0_shortened_120 rfl (lv_at hl 3 rfl) ?_
        refine lv_aload_n hx hb dX0_shortened_121 rfl (lv_at hl 3 rfl) ?_
        refine c_get (v := .int wt123) (C := RX0) (Tc := TX0) (N := 13) (ci := 0) hx hb hq pin_wsX00 hown hE hP hO 24 (sg_24 G h0 a _ _ _ _ _) rfl 9 (by decide) (hq _ pw_156) (fun _ h9 => h9) rfl dX0_shortened_122 ?_
        refine lv_aload_n hx hb dX0_shortened_125 rfl (lv_at hl 3 rfl) ?_
        refine c_get (v := .int x166) (C := RX0) (Tc := TX0) (N := 13) (ci := 0) hx hb hq pin_wsX00 hown hE hP hO 24 (sg_24 G h0 a _ _ _ _ _) rfl 10 (by decide) (hq _ pw_157) (fun _ h9 => h9) rfl dX0_shortened_126 ?_
        refine lv_iand hx hb dX0_shortened_129 ?_
        refine lv_topi (fun x168 e169 => ?_)
        refine c_put (v := .int x168) (ty := .int) (C := RX0) (Tc := TX0) (N := 13) (ci := 0) hx hb hq pin_wsX00 tyX0 tyX0_ok nmX0 hown hE hP hD hS hO 24 (sg_24 G h0 a _ _ _ _ _) rfl 8 (by decide) (hq _ pw_55) (fun _ h9 => h9) rfl (by decide +kernel) rfl rfl (Nat.le_of_ble_eq_true rfl) (sf_13 G h0 a _ _ _ _ _ x168) dX0_shortened_130 (fun H locs w hP hD hS hO => ?_)
        refine lv_bipush (v := 61) hx hb dX0_shortened_133 (by decide) ?_
        refine W_size (fun hz1 hz2 => ?_)
        refine vx_ret ?_
        have hz170 : BdE K K119 := hbe142
        have hz171 : Bth B (updA B120 17 f155) := (show Thx (upd (upd (upd F 2 (nI sz)) 5 (nI cs)) 12 (nI vr)) (upd (upd (upd (upd (upd (upd (upd F 2 (nI sz)) 5 (nI cs)) 12 (nI vr)) 5 (nI cs121)) 13 x168) 14 wt123) 15 x166) B (updA B120 17 f155) from (Thx.b (Thx.f (Thx.f (Thx.f (Thx.f (Bth.thx hbb143) (by omega)) (by omega)) (by omega)) (by omega)) (by omega) (by decide))).2
        have hz172 : cs121 ≤ 10000 := (by omega)
        have hO : OKP G h0 a (upd (upd (upd (upd (upd (upd F 2 (nI sz)) 5 (nI cs121)) 12 (nI vr)) 13 x168) 14 wt123) 15 x166) (updR (updR R 2 (.ref pq)) 3 (.ref mq)) Z (updA B120 17 f155) J K119 w := hO.to rfl
        refine W.widen (k := 1) (n := 6) (by omega) (by omega) ?_
        have hzz1 : H.size ≤ s.heap.size + (0) := (by have z : 0 ≤ 0 := (by omega); omega)
        have hzz2 : hSl H ≤ hSl s.heap + (0) := (by have z : 0 ≤ 0 := (by omega); omega)
        exact W.iret (v := 61) hx hb hr (fun t99 ht99 hW99 => ⟨⟨_, (w, (K119, (updA B120 17 f155), cs121, x168, wt123, x166, (61 : Int32))), rfl, ⟨rfl, hz170, hz171, hz172, hO⟩, by rw [ht99]; exact hP, hD, by rw [ht99]; exact hzz1, by rw [ht99]; exact hzz2⟩, hS.F ht99⟩) hS.2.2 dX0_shortened_135
  · have n173 : ¬ (b9 = 0) := fun h9 => c37 ((nI_eq (a := b9) (b := 0) (by omega) (by omega)).mpr h9)
    refine lv_bipush (v := 8) hx hb dX0_shortened_37 (by decide) ?_
    refine lv_goto (tgt := 44) hx hb dX0_shortened_39 (by decide) ?_
    refine lv_iconst (v := (-1)) hx hb dX0_shortened_44 (by decide) ?_
    refine lv_iconst (v := 0) hx hb dX0_shortened_45 (by decide) ?_
    have hO : OKW G h0 a (upd (upd (upd (upd (upd (upd (upd F 2 (nI sz)) 5 (nI cs8)) 12 (nI vr)) 13 as9) 14 wt10) 15 wf11) 5 (nI cs8)) (updR (updR R 2 (.ref pq)) 3 (.ref mq)) Z B7 J K6.1 (fun q99 x99 => x99 = rep G a K6 q99) w := hO.to rfl
    obtain ⟨_, qr177, hqr178⟩ := hO.2.1 13 _ (sg_13 G h0 a _ _ _ _ _)
    refine pc_V0 (G := G) (As := [.int 8, .int (-1), .int (nI 0)]) (rest := []) hx hb hml hown hq hE hX pX0_al hP hD hS hA hl.1 (K_jump l G h0 a (upd (upd (upd (upd (upd (upd F 2 (nI sz)) 5 (nI cs8)) 12 (nI vr)) 13 as9) 14 wt10) 15 wf11) (updR (updR R 2 (.ref pq)) 3 (.ref mq)) Z B7 J K6.1 (fun q99 x99 => x99 = rep G a K6 q99) w 8 (-1) 0 cs8 (by omega) (by omega) hng31 hO) (gV pw_197 pw_198 pw_199 pw_70 pw_132) hV_X1_jump qr177 1 hqr178 rfl rfl rfl (Nat.le_of_ble_eq_true rfl) dX0_shortened_46 ⟨(by show 0 + 0 ≤ 1; omega), (by show 0 + 0 ≤ 6; omega)⟩ ⟨(by show 3 + 1 ≤ (5 * n + 33); omega), (by show 8 + (4 + 11) + 83 ≤ (200 * n + 560); omega)⟩ (fun v176 u174 H locs hw175 hP hD hS => ?_)
    obtain ⟨w, cs179, f180, f181, f182, f183, r184⟩ := u174
    obtain ⟨hw175, h185, h186, hO⟩ := hw175
    have h185 : cs8 ≤ cs179 ∧ cs179 ≤ cs8 + 1 ∧ cs179 ≤ 10000 := h185
    have h186 : Nng f182 := h186
    obtain rfl : v176 = some (.int r184) := hw175
    have hO : OKP G h0 a (upd (upd (upd (upd (upd (upd F 2 (nI sz)) 5 (nI cs179)) 12 (nI vr)) 13 as9) 14 wt10) 15 wf11) (updR (updR R 2 (.ref pq)) 3 (.ref mq)) Z (updA (updA (updA (updA B7 16 f180) 17 f181) 18 f182) 19 f183) J K6 w := hO.to rfl
    refine W.widen (k := 0) (n := 0) (Nat.le_of_ble_eq_true rfl) (Nat.le_of_ble_eq_true rfl) ?_
    refine W.eq (g2 := F0 m 49 ls [.int r184]) rfl ?_
    refine lv_istore (lv' := [(5, .int r184), (4, .int wf11), (3, .int wt10), (0, .ref (a 4)), (1, .ref q), (2, .int (nI b9))]) hx hb dX0_shortened_49 hl (by decide) rfl (fun ls hl => ?_)
    refine lv_aload_n hx hb dX0_shortened_51 rfl (lv_at hl 3 rfl) ?_
    refine lv_iload_n hx hb dX0_shortened_52 rfl (lv_at hl 5 rfl) ?_
    refine lv_if_eq (tgt := 60) hx hb dX0_shortened_53 (by decide) (fun c187 => ?_) (fun c187 => ?_)
    · have n188 : b9 = 0 := (nI_eq (a := b9) (b := 0) (by omega) (by omega)).mp c187
      refine lv_iload hx hb dX0_shortened_60 (lv_at hl 1 rfl) ?_
      refine c_put (v := .int wf11) (ty := .int) (C := RX0) (Tc := TX0) (N := 13) (ci := 0) hx hb hq pin_wsX00 tyX0 tyX0_ok nmX0 hown hE hP hD hS hO 24 (sg_24 G h0 a _ _ _ _ _) rfl 8 (by decide) (hq _ pw_55) (fun _ h9 => h9) rfl (by decide +kernel) rfl rfl (Nat.le_of_ble_eq_true rfl) (sf_13 G h0 a _ _ _ _ _ wf11) dX0_shortened_62 (fun H locs w hP hD hS hO => ?_)
      refine lv_aload_n hx hb dX0_shortened_65 rfl (lv_at hl 3 rfl) ?_
      refine lv_aload_n hx hb dX0_shortened_66 rfl (lv_at hl 4 rfl) ?_
      refine p_get (v := .ref q2) (C := RX7) (Tc := TX7) (N := 11) (ci := 13) hx hb hq pin_wsX70 hown hE hP hO (by rw [hf23]; decide) (rep_1 hf23) rfl 7 (by decide) (hq _ pw_169) (fun _ h9 => h9) (congrArg (fun z => some (va_rf z)) hf27) dX0_shortened_67 ?_
      refine lv_aload_n hx hb dX0_shortened_70 rfl (lv_at hl 3 rfl) ?_
      refine lv_aload_n hx hb dX0_shortened_71 rfl (lv_at hl 4 rfl) ?_
      refine p_get (v := .ref q2) (C := RX7) (Tc := TX7) (N := 11) (ci := 13) hx hb hq pin_wsX70 hown hE hP hO (by rw [hf23]; decide) (rep_1 hf23) rfl 7 (by decide) (hq _ pw_169) (fun _ h9 => h9) (congrArg (fun z => some (va_rf z)) hf27) dX0_shortened_72 ?_
      have hO : OKP G h0 a (upd (upd (upd (upd (upd (upd (upd (upd (upd (upd F 2 (nI sz)) 5 (nI cs)) 12 (nI vr)) 5 (nI cs179)) 13 wf11) 14 wt10) 15 wf11) 2 (nI sz)) 5 (nI cs179)) 12 (nI vr)) (updR (updR (updR (updR R 2 (.ref pq)) 3 (.ref mq)) 2 (.ref pq)) 3 (.ref mq)) Z (updA (updA (updA (updA B7 16 f180) 17 f181) 18 f182) 19 f183) J K6 w := hO.to rfl
      obtain ⟨_, qr192, hqr193⟩ := hO.2.1 24 _ (sg_24 G h0 a _ _ _ _ _)
      refine pn_V0 (G := G) (As := [.ref q2]) (rest := [.ref q2, .ref (a 4)]) hx hb hml hown hq hE hX pX0_al hP hD hS hA hl.1 ((ihv (by omega)) h0 a (upd (upd (upd (upd (upd (upd (upd F 2 (nI sz)) 5 (nI cs)) 12 (nI vr)) 5 (nI cs179)) 13 wf11) 14 wt10) 15 wf11) (updR (updR R 2 (.ref pq)) 3 (.ref mq)) Z (updA (updA (updA (updA B7 16 f180) 17 f181) 18 f182) 19 f183) J K6 w pq dr ml nd nm cp it s9 q2 mq cs179 vr sz g rk (by omega) (BdE.wp hbe29 hwp) (BdE.pt hbe29 hwp hps) (BdE.rko hbe29 hrk) (by omega) (by omega) h186 hf24 hf28 ⟨hv1.1, (by have z9 := hv1; omega)⟩ hO hl0) (gV pw_173 pw_174 pw_175 pw_63 pw_224) hV_X0_value qr192 0 hqr193 rfl rfl rfl (Nat.le_of_ble_eq_true rfl) dX0_shortened_75 ⟨(by show 0 + 1 ≤ 1; omega), (by show 0 + 6 ≤ 6; omega)⟩ ⟨(by show (5 * (n - 1) + 34) + 1 ≤ (5 * n + 33); omega), (by show 8 + (3 + 11) + (200 * (n - 1) + 600) ≤ (200 * n + 560); omega)⟩ (fun v191 u189 H locs hw190 hP hD hS => ?_) (fun ux ce9 q9 H9 locs9 hux hP9 hD9 hS9 hce hcv hcl => pb_out ux (ThQ.up (Thx.same (Thx.same (Thx.same (Thx.b (Thx.b8 (Thx.b (Thx.b (Thx.f (Thx.f (Thx.f (Thx.f (Bth.thx hbb30) (by omega)) (by omega)) (by omega)) (by omega)) (by omega) (by decide)) (by omega) (by decide)) h186) (by omega) (by decide)) rfl) rfl) rfl) (show RhX (updR (updR R 2 (.ref pq)) 3 (.ref mq)) (updR (updR (updR (updR R 2 (.ref pq)) 3 (.ref mq)) 2 (.ref pq)) 3 (.ref mq)) from fun k9 hk9 => by unfold updR; simp only [show ¬ k9 = 1 by omega, show ¬ k9 = 2 by omega, show ¬ k9 = 3 by omega, show ¬ k9 = 4 by omega, if_false]) hux) hnt hlocks hce hcv hcl hP9 hD9 hS9 (by show 0 + 1 ≤ 1; omega) (by show 0 + 6 ≤ 6; omega))
      obtain ⟨w, K194, B195, cs196, as197, wt198, wf199, r200⟩ := u189
      obtain ⟨hw190, h201, h202, h203, hO⟩ := hw190
      have h201 : BdE K6 K194 := h201
      have h202 : Bth (updA (updA (updA (updA B7 16 f180) 17 f181) 18 f182) 19 f183) B195 := h202
      have h203 : cs196 ≤ 10000 := h203
      obtain rfl : v191 = some (.int r200) := hw190
      have hf204 : K194.1 pq = 7 := (BdE.T h201 hf16 (by decide))
      have hf205 : K194.2.2.1 18 pq = some (a 1) := (BdE.C h201 (by rw [hf16]; decide) 18).trans hf17
      have hf206 : K194.2.2.1 14 pq = some dr := (BdE.C h201 (by rw [hf16]; decide) 14).trans hf18
      have hf207 : K194.1 dr = 8 := (BdE.T h201 hf19 (by decide))
      have hf208 : K194.2.2.1 15 pq = some ml := (BdE.C h201 (by rw [hf16]; decide) 15).trans hf20
      have hf209 : K194.1 ml = 5 := (BdE.T h201 hf21 (by decide))
      have hf210 : K194.2.1 24 pq = (nI nd) := (BdE.I h201 (by rw [hf16]; decide) (by decide) (by decide)).trans hf22
      have hf211 : K194.1 q = 1 := (BdE.T h201 hf23 (by decide))
      have hf212 : K194.1 mq = 3 := (BdE.T h201 hf24 (by decide))
      have hf213 : K194.2.2.1 0 q = some q1 := (BdE.C h201 (by rw [hf23]; decide) 0).trans hf25
      have hf214 : K194.1 q1 = 1 := (BdE.T h201 hf26 (by decide))
      have hf215 : K194.2.2.1 1 q = some q2 := (BdE.C h201 (by rw [hf23]; decide) 1).trans hf27
      have hf216 : K194.1 q2 = 1 := (BdE.T h201 hf28 (by decide))
      have hO : OKP G h0 a (upd (upd (upd (upd (upd (upd F 2 (nI sz)) 5 (nI cs196)) 12 (nI vr)) 13 as197) 14 wt198) 15 wf199) (updR (updR R 2 (.ref pq)) 3 (.ref mq)) Z B195 J K194 w := hO.to rfl
      refine W.widen (k := 0) (n := 0) (by show 0 + 0 ≤ 0; omega) (by show 0 + 0 ≤ 0; omega) ?_
      refine W.eq (g2 := F0 m 78 ls [.int r200, .ref q2, .ref (a 4)]) rfl ?_
      have hbe217 := BdE.trans hbe29 h201
      have hbb218 : Bth B B195 := Bth.trans (show Thx (upd (upd (upd F 2 (nI sz)) 5 (nI cs)) 12 (nI vr)) (upd (upd (upd (upd (upd (upd (upd F 2 (nI sz)) 5 (nI cs)) 12 (nI vr)) 5 (nI cs179)) 13 wf11) 14 wt10) 15 wf11) B (updA (updA (updA (updA B7 16 f180) 17 f181) 18 f182) 19 f183) from (Thx.b (Thx.b8 (Thx.b (Thx.b (Thx.f (Thx.f (Thx.f (Thx.f (Bth.thx hbb30) (by omega)) (by omega)) (by omega)) (by omega)) (by omega) (by decide)) (by omega) (by decide)) h186) (by omega) (by decide))).2 h202
      have hng219 : Nng (B195 18) := h202.2 h186
      refine lv_bipush (v := 61) hx hb dX0_shortened_78 (by decide) ?_
      have hO : OKP G h0 a (upd (upd (upd (upd (upd (upd (upd (upd F 2 (nI sz)) 5 (nI cs)) 12 (nI vr)) 5 (nI cs196)) 13 as197) 14 wt198) 15 wf199) 2 (nI sz)) (updR (updR (updR R 2 (.ref pq)) 3 (.ref mq)) 2 (.ref pq)) Z B195 J K194 w := hO.to rfl
      obtain ⟨_, qr223, hqr224⟩ := hO.2.1 24 _ (sg_24 G h0 a _ _ _ _ _)
      refine pn_V0 (G := G) (As := [.ref q2, .int r200, .int 61]) (rest := []) hx hb hml hown hq hE hX pX0_al hP hD hS hA hl.1 (B_fit l G h0 a (upd (upd (upd (upd (upd (upd (upd F 2 (nI sz)) 5 (nI cs)) 12 (nI vr)) 5 (nI cs196)) 13 as197) 14 wt198) 15 wf199) (updR (updR R 2 (.ref pq)) 3 (.ref mq)) Z B195 J K194 w pq dr ml nd q2 sz r200 61 g (by omega) (BdE.pt hbe217 hwp hps).1 (BdE.pt hbe217 hwp hps).2.1 hf216 hO hl0) (gV pw_176 pw_177 pw_178 pw_63 pw_114) hV_X0_fit qr223 0 hqr224 rfl rfl rfl (Nat.le_of_ble_eq_true rfl) dX0_shortened_80 ⟨(by show 0 + 1 ≤ 1; omega), (by show 0 + 6 ≤ 6; omega)⟩ ⟨(by show 7 + 1 ≤ (5 * n + 33); omega), (by show 8 + (4 + 11) + 122 ≤ (200 * n + 560); omega)⟩ (fun v222 u220 H locs hw221 hP hD hS => ?_) (fun ux ce9 q9 H9 locs9 hux hP9 hD9 hS9 hce hcv hcl => pb_out ux (ThQ.up (Thx.same (Thx.f (Thx.f (Thx.f (Thx.f (Bth.thx hbb218) (by omega)) (by omega)) (by omega)) (by omega)) rfl) (show RhX (updR (updR R 2 (.ref pq)) 3 (.ref mq)) (updR (updR (updR R 2 (.ref pq)) 3 (.ref mq)) 2 (.ref pq)) from fun k9 hk9 => by unfold updR; simp only [show ¬ k9 = 1 by omega, show ¬ k9 = 2 by omega, show ¬ k9 = 3 by omega, show ¬ k9 = 4 by omega, if_false]) hux) hnt hlocks hce hcv hcl hP9 hD9 hS9 (by show 0 + 1 ≤ 1; omega) (by show 0 + 6 ≤ 6; omega))
      obtain ⟨w, _⟩ := u220
      obtain ⟨hw221, hO⟩ := hw221
      obtain rfl : v222 = none := hw221
      have hO : OKP G h0 a (upd (upd (upd (upd (upd (upd F 2 (nI sz)) 5 (nI cs196)) 12 (nI vr)) 13 as197) 14 wt198) 15 wf199) (updR (updR R 2 (.ref pq)) 3 (.ref mq)) Z B195 J K194 w := hO.to rfl
      refine W.widen (k := 0) (n := 0) (by show 0 + 0 ≤ 0; omega) (by show 0 + 0 ≤ 0; omega) ?_
      refine W.eq (g2 := F0 m 83 ls []) rfl ?_
      refine lv_aload_n hx hb dX0_shortened_83 rfl (lv_at hl 3 rfl) ?_
      refine c_get (v := .ref (a 2)) (C := RX0) (Tc := TX0) (N := 13) (ci := 0) hx hb hq pin_wsX00 hown hE hP hO 24 (sg_24 G h0 a _ _ _ _ _) rfl 1 (by decide) (hq _ pw_5) (fun _ h9 => h9) rfl dX0_shortened_84 ?_
      refine lv_iload hx hb dX0_shortened_87 (lv_at hl 0 rfl) ?_
      have hO : OKW G h0 a (upd (upd (upd (upd (upd (upd (upd F 2 (nI sz)) 5 (nI cs196)) 12 (nI vr)) 13 as197) 14 wt198) 15 wf199) 5 (nI cs196)) (updR (updR R 2 (.ref pq)) 3 (.ref mq)) Z B195 J K194.1 (fun q99 x99 => x99 = rep G a K194 q99) w := hO.to rfl
      obtain ⟨_, qr228, hqr229⟩ := hO.2.1 13 _ (sg_13 G h0 a _ _ _ _ _)
      refine pc_V0 (G := G) (As := [.int r184]) (rest := []) hx hb hml hown hq hE hX pX0_al hP hD hS hA hl.1 (K_land l G h0 a (upd (upd (upd (upd (upd (upd F 2 (nI sz)) 5 (nI cs196)) 12 (nI vr)) 13 as197) 14 wt198) 15 wf199) (updR (updR R 2 (.ref pq)) 3 (.ref mq)) Z B195 J K194.1 (fun q99 x99 => x99 = rep G a K194 q99) w r184 cs196 (by omega) hO) (gV pw_200 pw_201 pw_202 pw_70 pw_134) hV_X1_land qr228 1 hqr229 rfl rfl rfl (Nat.le_of_ble_eq_true rfl) dX0_shortened_89 ⟨(by show 0 + 0 ≤ 1; omega), (by show 0 + 0 ≤ 6; omega)⟩ ⟨(by show 2 + 1 ≤ (5 * n + 33); omega), (by show 8 + (5 + 11) + 60 ≤ (200 * n + 560); omega)⟩ (fun v227 u225 H locs hw226 hP hD hS => ?_)
      obtain ⟨w, f230⟩ := u225
      obtain ⟨hw226, hO⟩ := hw226
      obtain rfl : v227 = none := hw226
      have hO : OKP G h0 a (upd (upd (upd (upd (upd (upd F 2 (nI sz)) 5 (nI cs196)) 12 (nI vr)) 13 as197) 14 wt198) 15 wf199) (updR (updR R 2 (.ref pq)) 3 (.ref mq)) Z (updA B195 17 f230) J K194 w := hO.to rfl
      refine W.widen (k := 0) (n := 0) (Nat.le_of_ble_eq_true rfl) (Nat.le_of_ble_eq_true rfl) ?_
      refine W.eq (g2 := F0 m 92 ls []) rfl ?_
      refine lv_iload_n hx hb dX0_shortened_92 rfl (lv_at hl 5 rfl) ?_
      refine lv_if_eq (tgt := 110) hx hb dX0_shortened_93 (by decide) (fun c231 => ?_) (fun c231 => ?_)
      · have n232 : b9 = 0 := (nI_eq (a := b9) (b := 0) (by omega) (by omega)).mp c231
        refine lv_aload_n hx hb dX0_shortened_110 rfl (lv_at hl 3 rfl) ?_
        refine lv_dup hx hb dX0_shortened_111 rfl ?_
        refine c_get (v := .int wt198) (C := RX0) (Tc := TX0) (N := 13) (ci := 0) hx hb hq pin_wsX00 hown hE hP hO 24 (sg_24 G h0 a _ _ _ _ _) rfl 9 (by decide) (hq _ pw_156) (fun _ h9 => h9) rfl dX0_shortened_112 ?_
        refine lv_iload_n hx hb dX0_shortened_115 rfl (lv_at hl 2 rfl) ?_
        refine lv_iand hx hb dX0_shortened_116 ?_
        refine lv_topi (fun x233 e234 => ?_)
        refine c_put (v := .int x233) (ty := .int) (C := RX0) (Tc := TX0) (N := 13) (ci := 0) hx hb hq pin_wsX00 tyX0 tyX0_ok nmX0 hown hE hP hD hS hO 24 (sg_24 G h0 a _ _ _ _ _) rfl 9 (by decide) (hq _ pw_156) (fun _ h9 => h9) rfl (by decide +kernel) rfl rfl (Nat.le_of_ble_eq_true rfl) (sf_14 G h0 a _ _ _ _ _ x233) dX0_shortened_117 (fun H locs w hP hD hS hO => ?_)
        refine lv_aload_n hx hb dX0_shortened_120 rfl (lv_at hl 3 rfl) ?_
        refine lv_aload_n hx hb dX0_shortened_121 rfl (lv_at hl 3 rfl) ?_
        refine c_get (v := .int x233) (C := RX0) (Tc := TX0) (N := 13) (ci := 0) hx hb hq pin_wsX00 hown hE hP hO 24 (sg_24 G h0 a _ _ _ _ _) rfl 9 (by decide) (hq _ pw_156) (fun _ h9 => h9) rfl dX0_shortened_122 ?_
        refine lv_aload_n hx hb dX0_shortened_125 rfl (lv_at hl 3 rfl) ?_
        refine c_get (v := .int wf199) (C := RX0) (Tc := TX0) (N := 13) (ci := 0) hx hb hq pin_wsX00 hown hE hP hO 24 (sg_24 G h0 a _ _ _ _ _) rfl 10 (by decide) (hq _ pw_157) (fun _ h9 => h9) rfl dX0_shortened_126 ?_
        refine lv_iand hx hb dX0_shortened_129 ?_
        refine lv_topi (fun x235 e236 => ?_)
        refine c_put (v := .int x235) (ty := .int) (C := RX0) (Tc := TX0) (N := 13) (ci := 0) hx hb hq pin_wsX00 tyX0 tyX0_ok nmX0 hown hE hP hD hS hO 24 (sg_24 G h0 a _ _ _ _ _) rfl 8 (by decide) (hq _ pw_55) (fun _ h9 => h9) rfl (by decide +kernel) rfl rfl (Nat.le_of_ble_eq_true rfl) (sf_13 G h0 a _ _ _ _ _ x235) dX0_shortened_130 (fun H locs w hP hD hS hO => ?_)
        refine lv_bipush (v := 61) hx hb dX0_shortened_133 (by decide) ?_
        refine W_size (fun hz1 hz2 => ?_)
        refine vx_ret ?_
        have hz237 : BdE K K194 := hbe217
        have hz238 : Bth B (updA B195 17 f230) := (show Thx (upd (upd (upd F 2 (nI sz)) 5 (nI cs)) 12 (nI vr)) (upd (upd (upd (upd (upd (upd (upd F 2 (nI sz)) 5 (nI cs)) 12 (nI vr)) 5 (nI cs196)) 13 x235) 14 x233) 15 wf199) B (updA B195 17 f230) from (Thx.b (Thx.f (Thx.f (Thx.f (Thx.f (Bth.thx hbb218) (by omega)) (by omega)) (by omega)) (by omega)) (by omega) (by decide))).2
        have hz239 : cs196 ≤ 10000 := (by omega)
        have hO : OKP G h0 a (upd (upd (upd (upd (upd (upd F 2 (nI sz)) 5 (nI cs196)) 12 (nI vr)) 13 x235) 14 x233) 15 wf199) (updR (updR R 2 (.ref pq)) 3 (.ref mq)) Z (updA B195 17 f230) J K194 w := hO.to rfl
        refine W.widen (k := 1) (n := 6) (by omega) (by omega) ?_
        have hzz1 : H.size ≤ s.heap.size + (0) := (by have z : 0 ≤ 0 := (by omega); omega)
        have hzz2 : hSl H ≤ hSl s.heap + (0) := (by have z : 0 ≤ 0 := (by omega); omega)
        exact W.iret (v := 61) hx hb hr (fun t99 ht99 hW99 => ⟨⟨_, (w, (K194, (updA B195 17 f230), cs196, x235, x233, wf199, (61 : Int32))), rfl, ⟨rfl, hz237, hz238, hz239, hO⟩, by rw [ht99]; exact hP, hD, by rw [ht99]; exact hzz1, by rw [ht99]; exact hzz2⟩, hS.F ht99⟩) hS.2.2 dX0_shortened_135
      · have n240 : ¬ (b9 = 0) := fun h9 => c231 ((nI_eq (a := b9) (b := 0) (by omega) (by omega)).mpr h9)
        refine lv_aload_n hx hb dX0_shortened_96 rfl (lv_at hl 3 rfl) ?_
        refine lv_dup hx hb dX0_shortened_97 rfl ?_
        refine c_get (v := .int wf199) (C := RX0) (Tc := TX0) (N := 13) (ci := 0) hx hb hq pin_wsX00 hown hE hP hO 24 (sg_24 G h0 a _ _ _ _ _) rfl 10 (by decide) (hq _ pw_157) (fun _ h9 => h9) rfl dX0_shortened_98 ?_
        refine lv_iload hx hb dX0_shortened_101 (lv_at hl 1 rfl) ?_
        refine lv_iand hx hb dX0_shortened_103 ?_
        refine lv_topi (fun x241 e242 => ?_)
        refine c_put (v := .int x241) (ty := .int) (C := RX0) (Tc := TX0) (N := 13) (ci := 0) hx hb hq pin_wsX00 tyX0 tyX0_ok nmX0 hown hE hP hD hS hO 24 (sg_24 G h0 a _ _ _ _ _) rfl 10 (by decide) (hq _ pw_157) (fun _ h9 => h9) rfl (by decide +kernel) rfl rfl (Nat.le_of_ble_eq_true rfl) (sf_15 G h0 a _ _ _ _ _ x241) dX0_shortened_104 (fun H locs w hP hD hS hO => ?_)
        refine lv_goto (tgt := 120) hx hb dX0_shortened_107 (by decide) ?_
        refine lv_aload_n hx hb dX0_shortened_120 rfl (lv_at hl 3 rfl) ?_
        refine lv_aload_n hx hb dX0_shortened_121 rfl (lv_at hl 3 rfl) ?_
        refine c_get (v := .int wt198) (C := RX0) (Tc := TX0) (N := 13) (ci := 0) hx hb hq pin_wsX00 hown hE hP hO 24 (sg_24 G h0 a _ _ _ _ _) rfl 9 (by decide) (hq _ pw_156) (fun _ h9 => h9) rfl dX0_shortened_122 ?_
        refine lv_aload_n hx hb dX0_shortened_125 rfl (lv_at hl 3 rfl) ?_
        refine c_get (v := .int x241) (C := RX0) (Tc := TX0) (N := 13) (ci := 0) hx hb hq pin_wsX00 hown hE hP hO 24 (sg_24 G h0 a _ _ _ _ _) rfl 10 (by decide) (hq _ pw_157) (fun _ h9 => h9) rfl dX0_shortened_126 ?_
        refine lv_iand hx hb dX0_shortened_129 ?_
        refine lv_topi (fun x243 e244 => ?_)
        refine c_put (v := .int x243) (ty := .int) (C := RX0) (Tc := TX0) (N := 13) (ci := 0) hx hb hq pin_wsX00 tyX0 tyX0_ok nmX0 hown hE hP hD hS hO 24 (sg_24 G h0 a _ _ _ _ _) rfl 8 (by decide) (hq _ pw_55) (fun _ h9 => h9) rfl (by decide +kernel) rfl rfl (Nat.le_of_ble_eq_true rfl) (sf_13 G h0 a _ _ _ _ _ x243) dX0_shortened_130 (fun H locs w hP hD hS hO => ?_)
        refine lv_bipush (v := 61) hx hb dX0_shortened_133 (by decide) ?_
        refine W_size (fun hz1 hz2 => ?_)
        refine vx_ret ?_
        have hz245 : BdE K K194 := hbe217
        have hz246 : Bth B (updA B195 17 f230) := (show Thx (upd (upd (upd F 2 (nI sz)) 5 (nI cs)) 12 (nI vr)) (upd (upd (upd (upd (upd (upd (upd F 2 (nI sz)) 5 (nI cs)) 12 (nI vr)) 5 (nI cs196)) 13 x243) 14 wt198) 15 x241) B (updA B195 17 f230) from (Thx.b (Thx.f (Thx.f (Thx.f (Thx.f (Bth.thx hbb218) (by omega)) (by omega)) (by omega)) (by omega)) (by omega) (by decide))).2
        have hz247 : cs196 ≤ 10000 := (by omega)
        have hO : OKP G h0 a (upd (upd (upd (upd (upd (upd F 2 (nI sz)) 5 (nI cs196)) 12 (nI vr)) 13 x243) 14 wt198) 15 x241) (updR (updR R 2 (.ref pq)) 3 (.ref mq)) Z (updA B195 17 f230) J K194 w := hO.to rfl
        refine W.widen (k := 1) (n := 6) (by omega) (by omega) ?_
        have hzz1 : H.size ≤ s.heap.size + (0) := (by have z : 0 ≤ 0 := (by omega); omega)
        have hzz2 : hSl H ≤ hSl s.heap + (0) := (by have z : 0 ≤ 0 := (by omega); omega)
        exact W.iret (v := 61) hx hb hr (fun t99 ht99 hW99 => ⟨⟨_, (w, (K194, (updA B195 17 f230), cs196, x243, wt198, x241, (61 : Int32))), rfl, ⟨rfl, hz245, hz246, hz247, hO⟩, by rw [ht99]; exact hP, hD, by rw [ht99]; exact hzz1, by rw [ht99]; exact hzz2⟩, hS.F ht99⟩) hS.2.2 dX0_shortened_135
    · have n248 : ¬ (b9 = 0) := fun h9 => c187 ((nI_eq (a := b9) (b := 0) (by omega) (by omega)).mpr h9)
      refine lv_iload_n hx hb dX0_shortened_56 rfl (lv_at hl 2 rfl) ?_
      refine lv_goto (tgt := 62) hx hb dX0_shortened_57 (by decide) ?_
      refine c_put (v := .int wt10) (ty := .int) (C := RX0) (Tc := TX0) (N := 13) (ci := 0) hx hb hq pin_wsX00 tyX0 tyX0_ok nmX0 hown hE hP hD hS hO 24 (sg_24 G h0 a _ _ _ _ _) rfl 8 (by decide) (hq _ pw_55) (fun _ h9 => h9) rfl (by decide +kernel) rfl rfl (Nat.le_of_ble_eq_true rfl) (sf_13 G h0 a _ _ _ _ _ wt10) dX0_shortened_62 (fun H locs w hP hD hS hO => ?_)
      refine lv_aload_n hx hb dX0_shortened_65 rfl (lv_at hl 3 rfl) ?_
      refine lv_aload_n hx hb dX0_shortened_66 rfl (lv_at hl 4 rfl) ?_
      refine p_get (v := .ref q2) (C := RX7) (Tc := TX7) (N := 11) (ci := 13) hx hb hq pin_wsX70 hown hE hP hO (by rw [hf23]; decide) (rep_1 hf23) rfl 7 (by decide) (hq _ pw_169) (fun _ h9 => h9) (congrArg (fun z => some (va_rf z)) hf27) dX0_shortened_67 ?_
      refine lv_aload_n hx hb dX0_shortened_70 rfl (lv_at hl 3 rfl) ?_
      refine lv_aload_n hx hb dX0_shortened_71 rfl (lv_at hl 4 rfl) ?_
      refine p_get (v := .ref q2) (C := RX7) (Tc := TX7) (N := 11) (ci := 13) hx hb hq pin_wsX70 hown hE hP hO (by rw [hf23]; decide) (rep_1 hf23) rfl 7 (by decide) (hq _ pw_169) (fun _ h9 => h9) (congrArg (fun z => some (va_rf z)) hf27) dX0_shortened_72 ?_
      have hO : OKP G h0 a (upd (upd (upd (upd (upd (upd (upd (upd (upd (upd F 2 (nI sz)) 5 (nI cs)) 12 (nI vr)) 5 (nI cs179)) 13 wt10) 14 wt10) 15 wf11) 2 (nI sz)) 5 (nI cs179)) 12 (nI vr)) (updR (updR (updR (updR R 2 (.ref pq)) 3 (.ref mq)) 2 (.ref pq)) 3 (.ref mq)) Z (updA (updA (updA (updA B7 16 f180) 17 f181) 18 f182) 19 f183) J K6 w := hO.to rfl
      obtain ⟨_, qr252, hqr253⟩ := hO.2.1 24 _ (sg_24 G h0 a _ _ _ _ _)
      refine pn_V0 (G := G) (As := [.ref q2]) (rest := [.ref q2, .ref (a 4)]) hx hb hml hown hq hE hX pX0_al hP hD hS hA hl.1 ((ihv (by omega)) h0 a (upd (upd (upd (upd (upd (upd (upd F 2 (nI sz)) 5 (nI cs)) 12 (nI vr)) 5 (nI cs179)) 13 wt10) 14 wt10) 15 wf11) (updR (updR R 2 (.ref pq)) 3 (.ref mq)) Z (updA (updA (updA (updA B7 16 f180) 17 f181) 18 f182) 19 f183) J K6 w pq dr ml nd nm cp it s9 q2 mq cs179 vr sz g rk (by omega) (BdE.wp hbe29 hwp) (BdE.pt hbe29 hwp hps) (BdE.rko hbe29 hrk) (by omega) (by omega) h186 hf24 hf28 ⟨hv1.1, (by have z9 := hv1; omega)⟩ hO hl0) (gV pw_173 pw_174 pw_175 pw_63 pw_224) hV_X0_value qr252 0 hqr253 rfl rfl rfl (Nat.le_of_ble_eq_true rfl) dX0_shortened_75 ⟨(by show 0 + 1 ≤ 1; omega), (by show 0 + 6 ≤ 6; omega)⟩ ⟨(by show (5 * (n - 1) + 34) + 1 ≤ (5 * n + 33); omega), (by show 8 + (3 + 11) + (200 * (n - 1) + 600) ≤ (200 * n + 560); omega)⟩ (fun v251 u249 H locs hw250 hP hD hS => ?_) (fun ux ce9 q9 H9 locs9 hux hP9 hD9 hS9 hce hcv hcl => pb_out ux (ThQ.up (Thx.same (Thx.same (Thx.same (Thx.b (Thx.b8 (Thx.b (Thx.b (Thx.f (Thx.f (Thx.f (Thx.f (Bth.thx hbb30) (by omega)) (by omega)) (by omega)) (by omega)) (by omega) (by decide)) (by omega) (by decide)) h186) (by omega) (by decide)) rfl) rfl) rfl) (show RhX (updR (updR R 2 (.ref pq)) 3 (.ref mq)) (updR (updR (updR (updR R 2 (.ref pq)) 3 (.ref mq)) 2 (.ref pq)) 3 (.ref mq)) from fun k9 hk9 => by unfold updR; simp only [show ¬ k9 = 1 by omega, show ¬ k9 = 2 by omega, show ¬ k9 = 3 by omega, show ¬ k9 = 4 by omega, if_false]) hux) hnt hlocks hce hcv hcl hP9 hD9 hS9 (by show 0 + 1 ≤ 1; omega) (by show 0 + 6 ≤ 6; omega))
      obtain ⟨w, K254, B255, cs256, as257, wt258, wf259, r260⟩ := u249
      obtain ⟨hw250, h261, h262, h263, hO⟩ := hw250
      have h261 : BdE K6 K254 := h261
      have h262 : Bth (updA (updA (updA (updA B7 16 f180) 17 f181) 18 f182) 19 f183) B255 := h262
      have h263 : cs256 ≤ 10000 := h263
      obtain rfl : v251 = some (.int r260) := hw250
      have hf264 : K254.1 pq = 7 := (BdE.T h261 hf16 (by decide))
      have hf265 : K254.2.2.1 18 pq = some (a 1) := (BdE.C h261 (by rw [hf16]; decide) 18).trans hf17
      have hf266 : K254.2.2.1 14 pq = some dr := (BdE.C h261 (by rw [hf16]; decide) 14).trans hf18
      have hf267 : K254.1 dr = 8 := (BdE.T h261 hf19 (by decide))
      have hf268 : K254.2.2.1 15 pq = some ml := (BdE.C h261 (by rw [hf16]; decide) 15).trans hf20
      have hf269 : K254.1 ml = 5 := (BdE.T h261 hf21 (by decide))
      have hf270 : K254.2.1 24 pq = (nI nd) := (BdE.I h261 (by rw [hf16]; decide) (by decide) (by decide)).trans hf22
      have hf271 : K254.1 q = 1 := (BdE.T h261 hf23 (by decide))
      have hf272 : K254.1 mq = 3 := (BdE.T h261 hf24 (by decide))
      have hf273 : K254.2.2.1 0 q = some q1 := (BdE.C h261 (by rw [hf23]; decide) 0).trans hf25
      have hf274 : K254.1 q1 = 1 := (BdE.T h261 hf26 (by decide))
      have hf275 : K254.2.2.1 1 q = some q2 := (BdE.C h261 (by rw [hf23]; decide) 1).trans hf27
      have hf276 : K254.1 q2 = 1 := (BdE.T h261 hf28 (by decide))
      have hO : OKP G h0 a (upd (upd (upd (upd (upd (upd F 2 (nI sz)) 5 (nI cs256)) 12 (nI vr)) 13 as257) 14 wt258) 15 wf259) (updR (updR R 2 (.ref pq)) 3 (.ref mq)) Z B255 J K254 w := hO.to rfl
      refine W.widen (k := 0) (n := 0) (by show 0 + 0 ≤ 0; omega) (by show 0 + 0 ≤ 0; omega) ?_
      refine W.eq (g2 := F0 m 78 ls [.int r260, .ref q2, .ref (a 4)]) rfl ?_
      have hbe277 := BdE.trans hbe29 h261
      have hbb278 : Bth B B255 := Bth.trans (show Thx (upd (upd (upd F 2 (nI sz)) 5 (nI cs)) 12 (nI vr)) (upd (upd (upd (upd (upd (upd (upd F 2 (nI sz)) 5 (nI cs)) 12 (nI vr)) 5 (nI cs179)) 13 wt10) 14 wt10) 15 wf11) B (updA (updA (updA (updA B7 16 f180) 17 f181) 18 f182) 19 f183) from (Thx.b (Thx.b8 (Thx.b (Thx.b (Thx.f (Thx.f (Thx.f (Thx.f (Bth.thx hbb30) (by omega)) (by omega)) (by omega)) (by omega)) (by omega) (by decide)) (by omega) (by decide)) h186) (by omega) (by decide))).2 h262
      have hng279 : Nng (B255 18) := h262.2 h186
      refine lv_bipush (v := 61) hx hb dX0_shortened_78 (by decide) ?_
      have hO : OKP G h0 a (upd (upd (upd (upd (upd (upd (upd (upd F 2 (nI sz)) 5 (nI cs)) 12 (nI vr)) 5 (nI cs256)) 13 as257) 14 wt258) 15 wf259) 2 (nI sz)) (updR (updR (updR R 2 (.ref pq)) 3 (.ref mq)) 2 (.ref pq)) Z B255 J K254 w := hO.to rfl
      obtain ⟨_, qr283, hqr284⟩ := hO.2.1 24 _ (sg_24 G h0 a _ _ _ _ _)
      refine pn_V0 (G := G) (As := [.ref q2, .int r260, .int 61]) (rest := []) hx hb hml hown hq hE hX pX0_al hP hD hS hA hl.1 (B_fit l G h0 a (upd (upd (upd (upd (upd (upd (upd F 2 (nI sz)) 5 (nI cs)) 12 (nI vr)) 5 (nI cs256)) 13 as257) 14 wt258) 15 wf259) (updR (updR R 2 (.ref pq)) 3 (.ref mq)) Z B255 J K254 w pq dr ml nd q2 sz r260 61 g (by omega) (BdE.pt hbe277 hwp hps).1 (BdE.pt hbe277 hwp hps).2.1 hf276 hO hl0) (gV pw_176 pw_177 pw_178 pw_63 pw_114) hV_X0_fit qr283 0 hqr284 rfl rfl rfl (Nat.le_of_ble_eq_true rfl) dX0_shortened_80 ⟨(by show 0 + 1 ≤ 1; omega), (by show 0 + 6 ≤ 6; omega)⟩ ⟨(by show 7 + 1 ≤ (5 * n + 33); omega), (by show 8 + (4 + 11) + 122 ≤ (200 * n + 560); omega)⟩ (fun v282 u280 H locs hw281 hP hD hS => ?_) (fun ux ce9 q9 H9 locs9 hux hP9 hD9 hS9 hce hcv hcl => pb_out ux (ThQ.up (Thx.same (Thx.f (Thx.f (Thx.f (Thx.f (Bth.thx hbb278) (by omega)) (by omega)) (by omega)) (by omega)) rfl) (show RhX (updR (updR R 2 (.ref pq)) 3 (.ref mq)) (updR (updR (updR R 2 (.ref pq)) 3 (.ref mq)) 2 (.ref pq)) from fun k9 hk9 => by unfold updR; simp only [show ¬ k9 = 1 by omega, show ¬ k9 = 2 by omega, show ¬ k9 = 3 by omega, show ¬ k9 = 4 by omega, if_false]) hux) hnt hlocks hce hcv hcl hP9 hD9 hS9 (by show 0 + 1 ≤ 1; omega) (by show 0 + 6 ≤ 6; omega))
      obtain ⟨w, _⟩ := u280
      obtain ⟨hw281, hO⟩ := hw281
      obtain rfl : v282 = none := hw281
      have hO : OKP G h0 a (upd (upd (upd (upd (upd (upd F 2 (nI sz)) 5 (nI cs256)) 12 (nI vr)) 13 as257) 14 wt258) 15 wf259) (updR (updR R 2 (.ref pq)) 3 (.ref mq)) Z B255 J K254 w := hO.to rfl
      refine W.widen (k := 0) (n := 0) (by show 0 + 0 ≤ 0; omega) (by show 0 + 0 ≤ 0; omega) ?_
      refine W.eq (g2 := F0 m 83 ls []) rfl ?_
      refine lv_aload_n hx hb dX0_shortened_83 rfl (lv_at hl 3 rfl) ?_
      refine c_get (v := .ref (a 2)) (C := RX0) (Tc := TX0) (N := 13) (ci := 0) hx hb hq pin_wsX00 hown hE hP hO 24 (sg_24 G h0 a _ _ _ _ _) rfl 1 (by decide) (hq _ pw_5) (fun _ h9 => h9) rfl dX0_shortened_84 ?_
      refine lv_iload hx hb dX0_shortened_87 (lv_at hl 0 rfl) ?_
      have hO : OKW G h0 a (upd (upd (upd (upd (upd (upd (upd F 2 (nI sz)) 5 (nI cs256)) 12 (nI vr)) 13 as257) 14 wt258) 15 wf259) 5 (nI cs256)) (updR (updR R 2 (.ref pq)) 3 (.ref mq)) Z B255 J K254.1 (fun q99 x99 => x99 = rep G a K254 q99) w := hO.to rfl
      obtain ⟨_, qr288, hqr289⟩ := hO.2.1 13 _ (sg_13 G h0 a _ _ _ _ _)
      refine pc_V0 (G := G) (As := [.int r184]) (rest := []) hx hb hml hown hq hE hX pX0_al hP hD hS hA hl.1 (K_land l G h0 a (upd (upd (upd (upd (upd (upd F 2 (nI sz)) 5 (nI cs256)) 12 (nI vr)) 13 as257) 14 wt258) 15 wf259) (updR (updR R 2 (.ref pq)) 3 (.ref mq)) Z B255 J K254.1 (fun q99 x99 => x99 = rep G a K254 q99) w r184 cs256 (by omega) hO) (gV pw_200 pw_201 pw_202 pw_70 pw_134) hV_X1_land qr288 1 hqr289 rfl rfl rfl (Nat.le_of_ble_eq_true rfl) dX0_shortened_89 ⟨(by show 0 + 0 ≤ 1; omega), (by show 0 + 0 ≤ 6; omega)⟩ ⟨(by show 2 + 1 ≤ (5 * n + 33); omega), (by show 8 + (5 + 11) + 60 ≤ (200 * n + 560); omega)⟩ (fun v287 u285 H locs hw286 hP hD hS => ?_)
      obtain ⟨w, f290⟩ := u285
      obtain ⟨hw286, hO⟩ := hw286
      obtain rfl : v287 = none := hw286
      have hO : OKP G h0 a (upd (upd (upd (upd (upd (upd F 2 (nI sz)) 5 (nI cs256)) 12 (nI vr)) 13 as257) 14 wt258) 15 wf259) (updR (updR R 2 (.ref pq)) 3 (.ref mq)) Z (updA B255 17 f290) J K254 w := hO.to rfl
      refine W.widen (k := 0) (n := 0) (Nat.le_of_ble_eq_true rfl) (Nat.le_of_ble_eq_true rfl) ?_
      refine W.eq (g2 := F0 m 92 ls []) rfl ?_
      refine lv_iload_n hx hb dX0_shortened_92 rfl (lv_at hl 5 rfl) ?_
      refine lv_if_eq (tgt := 110) hx hb dX0_shortened_93 (by decide) (fun c291 => ?_) (fun c291 => ?_)
      · have n292 : b9 = 0 := (nI_eq (a := b9) (b := 0) (by omega) (by omega)).mp c291
        refine lv_aload_n hx hb dX0_shortened_110 rfl (lv_at hl 3 rfl) ?_
        refine lv_dup hx hb dX0_shortened_111 rfl ?_
        refine c_get (v := .int wt258) (C := RX0) (Tc := TX0) (N := 13) (ci := 0) hx hb hq pin_wsX00 hown hE hP hO 24 (sg_24 G h0 a _ _ _ _ _) rfl 9 (by decide) (hq _ pw_156) (fun _ h9 => h9) rfl dX0_shortened_112 ?_
        refine lv_iload_n hx hb dX0_shortened_115 rfl (lv_at hl 2 rfl) ?_
        refine lv_iand hx hb dX0_shortened_116 ?_
        refine lv_topi (fun x293 e294 => ?_)
        refine c_put (v := .int x293) (ty := .int) (C := RX0) (Tc := TX0) (N := 13) (ci := 0) hx hb hq pin_wsX00 tyX0 tyX0_ok nmX0 hown hE hP hD hS hO 24 (sg_24 G h0 a _ _ _ _ _) rfl 9 (by decide) (hq _ pw_156) (fun _ h9 => h9) rfl (by decide +kernel) rfl rfl (Nat.le_of_ble_eq_true rfl) (sf_14 G h0 a _ _ _ _ _ x293) dX0_shortened_117 (fun H locs w hP hD hS hO => ?_)
        refine lv_aload_n hx hb dX0_shortened_120 rfl (lv_at hl 3 rfl) ?_
        refine lv_aload_n hx hb dX0_shortened_121 rfl (lv_at hl 3 rfl) ?_
        refine c_get (v := .int x293) (C := RX0) (Tc := TX0) (N := 13) (ci := 0) hx hb hq pin_wsX00 hown hE hP hO 24 (sg_24 G h0 a _ _ _ _ _) rfl 9 (by decide) (hq _ pw_156) (fun _ h9 => h9) rfl dX0_shortened_122 ?_
        refine lv_aload_n hx hb dX0_shortened_125 rfl (lv_at hl 3 rfl) ?_
        refine c_get (v := .int wf259) (C := RX0) (Tc := TX0) (N := 13) (ci := 0) hx hb hq pin_wsX00 hown hE hP hO 24 (sg_24 G h0 a _ _ _ _ _) rfl 10 (by decide) (hq _ pw_157) (fun _ h9 => h9) rfl dX0_shortened_126 ?_
        refine lv_iand hx hb dX0_shortened_129 ?_
        refine lv_topi (fun x295 e296 => ?_)
        refine c_put (v := .int x295) (ty := .int) (C := RX0) (Tc := TX0) (N := 13) (ci := 0) hx hb hq pin_wsX00 tyX0 tyX0_ok nmX0 hown hE hP hD hS hO 24 (sg_24 G h0 a _ _ _ _ _) rfl 8 (by decide) (hq _ pw_55) (fun _ h9 => h9) rfl (by decide +kernel) rfl rfl (Nat.le_of_ble_eq_true rfl) (sf_13 G h0 a _ _ _ _ _ x295) dX0_shortened_130 (fun H locs w hP hD hS hO => ?_)
        refine lv_bipush (v := 61) hx hb dX0_shortened_133 (by decide) ?_
        refine W_size (fun hz1 hz2 => ?_)
        refine vx_ret ?_
        have hz297 : BdE K K254 := hbe277
        have hz298 : Bth B (updA B255 17 f290) := (show Thx (upd (upd (upd F 2 (nI sz)) 5 (nI cs)) 12 (nI vr)) (upd (upd (upd (upd (upd (upd (upd F 2 (nI sz)) 5 (nI cs)) 12 (nI vr)) 5 (nI cs256)) 13 x295) 14 x293) 15 wf259) B (updA B255 17 f290) from (Thx.b (Thx.f (Thx.f (Thx.f (Thx.f (Bth.thx hbb278) (by omega)) (by omega)) (by omega)) (by omega)) (by omega) (by decide))).2
        have hz299 : cs256 ≤ 10000 := (by omega)
        have hO : OKP G h0 a (upd (upd (upd (upd (upd (upd F 2 (nI sz)) 5 (nI cs256)) 12 (nI vr)) 13 x295) 14 x293) 15 wf259) (updR (updR R 2 (.ref pq)) 3 (.ref mq)) Z (updA B255 17 f290) J K254 w := hO.to rfl
        refine W.widen (k := 1) (n := 6) (by omega) (by omega) ?_
        have hzz1 : H.size ≤ s.heap.size + (0) := (by have z : 0 ≤ 0 := (by omega); omega)
        have hzz2 : hSl H ≤ hSl s.heap + (0) := (by have z : 0 ≤ 0 := (by omega); omega)
        exact W.iret (v := 61) hx hb hr (fun t99 ht99 hW99 => ⟨⟨_, (w, (K254, (updA B255 17 f290), cs256, x295, x293, wf259, (61 : Int32))), rfl, ⟨rfl, hz297, hz298, hz299, hO⟩, by rw [ht99]; exact hP, hD, by rw [ht99]; exact hzz1, by rw [ht99]; exact hzz2⟩, hS.F ht99⟩) hS.2.2 dX0_shortened_135
      · have n300 : ¬ (b9 = 0) := fun h9 => c291 ((nI_eq (a := b9) (b := 0) (by omega) (by omega)).mpr h9)
        refine lv_aload_n hx hb dX0_shortened_96 rfl (lv_at hl 3 rfl) ?_
        refine lv_dup hx hb dX0_shortened_97 rfl ?_
        refine c_get (v := .int wf259) (C := RX0) (Tc := TX0) (N := 13) (ci := 0) hx hb hq pin_wsX00 hown hE hP hO 24 (sg_24 G h0 a _ _ _ _ _) rfl 10 (by decide) (hq _ pw_157) (fun _ h9 => h9) rfl dX0_shortened_98 ?_
        refine lv_iload hx hb dX0_shortened_101 (lv_at hl 1 rfl) ?_
        refine lv_iand hx hb dX0_shortened_103 ?_
        refine lv_topi (fun x301 e302 => ?_)
        refine c_put (v := .int x301) (ty := .int) (C := RX0) (Tc := TX0) (N := 13) (ci := 0) hx hb hq pin_wsX00 tyX0 tyX0_ok nmX0 hown hE hP hD hS hO 24 (sg_24 G h0 a _ _ _ _ _) rfl 10 (by decide) (hq _ pw_157) (fun _ h9 => h9) rfl (by decide +kernel) rfl rfl (Nat.le_of_ble_eq_true rfl) (sf_15 G h0 a _ _ _ _ _ x301) dX0_shortened_104 (fun H locs w hP hD hS hO => ?_)
        refine lv_goto (tgt := 120) hx hb dX0_shortened_107 (by decide) ?_
        refine lv_aload_n hx hb dX0_shortened_120 rfl (lv_at hl 3 rfl) ?_
        refine lv_aload_n hx hb dX0_shortened_121 rfl (lv_at hl 3 rfl) ?_
        refine c_get (v := .int wt258) (C := RX0) (Tc := TX0) (N := 13) (ci := 0) hx hb hq pin_wsX00 hown hE hP hO 24 (sg_24 G h0 a _ _ _ _ _) rfl 9 (by decide) (hq _ pw_156) (fun _ h9 => h9) rfl dX0_shortened_122 ?_
        refine lv_aload_n hx hb dX0_shortened_125 rfl (lv_at hl 3 rfl) ?_
        refine c_get (v := .int x301) (C := RX0) (Tc := TX0) (N := 13) (ci := 0) hx hb hq pin_wsX00 hown hE hP hO 24 (sg_24 G h0 a _ _ _ _ _) rfl 10 (by decide) (hq _ pw_157) (fun _ h9 => h9) rfl dX0_shortened_126 ?_
        refine lv_iand hx hb dX0_shortened_129 ?_
        refine lv_topi (fun x303 e304 => ?_)
        refine c_put (v := .int x303) (ty := .int) (C := RX0) (Tc := TX0) (N := 13) (ci := 0) hx hb hq pin_wsX00 tyX0 tyX0_ok nmX0 hown hE hP hD hS hO 24 (sg_24 G h0 a _ _ _ _ _) rfl 8 (by decide) (hq _ pw_55) (fun _ h9 => h9) rfl (by decide +kernel) rfl rfl (Nat.le_of_ble_eq_true rfl) (sf_13 G h0 a _ _ _ _ _ x303) dX0_shortened_130 (fun H locs w hP hD hS hO => ?_)
        refine lv_bipush (v := 61) hx hb dX0_shortened_133 (by decide) ?_
        refine W_size (fun hz1 hz2 => ?_)
        refine vx_ret ?_
        have hz305 : BdE K K254 := hbe277
        have hz306 : Bth B (updA B255 17 f290) := (show Thx (upd (upd (upd F 2 (nI sz)) 5 (nI cs)) 12 (nI vr)) (upd (upd (upd (upd (upd (upd (upd F 2 (nI sz)) 5 (nI cs)) 12 (nI vr)) 5 (nI cs256)) 13 x303) 14 wt258) 15 x301) B (updA B255 17 f290) from (Thx.b (Thx.f (Thx.f (Thx.f (Thx.f (Bth.thx hbb278) (by omega)) (by omega)) (by omega)) (by omega)) (by omega) (by decide))).2
        have hz307 : cs256 ≤ 10000 := (by omega)
        have hO : OKP G h0 a (upd (upd (upd (upd (upd (upd F 2 (nI sz)) 5 (nI cs256)) 12 (nI vr)) 13 x303) 14 wt258) 15 x301) (updR (updR R 2 (.ref pq)) 3 (.ref mq)) Z (updA B255 17 f290) J K254 w := hO.to rfl
        refine W.widen (k := 1) (n := 6) (by omega) (by omega) ?_
        have hzz1 : H.size ≤ s.heap.size + (0) := (by have z : 0 ≤ 0 := (by omega); omega)
        have hzz2 : hSl H ≤ hSl s.heap + (0) := (by have z : 0 ≤ 0 := (by omega); omega)
        exact W.iret (v := 61) hx hb hr (fun t99 ht99 hW99 => ⟨⟨_, (w, (K254, (updA B255 17 f290), cs256, x303, wt258, x301, (61 : Int32))), rfl, ⟨rfl, hz305, hz306, hz307, hO⟩, by rw [ht99]; exact hP, hD, by rw [ht99]; exact hzz1, by rw [ht99]; exact hzz2⟩, hS.F ht99⟩) hS.2.2 dX0_shortened_135
theorem dX0_choice_0 : decode cX0_choice 0 = .ok (.aload_n 0, 1) := by decide +kernel
theorem dX0_choice_1 : decode cX0_choice 1 = .ok (.aload_n 1, 1) := by decide +kernel
theorem dX0_choice_2 : decode cX0_choice 2 = .ok (.getfield 165, 3) := by decide +kernel
theorem dX0_choice_5 : decode cX0_choice 5 = .ok (.aload_n 0, 1) := by decide +kernel
theorem dX0_choice_6 : decode cX0_choice 6 = .ok (.aload_n 1, 1) := by decide +kernel
theorem dX0_choice_7 : decode cX0_choice 7 = .ok (.getfield 165, 3) := by decide +kernel
theorem dX0_choice_10 : decode cX0_choice 10 = .ok (.invokevirtual 209, 3) := by decide +kernel
theorem dX0_choice_13 : decode cX0_choice 13 = .ok (.bipush 61, 2) := by decide +kernel
theorem dX0_choice_15 : decode cX0_choice 15 = .ok (.invokevirtual 213, 3) := by decide +kernel
theorem dX0_choice_18 : decode cX0_choice 18 = .ok (.aload_n 0, 1) := by decide +kernel
theorem dX0_choice_19 : decode cX0_choice 19 = .ok (.getfield 237, 3) := by decide +kernel
theorem dX0_choice_22 : decode cX0_choice 22 = .ok (.istore_n 2, 1) := by decide +kernel
theorem dX0_choice_23 : decode cX0_choice 23 = .ok (.aload_n 0, 1) := by decide +kernel
theorem dX0_choice_24 : decode cX0_choice 24 = .ok (.aload_n 0, 1) := by decide +kernel
theorem dX0_choice_25 : decode cX0_choice 25 = .ok (.getfield 240, 3) := by decide +kernel
theorem dX0_choice_28 : decode cX0_choice 28 = .ok (.putfield 94, 3) := by decide +kernel
theorem dX0_choice_31 : decode cX0_choice 31 = .ok (.aload_n 0, 1) := by decide +kernel
theorem dX0_choice_32 : decode cX0_choice 32 = .ok (.getfield 15, 3) := by decide +kernel
theorem dX0_choice_35 : decode cX0_choice 35 = .ok (.bipush 7, 2) := by decide +kernel
theorem dX0_choice_37 : decode cX0_choice 37 = .ok (.iconst (-1), 1) := by decide +kernel
theorem dX0_choice_38 : decode cX0_choice 38 = .ok (.iconst 0, 1) := by decide +kernel
theorem dX0_choice_39 : decode cX0_choice 39 = .ok (.invokevirtual 243, 3) := by decide +kernel
theorem dX0_choice_42 : decode cX0_choice 42 = .ok (.istore_n 3, 1) := by decide +kernel
theorem dX0_choice_43 : decode cX0_choice 43 = .ok (.aload_n 0, 1) := by decide +kernel
theorem dX0_choice_44 : decode cX0_choice 44 = .ok (.aload_n 1, 1) := by decide +kernel
theorem dX0_choice_45 : decode cX0_choice 45 = .ok (.getfield 202, 3) := by decide +kernel
theorem dX0_choice_48 : decode cX0_choice 48 = .ok (.invokevirtual 209, 3) := by decide +kernel
theorem dX0_choice_51 : decode cX0_choice 51 = .ok (.istore 4, 2) := by decide +kernel
theorem dX0_choice_53 : decode cX0_choice 53 = .ok (.aload_n 0, 1) := by decide +kernel
theorem dX0_choice_54 : decode cX0_choice 54 = .ok (.getfield 240, 3) := by decide +kernel
theorem dX0_choice_57 : decode cX0_choice 57 = .ok (.istore 5, 2) := by decide +kernel
theorem dX0_choice_59 : decode cX0_choice 59 = .ok (.aload_n 0, 1) := by decide +kernel
theorem dX0_choice_60 : decode cX0_choice 60 = .ok (.getfield 237, 3) := by decide +kernel
theorem dX0_choice_63 : decode cX0_choice 63 = .ok (.istore 6, 2) := by decide +kernel
theorem dX0_choice_65 : decode cX0_choice 65 = .ok (.aload_n 0, 1) := by decide +kernel
theorem dX0_choice_66 : decode cX0_choice 66 = .ok (.getfield 15, 3) := by decide +kernel
theorem dX0_choice_69 : decode cX0_choice 69 = .ok (.bipush 6, 2) := by decide +kernel
theorem dX0_choice_71 : decode cX0_choice 71 = .ok (.iconst (-1), 1) := by decide +kernel
theorem dX0_choice_72 : decode cX0_choice 72 = .ok (.iconst 0, 1) := by decide +kernel
theorem dX0_choice_73 : decode cX0_choice 73 = .ok (.invokevirtual 243, 3) := by decide +kernel
theorem dX0_choice_76 : decode cX0_choice 76 = .ok (.istore 7, 2) := by decide +kernel
theorem dX0_choice_78 : decode cX0_choice 78 = .ok (.aload_n 0, 1) := by decide +kernel
theorem dX0_choice_79 : decode cX0_choice 79 = .ok (.getfield 15, 3) := by decide +kernel
theorem dX0_choice_82 : decode cX0_choice 82 = .ok (.iload_n 3, 1) := by decide +kernel
theorem dX0_choice_83 : decode cX0_choice 83 = .ok (.invokevirtual 250, 3) := by decide +kernel
theorem dX0_choice_86 : decode cX0_choice 86 = .ok (.aload_n 0, 1) := by decide +kernel
theorem dX0_choice_87 : decode cX0_choice 87 = .ok (.iload_n 2, 1) := by decide +kernel
theorem dX0_choice_88 : decode cX0_choice 88 = .ok (.putfield 94, 3) := by decide +kernel
theorem dX0_choice_91 : decode cX0_choice 91 = .ok (.aload_n 0, 1) := by decide +kernel
theorem dX0_choice_92 : decode cX0_choice 92 = .ok (.getfield 29, 3) := by decide +kernel
theorem dX0_choice_95 : decode cX0_choice 95 = .ok (.iload 4, 2) := by decide +kernel
theorem dX0_choice_97 : decode cX0_choice 97 = .ok (.aload_n 0, 1) := by decide +kernel
theorem dX0_choice_98 : decode cX0_choice 98 = .ok (.aload_n 1, 1) := by decide +kernel
theorem dX0_choice_99 : decode cX0_choice 99 = .ok (.getfield 247, 3) := by decide +kernel
theorem dX0_choice_102 : decode cX0_choice 102 = .ok (.invokevirtual 209, 3) := by decide +kernel
theorem dX0_choice_105 : decode cX0_choice 105 = .ok (.invokevirtual 376, 3) := by decide +kernel
theorem dX0_choice_108 : decode cX0_choice 108 = .ok (.istore 8, 2) := by decide +kernel
theorem dX0_choice_110 : decode cX0_choice 110 = .ok (.iload 8, 2) := by decide +kernel
theorem dX0_choice_112 : decode cX0_choice 112 = .ok (.bipush 63, 2) := by decide +kernel
theorem dX0_choice_114 : decode cX0_choice 114 = .ok (.if_icmp .ne 16, 3) := by decide +kernel
theorem dX0_choice_130 : decode cX0_choice 130 = .ok (.aload_n 0, 1) := by decide +kernel
theorem dX0_choice_131 : decode cX0_choice 131 = .ok (.getfield 15, 3) := by decide +kernel
theorem dX0_choice_134 : decode cX0_choice 134 = .ok (.iload 7, 2) := by decide +kernel
theorem dX0_choice_136 : decode cX0_choice 136 = .ok (.invokevirtual 250, 3) := by decide +kernel
theorem dX0_choice_139 : decode cX0_choice 139 = .ok (.aload_n 0, 1) := by decide +kernel
theorem dX0_choice_140 : decode cX0_choice 140 = .ok (.dup, 1) := by decide +kernel
theorem dX0_choice_141 : decode cX0_choice 141 = .ok (.getfield 240, 3) := by decide +kernel
theorem dX0_choice_144 : decode cX0_choice 144 = .ok (.iload 5, 2) := by decide +kernel
theorem dX0_choice_146 : decode cX0_choice 146 = .ok (.iand, 1) := by decide +kernel
theorem dX0_choice_147 : decode cX0_choice 147 = .ok (.putfield 240, 3) := by decide +kernel
theorem dX0_choice_150 : decode cX0_choice 150 = .ok (.aload_n 0, 1) := by decide +kernel
theorem dX0_choice_151 : decode cX0_choice 151 = .ok (.dup, 1) := by decide +kernel
theorem dX0_choice_152 : decode cX0_choice 152 = .ok (.getfield 237, 3) := by decide +kernel
theorem dX0_choice_155 : decode cX0_choice 155 = .ok (.iload 6, 2) := by decide +kernel
theorem dX0_choice_157 : decode cX0_choice 157 = .ok (.iand, 1) := by decide +kernel
theorem dX0_choice_158 : decode cX0_choice 158 = .ok (.putfield 237, 3) := by decide +kernel
theorem dX0_choice_161 : decode cX0_choice 161 = .ok (.aload_n 0, 1) := by decide +kernel
theorem dX0_choice_162 : decode cX0_choice 162 = .ok (.aload_n 0, 1) := by decide +kernel
theorem dX0_choice_163 : decode cX0_choice 163 = .ok (.getfield 240, 3) := by decide +kernel
theorem dX0_choice_166 : decode cX0_choice 166 = .ok (.aload_n 0, 1) := by decide +kernel
theorem dX0_choice_167 : decode cX0_choice 167 = .ok (.getfield 237, 3) := by decide +kernel
theorem dX0_choice_170 : decode cX0_choice 170 = .ok (.iand, 1) := by decide +kernel
theorem dX0_choice_171 : decode cX0_choice 171 = .ok (.putfield 94, 3) := by decide +kernel
theorem dX0_choice_174 : decode cX0_choice 174 = .ok (.iload 8, 2) := by decide +kernel
theorem dX0_choice_176 : decode cX0_choice 176 = .ok (.ireturn, 1) := by decide +kernel
theorem dX0_choice_117 : decode cX0_choice 117 = .ok (.aload_n 0, 1) := by decide +kernel
theorem dX0_choice_118 : decode cX0_choice 118 = .ok (.getfield 9, 3) := by decide +kernel
theorem dX0_choice_121 : decode cX0_choice 121 = .ok (.bipush 11, 2) := by decide +kernel
theorem dX0_choice_123 : decode cX0_choice 123 = .ok (.aload_n 1, 1) := by decide +kernel
theorem dX0_choice_124 : decode cX0_choice 124 = .ok (.getfield 114, 3) := by decide +kernel
theorem dX0_choice_127 : decode cX0_choice 127 = .ok (.invokevirtual 136, 3) := by decide +kernel
theorem hV_X9_common : yX9_common.cls = RX9 ∧ yX9_common.cls ≠ "java/lang/invoke/MethodHandle" ∧ yX9_common.cls ≠ "java/lang/invoke/VarHandle" ∧ (parseMethodDescriptor yX9_common.desc).map (fun d => d.parameters.length) = some 2 := by decide +kernel
set_option maxHeartbeats 16000000 in
set_option maxRecDepth 100000 in
theorem B_choice (l : Launch) (G : pT) (h0 : Nat) (a : Nat → Nat) (F : Nat → Int32) (R : Nat → Value) (Z : Int64) (B : Nat → Nat → Int32) (J : Nat → Nat → Int64) (K : PK) (w : va_W) (pq : Nat) (dr : Nat) (ml : Nat) (nd : Nat) (nm : Nat) (cp : Nat) (it : Nat → Nat) (s9 : Nat) (q : Nat) (mq : Nat) (cs : Nat) (vr : Nat) (sz : Nat) (n : Nat) (q1 : Nat) (q2 : Nat) (q3 : Nat) (g : Nat → Nat → Nat) (rk : Nat → Nat) (hsz : sz ≤ 5000) (hwp : WPr G K g) (hps : PgT G K g (a 1) pq dr ml nd nm cp it s9) (hrk : RkO K rk) (hcs : cs ≤ 10000) (hvr : vr ≤ 30) (hng : Nng (B 18)) (hmq : K.1 mq = 3) (hqT : K.1 q = 1) (hqL : 1 ≤ g 0 q ∧ g 0 q ≤ n) (hc0 : K.2.2.1 0 q = some q1) (ht0 : K.1 q1 = 1) (hv0 : 1 ≤ g 0 q1 ∧ g 0 q1 + 1 ≤ n) (hc1 : K.2.2.1 1 q = some q2) (ht1 : K.1 q2 = 1) (hv1 : 1 ≤ g 0 q2 ∧ g 0 q2 + 1 ≤ n) (hc2 : K.2.2.1 2 q = some q3) (ht2 : K.1 q3 = 1) (hv2 : 1 ≤ g 0 q3 ∧ g 0 q3 + 1 ≤ n) (ihv : IhV l G n) (hO : OKP G h0 a (upd (upd (upd F 2 (nI sz)) 5 (nI cs)) 12 (nI vr)) (updR (updR R 2 (.ref pq)) 3 (.ref mq)) Z B J K w) (hl0 : l.stackTraces = false) : PBn l G pX0 yX0_choice cX0_choice 9 (some .int) ({ frames := (5 * n + 33), cells := 1, slots := 6, locals := (200 * n + 560) }) [.ref (a 4), .ref q] w (fun (v : Option Value) (u : va_W × (PK × (Nat → Nat → Int32) × Nat × Int32 × Int32 × Int32 × Int32)) => v = some (.int u.2.2.2.2.2.2.2) ∧ (BdE K u.2.1) ∧ (Bth B u.2.2.1) ∧ (u.2.2.2.1 ≤ 10000) ∧ (OKP G h0 a (upd (upd (upd (upd (upd (upd F 2 (nI sz)) 5 (nI u.2.2.2.1)) 12 (nI vr)) 13 u.2.2.2.2.1) 14 u.2.2.2.2.2.1) 15 u.2.2.2.2.2.2.1) (updR (updR R 2 (.ref pq)) 3 (.ref mq)) Z u.2.2.1 J u.2.1 u.1)) (fun u => u.1) (fun (u : va_W × (PK × (Nat → Nat → Int32) × Nat × Int32 × Int32 × Int32 × Int32)) => 0) (fun (u : va_W × (PK × (Nat → Nat → Int32) × Nat × Int32 × Int32 × Int32 × Int32)) => 0) (fun (u : va_W × (Nat → Int32) × (Nat → Value) × (Nat → Nat → Int32)) => ThQ G h0 a (upd (upd (upd F 2 (nI sz)) 5 (nI cs)) 12 (nI vr)) (updR (updR R 2 (.ref pq)) 3 (.ref mq)) Z B J u) (fun u => u.1) := by
  intro sz
  refine vx_ofW (cc := cX0_choice) (maxL := 9) (ret := (some .int)) (by decide) rfl ?_
  intro p e s m args below meth c s₁ B9 hml hnt hv
  obtain ⟨rfl, hsz, hP, hD0, hE, hX⟩ := hv
  have hx := B9.exec
  have hb := B9.bytes
  have hr := B9.returns
  have hts := atoms_spec (ws := Cond.code yX0_choice cX0_choice 9 (some .int) :: pw) B9.pre
  have hq : ∀ w ∈ pw, w.before _ s = true := fun w h => hts w (List.mem_cons_of_mem _ h)
  have hown : s.vm.findClass RX0 = some m.cls := findClass_of_methodNamed B9.named
  have hlocks := B9.notSynchronized
  subst hsz
  have hD := hD0.self (sz := s.heap.size)
  have hA : ∀ q : Nat, s.heap.size ≤ q → va_A w s.heap.size q := fun q h => Or.inr h
  generalize va_A w s.heap.size = A at hD hE hA ⊢
  have hS : va_S A s.heap s.heap [] := va_S.rf
  have hl := lv_entry ([.ref (a 4), .ref q]) (n := 9) (Nat.le_of_ble_eq_true rfl)
  rw [lg_entry_eq]
  generalize (lg_sl ([.ref (a 4), .ref q]) ++ List.replicate (9 - (lg_sl ([.ref (a 4), .ref q])).length) Slot.unset).toArray = ls at hl ⊢
  have hl : lv_has ls 9 [(0, .ref (a 4)), (1, .ref q)] := hl
  have hpg := hps.1
  have hp1 := hpg.1
  have hp2 := hpg.2.1
  have hp3 := hpg.2.2.1
  have hp4 := hpg.2.2.2.1
  have hp5 := hpg.2.2.2.2.1
  have hp6 := hpg.2.2.2.2.2.1
  have hp8 := hpg.2.2.2.2.2.2.2.1
  have hp9 := hpg.2.2.2.2.2.2.2.2
  refine lv_aload_n hx hb dX0_choice_0 rfl (lv_at hl 0 rfl) ?_
  refine lv_aload_n hx hb dX0_choice_1 rfl (lv_at hl 1 rfl) ?_
  refine p_get (v := .ref q1) (C := RX7) (Tc := TX7) (N := 11) (ci := 13) hx hb hq pin_wsX70 hown hE hP hO (by rw [hqT]; decide) (rep_1 hqT) rfl 6 (by decide) (hq _ pw_180) (fun _ h9 => h9) (congrArg (fun z => some (va_rf z)) hc0) dX0_choice_2 ?_
  refine lv_aload_n hx hb dX0_choice_5 rfl (lv_at hl 0 rfl) ?_
  refine lv_aload_n hx hb dX0_choice_6 rfl (lv_at hl 1 rfl) ?_
  refine p_get (v := .ref q1) (C := RX7) (Tc := TX7) (N := 11) (ci := 13) hx hb hq pin_wsX70 hown hE hP hO (by rw [hqT]; decide) (rep_1 hqT) rfl 6 (by decide) (hq _ pw_180) (fun _ h9 => h9) (congrArg (fun z => some (va_rf z)) hc0) dX0_choice_7 ?_
  have hO : OKP G h0 a (upd (upd (upd (upd (upd (upd F 2 (nI sz)) 5 (nI cs)) 12 (nI vr)) 2 (nI sz)) 5 (nI cs)) 12 (nI vr)) (updR (updR (updR (updR R 2 (.ref pq)) 3 (.ref mq)) 2 (.ref pq)) 3 (.ref mq)) Z B J K w := hO.to rfl
  obtain ⟨_, qr4, hqr5⟩ := hO.2.1 24 _ (sg_24 G h0 a _ _ _ _ _)
  refine pn_V0 (G := G) (As := [.ref q1]) (rest := [.ref q1, .ref (a 4)]) hx hb hml hown hq hE hX pX0_al hP hD hS hA hl.1 ((ihv (by omega)) h0 a (upd (upd (upd F 2 (nI sz)) 5 (nI cs)) 12 (nI vr)) (updR (updR R 2 (.ref pq)) 3 (.ref mq)) Z B J K w pq dr ml nd nm cp it s9 q1 mq cs vr sz g rk (by omega) (BdE.wp BdE.rfl hwp) (BdE.pt BdE.rfl hwp hps) (BdE.rko BdE.rfl hrk) (by omega) (by omega) hng hmq ht0 ⟨hv0.1, (by have z9 := hv0; omega)⟩ hO hl0) (gV pw_173 pw_174 pw_175 pw_63 pw_224) hV_X0_value qr4 0 hqr5 rfl rfl rfl (Nat.le_of_ble_eq_true rfl) dX0_choice_10 ⟨(by show 0 + 1 ≤ 1; omega), (by show 0 + 6 ≤ 6; omega)⟩ ⟨(by show (5 * (n - 1) + 34) + 1 ≤ (5 * n + 33); omega), (by show 8 + (3 + 11) + (200 * (n - 1) + 600) ≤ (200 * n + 560); omega)⟩ (fun v3 u1 H locs hw2 hP hD hS => ?_) (fun ux ce9 q9 H9 locs9 hux hP9 hD9 hS9 hce hcv hcl => pb_out ux (ThQ.up (Thx.same (Thx.same (Thx.same Thx.rfl rfl) rfl) rfl) (show RhX (updR (updR R 2 (.ref pq)) 3 (.ref mq)) (updR (updR (updR (updR R 2 (.ref pq)) 3 (.ref mq)) 2 (.ref pq)) 3 (.ref mq)) from fun k9 hk9 => by unfold updR; simp only [show ¬ k9 = 1 by omega, show ¬ k9 = 2 by omega, show ¬ k9 = 3 by omega, show ¬ k9 = 4 by omega, if_false]) hux) hnt hlocks hce hcv hcl hP9 hD9 hS9 (by show 0 + 1 ≤ 1; omega) (by show 0 + 6 ≤ 6; omega))
  obtain ⟨w, K6, B7, cs8, as9, wt10, wf11, r12⟩ := u1
  obtain ⟨hw2, h13, h14, h15, hO⟩ := hw2
  have h13 : BdE K K6 := h13
  have h14 : Bth B B7 := h14
  have h15 : cs8 ≤ 10000 := h15
  obtain rfl : v3 = some (.int r12) := hw2
  have hf16 : K6.1 pq = 7 := (BdE.T h13 hp1 (by decide))
  have hf17 : K6.2.2.1 18 pq = some (a 1) := (BdE.C h13 (by rw [hp1]; decide) 18).trans hp2
  have hf18 : K6.2.2.1 14 pq = some dr := (BdE.C h13 (by rw [hp1]; decide) 14).trans hp3
  have hf19 : K6.1 dr = 8 := (BdE.T h13 hp4 (by decide))
  have hf20 : K6.2.2.1 15 pq = some ml := (BdE.C h13 (by rw [hp1]; decide) 15).trans hp5
  have hf21 : K6.1 ml = 5 := (BdE.T h13 hp6 (by decide))
  have hf22 : K6.2.1 24 pq = (nI nd) := (BdE.I h13 (by rw [hp1]; decide) (by decide) (by decide)).trans hp8
  have hf23 : K6.1 q = 1 := (BdE.T h13 hqT (by decide))
  have hf24 : K6.1 mq = 3 := (BdE.T h13 hmq (by decide))
  have hf25 : K6.2.2.1 0 q = some q1 := (BdE.C h13 (by rw [hqT]; decide) 0).trans hc0
  have hf26 : K6.1 q1 = 1 := (BdE.T h13 ht0 (by decide))
  have hf27 : K6.2.2.1 1 q = some q2 := (BdE.C h13 (by rw [hqT]; decide) 1).trans hc1
  have hf28 : K6.1 q2 = 1 := (BdE.T h13 ht1 (by decide))
  have hf29 : K6.2.2.1 2 q = some q3 := (BdE.C h13 (by rw [hqT]; decide) 2).trans hc2
  have hf30 : K6.1 q3 = 1 := (BdE.T h13 ht2 (by decide))
  have hO : OKP G h0 a (upd (upd (upd (upd (upd (upd F 2 (nI sz)) 5 (nI cs8)) 12 (nI vr)) 13 as9) 14 wt10) 15 wf11) (updR (updR R 2 (.ref pq)) 3 (.ref mq)) Z B7 J K6 w := hO.to rfl
  refine W.widen (k := 0) (n := 0) (by show 0 + 0 ≤ 0; omega) (by show 0 + 0 ≤ 0; omega) ?_
  refine W.eq (g2 := F0 m 13 ls [.int r12, .ref q1, .ref (a 4)]) rfl ?_
  have hbe31 := BdE.trans BdE.rfl h13
  have hbb32 : Bth B B7 := Bth.trans (show Thx (upd (upd (upd F 2 (nI sz)) 5 (nI cs)) 12 (nI vr)) (upd (upd (upd F 2 (nI sz)) 5 (nI cs)) 12 (nI vr)) B B from Thx.rfl).2 h14
  have hng33 : Nng (B7 18) := h14.2 hng
  refine lv_bipush (v := 61) hx hb dX0_choice_13 (by decide) ?_
  have hO : OKP G h0 a (upd (upd (upd (upd (upd (upd (upd (upd F 2 (nI sz)) 5 (nI cs)) 12 (nI vr)) 5 (nI cs8)) 13 as9) 14 wt10) 15 wf11) 2 (nI sz)) (updR (updR (updR R 2 (.ref pq)) 3 (.ref mq)) 2 (.ref pq)) Z B7 J K6 w := hO.to rfl
  obtain ⟨_, qr37, hqr38⟩ := hO.2.1 24 _ (sg_24 G h0 a _ _ _ _ _)
  refine pn_V0 (G := G) (As := [.ref q1, .int r12, .int 61]) (rest := []) hx hb hml hown hq hE hX pX0_al hP hD hS hA hl.1 (B_fit l G h0 a (upd (upd (upd (upd (upd (upd (upd F 2 (nI sz)) 5 (nI cs)) 12 (nI vr)) 5 (nI cs8)) 13 as9) 14 wt10) 15 wf11) (updR (updR R 2 (.ref pq)) 3 (.ref mq)) Z B7 J K6 w pq dr ml nd q1 sz r12 61 g (by omega) (BdE.pt hbe31 hwp hps).1 (BdE.pt hbe31 hwp hps).2.1 hf26 hO hl0) (gV pw_176 pw_177 pw_178 pw_63 pw_114) hV_X0_fit qr37 0 hqr38 rfl rfl rfl (Nat.le_of_ble_eq_true rfl) dX0_choice_15 ⟨(by show 0 + 1 ≤ 1; omega), (by show 0 + 6 ≤ 6; omega)⟩ ⟨(by show 7 + 1 ≤ (5 * n + 33); omega), (by show 8 + (4 + 11) + 122 ≤ (200 * n + 560); omega)⟩ (fun v36 u34 H locs hw35 hP hD hS => ?_) (fun ux ce9 q9 H9 locs9 hux hP9 hD9 hS9 hce hcv hcl => pb_out ux (ThQ.up (Thx.same (Thx.f (Thx.f (Thx.f (Thx.f (Bth.thx hbb32) (by omega)) (by omega)) (by omega)) (by omega)) rfl) (show RhX (updR (updR R 2 (.ref pq)) 3 (.ref mq)) (updR (updR (updR R 2 (.ref pq)) 3 (.ref mq)) 2 (.ref pq)) from fun k9 hk9 => by unfold updR; simp only [show ¬ k9 = 1 by omega, show ¬ k9 = 2 by omega, show ¬ k9 = 3 by omega, show ¬ k9 = 4 by omega, if_false]) hux) hnt hlocks hce hcv hcl hP9 hD9 hS9 (by show 0 + 1 ≤ 1; omega) (by show 0 + 6 ≤ 6; omega))
  obtain ⟨w, _⟩ := u34
  obtain ⟨hw35, hO⟩ := hw35
  obtain rfl : v36 = none := hw35
  have hO : OKP G h0 a (upd (upd (upd (upd (upd (upd F 2 (nI sz)) 5 (nI cs8)) 12 (nI vr)) 13 as9) 14 wt10) 15 wf11) (updR (updR R 2 (.ref pq)) 3 (.ref mq)) Z B7 J K6 w := hO.to rfl
  refine W.widen (k := 0) (n := 0) (by show 0 + 0 ≤ 0; omega) (by show 0 + 0 ≤ 0; omega) ?_
  refine W.eq (g2 := F0 m 18 ls []) rfl ?_
  refine lv_aload_n hx hb dX0_choice_18 rfl (lv_at hl 0 rfl) ?_
  refine c_get (v := .int wf11) (C := RX0) (Tc := TX0) (N := 13) (ci := 0) hx hb hq pin_wsX00 hown hE hP hO 24 (sg_24 G h0 a _ _ _ _ _) rfl 10 (by decide) (hq _ pw_157) (fun _ h9 => h9) rfl dX0_choice_19 ?_
  refine lv_istore_n (lv' := [(2, .int wf11), (0, .ref (a 4)), (1, .ref q)]) hx hb dX0_choice_22 rfl hl (by decide) rfl (fun ls hl => ?_)
  refine lv_aload_n hx hb dX0_choice_23 rfl (lv_at hl 1 rfl) ?_
  refine lv_aload_n hx hb dX0_choice_24 rfl (lv_at hl 1 rfl) ?_
  refine c_get (v := .int wt10) (C := RX0) (Tc := TX0) (N := 13) (ci := 0) hx hb hq pin_wsX00 hown hE hP hO 24 (sg_24 G h0 a _ _ _ _ _) rfl 9 (by decide) (hq _ pw_156) (fun _ h9 => h9) rfl dX0_choice_25 ?_
  refine c_put (v := .int wt10) (ty := .int) (C := RX0) (Tc := TX0) (N := 13) (ci := 0) hx hb hq pin_wsX00 tyX0 tyX0_ok nmX0 hown hE hP hD hS hO 24 (sg_24 G h0 a _ _ _ _ _) rfl 8 (by decide) (hq _ pw_55) (fun _ h9 => h9) rfl (by decide +kernel) rfl rfl (Nat.le_of_ble_eq_true rfl) (sf_13 G h0 a _ _ _ _ _ wt10) dX0_choice_28 (fun H locs w hP hD hS hO => ?_)
  refine lv_aload_n hx hb dX0_choice_31 rfl (lv_at hl 1 rfl) ?_
  refine c_get (v := .ref (a 2)) (C := RX0) (Tc := TX0) (N := 13) (ci := 0) hx hb hq pin_wsX00 hown hE hP hO 24 (sg_24 G h0 a _ _ _ _ _) rfl 1 (by decide) (hq _ pw_5) (fun _ h9 => h9) rfl dX0_choice_32 ?_
  refine lv_bipush (v := 7) hx hb dX0_choice_35 (by decide) ?_
  refine lv_iconst (v := (-1)) hx hb dX0_choice_37 (by decide) ?_
  refine lv_iconst (v := 0) hx hb dX0_choice_38 (by decide) ?_
  have hO : OKW G h0 a (upd (upd (upd (upd (upd (upd (upd F 2 (nI sz)) 5 (nI cs8)) 12 (nI vr)) 13 wt10) 14 wt10) 15 wf11) 5 (nI cs8)) (updR (updR R 2 (.ref pq)) 3 (.ref mq)) Z B7 J K6.1 (fun q99 x99 => x99 = rep G a K6 q99) w := hO.to rfl
  obtain ⟨_, qr42, hqr43⟩ := hO.2.1 13 _ (sg_13 G h0 a _ _ _ _ _)
  refine pc_V0 (G := G) (As := [.int 7, .int (-1), .int (nI 0)]) (rest := []) hx hb hml hown hq hE hX pX0_al hP hD hS hA hl.1 (K_jump l G h0 a (upd (upd (upd (upd (upd (upd F 2 (nI sz)) 5 (nI cs8)) 12 (nI vr)) 13 wt10) 14 wt10) 15 wf11) (updR (updR R 2 (.ref pq)) 3 (.ref mq)) Z B7 J K6.1 (fun q99 x99 => x99 = rep G a K6 q99) w 7 (-1) 0 cs8 (by omega) (by omega) hng33 hO) (gV pw_197 pw_198 pw_199 pw_70 pw_132) hV_X1_jump qr42 1 hqr43 rfl rfl rfl (Nat.le_of_ble_eq_true rfl) dX0_choice_39 ⟨(by show 0 + 0 ≤ 1; omega), (by show 0 + 0 ≤ 6; omega)⟩ ⟨(by show 3 + 1 ≤ (5 * n + 33); omega), (by show 8 + (4 + 11) + 83 ≤ (200 * n + 560); omega)⟩ (fun v41 u39 H locs hw40 hP hD hS => ?_)
  obtain ⟨w, cs44, f45, f46, f47, f48, r49⟩ := u39
  obtain ⟨hw40, h50, h51, hO⟩ := hw40
  have h50 : cs8 ≤ cs44 ∧ cs44 ≤ cs8 + 1 ∧ cs44 ≤ 10000 := h50
  have h51 : Nng f47 := h51
  obtain rfl : v41 = some (.int r49) := hw40
  have hO : OKP G h0 a (upd (upd (upd (upd (upd (upd F 2 (nI sz)) 5 (nI cs44)) 12 (nI vr)) 13 wt10) 14 wt10) 15 wf11) (updR (updR R 2 (.ref pq)) 3 (.ref mq)) Z (updA (updA (updA (updA B7 16 f45) 17 f46) 18 f47) 19 f48) J K6 w := hO.to rfl
  refine W.widen (k := 0) (n := 0) (Nat.le_of_ble_eq_true rfl) (Nat.le_of_ble_eq_true rfl) ?_
  refine W.eq (g2 := F0 m 42 ls [.int r49]) rfl ?_
  refine lv_istore_n (lv' := [(3, .int r49), (2, .int wf11), (0, .ref (a 4)), (1, .ref q)]) hx hb dX0_choice_42 rfl hl (by decide) rfl (fun ls hl => ?_)
  refine lv_aload_n hx hb dX0_choice_43 rfl (lv_at hl 2 rfl) ?_
  refine lv_aload_n hx hb dX0_choice_44 rfl (lv_at hl 3 rfl) ?_
  refine p_get (v := .ref q2) (C := RX7) (Tc := TX7) (N := 11) (ci := 13) hx hb hq pin_wsX70 hown hE hP hO (by rw [hf23]; decide) (rep_1 hf23) rfl 7 (by decide) (hq _ pw_169) (fun _ h9 => h9) (congrArg (fun z => some (va_rf z)) hf27) dX0_choice_45 ?_
  have hO : OKP G h0 a (upd (upd (upd (upd (upd (upd (upd (upd (upd (upd F 2 (nI sz)) 5 (nI cs)) 12 (nI vr)) 5 (nI cs44)) 13 wt10) 14 wt10) 15 wf11) 2 (nI sz)) 5 (nI cs44)) 12 (nI vr)) (updR (updR (updR (updR R 2 (.ref pq)) 3 (.ref mq)) 2 (.ref pq)) 3 (.ref mq)) Z (updA (updA (updA (updA B7 16 f45) 17 f46) 18 f47) 19 f48) J K6 w := hO.to rfl
  obtain ⟨_, qr55, hqr56⟩ := hO.2.1 24 _ (sg_24 G h0 a _ _ _ _ _)
  refine pn_V0 (G := G) (As := [.ref q2]) (rest := []) hx hb hml hown hq hE hX pX0_al hP hD hS hA hl.1 ((ihv (by omega)) h0 a (upd (upd (upd (upd (upd (upd (upd F 2 (nI sz)) 5 (nI cs)) 12 (nI vr)) 5 (nI cs44)) 13 wt10) 14 wt10) 15 wf11) (updR (updR R 2 (.ref pq)) 3 (.ref mq)) Z (updA (updA (updA (updA B7 16 f45) 17 f46) 18 f47) 19 f48) J K6 w pq dr ml nd nm cp it s9 q2 mq cs44 vr sz g rk (by omega) (BdE.wp hbe31 hwp) (BdE.pt hbe31 hwp hps) (BdE.rko hbe31 hrk) (by omega) (by omega) h51 hf24 hf28 ⟨hv1.1, (by have z9 := hv1; omega)⟩ hO hl0) (gV pw_173 pw_174 pw_175 pw_63 pw_224) hV_X0_value qr55 0 hqr56 rfl rfl rfl (Nat.le_of_ble_eq_true rfl) dX0_choice_48 ⟨(by show 0 + 1 ≤ 1; omega), (by show 0 + 6 ≤ 6; omega)⟩ ⟨(by show (5 * (n - 1) + 34) + 1 ≤ (5 * n + 33); omega), (by show 8 + (3 + 11) + (200 * (n - 1) + 600) ≤ (200 * n + 560); omega)⟩ (fun v54 u52 H locs hw53 hP hD hS => ?_) (fun ux ce9 q9 H9 locs9 hux hP9 hD9 hS9 hce hcv hcl => pb_out ux (ThQ.up (Thx.same (Thx.same (Thx.same (Thx.b (Thx.b8 (Thx.b (Thx.b (Thx.f (Thx.f (Thx.f (Thx.f (Bth.thx hbb32) (by omega)) (by omega)) (by omega)) (by omega)) (by omega) (by decide)) (by omega) (by decide)) h51) (by omega) (by decide)) rfl) rfl) rfl) (show RhX (updR (updR R 2 (.ref pq)) 3 (.ref mq)) (updR (updR (updR (updR R 2 (.ref pq)) 3 (.ref mq)) 2 (.ref pq)) 3 (.ref mq)) from fun k9 hk9 => by unfold updR; simp only [show ¬ k9 = 1 by omega, show ¬ k9 = 2 by omega, show ¬ k9 = 3 by omega, show ¬ k9 = 4 by omega, if_false]) hux) hnt hlocks hce hcv hcl hP9 hD9 hS9 (by show 0 + 1 ≤ 1; omega) (by show 0 + 6 ≤ 6; omega))
  obtain ⟨w, K57, B58, cs59, as60, wt61, wf62, r63⟩ := u52
  obtain ⟨hw53, h64, h65, h66, hO⟩ := hw53
  have h64 : BdE K6 K57 := h64
  have h65 : Bth (updA (updA (updA (updA B7 16 f45) 17 f46) 18 f47) 19 f48) B58 := h65
  have h66 : cs59 ≤ 10000 := h66
  obtain rfl : v54 = some (.int r63) := hw53
  have hf67 : K57.1 pq = 7 := (BdE.T h64 hf16 (by decide))
  have hf68 : K57.2.2.1 18 pq = some (a 1) := (BdE.C h64 (by rw [hf16]; decide) 18).trans hf17
  have hf69 : K57.2.2.1 14 pq = some dr := (BdE.C h64 (by rw [hf16]; decide) 14).trans hf18
  have hf70 : K57.1 dr = 8 := (BdE.T h64 hf19 (by decide))
  have hf71 : K57.2.2.1 15 pq = some ml := (BdE.C h64 (by rw [hf16]; decide) 15).trans hf20
  have hf72 : K57.1 ml = 5 := (BdE.T h64 hf21 (by decide))
  have hf73 : K57.2.1 24 pq = (nI nd) := (BdE.I h64 (by rw [hf16]; decide) (by decide) (by decide)).trans hf22
  have hf74 : K57.1 q = 1 := (BdE.T h64 hf23 (by decide))
  have hf75 : K57.1 mq = 3 := (BdE.T h64 hf24 (by decide))
  have hf76 : K57.2.2.1 0 q = some q1 := (BdE.C h64 (by rw [hf23]; decide) 0).trans hf25
  have hf77 : K57.1 q1 = 1 := (BdE.T h64 hf26 (by decide))
  have hf78 : K57.2.2.1 1 q = some q2 := (BdE.C h64 (by rw [hf23]; decide) 1).trans hf27
  have hf79 : K57.1 q2 = 1 := (BdE.T h64 hf28 (by decide))
  have hf80 : K57.2.2.1 2 q = some q3 := (BdE.C h64 (by rw [hf23]; decide) 2).trans hf29
  have hf81 : K57.1 q3 = 1 := (BdE.T h64 hf30 (by decide))
  have hO : OKP G h0 a (upd (upd (upd (upd (upd (upd F 2 (nI sz)) 5 (nI cs59)) 12 (nI vr)) 13 as60) 14 wt61) 15 wf62) (updR (updR R 2 (.ref pq)) 3 (.ref mq)) Z B58 J K57 w := hO.to rfl
  refine W.widen (k := 0) (n := 0) (by show 0 + 0 ≤ 0; omega) (by show 0 + 0 ≤ 0; omega) ?_
  refine W.eq (g2 := F0 m 51 ls [.int r63]) rfl ?_
  have hbe82 := BdE.trans hbe31 h64
  have hbb83 : Bth B B58 := Bth.trans (show Thx (upd (upd (upd F 2 (nI sz)) 5 (nI cs)) 12 (nI vr)) (upd (upd (upd (upd (upd (upd (upd F 2 (nI sz)) 5 (nI cs)) 12 (nI vr)) 5 (nI cs44)) 13 wt10) 14 wt10) 15 wf11) B (updA (updA (updA (updA B7 16 f45) 17 f46) 18 f47) 19 f48) from (Thx.b (Thx.b8 (Thx.b (Thx.b (Thx.f (Thx.f (Thx.f (Thx.f (Bth.thx hbb32) (by omega)) (by omega)) (by omega)) (by omega)) (by omega) (by decide)) (by omega) (by decide)) h51) (by omega) (by decide))).2 h65
  have hng84 : Nng (B58 18) := h65.2 h51
  refine lv_istore (lv' := [(4, .int r63), (3, .int r49), (2, .int wf11), (0, .ref (a 4)), (1, .ref q)]) hx hb dX0_choice_51 hl (by decide) rfl (fun ls hl => ?_)
  refine lv_aload_n hx hb dX0_choice_53 rfl (lv_at hl 3 rfl) ?_
  refine c_get (v := .int wt61) (C := RX0) (Tc := TX0) (N := 13) (ci := 0) hx hb hq pin_wsX00 hown hE hP hO 24 (sg_24 G h0 a _ _ _ _ _) rfl 9 (by decide) (hq _ pw_156) (fun _ h9 => h9) rfl dX0_choice_54 ?_
  refine lv_istore (lv' := [(5, .int wt61), (4, .int r63), (3, .int r49), (2, .int wf11), (0, .ref (a 4)), (1, .ref q)]) hx hb dX0_choice_57 hl (by decide) rfl (fun ls hl => ?_)
  refine lv_aload_n hx hb dX0_choice_59 rfl (lv_at hl 4 rfl) ?_
  refine c_get (v := .int wf62) (C := RX0) (Tc := TX0) (N := 13) (ci := 0) hx hb hq pin_wsX00 hown hE hP hO 24 (sg_24 G h0 a _ _ _ _ _) rfl 10 (by decide) (hq _ pw_157) (fun _ h9 => h9) rfl dX0_choice_60 ?_
  refine lv_istore (lv' := [(6, .int wf62), (5, .int wt61), (4, .int r63), (3, .int r49), (2, .int wf11), (0, .ref (a 4)), (1, .ref q)]) hx hb dX0_choice_63 hl (by decide) rfl (fun ls hl => ?_)
  refine lv_aload_n hx hb dX0_choice_65 rfl (lv_at hl 5 rfl) ?_
  refine c_get (v := .ref (a 2)) (C := RX0) (Tc := TX0) (N := 13) (ci := 0) hx hb hq pin_wsX00 hown hE hP hO 24 (sg_24 G h0 a _ _ _ _ _) rfl 1 (by decide) (hq _ pw_5) (fun _ h9 => h9) rfl dX0_choice_66 ?_
  refine lv_bipush (v := 6) hx hb dX0_choice_69 (by decide) ?_
  refine lv_iconst (v := (-1)) hx hb dX0_choice_71 (by decide) ?_
  refine lv_iconst (v := 0) hx hb dX0_choice_72 (by decide) ?_
  have hO : OKW G h0 a (upd (upd (upd (upd (upd (upd (upd F 2 (nI sz)) 5 (nI cs59)) 12 (nI vr)) 13 as60) 14 wt61) 15 wf62) 5 (nI cs59)) (updR (updR R 2 (.ref pq)) 3 (.ref mq)) Z B58 J K57.1 (fun q99 x99 => x99 = rep G a K57 q99) w := hO.to rfl
  obtain ⟨_, qr88, hqr89⟩ := hO.2.1 13 _ (sg_13 G h0 a _ _ _ _ _)
  refine pc_V0 (G := G) (As := [.int 6, .int (-1), .int (nI 0)]) (rest := []) hx hb hml hown hq hE hX pX0_al hP hD hS hA hl.1 (K_jump l G h0 a (upd (upd (upd (upd (upd (upd F 2 (nI sz)) 5 (nI cs59)) 12 (nI vr)) 13 as60) 14 wt61) 15 wf62) (updR (updR R 2 (.ref pq)) 3 (.ref mq)) Z B58 J K57.1 (fun q99 x99 => x99 = rep G a K57 q99) w 6 (-1) 0 cs59 (by omega) (by omega) hng84 hO) (gV pw_197 pw_198 pw_199 pw_70 pw_132) hV_X1_jump qr88 1 hqr89 rfl rfl rfl (Nat.le_of_ble_eq_true rfl) dX0_choice_73 ⟨(by show 0 + 0 ≤ 1; omega), (by show 0 + 0 ≤ 6; omega)⟩ ⟨(by show 3 + 1 ≤ (5 * n + 33); omega), (by show 8 + (4 + 11) + 83 ≤ (200 * n + 560); omega)⟩ (fun v87 u85 H locs hw86 hP hD hS => ?_)
  obtain ⟨w, cs90, f91, f92, f93, f94, r95⟩ := u85
  obtain ⟨hw86, h96, h97, hO⟩ := hw86
  have h96 : cs59 ≤ cs90 ∧ cs90 ≤ cs59 + 1 ∧ cs90 ≤ 10000 := h96
  have h97 : Nng f93 := h97
  obtain rfl : v87 = some (.int r95) := hw86
  have hO : OKP G h0 a (upd (upd (upd (upd (upd (upd F 2 (nI sz)) 5 (nI cs90)) 12 (nI vr)) 13 as60) 14 wt61) 15 wf62) (updR (updR R 2 (.ref pq)) 3 (.ref mq)) Z (updA (updA (updA (updA B58 16 f91) 17 f92) 18 f93) 19 f94) J K57 w := hO.to rfl
  refine W.widen (k := 0) (n := 0) (Nat.le_of_ble_eq_true rfl) (Nat.le_of_ble_eq_true rfl) ?_
  refine W.eq (g2 := F0 m 76 ls [.int r95]) rfl ?_
  refine lv_istore (lv' := [(7, .int r95), (6, .int wf62), (5, .int wt61), (4, .int r63), (3, .int r49), (2, .int wf11), (0, .ref (a 4)), (1, .ref q)]) hx hb dX0_choice_76 hl (by decide) rfl (fun ls hl => ?_)
  refine lv_aload_n hx hb dX0_choice_78 rfl (lv_at hl 6 rfl) ?_
  refine c_get (v := .ref (a 2)) (C := RX0) (Tc := TX0) (N := 13) (ci := 0) hx hb hq pin_wsX00 hown hE hP hO 24 (sg_24 G h0 a _ _ _ _ _) rfl 1 (by decide) (hq _ pw_5) (fun _ h9 => h9) rfl dX0_choice_79 ?_
  refine lv_iload_n hx hb dX0_choice_82 rfl (lv_at hl 4 rfl) ?_
  have hO : OKW G h0 a (upd (upd (upd (upd (upd (upd (upd F 2 (nI sz)) 5 (nI cs90)) 12 (nI vr)) 13 as60) 14 wt61) 15 wf62) 5 (nI cs90)) (updR (updR R 2 (.ref pq)) 3 (.ref mq)) Z (updA (updA (updA (updA B58 16 f91) 17 f92) 18 f93) 19 f94) J K57.1 (fun q99 x99 => x99 = rep G a K57 q99) w := hO.to rfl
  obtain ⟨_, qr101, hqr102⟩ := hO.2.1 13 _ (sg_13 G h0 a _ _ _ _ _)
  refine pc_V0 (G := G) (As := [.int r49]) (rest := []) hx hb hml hown hq hE hX pX0_al hP hD hS hA hl.1 (K_land l G h0 a (upd (upd (upd (upd (upd (upd F 2 (nI sz)) 5 (nI cs90)) 12 (nI vr)) 13 as60) 14 wt61) 15 wf62) (updR (updR R 2 (.ref pq)) 3 (.ref mq)) Z (updA (updA (updA (updA B58 16 f91) 17 f92) 18 f93) 19 f94) J K57.1 (fun q99 x99 => x99 = rep G a K57 q99) w r49 cs90 (by omega) hO) (gV pw_200 pw_201 pw_202 pw_70 pw_134) hV_X1_land qr101 1 hqr102 rfl rfl rfl (Nat.le_of_ble_eq_true rfl) dX0_choice_83 ⟨(by show 0 + 0 ≤ 1; omega), (by show 0 + 0 ≤ 6; omega)⟩ ⟨(by show 2 + 1 ≤ (5 * n + 33); omega), (by show 8 + (5 + 11) + 60 ≤ (200 * n + 560); omega)⟩ (fun v100 u98 H locs hw99 hP hD hS => ?_)
  obtain ⟨w, f103⟩ := u98
  obtain ⟨hw99, hO⟩ := hw99
  obtain rfl : v100 = none := hw99
  have hO : OKP G h0 a (upd (upd (upd (upd (upd (upd F 2 (nI sz)) 5 (nI cs90)) 12 (nI vr)) 13 as60) 14 wt61) 15 wf62) (updR (updR R 2 (.ref pq)) 3 (.ref mq)) Z (updA (updA (updA (updA B58 16 f91) 17 f103) 18 f93) 19 f94) J K57 w := hO.to rfl
  refine W.widen (k := 0) (n := 0) (Nat.le_of_ble_eq_true rfl) (Nat.le_of_ble_eq_true rfl) ?_
  refine W.eq (g2 := F0 m 86 ls []) rfl ?_
  refine lv_aload_n hx hb dX0_choice_86 rfl (lv_at hl 6 rfl) ?_
  refine lv_iload_n hx hb dX0_choice_87 rfl (lv_at hl 5 rfl) ?_
  refine c_put (v := .int wf11) (ty := .int) (C := RX0) (Tc := TX0) (N := 13) (ci := 0) hx hb hq pin_wsX00 tyX0 tyX0_ok nmX0 hown hE hP hD hS hO 24 (sg_24 G h0 a _ _ _ _ _) rfl 8 (by decide) (hq _ pw_55) (fun _ h9 => h9) rfl (by decide +kernel) rfl rfl (Nat.le_of_ble_eq_true rfl) (sf_13 G h0 a _ _ _ _ _ wf11) dX0_choice_88 (fun H locs w hP hD hS hO => ?_)
  refine lv_aload_n hx hb dX0_choice_91 rfl (lv_at hl 6 rfl) ?_
  refine c_get (v := .ref pq) (C := RX0) (Tc := TX0) (N := 13) (ci := 0) hx hb hq pin_wsX00 hown hE hP hO 24 (sg_24 G h0 a _ _ _ _ _) rfl 6 (by decide) (hq _ pw_110) (fun _ h9 => h9) rfl dX0_choice_92 ?_
  refine lv_iload hx hb dX0_choice_95 (lv_at hl 3 rfl) ?_
  refine lv_aload_n hx hb dX0_choice_97 rfl (lv_at hl 6 rfl) ?_
  refine lv_aload_n hx hb dX0_choice_98 rfl (lv_at hl 7 rfl) ?_
  refine p_get (v := .ref q3) (C := RX7) (Tc := TX7) (N := 11) (ci := 13) hx hb hq pin_wsX70 hown hE hP hO (by rw [hf74]; decide) (rep_1 hf74) rfl 8 (by decide) (hq _ pw_196) (fun _ h9 => h9) (congrArg (fun z => some (va_rf z)) hf80) dX0_choice_99 ?_
  have hO : OKP G h0 a (upd (upd (upd (upd (upd (upd (upd (upd (upd (upd F 2 (nI sz)) 5 (nI cs)) 12 (nI vr)) 5 (nI cs90)) 13 wf11) 14 wt61) 15 wf62) 2 (nI sz)) 5 (nI cs90)) 12 (nI vr)) (updR (updR (updR (updR R 2 (.ref pq)) 3 (.ref mq)) 2 (.ref pq)) 3 (.ref mq)) Z (updA (updA (updA (updA B58 16 f91) 17 f103) 18 f93) 19 f94) J K57 w := hO.to rfl
  obtain ⟨_, qr107, hqr108⟩ := hO.2.1 24 _ (sg_24 G h0 a _ _ _ _ _)
  refine pn_V0 (G := G) (As := [.ref q3]) (rest := [.int r63, .ref pq]) hx hb hml hown hq hE hX pX0_al hP hD hS hA hl.1 ((ihv (by omega)) h0 a (upd (upd (upd (upd (upd (upd (upd F 2 (nI sz)) 5 (nI cs)) 12 (nI vr)) 5 (nI cs90)) 13 wf11) 14 wt61) 15 wf62) (updR (updR R 2 (.ref pq)) 3 (.ref mq)) Z (updA (updA (updA (updA B58 16 f91) 17 f103) 18 f93) 19 f94) J K57 w pq dr ml nd nm cp it s9 q3 mq cs90 vr sz g rk (by omega) (BdE.wp hbe82 hwp) (BdE.pt hbe82 hwp hps) (BdE.rko hbe82 hrk) (by omega) (by omega) h97 hf75 hf81 ⟨hv2.1, (by have z9 := hv2; omega)⟩ hO hl0) (gV pw_173 pw_174 pw_175 pw_63 pw_224) hV_X0_value qr107 0 hqr108 rfl rfl rfl (Nat.le_of_ble_eq_true rfl) dX0_choice_102 ⟨(by show 0 + 1 ≤ 1; omega), (by show 0 + 6 ≤ 6; omega)⟩ ⟨(by show (5 * (n - 1) + 34) + 1 ≤ (5 * n + 33); omega), (by show 8 + (3 + 11) + (200 * (n - 1) + 600) ≤ (200 * n + 560); omega)⟩ (fun v106 u104 H locs hw105 hP hD hS => ?_) (fun ux ce9 q9 H9 locs9 hux hP9 hD9 hS9 hce hcv hcl => pb_out ux (ThQ.up (Thx.same (Thx.same (Thx.same (Thx.b (Thx.b8 (Thx.b (Thx.b (Thx.f (Thx.f (Thx.f (Thx.f (Bth.thx hbb83) (by omega)) (by omega)) (by omega)) (by omega)) (by omega) (by decide)) (by omega) (by decide)) h97) (by omega) (by decide)) rfl) rfl) rfl) (show RhX (updR (updR R 2 (.ref pq)) 3 (.ref mq)) (updR (updR (updR (updR R 2 (.ref pq)) 3 (.ref mq)) 2 (.ref pq)) 3 (.ref mq)) from fun k9 hk9 => by unfold updR; simp only [show ¬ k9 = 1 by omega, show ¬ k9 = 2 by omega, show ¬ k9 = 3 by omega, show ¬ k9 = 4 by omega, if_false]) hux) hnt hlocks hce hcv hcl hP9 hD9 hS9 (by show 0 + 1 ≤ 1; omega) (by show 0 + 6 ≤ 6; omega))
  obtain ⟨w, K109, B110, cs111, as112, wt113, wf114, r115⟩ := u104
  obtain ⟨hw105, h116, h117, h118, hO⟩ := hw105
  have h116 : BdE K57 K109 := h116
  have h117 : Bth (updA (updA (updA (updA B58 16 f91) 17 f103) 18 f93) 19 f94) B110 := h117
  have h118 : cs111 ≤ 10000 := h118
  obtain rfl : v106 = some (.int r115) := hw105
  have hf119 : K109.1 pq = 7 := (BdE.T h116 hf67 (by decide))
  have hf120 : K109.2.2.1 18 pq = some (a 1) := (BdE.C h116 (by rw [hf67]; decide) 18).trans hf68
  have hf121 : K109.2.2.1 14 pq = some dr := (BdE.C h116 (by rw [hf67]; decide) 14).trans hf69
  have hf122 : K109.1 dr = 8 := (BdE.T h116 hf70 (by decide))
  have hf123 : K109.2.2.1 15 pq = some ml := (BdE.C h116 (by rw [hf67]; decide) 15).trans hf71
  have hf124 : K109.1 ml = 5 := (BdE.T h116 hf72 (by decide))
  have hf125 : K109.2.1 24 pq = (nI nd) := (BdE.I h116 (by rw [hf67]; decide) (by decide) (by decide)).trans hf73
  have hf126 : K109.1 q = 1 := (BdE.T h116 hf74 (by decide))
  have hf127 : K109.1 mq = 3 := (BdE.T h116 hf75 (by decide))
  have hf128 : K109.2.2.1 0 q = some q1 := (BdE.C h116 (by rw [hf74]; decide) 0).trans hf76
  have hf129 : K109.1 q1 = 1 := (BdE.T h116 hf77 (by decide))
  have hf130 : K109.2.2.1 1 q = some q2 := (BdE.C h116 (by rw [hf74]; decide) 1).trans hf78
  have hf131 : K109.1 q2 = 1 := (BdE.T h116 hf79 (by decide))
  have hf132 : K109.2.2.1 2 q = some q3 := (BdE.C h116 (by rw [hf74]; decide) 2).trans hf80
  have hf133 : K109.1 q3 = 1 := (BdE.T h116 hf81 (by decide))
  have hO : OKP G h0 a (upd (upd (upd (upd (upd (upd F 2 (nI sz)) 5 (nI cs111)) 12 (nI vr)) 13 as112) 14 wt113) 15 wf114) (updR (updR R 2 (.ref pq)) 3 (.ref mq)) Z B110 J K109 w := hO.to rfl
  refine W.widen (k := 0) (n := 0) (by show 0 + 0 ≤ 0; omega) (by show 0 + 0 ≤ 0; omega) ?_
  refine W.eq (g2 := F0 m 105 ls [.int r115, .int r63, .ref pq]) rfl ?_
  have hbe134 := BdE.trans hbe82 h116
  have hbb135 : Bth B B110 := Bth.trans (show Thx (upd (upd (upd F 2 (nI sz)) 5 (nI cs)) 12 (nI vr)) (upd (upd (upd (upd (upd (upd (upd F 2 (nI sz)) 5 (nI cs)) 12 (nI vr)) 5 (nI cs90)) 13 wf11) 14 wt61) 15 wf62) B (updA (updA (updA (updA B58 16 f91) 17 f103) 18 f93) 19 f94) from (Thx.b (Thx.b8 (Thx.b (Thx.b (Thx.f (Thx.f (Thx.f (Thx.f (Bth.thx hbb83) (by omega)) (by omega)) (by omega)) (by omega)) (by omega) (by decide)) (by omega) (by decide)) h97) (by omega) (by decide))).2 h117
  have hng136 : Nng (B110 18) := h117.2 h97
  have hO : OKP G h0 a (upd (upd (upd (upd (upd (upd F 2 (nI sz)) 5 (nI cs111)) 12 (nI vr)) 13 as112) 14 wt113) 15 wf114) (updR (updR R 2 (.ref pq)) 3 (.ref mq)) Z B110 J K109 w := hO.to rfl
  obtain ⟨qr140, hqr141⟩ := p_recv hO (by rw [hf119]; decide) (rep_7 hf119)
  refine pc_V0 (G := G) (As := [.int r63, .int r115]) (rest := []) hx hb hml hown hq hE hX pX0_al hP hD hS hA hl.1 (G_common l G h0 a (upd (upd (upd (upd (upd (upd F 2 (nI sz)) 5 (nI cs111)) 12 (nI vr)) 13 as112) 14 wt113) 15 wf114) (updR (updR R 2 (.ref pq)) 3 (.ref mq)) Z B110 J K109 w pq dr ml nd r63 r115 g (BdE.pt hbe134 hwp hps).1 (BdE.pt hbe134 hwp hps).2.1 hO) (gV pw_203 pw_204 pw_205 pw_106 pw_135) hV_X9_common qr140 6 hqr141 rfl rfl rfl (Nat.le_of_ble_eq_true rfl) dX0_choice_105 ⟨(by show 0 + 0 ≤ 1; omega), (by show 0 + 0 ≤ 6; omega)⟩ ⟨(by show 4 + 1 ≤ (5 * n + 33); omega), (by show 8 + (3 + 11) + 104 ≤ (200 * n + 560); omega)⟩ (fun v139 u137 H locs hw138 hP hD hS => ?_)
  obtain ⟨w, r142⟩ := u137
  obtain ⟨hw138, hO⟩ := hw138
  obtain rfl : v139 = some (.int r142) := hw138
  have hO : OKP G h0 a (upd (upd (upd (upd (upd (upd F 2 (nI sz)) 5 (nI cs111)) 12 (nI vr)) 13 as112) 14 wt113) 15 wf114) (updR (updR R 2 (.ref pq)) 3 (.ref mq)) Z B110 J K109 w := hO.to rfl
  refine W.widen (k := 0) (n := 0) (Nat.le_of_ble_eq_true rfl) (Nat.le_of_ble_eq_true rfl) ?_
  refine W.eq (g2 := F0 m 108 ls [.int r142]) rfl ?_
  refine lv_istore (lv' := [(8, .int r142), (7, .int r95), (6, .int wf62), (5, .int wt61), (4, .int r63), (3, .int r49), (2, .int wf11), (0, .ref (a 4)), (1, .ref q)]) hx hb dX0_choice_108 hl (by decide) rfl (fun ls hl => ?_)
  refine lv_iload hx hb dX0_choice_110 (lv_at hl 0 rfl) ?_
  refine lv_bipush (v := 63) hx hb dX0_choice_112 (by decide) ?_
  refine lv_icmp_ne (tgt := 130) hx hb dX0_choice_114 (by decide) (fun c143 => ?_) (fun c143 => ?_)
  · refine lv_aload_n hx hb dX0_choice_130 rfl (lv_at hl 7 rfl) ?_
    refine c_get (v := .ref (a 2)) (C := RX0) (Tc := TX0) (N := 13) (ci := 0) hx hb hq pin_wsX00 hown hE hP hO 24 (sg_24 G h0 a _ _ _ _ _) rfl 1 (by decide) (hq _ pw_5) (fun _ h9 => h9) rfl dX0_choice_131 ?_
    refine lv_iload hx hb dX0_choice_134 (lv_at hl 1 rfl) ?_
    have hO : OKW G h0 a (upd (upd (upd (upd (upd (upd (upd F 2 (nI sz)) 5 (nI cs111)) 12 (nI vr)) 13 as112) 14 wt113) 15 wf114) 5 (nI cs111)) (updR (updR R 2 (.ref pq)) 3 (.ref mq)) Z B110 J K109.1 (fun q99 x99 => x99 = rep G a K109 q99) w := hO.to rfl
    obtain ⟨_, qr147, hqr148⟩ := hO.2.1 13 _ (sg_13 G h0 a _ _ _ _ _)
    refine pc_V0 (G := G) (As := [.int r95]) (rest := []) hx hb hml hown hq hE hX pX0_al hP hD hS hA hl.1 (K_land l G h0 a (upd (upd (upd (upd (upd (upd F 2 (nI sz)) 5 (nI cs111)) 12 (nI vr)) 13 as112) 14 wt113) 15 wf114) (updR (updR R 2 (.ref pq)) 3 (.ref mq)) Z B110 J K109.1 (fun q99 x99 => x99 = rep G a K109 q99) w r95 cs111 (by omega) hO) (gV pw_200 pw_201 pw_202 pw_70 pw_134) hV_X1_land qr147 1 hqr148 rfl rfl rfl (Nat.le_of_ble_eq_true rfl) dX0_choice_136 ⟨(by show 0 + 0 ≤ 1; omega), (by show 0 + 0 ≤ 6; omega)⟩ ⟨(by show 2 + 1 ≤ (5 * n + 33); omega), (by show 8 + (5 + 11) + 60 ≤ (200 * n + 560); omega)⟩ (fun v146 u144 H locs hw145 hP hD hS => ?_)
    obtain ⟨w, f149⟩ := u144
    obtain ⟨hw145, hO⟩ := hw145
    obtain rfl : v146 = none := hw145
    have hO : OKP G h0 a (upd (upd (upd (upd (upd (upd F 2 (nI sz)) 5 (nI cs111)) 12 (nI vr)) 13 as112) 14 wt113) 15 wf114) (updR (updR R 2 (.ref pq)) 3 (.ref mq)) Z (updA B110 17 f149) J K109 w := hO.to rfl
    refine W.widen (k := 0) (n := 0) (Nat.le_of_ble_eq_true rfl) (Nat.le_of_ble_eq_true rfl) ?_
    refine W.eq (g2 := F0 m 139 ls []) rfl ?_
    refine lv_aload_n hx hb dX0_choice_139 rfl (lv_at hl 7 rfl) ?_
    refine lv_dup hx hb dX0_choice_140 rfl ?_
    refine c_get (v := .int wt113) (C := RX0) (Tc := TX0) (N := 13) (ci := 0) hx hb hq pin_wsX00 hown hE hP hO 24 (sg_24 G h0 a _ _ _ _ _) rfl 9 (by decide) (hq _ pw_156) (fun _ h9 => h9) rfl dX0_choice_141 ?_
    refine lv_iload hx hb dX0_choice_144 (lv_at hl 3 rfl) ?_
    refine lv_iand hx hb dX0_choice_146 ?_
    refine lv_topi (fun x150 e151 => ?_)
    refine c_put (v := .int x150) (ty := .int) (C := RX0) (Tc := TX0) (N := 13) (ci := 0) hx hb hq pin_wsX00 tyX0 tyX0_ok nmX0 hown hE hP hD hS hO 24 (sg_24 G h0 a _ _ _ _ _) rfl 9 (by decide) (hq _ pw_156) (fun _ h9 => h9) rfl (by decide +kernel) rfl rfl (Nat.le_of_ble_eq_true rfl) (sf_14 G h0 a _ _ _ _ _ x150) dX0_choice_147 (fun H locs w hP hD hS hO => ?_)
    refine lv_aload_n hx hb dX0_choice_150 rfl (lv_at hl 7 rfl) ?_
    refine lv_dup hx hb dX0_choice_151 rfl ?_
    refine c_get (v := .int wf114) (C := RX0) (Tc := TX0) (N := 13) (ci := 0) hx hb hq pin_wsX00 hown hE hP hO 24 (sg_24 G h0 a _ _ _ _ _) rfl 10 (by decide) (hq _ pw_157) (fun _ h9 => h9) rfl dX0_choice_152 ?_
    refine lv_iload hx hb dX0_choice_155 (lv_at hl 2 rfl) ?_
    refine lv_iand hx hb dX0_choice_157 ?_
    refine lv_topi (fun x152 e153 => ?_)
    refine c_put (v := .int x152) (ty := .int) (C := RX0) (Tc := TX0) (N := 13) (ci := 0) hx hb hq pin_wsX00 tyX0 tyX0_ok nmX0 hown hE hP hD hS hO 24 (sg_24 G h0 a _ _ _ _ _) rfl 10 (by decide) (hq _ pw_157) (fun _ h9 => h9) rfl (by decide +kernel) rfl rfl (Nat.le_of_ble_eq_true rfl) (sf_15 G h0 a _ _ _ _ _ x152) dX0_choice_158 (fun H locs w hP hD hS hO => ?_)
    refine lv_aload_n hx hb dX0_choice_161 rfl (lv_at hl 7 rfl) ?_
    refine lv_aload_n hx hb dX0_choice_162 rfl (lv_at hl 7 rfl) ?_
    refine c_get (v := .int x150) (C := RX0) (Tc := TX0) (N := 13) (ci := 0) hx hb hq pin_wsX00 hown hE hP hO 24 (sg_24 G h0 a _ _ _ _ _) rfl 9 (by decide) (hq _ pw_156) (fun _ h9 => h9) rfl dX0_choice_163 ?_
    refine lv_aload_n hx hb dX0_choice_166 rfl (lv_at hl 7 rfl) ?_
    refine c_get (v := .int x152) (C := RX0) (Tc := TX0) (N := 13) (ci := 0) hx hb hq pin_wsX00 hown hE hP hO 24 (sg_24 G h0 a _ _ _ _ _) rfl 10 (by decide) (hq _ pw_157) (fun _ h9 => h9) rfl dX0_choice_167 ?_
    refine lv_iand hx hb dX0_choice_170 ?_
    refine lv_topi (fun x154 e155 => ?_)
    refine c_put (v := .int x154) (ty := .int) (C := RX0) (Tc := TX0) (N := 13) (ci := 0) hx hb hq pin_wsX00 tyX0 tyX0_ok nmX0 hown hE hP hD hS hO 24 (sg_24 G h0 a _ _ _ _ _) rfl 8 (by decide) (hq _ pw_55) (fun _ h9 => h9) rfl (by decide +kernel) rfl rfl (Nat.le_of_ble_eq_true rfl) (sf_13 G h0 a _ _ _ _ _ x154) dX0_choice_171 (fun H locs w hP hD hS hO => ?_)
    refine lv_iload hx hb dX0_choice_174 (lv_at hl 0 rfl) ?_
    refine W_size (fun hz1 hz2 => ?_)
    refine vx_ret ?_
    have hz156 : BdE K K109 := hbe134
    have hz157 : Bth B (updA B110 17 f149) := (show Thx (upd (upd (upd F 2 (nI sz)) 5 (nI cs)) 12 (nI vr)) (upd (upd (upd (upd (upd (upd (upd F 2 (nI sz)) 5 (nI cs)) 12 (nI vr)) 5 (nI cs111)) 13 x154) 14 x150) 15 x152) B (updA B110 17 f149) from (Thx.b (Thx.f (Thx.f (Thx.f (Thx.f (Bth.thx hbb135) (by omega)) (by omega)) (by omega)) (by omega)) (by omega) (by decide))).2
    have hz158 : cs111 ≤ 10000 := (by omega)
    have hO : OKP G h0 a (upd (upd (upd (upd (upd (upd F 2 (nI sz)) 5 (nI cs111)) 12 (nI vr)) 13 x154) 14 x150) 15 x152) (updR (updR R 2 (.ref pq)) 3 (.ref mq)) Z (updA B110 17 f149) J K109 w := hO.to rfl
    refine W.widen (k := 1) (n := 6) (by omega) (by omega) ?_
    have hzz1 : H.size ≤ s.heap.size + (0) := (by have z : 0 ≤ 0 := (by omega); omega)
    have hzz2 : hSl H ≤ hSl s.heap + (0) := (by have z : 0 ≤ 0 := (by omega); omega)
    exact W.iret (v := r142) hx hb hr (fun t99 ht99 hW99 => ⟨⟨_, (w, (K109, (updA B110 17 f149), cs111, x154, x150, x152, r142)), rfl, ⟨rfl, hz156, hz157, hz158, hO⟩, by rw [ht99]; exact hP, hD, by rw [ht99]; exact hzz1, by rw [ht99]; exact hzz2⟩, hS.F ht99⟩) hS.2.2 dX0_choice_176
  · refine lv_aload_n hx hb dX0_choice_117 rfl (lv_at hl 7 rfl) ?_
    refine c_get (v := .ref (a 1)) (C := RX0) (Tc := TX0) (N := 13) (ci := 0) hx hb hq pin_wsX00 hown hE hP hO 24 (sg_24 G h0 a _ _ _ _ _) rfl 0 (by decide) (hq _ pw_4) (fun _ h9 => h9) rfl dX0_choice_118 ?_
    refine lv_bipush (v := 11) hx hb dX0_choice_121 (by decide) ?_
    refine lv_aload_n hx hb dX0_choice_123 rfl (lv_at hl 8 rfl) ?_
    refine p_get (v := .int (K109.2.1 1 q)) (C := RX7) (Tc := TX7) (N := 11) (ci := 13) hx hb hq pin_wsX70 hown hE hP hO (by rw [hf126]; decide) (rep_1 hf126) rfl 1 (by decide) (hq _ pw_81) (fun _ h9 => h9) rfl dX0_choice_124 ?_
    have hO : OKW G h0 a (upd (upd (upd (upd (upd (upd (upd (upd F 2 (nI sz)) 5 (nI cs)) 12 (nI vr)) 5 (nI cs111)) 13 as112) 14 wt113) 15 wf114) 2 (nI sz)) (updR (updR R 2 (.ref pq)) 3 (.ref mq)) Z B110 J K109.1 (fun q99 x99 => x99 = rep G a K109 q99) w := hO.to rfl
    obtain ⟨_, qr162, hqr163⟩ := hO.2.1 2 _ (sg_2 G h0 a _ _ _ _ _)
    refine pn_V0 (G := G) (As := [.int 11, .int (K109.2.1 1 q)]) (rest := []) hx hb hml hown hq hE hX pX0_al hP hD hS hA hl.1 (K_fail l G h0 a (upd (upd (upd (upd (upd (upd (upd F 2 (nI sz)) 5 (nI cs)) 12 (nI vr)) 5 (nI cs111)) 13 as112) 14 wt113) 15 wf114) (updR (updR R 2 (.ref pq)) 3 (.ref mq)) Z B110 J K109.1 (fun q99 x99 => x99 = rep G a K109 q99) w 11 (K109.2.1 1 q) sz (by omega) hO hl0) (gV pw_64 pw_65 pw_66 pw_59 pw_43) hV_X10_fail qr162 7 hqr163 rfl rfl rfl (Nat.le_of_ble_eq_true rfl) dX0_choice_127 ⟨(by show 0 + 1 ≤ 1; omega), (by show 0 + 6 ≤ 6; omega)⟩ ⟨(by show 6 + 1 ≤ (5 * n + 33); omega), (by show 8 + (3 + 11) + 100 ≤ (200 * n + 560); omega)⟩ (fun v161 u159 H locs hw160 hP hD hS => hw160.elim) (fun ux ce9 q9 H9 locs9 hux hP9 hD9 hS9 hce hcv hcl => pb_out ux (ThQ.up (Thx.same (Thx.f (Thx.f (Thx.f (Thx.f (Bth.thx hbb135) (by omega)) (by omega)) (by omega)) (by omega)) rfl) RhX.rfl hux) hnt hlocks hce hcv hcl hP9 hD9 hS9 (by show 0 + 1 ≤ 1; omega) (by show 0 + 6 ≤ 6; omega))
theorem dX0_sign_0 : decode cX0_sign 0 = .ok (.aload_n 0, 1) := by decide +kernel
theorem dX0_sign_1 : decode cX0_sign 1 = .ok (.aload_n 1, 1) := by decide +kernel
theorem dX0_sign_2 : decode cX0_sign 2 = .ok (.getfield 165, 3) := by decide +kernel
theorem dX0_sign_5 : decode cX0_sign 5 = .ok (.invokevirtual 209, 3) := by decide +kernel
theorem dX0_sign_8 : decode cX0_sign 8 = .ok (.istore_n 3, 1) := by decide +kernel
theorem dX0_sign_9 : decode cX0_sign 9 = .ok (.iload_n 2, 1) := by decide +kernel
theorem dX0_sign_10 : decode cX0_sign 10 = .ok (.tableswitch 156 49 59 #[102, 102, 102, 156, 156, 156, 156, 156, 156, 58, 58], 58) := by decide +kernel
theorem dX0_sign_112 : decode cX0_sign 112 = .ok (.iload_n 3, 1) := by decide +kernel
theorem dX0_sign_113 : decode cX0_sign 113 = .ok (.bipush 60, 2) := by decide +kernel
theorem dX0_sign_115 : decode cX0_sign 115 = .ok (.if_icmp .eq 25, 3) := by decide +kernel
theorem dX0_sign_140 : decode cX0_sign 140 = .ok (.aload_n 0, 1) := by decide +kernel
theorem dX0_sign_141 : decode cX0_sign 141 = .ok (.aload_n 1, 1) := by decide +kernel
theorem dX0_sign_142 : decode cX0_sign 142 = .ok (.getfield 202, 3) := by decide +kernel
theorem dX0_sign_145 : decode cX0_sign 145 = .ok (.aload_n 0, 1) := by decide +kernel
theorem dX0_sign_146 : decode cX0_sign 146 = .ok (.aload_n 1, 1) := by decide +kernel
theorem dX0_sign_147 : decode cX0_sign 147 = .ok (.getfield 202, 3) := by decide +kernel
theorem dX0_sign_150 : decode cX0_sign 150 = .ok (.invokevirtual 209, 3) := by decide +kernel
theorem dX0_sign_153 : decode cX0_sign 153 = .ok (.iload_n 3, 1) := by decide +kernel
theorem dX0_sign_154 : decode cX0_sign 154 = .ok (.invokevirtual 213, 3) := by decide +kernel
theorem dX0_sign_157 : decode cX0_sign 157 = .ok (.aload_n 0, 1) := by decide +kernel
theorem dX0_sign_158 : decode cX0_sign 158 = .ok (.bipush 10, 2) := by decide +kernel
theorem dX0_sign_160 : decode cX0_sign 160 = .ok (.iload_n 2, 1) := by decide +kernel
theorem dX0_sign_161 : decode cX0_sign 161 = .ok (.iload_n 3, 1) := by decide +kernel
theorem dX0_sign_162 : decode cX0_sign 162 = .ok (.invokevirtual 344, 3) := by decide +kernel
theorem dX0_sign_165 : decode cX0_sign 165 = .ok (.ireturn, 1) := by decide +kernel
theorem dX0_sign_118 : decode cX0_sign 118 = .ok (.iload_n 3, 1) := by decide +kernel
theorem dX0_sign_119 : decode cX0_sign 119 = .ok (.bipush 61, 2) := by decide +kernel
theorem dX0_sign_121 : decode cX0_sign 121 = .ok (.if_icmp .eq 19, 3) := by decide +kernel
theorem dX0_sign_124 : decode cX0_sign 124 = .ok (.aload_n 0, 1) := by decide +kernel
theorem dX0_sign_125 : decode cX0_sign 125 = .ok (.getfield 9, 3) := by decide +kernel
theorem dX0_sign_128 : decode cX0_sign 128 = .ok (.bipush 11, 2) := by decide +kernel
theorem dX0_sign_130 : decode cX0_sign 130 = .ok (.aload_n 1, 1) := by decide +kernel
theorem dX0_sign_131 : decode cX0_sign 131 = .ok (.getfield 165, 3) := by decide +kernel
theorem dX0_sign_134 : decode cX0_sign 134 = .ok (.getfield 117, 3) := by decide +kernel
theorem dX0_sign_137 : decode cX0_sign 137 = .ok (.invokevirtual 136, 3) := by decide +kernel
theorem dX0_sign_166 : decode cX0_sign 166 = .ok (.aload_n 0, 1) := by decide +kernel
theorem dX0_sign_167 : decode cX0_sign 167 = .ok (.aload_n 1, 1) := by decide +kernel
theorem dX0_sign_168 : decode cX0_sign 168 = .ok (.getfield 165, 3) := by decide +kernel
theorem dX0_sign_171 : decode cX0_sign 171 = .ok (.iload_n 3, 1) := by decide +kernel
theorem dX0_sign_172 : decode cX0_sign 172 = .ok (.bipush 60, 2) := by decide +kernel
theorem dX0_sign_174 : decode cX0_sign 174 = .ok (.invokevirtual 213, 3) := by decide +kernel
theorem dX0_sign_177 : decode cX0_sign 177 = .ok (.aload_n 0, 1) := by decide +kernel
theorem dX0_sign_178 : decode cX0_sign 178 = .ok (.aload_n 1, 1) := by decide +kernel
theorem dX0_sign_179 : decode cX0_sign 179 = .ok (.getfield 202, 3) := by decide +kernel
theorem dX0_sign_182 : decode cX0_sign 182 = .ok (.aload_n 0, 1) := by decide +kernel
theorem dX0_sign_183 : decode cX0_sign 183 = .ok (.aload_n 1, 1) := by decide +kernel
theorem dX0_sign_184 : decode cX0_sign 184 = .ok (.getfield 202, 3) := by decide +kernel
theorem dX0_sign_187 : decode cX0_sign 187 = .ok (.invokevirtual 209, 3) := by decide +kernel
theorem dX0_sign_190 : decode cX0_sign 190 = .ok (.bipush 60, 2) := by decide +kernel
theorem dX0_sign_192 : decode cX0_sign 192 = .ok (.invokevirtual 213, 3) := by decide +kernel
theorem dX0_sign_195 : decode cX0_sign 195 = .ok (.iload_n 2, 1) := by decide +kernel
theorem dX0_sign_196 : decode cX0_sign 196 = .ok (.bipush 54, 2) := by decide +kernel
theorem dX0_sign_198 : decode cX0_sign 198 = .ok (.if_icmp .lt 13, 3) := by decide +kernel
theorem dX0_sign_211 : decode cX0_sign 211 = .ok (.iconst 0, 1) := by decide +kernel
theorem dX0_sign_212 : decode cX0_sign 212 = .ok (.istore 4, 2) := by decide +kernel
theorem dX0_sign_214 : decode cX0_sign 214 = .ok (.aload_n 0, 1) := by decide +kernel
theorem dX0_sign_215 : decode cX0_sign 215 = .ok (.bipush 10, 2) := by decide +kernel
theorem dX0_sign_217 : decode cX0_sign 217 = .ok (.iload_n 2, 1) := by decide +kernel
theorem dX0_sign_218 : decode cX0_sign 218 = .ok (.iload 4, 2) := by decide +kernel
theorem dX0_sign_220 : decode cX0_sign 220 = .ok (.ifCond .eq 8, 3) := by decide +kernel
theorem dX0_sign_228 : decode cX0_sign 228 = .ok (.bipush 60, 2) := by decide +kernel
theorem dX0_sign_230 : decode cX0_sign 230 = .ok (.invokevirtual 344, 3) := by decide +kernel
theorem dX0_sign_233 : decode cX0_sign 233 = .ok (.ireturn, 1) := by decide +kernel
theorem dX0_sign_201 : decode cX0_sign 201 = .ok (.iload_n 2, 1) := by decide +kernel
theorem dX0_sign_202 : decode cX0_sign 202 = .ok (.bipush 57, 2) := by decide +kernel
theorem dX0_sign_204 : decode cX0_sign 204 = .ok (.if_icmp .gt 7, 3) := by decide +kernel
theorem dX0_sign_207 : decode cX0_sign 207 = .ok (.iconst 1, 1) := by decide +kernel
theorem dX0_sign_208 : decode cX0_sign 208 = .ok (.goto 4, 3) := by decide +kernel
theorem dX0_sign_223 : decode cX0_sign 223 = .ok (.bipush 61, 2) := by decide +kernel
theorem dX0_sign_225 : decode cX0_sign 225 = .ok (.goto 5, 3) := by decide +kernel
theorem dX0_sign_68 : decode cX0_sign 68 = .ok (.aload_n 0, 1) := by decide +kernel
theorem dX0_sign_69 : decode cX0_sign 69 = .ok (.getfield 29, 3) := by decide +kernel
theorem dX0_sign_72 : decode cX0_sign 72 = .ok (.iload_n 3, 1) := by decide +kernel
theorem dX0_sign_73 : decode cX0_sign 73 = .ok (.aload_n 0, 1) := by decide +kernel
theorem dX0_sign_74 : decode cX0_sign 74 = .ok (.aload_n 1, 1) := by decide +kernel
theorem dX0_sign_75 : decode cX0_sign 75 = .ok (.getfield 202, 3) := by decide +kernel
theorem dX0_sign_78 : decode cX0_sign 78 = .ok (.invokevirtual 209, 3) := by decide +kernel
theorem dX0_sign_81 : decode cX0_sign 81 = .ok (.invokevirtual 376, 3) := by decide +kernel
theorem dX0_sign_84 : decode cX0_sign 84 = .ok (.bipush 63, 2) := by decide +kernel
theorem dX0_sign_86 : decode cX0_sign 86 = .ok (.if_icmp .ne 16, 3) := by decide +kernel
theorem dX0_sign_102 : decode cX0_sign 102 = .ok (.aload_n 0, 1) := by decide +kernel
theorem dX0_sign_103 : decode cX0_sign 103 = .ok (.bipush 10, 2) := by decide +kernel
theorem dX0_sign_105 : decode cX0_sign 105 = .ok (.iload_n 2, 1) := by decide +kernel
theorem dX0_sign_106 : decode cX0_sign 106 = .ok (.bipush 61, 2) := by decide +kernel
theorem dX0_sign_108 : decode cX0_sign 108 = .ok (.invokevirtual 344, 3) := by decide +kernel
theorem dX0_sign_111 : decode cX0_sign 111 = .ok (.ireturn, 1) := by decide +kernel
theorem dX0_sign_89 : decode cX0_sign 89 = .ok (.aload_n 0, 1) := by decide +kernel
theorem dX0_sign_90 : decode cX0_sign 90 = .ok (.getfield 9, 3) := by decide +kernel
theorem dX0_sign_93 : decode cX0_sign 93 = .ok (.bipush 11, 2) := by decide +kernel
theorem dX0_sign_95 : decode cX0_sign 95 = .ok (.aload_n 1, 1) := by decide +kernel
theorem dX0_sign_96 : decode cX0_sign 96 = .ok (.getfield 114, 3) := by decide +kernel
theorem dX0_sign_99 : decode cX0_sign 99 = .ok (.invokevirtual 136, 3) := by decide +kernel
set_option maxHeartbeats 16000000 in
set_option maxRecDepth 100000 in
theorem B_sign (l : Launch) (G : pT) (h0 : Nat) (a : Nat → Nat) (F : Nat → Int32) (R : Nat → Value) (Z : Int64) (B : Nat → Nat → Int32) (J : Nat → Nat → Int64) (K : PK) (w : va_W) (pq : Nat) (dr : Nat) (ml : Nat) (nd : Nat) (nm : Nat) (cp : Nat) (it : Nat → Nat) (s9 : Nat) (q : Nat) (mq : Nat) (cs : Nat) (vr : Nat) (sz : Nat) (n : Nat) (q1 : Nat) (q2 : Nat) (x : Int32) (g : Nat → Nat → Nat) (rk : Nat → Nat) (hsz : sz ≤ 5000) (hwp : WPr G K g) (hps : PgT G K g (a 1) pq dr ml nd nm cp it s9) (hrk : RkO K rk) (hcs : cs ≤ 10000) (hvr : vr ≤ 30) (hng : Nng (B 18)) (hmq : K.1 mq = 3) (hqT : K.1 q = 1) (hqL : 1 ≤ g 0 q ∧ g 0 q ≤ n) (hc0 : K.2.2.1 0 q = some q1) (ht0 : K.1 q1 = 1) (hv0 : 1 ≤ g 0 q1 ∧ g 0 q1 + 1 ≤ n) (hc1 : K.2.2.1 1 q = some q2) (ht1 : K.1 q2 = 1) (hv1 : 1 ≤ g 0 q2 ∧ g 0 q2 + 1 ≤ n) (ihv : IhV l G n) (hO : OKP G h0 a (upd (upd (upd F 2 (nI sz)) 5 (nI cs)) 12 (nI vr)) (updR (updR R 2 (.ref pq)) 3 (.ref mq)) Z B J K w) (hl0 : l.stackTraces = false) : PBn l G pX0 yX0_sign cX0_sign 5 (some .int) ({ frames := (5 * n + 33), cells := 1, slots := 6, locals := (200 * n + 560) }) [.ref (a 4), .ref q, .int x] w (fun (v : Option Value) (u : va_W × (PK × (Nat → Nat → Int32) × Nat × Int32 × Int32 × Int32 × Int32)) => v = some (.int u.2.2.2.2.2.2.2) ∧ (BdE K u.2.1) ∧ (Bth B u.2.2.1) ∧ (u.2.2.2.1 ≤ 10000) ∧ (OKP G h0 a (upd (upd (upd (upd (upd (upd F 2 (nI sz)) 5 (nI u.2.2.2.1)) 12 (nI vr)) 13 u.2.2.2.2.1) 14 u.2.2.2.2.2.1) 15 u.2.2.2.2.2.2.1) (updR (updR R 2 (.ref pq)) 3 (.ref mq)) Z u.2.2.1 J u.2.1 u.1)) (fun u => u.1) (fun (u : va_W × (PK × (Nat → Nat → Int32) × Nat × Int32 × Int32 × Int32 × Int32)) => 0) (fun (u : va_W × (PK × (Nat → Nat → Int32) × Nat × Int32 × Int32 × Int32 × Int32)) => 0) (fun (u : va_W × (Nat → Int32) × (Nat → Value) × (Nat → Nat → Int32)) => ThQ G h0 a (upd (upd (upd F 2 (nI sz)) 5 (nI cs)) 12 (nI vr)) (updR (updR R 2 (.ref pq)) 3 (.ref mq)) Z B J u) (fun u => u.1) := by
  intro sz
  refine vx_ofW (cc := cX0_sign) (maxL := 5) (ret := (some .int)) (by decide) rfl ?_
  intro p e s m args below meth c s₁ B9 hml hnt hv
  obtain ⟨rfl, hsz, hP, hD0, hE, hX⟩ := hv
  have hx := B9.exec
  have hb := B9.bytes
  have hr := B9.returns
  have hts := atoms_spec (ws := Cond.code yX0_sign cX0_sign 5 (some .int) :: pw) B9.pre
  have hq : ∀ w ∈ pw, w.before _ s = true := fun w h => hts w (List.mem_cons_of_mem _ h)
  have hown : s.vm.findClass RX0 = some m.cls := findClass_of_methodNamed B9.named
  have hlocks := B9.notSynchronized
  subst hsz
  have hD := hD0.self (sz := s.heap.size)
  have hA : ∀ q : Nat, s.heap.size ≤ q → va_A w s.heap.size q := fun q h => Or.inr h
  generalize va_A w s.heap.size = A at hD hE hA ⊢
  have hS : va_S A s.heap s.heap [] := va_S.rf
  have hl := lv_entry ([.ref (a 4), .ref q, .int x]) (n := 5) (Nat.le_of_ble_eq_true rfl)
  rw [lg_entry_eq]
  generalize (lg_sl ([.ref (a 4), .ref q, .int x]) ++ List.replicate (5 - (lg_sl ([.ref (a 4), .ref q, .int x])).length) Slot.unset).toArray = ls at hl ⊢
  have hl : lv_has ls 5 [(0, .ref (a 4)), (1, .ref q), (2, .int x)] := hl
  have hpg := hps.1
  have hp1 := hpg.1
  have hp2 := hpg.2.1
  have hp3 := hpg.2.2.1
  have hp4 := hpg.2.2.2.1
  have hp5 := hpg.2.2.2.2.1
  have hp6 := hpg.2.2.2.2.2.1
  have hp8 := hpg.2.2.2.2.2.2.2.1
  have hp9 := hpg.2.2.2.2.2.2.2.2
  refine lv_aload_n hx hb dX0_sign_0 rfl (lv_at hl 0 rfl) ?_
  refine lv_aload_n hx hb dX0_sign_1 rfl (lv_at hl 1 rfl) ?_
  refine p_get (v := .ref q1) (C := RX7) (Tc := TX7) (N := 11) (ci := 13) hx hb hq pin_wsX70 hown hE hP hO (by rw [hqT]; decide) (rep_1 hqT) rfl 6 (by decide) (hq _ pw_180) (fun _ h9 => h9) (congrArg (fun z => some (va_rf z)) hc0) dX0_sign_2 ?_
  have hO : OKP G h0 a (upd (upd (upd (upd (upd (upd F 2 (nI sz)) 5 (nI cs)) 12 (nI vr)) 2 (nI sz)) 5 (nI cs)) 12 (nI vr)) (updR (updR (updR (updR R 2 (.ref pq)) 3 (.ref mq)) 2 (.ref pq)) 3 (.ref mq)) Z B J K w := hO.to rfl
  obtain ⟨_, qr4, hqr5⟩ := hO.2.1 24 _ (sg_24 G h0 a _ _ _ _ _)
  refine pn_V0 (G := G) (As := [.ref q1]) (rest := []) hx hb hml hown hq hE hX pX0_al hP hD hS hA hl.1 ((ihv (by omega)) h0 a (upd (upd (upd F 2 (nI sz)) 5 (nI cs)) 12 (nI vr)) (updR (updR R 2 (.ref pq)) 3 (.ref mq)) Z B J K w pq dr ml nd nm cp it s9 q1 mq cs vr sz g rk (by omega) (BdE.wp BdE.rfl hwp) (BdE.pt BdE.rfl hwp hps) (BdE.rko BdE.rfl hrk) (by omega) (by omega) hng hmq ht0 ⟨hv0.1, (by have z9 := hv0; omega)⟩ hO hl0) (gV pw_173 pw_174 pw_175 pw_63 pw_224) hV_X0_value qr4 0 hqr5 rfl rfl rfl (Nat.le_of_ble_eq_true rfl) dX0_sign_5 ⟨(by show 0 + 1 ≤ 1; omega), (by show 0 + 6 ≤ 6; omega)⟩ ⟨(by show (5 * (n - 1) + 34) + 1 ≤ (5 * n + 33); omega), (by show 8 + (3 + 11) + (200 * (n - 1) + 600) ≤ (200 * n + 560); omega)⟩ (fun v3 u1 H locs hw2 hP hD hS => ?_) (fun ux ce9 q9 H9 locs9 hux hP9 hD9 hS9 hce hcv hcl => pb_out ux (ThQ.up (Thx.same (Thx.same (Thx.same Thx.rfl rfl) rfl) rfl) (show RhX (updR (updR R 2 (.ref pq)) 3 (.ref mq)) (updR (updR (updR (updR R 2 (.ref pq)) 3 (.ref mq)) 2 (.ref pq)) 3 (.ref mq)) from fun k9 hk9 => by unfold updR; simp only [show ¬ k9 = 1 by omega, show ¬ k9 = 2 by omega, show ¬ k9 = 3 by omega, show ¬ k9 = 4 by omega, if_false]) hux) hnt hlocks hce hcv hcl hP9 hD9 hS9 (by show 0 + 1 ≤ 1; omega) (by show 0 + 6 ≤ 6; omega))
  obtain ⟨w, K6, B7, cs8, as9, wt10, wf11, r12⟩ := u1
  obtain ⟨hw2, h13, h14, h15, hO⟩ := hw2
  have h13 : BdE K K6 := h13
  have h14 : Bth B B7 := h14
  have h15 : cs8 ≤ 10000 := h15
  obtain rfl : v3 = some (.int r12) := hw2
  have hf16 : K6.1 pq = 7 := (BdE.T h13 hp1 (by decide))
  have hf17 : K6.2.2.1 18 pq = some (a 1) := (BdE.C h13 (by rw [hp1]; decide) 18).trans hp2
  have hf18 : K6.2.2.1 14 pq = some dr := (BdE.C h13 (by rw [hp1]; decide) 14).trans hp3
  have hf19 : K6.1 dr = 8 := (BdE.T h13 hp4 (by decide))
  have hf20 : K6.2.2.1 15 pq = some ml := (BdE.C h13 (by rw [hp1]; decide) 15).trans hp5
  have hf21 : K6.1 ml = 5 := (BdE.T h13 hp6 (by decide))
  have hf22 : K6.2.1 24 pq = (nI nd) := (BdE.I h13 (by rw [hp1]; decide) (by decide) (by decide)).trans hp8
  have hf23 : K6.1 q = 1 := (BdE.T h13 hqT (by decide))
  have hf24 : K6.1 mq = 3 := (BdE.T h13 hmq (by decide))
  have hf25 : K6.2.2.1 0 q = some q1 := (BdE.C h13 (by rw [hqT]; decide) 0).trans hc0
  have hf26 : K6.1 q1 = 1 := (BdE.T h13 ht0 (by decide))
  have hf27 : K6.2.2.1 1 q = some q2 := (BdE.C h13 (by rw [hqT]; decide) 1).trans hc1
  have hf28 : K6.1 q2 = 1 := (BdE.T h13 ht1 (by decide))
  have hO : OKP G h0 a (upd (upd (upd (upd (upd (upd F 2 (nI sz)) 5 (nI cs8)) 12 (nI vr)) 13 as9) 14 wt10) 15 wf11) (updR (updR R 2 (.ref pq)) 3 (.ref mq)) Z B7 J K6 w := hO.to rfl
  refine W.widen (k := 0) (n := 0) (by show 0 + 0 ≤ 0; omega) (by show 0 + 0 ≤ 0; omega) ?_
  refine W.eq (g2 := F0 m 8 ls [.int r12]) rfl ?_
  have hbe29 := BdE.trans BdE.rfl h13
  have hbb30 : Bth B B7 := Bth.trans (show Thx (upd (upd (upd F 2 (nI sz)) 5 (nI cs)) 12 (nI vr)) (upd (upd (upd F 2 (nI sz)) 5 (nI cs)) 12 (nI vr)) B B from Thx.rfl).2 h14
  have hng31 : Nng (B7 18) := h14.2 hng
  refine lv_istore_n (lv' := [(3, .int r12), (0, .ref (a 4)), (1, .ref q), (2, .int x)]) hx hb dX0_sign_8 rfl hl (by decide) rfl (fun ls hl => ?_)
  refine lv_iload_n hx hb dX0_sign_9 rfl (lv_at hl 3 rfl) ?_
  by_cases h32 : x = 49
  · subst h32
    refine lv_tableIn (tgt := 112) (off := 102) hx hb dX0_sign_10 (by decide) (by decide) (by decide) (by decide) ?_
    refine lv_iload_n hx hb dX0_sign_112 rfl (lv_at hl 0 rfl) ?_
    refine lv_bipush (v := 60) hx hb dX0_sign_113 (by decide) ?_
    refine lv_icmp_eq (tgt := 140) hx hb dX0_sign_115 (by decide) (fun c33 => ?_) (fun c33 => ?_)
    · refine lv_aload_n hx hb dX0_sign_140 rfl (lv_at hl 1 rfl) ?_
      refine lv_aload_n hx hb dX0_sign_141 rfl (lv_at hl 2 rfl) ?_
      refine p_get (v := .ref q2) (C := RX7) (Tc := TX7) (N := 11) (ci := 13) hx hb hq pin_wsX70 hown hE hP hO (by rw [hf23]; decide) (rep_1 hf23) rfl 7 (by decide) (hq _ pw_169) (fun _ h9 => h9) (congrArg (fun z => some (va_rf z)) hf27) dX0_sign_142 ?_
      refine lv_aload_n hx hb dX0_sign_145 rfl (lv_at hl 1 rfl) ?_
      refine lv_aload_n hx hb dX0_sign_146 rfl (lv_at hl 2 rfl) ?_
      refine p_get (v := .ref q2) (C := RX7) (Tc := TX7) (N := 11) (ci := 13) hx hb hq pin_wsX70 hown hE hP hO (by rw [hf23]; decide) (rep_1 hf23) rfl 7 (by decide) (hq _ pw_169) (fun _ h9 => h9) (congrArg (fun z => some (va_rf z)) hf27) dX0_sign_147 ?_
      have hO : OKP G h0 a (upd (upd (upd (upd (upd (upd (upd (upd (upd (upd F 2 (nI sz)) 5 (nI cs)) 12 (nI vr)) 5 (nI cs8)) 13 as9) 14 wt10) 15 wf11) 2 (nI sz)) 5 (nI cs8)) 12 (nI vr)) (updR (updR (updR (updR R 2 (.ref pq)) 3 (.ref mq)) 2 (.ref pq)) 3 (.ref mq)) Z B7 J K6 w := hO.to rfl
      obtain ⟨_, qr37, hqr38⟩ := hO.2.1 24 _ (sg_24 G h0 a _ _ _ _ _)
      refine pn_V0 (G := G) (As := [.ref q2]) (rest := [.ref q2, .ref (a 4)]) hx hb hml hown hq hE hX pX0_al hP hD hS hA hl.1 ((ihv (by omega)) h0 a (upd (upd (upd (upd (upd (upd (upd F 2 (nI sz)) 5 (nI cs)) 12 (nI vr)) 5 (nI cs8)) 13 as9) 14 wt10) 15 wf11) (updR (updR R 2 (.ref pq)) 3 (.ref mq)) Z B7 J K6 w pq dr ml nd nm cp it s9 q2 mq cs8 vr sz g rk (by omega) (BdE.wp hbe29 hwp) (BdE.pt hbe29 hwp hps) (BdE.rko hbe29 hrk) (by omega) (by omega) hng31 hf24 hf28 ⟨hv1.1, (by have z9 := hv1; omega)⟩ hO hl0) (gV pw_173 pw_174 pw_175 pw_63 pw_224) hV_X0_value qr37 0 hqr38 rfl rfl rfl (Nat.le_of_ble_eq_true rfl) dX0_sign_150 ⟨(by show 0 + 1 ≤ 1; omega), (by show 0 + 6 ≤ 6; omega)⟩ ⟨(by show (5 * (n - 1) + 34) + 1 ≤ (5 * n + 33); omega), (by show 8 + (3 + 11) + (200 * (n - 1) + 600) ≤ (200 * n + 560); omega)⟩ (fun v36 u34 H locs hw35 hP hD hS => ?_) (fun ux ce9 q9 H9 locs9 hux hP9 hD9 hS9 hce hcv hcl => pb_out ux (ThQ.up (Thx.same (Thx.same (Thx.same (Thx.f (Thx.f (Thx.f (Thx.f (Bth.thx hbb30) (by omega)) (by omega)) (by omega)) (by omega)) rfl) rfl) rfl) (show RhX (updR (updR R 2 (.ref pq)) 3 (.ref mq)) (updR (updR (updR (updR R 2 (.ref pq)) 3 (.ref mq)) 2 (.ref pq)) 3 (.ref mq)) from fun k9 hk9 => by unfold updR; simp only [show ¬ k9 = 1 by omega, show ¬ k9 = 2 by omega, show ¬ k9 = 3 by omega, show ¬ k9 = 4 by omega, if_false]) hux) hnt hlocks hce hcv hcl hP9 hD9 hS9 (by show 0 + 1 ≤ 1; omega) (by show 0 + 6 ≤ 6; omega))
      obtain ⟨w, K39, B40, cs41, as42, wt43, wf44, r45⟩ := u34
      obtain ⟨hw35, h46, h47, h48, hO⟩ := hw35
      have h46 : BdE K6 K39 := h46
      have h47 : Bth B7 B40 := h47
      have h48 : cs41 ≤ 10000 := h48
      obtain rfl : v36 = some (.int r45) := hw35
      have hf49 : K39.1 pq = 7 := (BdE.T h46 hf16 (by decide))
      have hf50 : K39.2.2.1 18 pq = some (a 1) := (BdE.C h46 (by rw [hf16]; decide) 18).trans hf17
      have hf51 : K39.2.2.1 14 pq = some dr := (BdE.C h46 (by rw [hf16]; decide) 14).trans hf18
      have hf52 : K39.1 dr = 8 := (BdE.T h46 hf19 (by decide))
      have hf53 : K39.2.2.1 15 pq = some ml := (BdE.C h46 (by rw [hf16]; decide) 15).trans hf20
      have hf54 : K39.1 ml = 5 := (BdE.T h46 hf21 (by decide))
      have hf55 : K39.2.1 24 pq = (nI nd) := (BdE.I h46 (by rw [hf16]; decide) (by decide) (by decide)).trans hf22
      have hf56 : K39.1 q = 1 := (BdE.T h46 hf23 (by decide))
      have hf57 : K39.1 mq = 3 := (BdE.T h46 hf24 (by decide))
      have hf58 : K39.2.2.1 0 q = some q1 := (BdE.C h46 (by rw [hf23]; decide) 0).trans hf25
      have hf59 : K39.1 q1 = 1 := (BdE.T h46 hf26 (by decide))
      have hf60 : K39.2.2.1 1 q = some q2 := (BdE.C h46 (by rw [hf23]; decide) 1).trans hf27
      have hf61 : K39.1 q2 = 1 := (BdE.T h46 hf28 (by decide))
      have hO : OKP G h0 a (upd (upd (upd (upd (upd (upd F 2 (nI sz)) 5 (nI cs41)) 12 (nI vr)) 13 as42) 14 wt43) 15 wf44) (updR (updR R 2 (.ref pq)) 3 (.ref mq)) Z B40 J K39 w := hO.to rfl
      refine W.widen (k := 0) (n := 0) (by show 0 + 0 ≤ 0; omega) (by show 0 + 0 ≤ 0; omega) ?_
      refine W.eq (g2 := F0 m 153 ls [.int r45, .ref q2, .ref (a 4)]) rfl ?_
      have hbe62 := BdE.trans hbe29 h46
      have hbb63 : Bth B B40 := Bth.trans (show Thx (upd (upd (upd F 2 (nI sz)) 5 (nI cs)) 12 (nI vr)) (upd (upd (upd (upd (upd (upd (upd F 2 (nI sz)) 5 (nI cs)) 12 (nI vr)) 5 (nI cs8)) 13 as9) 14 wt10) 15 wf11) B B7 from (Thx.f (Thx.f (Thx.f (Thx.f (Bth.thx hbb30) (by omega)) (by omega)) (by omega)) (by omega))).2 h47
      have hng64 : Nng (B40 18) := h47.2 hng31
      refine lv_iload_n hx hb dX0_sign_153 rfl (lv_at hl 0 rfl) ?_
      have hO : OKP G h0 a (upd (upd (upd (upd (upd (upd (upd (upd F 2 (nI sz)) 5 (nI cs)) 12 (nI vr)) 5 (nI cs41)) 13 as42) 14 wt43) 15 wf44) 2 (nI sz)) (updR (updR (updR R 2 (.ref pq)) 3 (.ref mq)) 2 (.ref pq)) Z B40 J K39 w := hO.to rfl
      obtain ⟨_, qr68, hqr69⟩ := hO.2.1 24 _ (sg_24 G h0 a _ _ _ _ _)
      refine pn_V0 (G := G) (As := [.ref q2, .int r45, .int r12]) (rest := []) hx hb hml hown hq hE hX pX0_al hP hD hS hA hl.1 (B_fit l G h0 a (upd (upd (upd (upd (upd (upd (upd F 2 (nI sz)) 5 (nI cs)) 12 (nI vr)) 5 (nI cs41)) 13 as42) 14 wt43) 15 wf44) (updR (updR R 2 (.ref pq)) 3 (.ref mq)) Z B40 J K39 w pq dr ml nd q2 sz r45 r12 g (by omega) (BdE.pt hbe62 hwp hps).1 (BdE.pt hbe62 hwp hps).2.1 hf61 hO hl0) (gV pw_176 pw_177 pw_178 pw_63 pw_114) hV_X0_fit qr68 0 hqr69 rfl rfl rfl (Nat.le_of_ble_eq_true rfl) dX0_sign_154 ⟨(by show 0 + 1 ≤ 1; omega), (by show 0 + 6 ≤ 6; omega)⟩ ⟨(by show 7 + 1 ≤ (5 * n + 33); omega), (by show 8 + (4 + 11) + 122 ≤ (200 * n + 560); omega)⟩ (fun v67 u65 H locs hw66 hP hD hS => ?_) (fun ux ce9 q9 H9 locs9 hux hP9 hD9 hS9 hce hcv hcl => pb_out ux (ThQ.up (Thx.same (Thx.f (Thx.f (Thx.f (Thx.f (Bth.thx hbb63) (by omega)) (by omega)) (by omega)) (by omega)) rfl) (show RhX (updR (updR R 2 (.ref pq)) 3 (.ref mq)) (updR (updR (updR R 2 (.ref pq)) 3 (.ref mq)) 2 (.ref pq)) from fun k9 hk9 => by unfold updR; simp only [show ¬ k9 = 1 by omega, show ¬ k9 = 2 by omega, show ¬ k9 = 3 by omega, show ¬ k9 = 4 by omega, if_false]) hux) hnt hlocks hce hcv hcl hP9 hD9 hS9 (by show 0 + 1 ≤ 1; omega) (by show 0 + 6 ≤ 6; omega))
      obtain ⟨w, _⟩ := u65
      obtain ⟨hw66, hO⟩ := hw66
      obtain rfl : v67 = none := hw66
      have hO : OKP G h0 a (upd (upd (upd (upd (upd (upd F 2 (nI sz)) 5 (nI cs41)) 12 (nI vr)) 13 as42) 14 wt43) 15 wf44) (updR (updR R 2 (.ref pq)) 3 (.ref mq)) Z B40 J K39 w := hO.to rfl
      refine W.widen (k := 0) (n := 0) (by show 0 + 0 ≤ 0; omega) (by show 0 + 0 ≤ 0; omega) ?_
      refine W.eq (g2 := F0 m 157 ls []) rfl ?_
      refine lv_aload_n hx hb dX0_sign_157 rfl (lv_at hl 1 rfl) ?_
      refine lv_bipush (v := 10) hx hb dX0_sign_158 (by decide) ?_
      refine lv_iload_n hx hb dX0_sign_160 rfl (lv_at hl 3 rfl) ?_
      refine lv_iload_n hx hb dX0_sign_161 rfl (lv_at hl 0 rfl) ?_
      have hO : OKW G h0 a (upd (upd (upd (upd (upd (upd (upd F 2 (nI sz)) 5 (nI cs41)) 12 (nI vr)) 13 as42) 14 wt43) 15 wf44) 5 (nI cs41)) (updR (updR R 2 (.ref pq)) 3 (.ref mq)) Z B40 J K39.1 (fun q99 x99 => x99 = rep G a K39 q99) w := hO.to rfl
      obtain ⟨_, qr73, hqr74⟩ := hO.2.1 24 _ (sg_24 G h0 a _ _ _ _ _)
      refine pc_V0 (G := G) (As := [.int 10, .int 49, .int r12]) (rest := []) hx hb hml hown hq hE hX pX0_al hP hD hS hA hl.1 (B_give l G h0 a (upd (upd (upd (upd (upd (upd F 2 (nI sz)) 5 (nI cs41)) 12 (nI vr)) 13 as42) 14 wt43) 15 wf44) (updR (updR R 2 (.ref pq)) 3 (.ref mq)) Z B40 J K39.1 (fun q99 x99 => x99 = rep G a K39 q99) w 10 49 r12 cs41 (by omega) hng64 hO) (gV pw_158 pw_159 pw_160 pw_63 pw_128) hV_X0_give qr73 0 hqr74 rfl rfl rfl (Nat.le_of_ble_eq_true rfl) dX0_sign_162 ⟨(by show 0 + 0 ≤ 1; omega), (by show 0 + 0 ≤ 6; omega)⟩ ⟨(by show 3 + 1 ≤ (5 * n + 33); omega), (by show 8 + (4 + 11) + 83 ≤ (200 * n + 560); omega)⟩ (fun v72 u70 H locs hw71 hP hD hS => ?_)
      obtain ⟨w, cs75, f76, f77, f78, f79⟩ := u70
      obtain ⟨hw71, h80, h81, hO⟩ := hw71
      have h80 : cs41 ≤ cs75 ∧ cs75 ≤ cs41 + 1 ∧ cs75 ≤ 10000 := h80
      have h81 : Nng f78 := h81
      obtain rfl : v72 = some (.int r12) := hw71
      have hO : OKP G h0 a (upd (upd (upd (upd (upd (upd F 2 (nI sz)) 5 (nI cs75)) 12 (nI vr)) 13 as42) 14 wt43) 15 wf44) (updR (updR R 2 (.ref pq)) 3 (.ref mq)) Z (updA (updA (updA (updA B40 16 f76) 17 f77) 18 f78) 19 f79) J K39 w := hO.to rfl
      refine W.widen (k := 0) (n := 0) (Nat.le_of_ble_eq_true rfl) (Nat.le_of_ble_eq_true rfl) ?_
      refine W.eq (g2 := F0 m 165 ls [.int r12]) rfl ?_
      refine W_size (fun hz1 hz2 => ?_)
      refine vx_ret ?_
      have hz82 : BdE K K39 := hbe62
      have hz83 : Bth B (updA (updA (updA (updA B40 16 f76) 17 f77) 18 f78) 19 f79) := (show Thx (upd (upd (upd F 2 (nI sz)) 5 (nI cs)) 12 (nI vr)) (upd (upd (upd (upd (upd (upd (upd F 2 (nI sz)) 5 (nI cs)) 12 (nI vr)) 5 (nI cs75)) 13 as42) 14 wt43) 15 wf44) B (updA (updA (updA (updA B40 16 f76) 17 f77) 18 f78) 19 f79) from (Thx.b (Thx.b8 (Thx.b (Thx.b (Thx.f (Thx.f (Thx.f (Thx.f (Bth.thx hbb63) (by omega)) (by omega)) (by omega)) (by omega)) (by omega) (by decide)) (by omega) (by decide)) h81) (by omega) (by decide))).2
      have hz84 : cs75 ≤ 10000 := (by omega)
      have hO : OKP G h0 a (upd (upd (upd (upd (upd (upd F 2 (nI sz)) 5 (nI cs75)) 12 (nI vr)) 13 as42) 14 wt43) 15 wf44) (updR (updR R 2 (.ref pq)) 3 (.ref mq)) Z (updA (updA (updA (updA B40 16 f76) 17 f77) 18 f78) 19 f79) J K39 w := hO.to rfl
      refine W.widen (k := 1) (n := 6) (by omega) (by omega) ?_
      have hzz1 : H.size ≤ s.heap.size + (0) := (by have z : 0 ≤ 0 := (by omega); omega)
      have hzz2 : hSl H ≤ hSl s.heap + (0) := (by have z : 0 ≤ 0 := (by omega); omega)
      exact W.iret (v := r12) hx hb hr (fun t99 ht99 hW99 => ⟨⟨_, (w, (K39, (updA (updA (updA (updA B40 16 f76) 17 f77) 18 f78) 19 f79), cs75, as42, wt43, wf44, r12)), rfl, ⟨rfl, hz82, hz83, hz84, hO⟩, by rw [ht99]; exact hP, hD, by rw [ht99]; exact hzz1, by rw [ht99]; exact hzz2⟩, hS.F ht99⟩) hS.2.2 dX0_sign_165
    · refine lv_iload_n hx hb dX0_sign_118 rfl (lv_at hl 0 rfl) ?_
      refine lv_bipush (v := 61) hx hb dX0_sign_119 (by decide) ?_
      refine lv_icmp_eq (tgt := 140) hx hb dX0_sign_121 (by decide) (fun c85 => ?_) (fun c85 => ?_)
      · refine lv_aload_n hx hb dX0_sign_140 rfl (lv_at hl 1 rfl) ?_
        refine lv_aload_n hx hb dX0_sign_141 rfl (lv_at hl 2 rfl) ?_
        refine p_get (v := .ref q2) (C := RX7) (Tc := TX7) (N := 11) (ci := 13) hx hb hq pin_wsX70 hown hE hP hO (by rw [hf23]; decide) (rep_1 hf23) rfl 7 (by decide) (hq _ pw_169) (fun _ h9 => h9) (congrArg (fun z => some (va_rf z)) hf27) dX0_sign_142 ?_
        refine lv_aload_n hx hb dX0_sign_145 rfl (lv_at hl 1 rfl) ?_
        refine lv_aload_n hx hb dX0_sign_146 rfl (lv_at hl 2 rfl) ?_
        refine p_get (v := .ref q2) (C := RX7) (Tc := TX7) (N := 11) (ci := 13) hx hb hq pin_wsX70 hown hE hP hO (by rw [hf23]; decide) (rep_1 hf23) rfl 7 (by decide) (hq _ pw_169) (fun _ h9 => h9) (congrArg (fun z => some (va_rf z)) hf27) dX0_sign_147 ?_
        have hO : OKP G h0 a (upd (upd (upd (upd (upd (upd (upd (upd (upd (upd F 2 (nI sz)) 5 (nI cs)) 12 (nI vr)) 5 (nI cs8)) 13 as9) 14 wt10) 15 wf11) 2 (nI sz)) 5 (nI cs8)) 12 (nI vr)) (updR (updR (updR (updR R 2 (.ref pq)) 3 (.ref mq)) 2 (.ref pq)) 3 (.ref mq)) Z B7 J K6 w := hO.to rfl
        obtain ⟨_, qr89, hqr90⟩ := hO.2.1 24 _ (sg_24 G h0 a _ _ _ _ _)
        refine pn_V0 (G := G) (As := [.ref q2]) (rest := [.ref q2, .ref (a 4)]) hx hb hml hown hq hE hX pX0_al hP hD hS hA hl.1 ((ihv (by omega)) h0 a (upd (upd (upd (upd (upd (upd (upd F 2 (nI sz)) 5 (nI cs)) 12 (nI vr)) 5 (nI cs8)) 13 as9) 14 wt10) 15 wf11) (updR (updR R 2 (.ref pq)) 3 (.ref mq)) Z B7 J K6 w pq dr ml nd nm cp it s9 q2 mq cs8 vr sz g rk (by omega) (BdE.wp hbe29 hwp) (BdE.pt hbe29 hwp hps) (BdE.rko hbe29 hrk) (by omega) (by omega) hng31 hf24 hf28 ⟨hv1.1, (by have z9 := hv1; omega)⟩ hO hl0) (gV pw_173 pw_174 pw_175 pw_63 pw_224) hV_X0_value qr89 0 hqr90 rfl rfl rfl (Nat.le_of_ble_eq_true rfl) dX0_sign_150 ⟨(by show 0 + 1 ≤ 1; omega), (by show 0 + 6 ≤ 6; omega)⟩ ⟨(by show (5 * (n - 1) + 34) + 1 ≤ (5 * n + 33); omega), (by show 8 + (3 + 11) + (200 * (n - 1) + 600) ≤ (200 * n + 560); omega)⟩ (fun v88 u86 H locs hw87 hP hD hS => ?_) (fun ux ce9 q9 H9 locs9 hux hP9 hD9 hS9 hce hcv hcl => pb_out ux (ThQ.up (Thx.same (Thx.same (Thx.same (Thx.f (Thx.f (Thx.f (Thx.f (Bth.thx hbb30) (by omega)) (by omega)) (by omega)) (by omega)) rfl) rfl) rfl) (show RhX (updR (updR R 2 (.ref pq)) 3 (.ref mq)) (updR (updR (updR (updR R 2 (.ref pq)) 3 (.ref mq)) 2 (.ref pq)) 3 (.ref mq)) from fun k9 hk9 => by unfold updR; simp only [show ¬ k9 = 1 by omega, show ¬ k9 = 2 by omega, show ¬ k9 = 3 by omega, show ¬ k9 = 4 by omega, if_false]) hux) hnt hlocks hce hcv hcl hP9 hD9 hS9 (by show 0 + 1 ≤ 1; omega) (by show 0 + 6 ≤ 6; omega))
        obtain ⟨w, K91, B92, cs93, as94, wt95, wf96, r97⟩ := u86
        obtain ⟨hw87, h98, h99, h100, hO⟩ := hw87
        have h98 : BdE K6 K91 := h98
        have h99 : Bth B7 B92 := h99
        have h100 : cs93 ≤ 10000 := h100
        obtain rfl : v88 = some (.int r97) := hw87
        have hf101 : K91.1 pq = 7 := (BdE.T h98 hf16 (by decide))
        have hf102 : K91.2.2.1 18 pq = some (a 1) := (BdE.C h98 (by rw [hf16]; decide) 18).trans hf17
        have hf103 : K91.2.2.1 14 pq = some dr := (BdE.C h98 (by rw [hf16]; decide) 14).trans hf18
        have hf104 : K91.1 dr = 8 := (BdE.T h98 hf19 (by decide))
        have hf105 : K91.2.2.1 15 pq = some ml := (BdE.C h98 (by rw [hf16]; decide) 15).trans hf20
        have hf106 : K91.1 ml = 5 := (BdE.T h98 hf21 (by decide))
        have hf107 : K91.2.1 24 pq = (nI nd) := (BdE.I h98 (by rw [hf16]; decide) (by decide) (by decide)).trans hf22
        have hf108 : K91.1 q = 1 := (BdE.T h98 hf23 (by decide))
        have hf109 : K91.1 mq = 3 := (BdE.T h98 hf24 (by decide))
        have hf110 : K91.2.2.1 0 q = some q1 := (BdE.C h98 (by rw [hf23]; decide) 0).trans hf25
        have hf111 : K91.1 q1 = 1 := (BdE.T h98 hf26 (by decide))
        have hf112 : K91.2.2.1 1 q = some q2 := (BdE.C h98 (by rw [hf23]; decide) 1).trans hf27
        have hf113 : K91.1 q2 = 1 := (BdE.T h98 hf28 (by decide))
        have hO : OKP G h0 a (upd (upd (upd (upd (upd (upd F 2 (nI sz)) 5 (nI cs93)) 12 (nI vr)) 13 as94) 14 wt95) 15 wf96) (updR (updR R 2 (.ref pq)) 3 (.ref mq)) Z B92 J K91 w := hO.to rfl
        refine W.widen (k := 0) (n := 0) (by show 0 + 0 ≤ 0; omega) (by show 0 + 0 ≤ 0; omega) ?_
        refine W.eq (g2 := F0 m 153 ls [.int r97, .ref q2, .ref (a 4)]) rfl ?_
        have hbe114 := BdE.trans hbe29 h98
        have hbb115 : Bth B B92 := Bth.trans (show Thx (upd (upd (upd F 2 (nI sz)) 5 (nI cs)) 12 (nI vr)) (upd (upd (upd (upd (upd (upd (upd F 2 (nI sz)) 5 (nI cs)) 12 (nI vr)) 5 (nI cs8)) 13 as9) 14 wt10) 15 wf11) B B7 from (Thx.f (Thx.f (Thx.f (Thx.f (Bth.thx hbb30) (by omega)) (by omega)) (by omega)) (by omega))).2 h99
        have hng116 : Nng (B92 18) := h99.2 hng31
        refine lv_iload_n hx hb dX0_sign_153 rfl (lv_at hl 0 rfl) ?_
        have hO : OKP G h0 a (upd (upd (upd (upd (upd (upd (upd (upd F 2 (nI sz)) 5 (nI cs)) 12 (nI vr)) 5 (nI cs93)) 13 as94) 14 wt95) 15 wf96) 2 (nI sz)) (updR (updR (updR R 2 (.ref pq)) 3 (.ref mq)) 2 (.ref pq)) Z B92 J K91 w := hO.to rfl
        obtain ⟨_, qr120, hqr121⟩ := hO.2.1 24 _ (sg_24 G h0 a _ _ _ _ _)
        refine pn_V0 (G := G) (As := [.ref q2, .int r97, .int r12]) (rest := []) hx hb hml hown hq hE hX pX0_al hP hD hS hA hl.1 (B_fit l G h0 a (upd (upd (upd (upd (upd (upd (upd F 2 (nI sz)) 5 (nI cs)) 12 (nI vr)) 5 (nI cs93)) 13 as94) 14 wt95) 15 wf96) (updR (updR R 2 (.ref pq)) 3 (.ref mq)) Z B92 J K91 w pq dr ml nd q2 sz r97 r12 g (by omega) (BdE.pt hbe114 hwp hps).1 (BdE.pt hbe114 hwp hps).2.1 hf113 hO hl0) (gV pw_176 pw_177 pw_178 pw_63 pw_114) hV_X0_fit qr120 0 hqr121 rfl rfl rfl (Nat.le_of_ble_eq_true rfl) dX0_sign_154 ⟨(by show 0 + 1 ≤ 1; omega), (by show 0 + 6 ≤ 6; omega)⟩ ⟨(by show 7 + 1 ≤ (5 * n + 33); omega), (by show 8 + (4 + 11) + 122 ≤ (200 * n + 560); omega)⟩ (fun v119 u117 H locs hw118 hP hD hS => ?_) (fun ux ce9 q9 H9 locs9 hux hP9 hD9 hS9 hce hcv hcl => pb_out ux (ThQ.up (Thx.same (Thx.f (Thx.f (Thx.f (Thx.f (Bth.thx hbb115) (by omega)) (by omega)) (by omega)) (by omega)) rfl) (show RhX (updR (updR R 2 (.ref pq)) 3 (.ref mq)) (updR (updR (updR R 2 (.ref pq)) 3 (.ref mq)) 2 (.ref pq)) from fun k9 hk9 => by unfold updR; simp only [show ¬ k9 = 1 by omega, show ¬ k9 = 2 by omega, show ¬ k9 = 3 by omega, show ¬ k9 = 4 by omega, if_false]) hux) hnt hlocks hce hcv hcl hP9 hD9 hS9 (by show 0 + 1 ≤ 1; omega) (by show 0 + 6 ≤ 6; omega))
        obtain ⟨w, _⟩ := u117
        obtain ⟨hw118, hO⟩ := hw118
        obtain rfl : v119 = none := hw118
        have hO : OKP G h0 a (upd (upd (upd (upd (upd (upd F 2 (nI sz)) 5 (nI cs93)) 12 (nI vr)) 13 as94) 14 wt95) 15 wf96) (updR (updR R 2 (.ref pq)) 3 (.ref mq)) Z B92 J K91 w := hO.to rfl
        refine W.widen (k := 0) (n := 0) (by show 0 + 0 ≤ 0; omega) (by show 0 + 0 ≤ 0; omega) ?_
        refine W.eq (g2 := F0 m 157 ls []) rfl ?_
        refine lv_aload_n hx hb dX0_sign_157 rfl (lv_at hl 1 rfl) ?_
        refine lv_bipush (v := 10) hx hb dX0_sign_158 (by decide) ?_
        refine lv_iload_n hx hb dX0_sign_160 rfl (lv_at hl 3 rfl) ?_
        refine lv_iload_n hx hb dX0_sign_161 rfl (lv_at hl 0 rfl) ?_
        have hO : OKW G h0 a (upd (upd (upd (upd (upd (upd (upd F 2 (nI sz)) 5 (nI cs93)) 12 (nI vr)) 13 as94) 14 wt95) 15 wf96) 5 (nI cs93)) (updR (updR R 2 (.ref pq)) 3 (.ref mq)) Z B92 J K91.1 (fun q99 x99 => x99 = rep G a K91 q99) w := hO.to rfl
        obtain ⟨_, qr125, hqr126⟩ := hO.2.1 24 _ (sg_24 G h0 a _ _ _ _ _)
        refine pc_V0 (G := G) (As := [.int 10, .int 49, .int r12]) (rest := []) hx hb hml hown hq hE hX pX0_al hP hD hS hA hl.1 (B_give l G h0 a (upd (upd (upd (upd (upd (upd F 2 (nI sz)) 5 (nI cs93)) 12 (nI vr)) 13 as94) 14 wt95) 15 wf96) (updR (updR R 2 (.ref pq)) 3 (.ref mq)) Z B92 J K91.1 (fun q99 x99 => x99 = rep G a K91 q99) w 10 49 r12 cs93 (by omega) hng116 hO) (gV pw_158 pw_159 pw_160 pw_63 pw_128) hV_X0_give qr125 0 hqr126 rfl rfl rfl (Nat.le_of_ble_eq_true rfl) dX0_sign_162 ⟨(by show 0 + 0 ≤ 1; omega), (by show 0 + 0 ≤ 6; omega)⟩ ⟨(by show 3 + 1 ≤ (5 * n + 33); omega), (by show 8 + (4 + 11) + 83 ≤ (200 * n + 560); omega)⟩ (fun v124 u122 H locs hw123 hP hD hS => ?_)
        obtain ⟨w, cs127, f128, f129, f130, f131⟩ := u122
        obtain ⟨hw123, h132, h133, hO⟩ := hw123
        have h132 : cs93 ≤ cs127 ∧ cs127 ≤ cs93 + 1 ∧ cs127 ≤ 10000 := h132
        have h133 : Nng f130 := h133
        obtain rfl : v124 = some (.int r12) := hw123
        have hO : OKP G h0 a (upd (upd (upd (upd (upd (upd F 2 (nI sz)) 5 (nI cs127)) 12 (nI vr)) 13 as94) 14 wt95) 15 wf96) (updR (updR R 2 (.ref pq)) 3 (.ref mq)) Z (updA (updA (updA (updA B92 16 f128) 17 f129) 18 f130) 19 f131) J K91 w := hO.to rfl
        refine W.widen (k := 0) (n := 0) (Nat.le_of_ble_eq_true rfl) (Nat.le_of_ble_eq_true rfl) ?_
        refine W.eq (g2 := F0 m 165 ls [.int r12]) rfl ?_
        refine W_size (fun hz1 hz2 => ?_)
        refine vx_ret ?_
        have hz134 : BdE K K91 := hbe114
        have hz135 : Bth B (updA (updA (updA (updA B92 16 f128) 17 f129) 18 f130) 19 f131) := (show Thx (upd (upd (upd F 2 (nI sz)) 5 (nI cs)) 12 (nI vr)) (upd (upd (upd (upd (upd (upd (upd F 2 (nI sz)) 5 (nI cs)) 12 (nI vr)) 5 (nI cs127)) 13 as94) 14 wt95) 15 wf96) B (updA (updA (updA (updA B92 16 f128) 17 f129) 18 f130) 19 f131) from (Thx.b (Thx.b8 (Thx.b (Thx.b (Thx.f (Thx.f (Thx.f (Thx.f (Bth.thx hbb115) (by omega)) (by omega)) (by omega)) (by omega)) (by omega) (by decide)) (by omega) (by decide)) h133) (by omega) (by decide))).2
        have hz136 : cs127 ≤ 10000 := (by omega)
        have hO : OKP G h0 a (upd (upd (upd (upd (upd (upd F 2 (nI sz)) 5 (nI cs127)) 12 (nI vr)) 13 as94) 14 wt95) 15 wf96) (updR (updR R 2 (.ref pq)) 3 (.ref mq)) Z (updA (updA (updA (updA B92 16 f128) 17 f129) 18 f130) 19 f131) J K91 w := hO.to rfl
        refine W.widen (k := 1) (n := 6) (by omega) (by omega) ?_
        have hzz1 : H.size ≤ s.heap.size + (0) := (by have z : 0 ≤ 0 := (by omega); omega)
        have hzz2 : hSl H ≤ hSl s.heap + (0) := (by have z : 0 ≤ 0 := (by omega); omega)
        exact W.iret (v := r12) hx hb hr (fun t99 ht99 hW99 => ⟨⟨_, (w, (K91, (updA (updA (updA (updA B92 16 f128) 17 f129) 18 f130) 19 f131), cs127, as94, wt95, wf96, r12)), rfl, ⟨rfl, hz134, hz135, hz136, hO⟩, by rw [ht99]; exact hP, hD, by rw [ht99]; exact hzz1, by rw [ht99]; exact hzz2⟩, hS.F ht99⟩) hS.2.2 dX0_sign_165
      · refine lv_aload_n hx hb dX0_sign_124 rfl (lv_at hl 1 rfl) ?_
        refine c_get (v := .ref (a 1)) (C := RX0) (Tc := TX0) (N := 13) (ci := 0) hx hb hq pin_wsX00 hown hE hP hO 24 (sg_24 G h0 a _ _ _ _ _) rfl 0 (by decide) (hq _ pw_4) (fun _ h9 => h9) rfl dX0_sign_125 ?_
        refine lv_bipush (v := 11) hx hb dX0_sign_128 (by decide) ?_
        refine lv_aload_n hx hb dX0_sign_130 rfl (lv_at hl 2 rfl) ?_
        refine p_get (v := .ref q1) (C := RX7) (Tc := TX7) (N := 11) (ci := 13) hx hb hq pin_wsX70 hown hE hP hO (by rw [hf23]; decide) (rep_1 hf23) rfl 6 (by decide) (hq _ pw_180) (fun _ h9 => h9) (congrArg (fun z => some (va_rf z)) hf25) dX0_sign_131 ?_
        refine p_get (v := .int (K6.2.1 2 q1)) (C := RX7) (Tc := TX7) (N := 11) (ci := 13) hx hb hq pin_wsX70 hown hE hP hO (by rw [hf26]; decide) (rep_1 hf26) rfl 2 (by decide) (hq _ pw_82) (fun _ h9 => h9) rfl dX0_sign_134 ?_
        have hO : OKW G h0 a (upd (upd (upd (upd (upd (upd (upd (upd F 2 (nI sz)) 5 (nI cs)) 12 (nI vr)) 5 (nI cs8)) 13 as9) 14 wt10) 15 wf11) 2 (nI sz)) (updR (updR R 2 (.ref pq)) 3 (.ref mq)) Z B7 J K6.1 (fun q99 x99 => x99 = rep G a K6 q99) w := hO.to rfl
        obtain ⟨_, qr140, hqr141⟩ := hO.2.1 2 _ (sg_2 G h0 a _ _ _ _ _)
        refine pn_V0 (G := G) (As := [.int 11, .int (K6.2.1 2 q1)]) (rest := []) hx hb hml hown hq hE hX pX0_al hP hD hS hA hl.1 (K_fail l G h0 a (upd (upd (upd (upd (upd (upd (upd F 2 (nI sz)) 5 (nI cs)) 12 (nI vr)) 5 (nI cs8)) 13 as9) 14 wt10) 15 wf11) (updR (updR R 2 (.ref pq)) 3 (.ref mq)) Z B7 J K6.1 (fun q99 x99 => x99 = rep G a K6 q99) w 11 (K6.2.1 2 q1) sz (by omega) hO hl0) (gV pw_64 pw_65 pw_66 pw_59 pw_43) hV_X10_fail qr140 7 hqr141 rfl rfl rfl (Nat.le_of_ble_eq_true rfl) dX0_sign_137 ⟨(by show 0 + 1 ≤ 1; omega), (by show 0 + 6 ≤ 6; omega)⟩ ⟨(by show 6 + 1 ≤ (5 * n + 33); omega), (by show 8 + (3 + 11) + 100 ≤ (200 * n + 560); omega)⟩ (fun v139 u137 H locs hw138 hP hD hS => hw138.elim) (fun ux ce9 q9 H9 locs9 hux hP9 hD9 hS9 hce hcv hcl => pb_out ux (ThQ.up (Thx.same (Thx.f (Thx.f (Thx.f (Thx.f (Bth.thx hbb30) (by omega)) (by omega)) (by omega)) (by omega)) rfl) RhX.rfl hux) hnt hlocks hce hcv hcl hP9 hD9 hS9 (by show 0 + 1 ≤ 1; omega) (by show 0 + 6 ≤ 6; omega))
  by_cases h142 : x = 50
  · subst h142
    refine lv_tableIn (tgt := 112) (off := 102) hx hb dX0_sign_10 (by decide) (by decide) (by decide) (by decide) ?_
    refine lv_iload_n hx hb dX0_sign_112 rfl (lv_at hl 0 rfl) ?_
    refine lv_bipush (v := 60) hx hb dX0_sign_113 (by decide) ?_
    refine lv_icmp_eq (tgt := 140) hx hb dX0_sign_115 (by decide) (fun c143 => ?_) (fun c143 => ?_)
    · refine lv_aload_n hx hb dX0_sign_140 rfl (lv_at hl 1 rfl) ?_
      refine lv_aload_n hx hb dX0_sign_141 rfl (lv_at hl 2 rfl) ?_
      refine p_get (v := .ref q2) (C := RX7) (Tc := TX7) (N := 11) (ci := 13) hx hb hq pin_wsX70 hown hE hP hO (by rw [hf23]; decide) (rep_1 hf23) rfl 7 (by decide) (hq _ pw_169) (fun _ h9 => h9) (congrArg (fun z => some (va_rf z)) hf27) dX0_sign_142 ?_
      refine lv_aload_n hx hb dX0_sign_145 rfl (lv_at hl 1 rfl) ?_
      refine lv_aload_n hx hb dX0_sign_146 rfl (lv_at hl 2 rfl) ?_
      refine p_get (v := .ref q2) (C := RX7) (Tc := TX7) (N := 11) (ci := 13) hx hb hq pin_wsX70 hown hE hP hO (by rw [hf23]; decide) (rep_1 hf23) rfl 7 (by decide) (hq _ pw_169) (fun _ h9 => h9) (congrArg (fun z => some (va_rf z)) hf27) dX0_sign_147 ?_
      have hO : OKP G h0 a (upd (upd (upd (upd (upd (upd (upd (upd (upd (upd F 2 (nI sz)) 5 (nI cs)) 12 (nI vr)) 5 (nI cs8)) 13 as9) 14 wt10) 15 wf11) 2 (nI sz)) 5 (nI cs8)) 12 (nI vr)) (updR (updR (updR (updR R 2 (.ref pq)) 3 (.ref mq)) 2 (.ref pq)) 3 (.ref mq)) Z B7 J K6 w := hO.to rfl
      obtain ⟨_, qr147, hqr148⟩ := hO.2.1 24 _ (sg_24 G h0 a _ _ _ _ _)
      refine pn_V0 (G := G) (As := [.ref q2]) (rest := [.ref q2, .ref (a 4)]) hx hb hml hown hq hE hX pX0_al hP hD hS hA hl.1 ((ihv (by omega)) h0 a (upd (upd (upd (upd (upd (upd (upd F 2 (nI sz)) 5 (nI cs)) 12 (nI vr)) 5 (nI cs8)) 13 as9) 14 wt10) 15 wf11) (updR (updR R 2 (.ref pq)) 3 (.ref mq)) Z B7 J K6 w pq dr ml nd nm cp it s9 q2 mq cs8 vr sz g rk (by omega) (BdE.wp hbe29 hwp) (BdE.pt hbe29 hwp hps) (BdE.rko hbe29 hrk) (by omega) (by omega) hng31 hf24 hf28 ⟨hv1.1, (by have z9 := hv1; omega)⟩ hO hl0) (gV pw_173 pw_174 pw_175 pw_63 pw_224) hV_X0_value qr147 0 hqr148 rfl rfl rfl (Nat.le_of_ble_eq_true rfl) dX0_sign_150 ⟨(by show 0 + 1 ≤ 1; omega), (by show 0 + 6 ≤ 6; omega)⟩ ⟨(by show (5 * (n - 1) + 34) + 1 ≤ (5 * n + 33); omega), (by show 8 + (3 + 11) + (200 * (n - 1) + 600) ≤ (200 * n + 560); omega)⟩ (fun v146 u144 H locs hw145 hP hD hS => ?_) (fun ux ce9 q9 H9 locs9 hux hP9 hD9 hS9 hce hcv hcl => pb_out ux (ThQ.up (Thx.same (Thx.same (Thx.same (Thx.f (Thx.f (Thx.f (Thx.f (Bth.thx hbb30) (by omega)) (by omega)) (by omega)) (by omega)) rfl) rfl) rfl) (show RhX (updR (updR R 2 (.ref pq)) 3 (.ref mq)) (updR (updR (updR (updR R 2 (.ref pq)) 3 (.ref mq)) 2 (.ref pq)) 3 (.ref mq)) from fun k9 hk9 => by unfold updR; simp only [show ¬ k9 = 1 by omega, show ¬ k9 = 2 by omega, show ¬ k9 = 3 by omega, show ¬ k9 = 4 by omega, if_false]) hux) hnt hlocks hce hcv hcl hP9 hD9 hS9 (by show 0 + 1 ≤ 1; omega) (by show 0 + 6 ≤ 6; omega))
      obtain ⟨w, K149, B150, cs151, as152, wt153, wf154, r155⟩ := u144
      obtain ⟨hw145, h156, h157, h158, hO⟩ := hw145
      have h156 : BdE K6 K149 := h156
      have h157 : Bth B7 B150 := h157
      have h158 : cs151 ≤ 10000 := h158
      obtain rfl : v146 = some (.int r155) := hw145
      have hf159 : K149.1 pq = 7 := (BdE.T h156 hf16 (by decide))
      have hf160 : K149.2.2.1 18 pq = some (a 1) := (BdE.C h156 (by rw [hf16]; decide) 18).trans hf17
      have hf161 : K149.2.2.1 14 pq = some dr := (BdE.C h156 (by rw [hf16]; decide) 14).trans hf18
      have hf162 : K149.1 dr = 8 := (BdE.T h156 hf19 (by decide))
      have hf163 : K149.2.2.1 15 pq = some ml := (BdE.C h156 (by rw [hf16]; decide) 15).trans hf20
      have hf164 : K149.1 ml = 5 := (BdE.T h156 hf21 (by decide))
      have hf165 : K149.2.1 24 pq = (nI nd) := (BdE.I h156 (by rw [hf16]; decide) (by decide) (by decide)).trans hf22
      have hf166 : K149.1 q = 1 := (BdE.T h156 hf23 (by decide))
      have hf167 : K149.1 mq = 3 := (BdE.T h156 hf24 (by decide))
      have hf168 : K149.2.2.1 0 q = some q1 := (BdE.C h156 (by rw [hf23]; decide) 0).trans hf25
      have hf169 : K149.1 q1 = 1 := (BdE.T h156 hf26 (by decide))
      have hf170 : K149.2.2.1 1 q = some q2 := (BdE.C h156 (by rw [hf23]; decide) 1).trans hf27
      have hf171 : K149.1 q2 = 1 := (BdE.T h156 hf28 (by decide))
      have hO : OKP G h0 a (upd (upd (upd (upd (upd (upd F 2 (nI sz)) 5 (nI cs151)) 12 (nI vr)) 13 as152) 14 wt153) 15 wf154) (updR (updR R 2 (.ref pq)) 3 (.ref mq)) Z B150 J K149 w := hO.to rfl
      refine W.widen (k := 0) (n := 0) (by show 0 + 0 ≤ 0; omega) (by show 0 + 0 ≤ 0; omega) ?_
      refine W.eq (g2 := F0 m 153 ls [.int r155, .ref q2, .ref (a 4)]) rfl ?_
      have hbe172 := BdE.trans hbe29 h156
      have hbb173 : Bth B B150 := Bth.trans (show Thx (upd (upd (upd F 2 (nI sz)) 5 (nI cs)) 12 (nI vr)) (upd (upd (upd (upd (upd (upd (upd F 2 (nI sz)) 5 (nI cs)) 12 (nI vr)) 5 (nI cs8)) 13 as9) 14 wt10) 15 wf11) B B7 from (Thx.f (Thx.f (Thx.f (Thx.f (Bth.thx hbb30) (by omega)) (by omega)) (by omega)) (by omega))).2 h157
      have hng174 : Nng (B150 18) := h157.2 hng31
      refine lv_iload_n hx hb dX0_sign_153 rfl (lv_at hl 0 rfl) ?_
      have hO : OKP G h0 a (upd (upd (upd (upd (upd (upd (upd (upd F 2 (nI sz)) 5 (nI cs)) 12 (nI vr)) 5 (nI cs151)) 13 as152) 14 wt153) 15 wf154) 2 (nI sz)) (updR (updR (updR R 2 (.ref pq)) 3 (.ref mq)) 2 (.ref pq)) Z B150 J K149 w := hO.to rfl
      obtain ⟨_, qr178, hqr179⟩ := hO.2.1 24 _ (sg_24 G h0 a _ _ _ _ _)
      refine pn_V0 (G := G) (As := [.ref q2, .int r155, .int r12]) (rest := []) hx hb hml hown hq hE hX pX0_al hP hD hS hA hl.1 (B_fit l G h0 a (upd (upd (upd (upd (upd (upd (upd F 2 (nI sz)) 5 (nI cs)) 12 (nI vr)) 5 (nI cs151)) 13 as152) 14 wt153) 15 wf154) (updR (updR R 2 (.ref pq)) 3 (.ref mq)) Z B150 J K149 w pq dr ml nd q2 sz r155 r12 g (by omega) (BdE.pt hbe172 hwp hps).1 (BdE.pt hbe172 hwp hps).2.1 hf171 hO hl0) (gV pw_176 pw_177 pw_178 pw_63 pw_114) hV_X0_fit qr178 0 hqr179 rfl rfl rfl (Nat.le_of_ble_eq_true rfl) dX0_sign_154 ⟨(by show 0 + 1 ≤ 1; omega), (by show 0 + 6 ≤ 6; omega)⟩ ⟨(by show 7 + 1 ≤ (5 * n + 33); omega), (by show 8 + (4 + 11) + 122 ≤ (200 * n + 560); omega)⟩ (fun v177 u175 H locs hw176 hP hD hS => ?_) (fun ux ce9 q9 H9 locs9 hux hP9 hD9 hS9 hce hcv hcl => pb_out ux (ThQ.up (Thx.same (Thx.f (Thx.f (Thx.f (Thx.f (Bth.thx hbb173) (by omega)) (by omega)) (by omega)) (by omega)) rfl) (show RhX (updR (updR R 2 (.ref pq)) 3 (.ref mq)) (updR (updR (updR R 2 (.ref pq)) 3 (.ref mq)) 2 (.ref pq)) from fun k9 hk9 => by unfold updR; simp only [show ¬ k9 = 1 by omega, show ¬ k9 = 2 by omega, show ¬ k9 = 3 by omega, show ¬ k9 = 4 by omega, if_false]) hux) hnt hlocks hce hcv hcl hP9 hD9 hS9 (by show 0 + 1 ≤ 1; omega) (by show 0 + 6 ≤ 6; omega))
      obtain ⟨w, _⟩ := u175
      obtain ⟨hw176, hO⟩ := hw176
      obtain rfl : v177 = none := hw176
      have hO : OKP G h0 a (upd (upd (upd (upd (upd (upd F 2 (nI sz)) 5 (nI cs151)) 12 (nI vr)) 13 as152) 14 wt153) 15 wf154) (updR (updR R 2 (.ref pq)) 3 (.ref mq)) Z B150 J K149 w := hO.to rfl
      refine W.widen (k := 0) (n := 0) (by show 0 + 0 ≤ 0; omega) (by show 0 + 0 ≤ 0; omega) ?_
      refine W.eq (g2 := F0 m 157 ls []) rfl ?_
      refine lv_aload_n hx hb dX0_sign_157 rfl (lv_at hl 1 rfl) ?_
      refine lv_bipush (v := 10) hx hb dX0_sign_158 (by decide) ?_
      refine lv_iload_n hx hb dX0_sign_160 rfl (lv_at hl 3 rfl) ?_
      refine lv_iload_n hx hb dX0_sign_161 rfl (lv_at hl 0 rfl) ?_
      have hO : OKW G h0 a (upd (upd (upd (upd (upd (upd (upd F 2 (nI sz)) 5 (nI cs151)) 12 (nI vr)) 13 as152) 14 wt153) 15 wf154) 5 (nI cs151)) (updR (updR R 2 (.ref pq)) 3 (.ref mq)) Z B150 J K149.1 (fun q99 x99 => x99 = rep G a K149 q99) w := hO.to rfl
      obtain ⟨_, qr183, hqr184⟩ := hO.2.1 24 _ (sg_24 G h0 a _ _ _ _ _)
      refine pc_V0 (G := G) (As := [.int 10, .int 50, .int r12]) (rest := []) hx hb hml hown hq hE hX pX0_al hP hD hS hA hl.1 (B_give l G h0 a (upd (upd (upd (upd (upd (upd F 2 (nI sz)) 5 (nI cs151)) 12 (nI vr)) 13 as152) 14 wt153) 15 wf154) (updR (updR R 2 (.ref pq)) 3 (.ref mq)) Z B150 J K149.1 (fun q99 x99 => x99 = rep G a K149 q99) w 10 50 r12 cs151 (by omega) hng174 hO) (gV pw_158 pw_159 pw_160 pw_63 pw_128) hV_X0_give qr183 0 hqr184 rfl rfl rfl (Nat.le_of_ble_eq_true rfl) dX0_sign_162 ⟨(by show 0 + 0 ≤ 1; omega), (by show 0 + 0 ≤ 6; omega)⟩ ⟨(by show 3 + 1 ≤ (5 * n + 33); omega), (by show 8 + (4 + 11) + 83 ≤ (200 * n + 560); omega)⟩ (fun v182 u180 H locs hw181 hP hD hS => ?_)
      obtain ⟨w, cs185, f186, f187, f188, f189⟩ := u180
      obtain ⟨hw181, h190, h191, hO⟩ := hw181
      have h190 : cs151 ≤ cs185 ∧ cs185 ≤ cs151 + 1 ∧ cs185 ≤ 10000 := h190
      have h191 : Nng f188 := h191
      obtain rfl : v182 = some (.int r12) := hw181
      have hO : OKP G h0 a (upd (upd (upd (upd (upd (upd F 2 (nI sz)) 5 (nI cs185)) 12 (nI vr)) 13 as152) 14 wt153) 15 wf154) (updR (updR R 2 (.ref pq)) 3 (.ref mq)) Z (updA (updA (updA (updA B150 16 f186) 17 f187) 18 f188) 19 f189) J K149 w := hO.to rfl
      refine W.widen (k := 0) (n := 0) (Nat.le_of_ble_eq_true rfl) (Nat.le_of_ble_eq_true rfl) ?_
      refine W.eq (g2 := F0 m 165 ls [.int r12]) rfl ?_
      refine W_size (fun hz1 hz2 => ?_)
      refine vx_ret ?_
      have hz192 : BdE K K149 := hbe172
      have hz193 : Bth B (updA (updA (updA (updA B150 16 f186) 17 f187) 18 f188) 19 f189) := (show Thx (upd (upd (upd F 2 (nI sz)) 5 (nI cs)) 12 (nI vr)) (upd (upd (upd (upd (upd (upd (upd F 2 (nI sz)) 5 (nI cs)) 12 (nI vr)) 5 (nI cs185)) 13 as152) 14 wt153) 15 wf154) B (updA (updA (updA (updA B150 16 f186) 17 f187) 18 f188) 19 f189) from (Thx.b (Thx.b8 (Thx.b (Thx.b (Thx.f (Thx.f (Thx.f (Thx.f (Bth.thx hbb173) (by omega)) (by omega)) (by omega)) (by omega)) (by omega) (by decide)) (by omega) (by decide)) h191) (by omega) (by decide))).2
      have hz194 : cs185 ≤ 10000 := (by omega)
      have hO : OKP G h0 a (upd (upd (upd (upd (upd (upd F 2 (nI sz)) 5 (nI cs185)) 12 (nI vr)) 13 as152) 14 wt153) 15 wf154) (updR (updR R 2 (.ref pq)) 3 (.ref mq)) Z (updA (updA (updA (updA B150 16 f186) 17 f187) 18 f188) 19 f189) J K149 w := hO.to rfl
      refine W.widen (k := 1) (n := 6) (by omega) (by omega) ?_
      have hzz1 : H.size ≤ s.heap.size + (0) := (by have z : 0 ≤ 0 := (by omega); omega)
      have hzz2 : hSl H ≤ hSl s.heap + (0) := (by have z : 0 ≤ 0 := (by omega); omega)
      exact W.iret (v := r12) hx hb hr (fun t99 ht99 hW99 => ⟨⟨_, (w, (K149, (updA (updA (updA (updA B150 16 f186) 17 f187) 18 f188) 19 f189), cs185, as152, wt153, wf154, r12)), rfl, ⟨rfl, hz192, hz193, hz194, hO⟩, by rw [ht99]; exact hP, hD, by rw [ht99]; exact hzz1, by rw [ht99]; exact hzz2⟩, hS.F ht99⟩) hS.2.2 dX0_sign_165
    · refine lv_iload_n hx hb dX0_sign_118 rfl (lv_at hl 0 rfl) ?_
      refine lv_bipush (v := 61) hx hb dX0_sign_119 (by decide) ?_
      refine lv_icmp_eq (tgt := 140) hx hb dX0_sign_121 (by decide) (fun c195 => ?_) (fun c195 => ?_)
      · refine lv_aload_n hx hb dX0_sign_140 rfl (lv_at hl 1 rfl) ?_
        refine lv_aload_n hx hb dX0_sign_141 rfl (lv_at hl 2 rfl) ?_
        refine p_get (v := .ref q2) (C := RX7) (Tc := TX7) (N := 11) (ci := 13) hx hb hq pin_wsX70 hown hE hP hO (by rw [hf23]; decide) (rep_1 hf23) rfl 7 (by decide) (hq _ pw_169) (fun _ h9 => h9) (congrArg (fun z => some (va_rf z)) hf27) dX0_sign_142 ?_
        refine lv_aload_n hx hb dX0_sign_145 rfl (lv_at hl 1 rfl) ?_
        refine lv_aload_n hx hb dX0_sign_146 rfl (lv_at hl 2 rfl) ?_
        refine p_get (v := .ref q2) (C := RX7) (Tc := TX7) (N := 11) (ci := 13) hx hb hq pin_wsX70 hown hE hP hO (by rw [hf23]; decide) (rep_1 hf23) rfl 7 (by decide) (hq _ pw_169) (fun _ h9 => h9) (congrArg (fun z => some (va_rf z)) hf27) dX0_sign_147 ?_
        have hO : OKP G h0 a (upd (upd (upd (upd (upd (upd (upd (upd (upd (upd F 2 (nI sz)) 5 (nI cs)) 12 (nI vr)) 5 (nI cs8)) 13 as9) 14 wt10) 15 wf11) 2 (nI sz)) 5 (nI cs8)) 12 (nI vr)) (updR (updR (updR (updR R 2 (.ref pq)) 3 (.ref mq)) 2 (.ref pq)) 3 (.ref mq)) Z B7 J K6 w := hO.to rfl
        obtain ⟨_, qr199, hqr200⟩ := hO.2.1 24 _ (sg_24 G h0 a _ _ _ _ _)
        refine pn_V0 (G := G) (As := [.ref q2]) (rest := [.ref q2, .ref (a 4)]) hx hb hml hown hq hE hX pX0_al hP hD hS hA hl.1 ((ihv (by omega)) h0 a (upd (upd (upd (upd (upd (upd (upd F 2 (nI sz)) 5 (nI cs)) 12 (nI vr)) 5 (nI cs8)) 13 as9) 14 wt10) 15 wf11) (updR (updR R 2 (.ref pq)) 3 (.ref mq)) Z B7 J K6 w pq dr ml nd nm cp it s9 q2 mq cs8 vr sz g rk (by omega) (BdE.wp hbe29 hwp) (BdE.pt hbe29 hwp hps) (BdE.rko hbe29 hrk) (by omega) (by omega) hng31 hf24 hf28 ⟨hv1.1, (by have z9 := hv1; omega)⟩ hO hl0) (gV pw_173 pw_174 pw_175 pw_63 pw_224) hV_X0_value qr199 0 hqr200 rfl rfl rfl (Nat.le_of_ble_eq_true rfl) dX0_sign_150 ⟨(by show 0 + 1 ≤ 1; omega), (by show 0 + 6 ≤ 6; omega)⟩ ⟨(by show (5 * (n - 1) + 34) + 1 ≤ (5 * n + 33); omega), (by show 8 + (3 + 11) + (200 * (n - 1) + 600) ≤ (200 * n + 560); omega)⟩ (fun v198 u196 H locs hw197 hP hD hS => ?_) (fun ux ce9 q9 H9 locs9 hux hP9 hD9 hS9 hce hcv hcl => pb_out ux (ThQ.up (Thx.same (Thx.same (Thx.same (Thx.f (Thx.f (Thx.f (Thx.f (Bth.thx hbb30) (by omega)) (by omega)) (by omega)) (by omega)) rfl) rfl) rfl) (show RhX (updR (updR R 2 (.ref pq)) 3 (.ref mq)) (updR (updR (updR (updR R 2 (.ref pq)) 3 (.ref mq)) 2 (.ref pq)) 3 (.ref mq)) from fun k9 hk9 => by unfold updR; simp only [show ¬ k9 = 1 by omega, show ¬ k9 = 2 by omega, show ¬ k9 = 3 by omega, show ¬ k9 = 4 by omega, if_false]) hux) hnt hlocks hce hcv hcl hP9 hD9 hS9 (by show 0 + 1 ≤ 1; omega) (by show 0 + 6 ≤ 6; omega))
        obtain ⟨w, K201, B202, cs203, as204, wt205, wf206, r207⟩ := u196
        obtain ⟨hw197, h208, h209, h210, hO⟩ := hw197
        have h208 : BdE K6 K201 := h208
        have h209 : Bth B7 B202 := h209
        have h210 : cs203 ≤ 10000 := h210
        obtain rfl : v198 = some (.int r207) := hw197
        have hf211 : K201.1 pq = 7 := (BdE.T h208 hf16 (by decide))
        have hf212 : K201.2.2.1 18 pq = some (a 1) := (BdE.C h208 (by rw [hf16]; decide) 18).trans hf17
        have hf213 : K201.2.2.1 14 pq = some dr := (BdE.C h208 (by rw [hf16]; decide) 14).trans hf18
        have hf214 : K201.1 dr = 8 := (BdE.T h208 hf19 (by decide))
        have hf215 : K201.2.2.1 15 pq = some ml := (BdE.C h208 (by rw [hf16]; decide) 15).trans hf20
        have hf216 : K201.1 ml = 5 := (BdE.T h208 hf21 (by decide))
        have hf217 : K201.2.1 24 pq = (nI nd) := (BdE.I h208 (by rw [hf16]; decide) (by decide) (by decide)).trans hf22
        have hf218 : K201.1 q = 1 := (BdE.T h208 hf23 (by decide))
        have hf219 : K201.1 mq = 3 := (BdE.T h208 hf24 (by decide))
        have hf220 : K201.2.2.1 0 q = some q1 := (BdE.C h208 (by rw [hf23]; decide) 0).trans hf25
        have hf221 : K201.1 q1 = 1 := (BdE.T h208 hf26 (by decide))
        have hf222 : K201.2.2.1 1 q = some q2 := (BdE.C h208 (by rw [hf23]; decide) 1).trans hf27
        have hf223 : K201.1 q2 = 1 := (BdE.T h208 hf28 (by decide))
        have hO : OKP G h0 a (upd (upd (upd (upd (upd (upd F 2 (nI sz)) 5 (nI cs203)) 12 (nI vr)) 13 as204) 14 wt205) 15 wf206) (updR (updR R 2 (.ref pq)) 3 (.ref mq)) Z B202 J K201 w := hO.to rfl
        refine W.widen (k := 0) (n := 0) (by show 0 + 0 ≤ 0; omega) (by show 0 + 0 ≤ 0; omega) ?_
        refine W.eq (g2 := F0 m 153 ls [.int r207, .ref q2, .ref (a 4)]) rfl ?_
        have hbe224 := BdE.trans hbe29 h208
        have hbb225 : Bth B B202 := Bth.trans (show Thx (upd (upd (upd F 2 (nI sz)) 5 (nI cs)) 12 (nI vr)) (upd (upd (upd (upd (upd (upd (upd F 2 (nI sz)) 5 (nI cs)) 12 (nI vr)) 5 (nI cs8)) 13 as9) 14 wt10) 15 wf11) B B7 from (Thx.f (Thx.f (Thx.f (Thx.f (Bth.thx hbb30) (by omega)) (by omega)) (by omega)) (by omega))).2 h209
        have hng226 : Nng (B202 18) := h209.2 hng31
        refine lv_iload_n hx hb dX0_sign_153 rfl (lv_at hl 0 rfl) ?_
        have hO : OKP G h0 a (upd (upd (upd (upd (upd (upd (upd (upd F 2 (nI sz)) 5 (nI cs)) 12 (nI vr)) 5 (nI cs203)) 13 as204) 14 wt205) 15 wf206) 2 (nI sz)) (updR (updR (updR R 2 (.ref pq)) 3 (.ref mq)) 2 (.ref pq)) Z B202 J K201 w := hO.to rfl
        obtain ⟨_, qr230, hqr231⟩ := hO.2.1 24 _ (sg_24 G h0 a _ _ _ _ _)
        refine pn_V0 (G := G) (As := [.ref q2, .int r207, .int r12]) (rest := []) hx hb hml hown hq hE hX pX0_al hP hD hS hA hl.1 (B_fit l G h0 a (upd (upd (upd (upd (upd (upd (upd F 2 (nI sz)) 5 (nI cs)) 12 (nI vr)) 5 (nI cs203)) 13 as204) 14 wt205) 15 wf206) (updR (updR R 2 (.ref pq)) 3 (.ref mq)) Z B202 J K201 w pq dr ml nd q2 sz r207 r12 g (by omega) (BdE.pt hbe224 hwp hps).1 (BdE.pt hbe224 hwp hps).2.1 hf223 hO hl0) (gV pw_176 pw_177 pw_178 pw_63 pw_114) hV_X0_fit qr230 0 hqr231 rfl rfl rfl (Nat.le_of_ble_eq_true rfl) dX0_sign_154 ⟨(by show 0 + 1 ≤ 1; omega), (by show 0 + 6 ≤ 6; omega)⟩ ⟨(by show 7 + 1 ≤ (5 * n + 33); omega), (by show 8 + (4 + 11) + 122 ≤ (200 * n + 560); omega)⟩ (fun v229 u227 H locs hw228 hP hD hS => ?_) (fun ux ce9 q9 H9 locs9 hux hP9 hD9 hS9 hce hcv hcl => pb_out ux (ThQ.up (Thx.same (Thx.f (Thx.f (Thx.f (Thx.f (Bth.thx hbb225) (by omega)) (by omega)) (by omega)) (by omega)) rfl) (show RhX (updR (updR R 2 (.ref pq)) 3 (.ref mq)) (updR (updR (updR R 2 (.ref pq)) 3 (.ref mq)) 2 (.ref pq)) from fun k9 hk9 => by unfold updR; simp only [show ¬ k9 = 1 by omega, show ¬ k9 = 2 by omega, show ¬ k9 = 3 by omega, show ¬ k9 = 4 by omega, if_false]) hux) hnt hlocks hce hcv hcl hP9 hD9 hS9 (by show 0 + 1 ≤ 1; omega) (by show 0 + 6 ≤ 6; omega))
        obtain ⟨w, _⟩ := u227
        obtain ⟨hw228, hO⟩ := hw228
        obtain rfl : v229 = none := hw228
        have hO : OKP G h0 a (upd (upd (upd (upd (upd (upd F 2 (nI sz)) 5 (nI cs203)) 12 (nI vr)) 13 as204) 14 wt205) 15 wf206) (updR (updR R 2 (.ref pq)) 3 (.ref mq)) Z B202 J K201 w := hO.to rfl
        refine W.widen (k := 0) (n := 0) (by show 0 + 0 ≤ 0; omega) (by show 0 + 0 ≤ 0; omega) ?_
        refine W.eq (g2 := F0 m 157 ls []) rfl ?_
        refine lv_aload_n hx hb dX0_sign_157 rfl (lv_at hl 1 rfl) ?_
        refine lv_bipush (v := 10) hx hb dX0_sign_158 (by decide) ?_
        refine lv_iload_n hx hb dX0_sign_160 rfl (lv_at hl 3 rfl) ?_
        refine lv_iload_n hx hb dX0_sign_161 rfl (lv_at hl 0 rfl) ?_
        have hO : OKW G h0 a (upd (upd (upd (upd (upd (upd (upd F 2 (nI sz)) 5 (nI cs203)) 12 (nI vr)) 13 as204) 14 wt205) 15 wf206) 5 (nI cs203)) (updR (updR R 2 (.ref pq)) 3 (.ref mq)) Z B202 J K201.1 (fun q99 x99 => x99 = rep G a K201 q99) w := hO.to rfl
        obtain ⟨_, qr235, hqr236⟩ := hO.2.1 24 _ (sg_24 G h0 a _ _ _ _ _)
        refine pc_V0 (G := G) (As := [.int 10, .int 50, .int r12]) (rest := []) hx hb hml hown hq hE hX pX0_al hP hD hS hA hl.1 (B_give l G h0 a (upd (upd (upd (upd (upd (upd F 2 (nI sz)) 5 (nI cs203)) 12 (nI vr)) 13 as204) 14 wt205) 15 wf206) (updR (updR R 2 (.ref pq)) 3 (.ref mq)) Z B202 J K201.1 (fun q99 x99 => x99 = rep G a K201 q99) w 10 50 r12 cs203 (by omega) hng226 hO) (gV pw_158 pw_159 pw_160 pw_63 pw_128) hV_X0_give qr235 0 hqr236 rfl rfl rfl (Nat.le_of_ble_eq_true rfl) dX0_sign_162 ⟨(by show 0 + 0 ≤ 1; omega), (by show 0 + 0 ≤ 6; omega)⟩ ⟨(by show 3 + 1 ≤ (5 * n + 33); omega), (by show 8 + (4 + 11) + 83 ≤ (200 * n + 560); omega)⟩ (fun v234 u232 H locs hw233 hP hD hS => ?_)
        obtain ⟨w, cs237, f238, f239, f240, f241⟩ := u232
        obtain ⟨hw233, h242, h243, hO⟩ := hw233
        have h242 : cs203 ≤ cs237 ∧ cs237 ≤ cs203 + 1 ∧ cs237 ≤ 10000 := h242
        have h243 : Nng f240 := h243
        obtain rfl : v234 = some (.int r12) := hw233
        have hO : OKP G h0 a (upd (upd (upd (upd (upd (upd F 2 (nI sz)) 5 (nI cs237)) 12 (nI vr)) 13 as204) 14 wt205) 15 wf206) (updR (updR R 2 (.ref pq)) 3 (.ref mq)) Z (updA (updA (updA (updA B202 16 f238) 17 f239) 18 f240) 19 f241) J K201 w := hO.to rfl
        refine W.widen (k := 0) (n := 0) (Nat.le_of_ble_eq_true rfl) (Nat.le_of_ble_eq_true rfl) ?_
        refine W.eq (g2 := F0 m 165 ls [.int r12]) rfl ?_
        refine W_size (fun hz1 hz2 => ?_)
        refine vx_ret ?_
        have hz244 : BdE K K201 := hbe224
        have hz245 : Bth B (updA (updA (updA (updA B202 16 f238) 17 f239) 18 f240) 19 f241) := (show Thx (upd (upd (upd F 2 (nI sz)) 5 (nI cs)) 12 (nI vr)) (upd (upd (upd (upd (upd (upd (upd F 2 (nI sz)) 5 (nI cs)) 12 (nI vr)) 5 (nI cs237)) 13 as204) 14 wt205) 15 wf206) B (updA (updA (updA (updA B202 16 f238) 17 f239) 18 f240) 19 f241) from (Thx.b (Thx.b8 (Thx.b (Thx.b (Thx.f (Thx.f (Thx.f (Thx.f (Bth.thx hbb225) (by omega)) (by omega)) (by omega)) (by omega)) (by omega) (by decide)) (by omega) (by decide)) h243) (by omega) (by decide))).2
        have hz246 : cs237 ≤ 10000 := (by omega)
        have hO : OKP G h0 a (upd (upd (upd (upd (upd (upd F 2 (nI sz)) 5 (nI cs237)) 12 (nI vr)) 13 as204) 14 wt205) 15 wf206) (updR (updR R 2 (.ref pq)) 3 (.ref mq)) Z (updA (updA (updA (updA B202 16 f238) 17 f239) 18 f240) 19 f241) J K201 w := hO.to rfl
        refine W.widen (k := 1) (n := 6) (by omega) (by omega) ?_
        have hzz1 : H.size ≤ s.heap.size + (0) := (by have z : 0 ≤ 0 := (by omega); omega)
        have hzz2 : hSl H ≤ hSl s.heap + (0) := (by have z : 0 ≤ 0 := (by omega); omega)
        exact W.iret (v := r12) hx hb hr (fun t99 ht99 hW99 => ⟨⟨_, (w, (K201, (updA (updA (updA (updA B202 16 f238) 17 f239) 18 f240) 19 f241), cs237, as204, wt205, wf206, r12)), rfl, ⟨rfl, hz244, hz245, hz246, hO⟩, by rw [ht99]; exact hP, hD, by rw [ht99]; exact hzz1, by rw [ht99]; exact hzz2⟩, hS.F ht99⟩) hS.2.2 dX0_sign_165
      · refine lv_aload_n hx hb dX0_sign_124 rfl (lv_at hl 1 rfl) ?_
        refine c_get (v := .ref (a 1)) (C := RX0) (Tc := TX0) (N := 13) (ci := 0) hx hb hq pin_wsX00 hown hE hP hO 24 (sg_24 G h0 a _ _ _ _ _) rfl 0 (by decide) (hq _ pw_4) (fun _ h9 => h9) rfl dX0_sign_125 ?_
        refine lv_bipush (v := 11) hx hb dX0_sign_128 (by decide) ?_
        refine lv_aload_n hx hb dX0_sign_130 rfl (lv_at hl 2 rfl) ?_
        refine p_get (v := .ref q1) (C := RX7) (Tc := TX7) (N := 11) (ci := 13) hx hb hq pin_wsX70 hown hE hP hO (by rw [hf23]; decide) (rep_1 hf23) rfl 6 (by decide) (hq _ pw_180) (fun _ h9 => h9) (congrArg (fun z => some (va_rf z)) hf25) dX0_sign_131 ?_
        refine p_get (v := .int (K6.2.1 2 q1)) (C := RX7) (Tc := TX7) (N := 11) (ci := 13) hx hb hq pin_wsX70 hown hE hP hO (by rw [hf26]; decide) (rep_1 hf26) rfl 2 (by decide) (hq _ pw_82) (fun _ h9 => h9) rfl dX0_sign_134 ?_
        have hO : OKW G h0 a (upd (upd (upd (upd (upd (upd (upd (upd F 2 (nI sz)) 5 (nI cs)) 12 (nI vr)) 5 (nI cs8)) 13 as9) 14 wt10) 15 wf11) 2 (nI sz)) (updR (updR R 2 (.ref pq)) 3 (.ref mq)) Z B7 J K6.1 (fun q99 x99 => x99 = rep G a K6 q99) w := hO.to rfl
        obtain ⟨_, qr250, hqr251⟩ := hO.2.1 2 _ (sg_2 G h0 a _ _ _ _ _)
        refine pn_V0 (G := G) (As := [.int 11, .int (K6.2.1 2 q1)]) (rest := []) hx hb hml hown hq hE hX pX0_al hP hD hS hA hl.1 (K_fail l G h0 a (upd (upd (upd (upd (upd (upd (upd F 2 (nI sz)) 5 (nI cs)) 12 (nI vr)) 5 (nI cs8)) 13 as9) 14 wt10) 15 wf11) (updR (updR R 2 (.ref pq)) 3 (.ref mq)) Z B7 J K6.1 (fun q99 x99 => x99 = rep G a K6 q99) w 11 (K6.2.1 2 q1) sz (by omega) hO hl0) (gV pw_64 pw_65 pw_66 pw_59 pw_43) hV_X10_fail qr250 7 hqr251 rfl rfl rfl (Nat.le_of_ble_eq_true rfl) dX0_sign_137 ⟨(by show 0 + 1 ≤ 1; omega), (by show 0 + 6 ≤ 6; omega)⟩ ⟨(by show 6 + 1 ≤ (5 * n + 33); omega), (by show 8 + (3 + 11) + 100 ≤ (200 * n + 560); omega)⟩ (fun v249 u247 H locs hw248 hP hD hS => hw248.elim) (fun ux ce9 q9 H9 locs9 hux hP9 hD9 hS9 hce hcv hcl => pb_out ux (ThQ.up (Thx.same (Thx.f (Thx.f (Thx.f (Thx.f (Bth.thx hbb30) (by omega)) (by omega)) (by omega)) (by omega)) rfl) RhX.rfl hux) hnt hlocks hce hcv hcl hP9 hD9 hS9 (by show 0 + 1 ≤ 1; omega) (by show 0 + 6 ≤ 6; omega))
  by_cases h252 : x = 51
  · subst h252
    refine lv_tableIn (tgt := 112) (off := 102) hx hb dX0_sign_10 (by decide) (by decide) (by decide) (by decide) ?_
    refine lv_iload_n hx hb dX0_sign_112 rfl (lv_at hl 0 rfl) ?_
    refine lv_bipush (v := 60) hx hb dX0_sign_113 (by decide) ?_
    refine lv_icmp_eq (tgt := 140) hx hb dX0_sign_115 (by decide) (fun c253 => ?_) (fun c253 => ?_)
    · refine lv_aload_n hx hb dX0_sign_140 rfl (lv_at hl 1 rfl) ?_
      refine lv_aload_n hx hb dX0_sign_141 rfl (lv_at hl 2 rfl) ?_
      refine p_get (v := .ref q2) (C := RX7) (Tc := TX7) (N := 11) (ci := 13) hx hb hq pin_wsX70 hown hE hP hO (by rw [hf23]; decide) (rep_1 hf23) rfl 7 (by decide) (hq _ pw_169) (fun _ h9 => h9) (congrArg (fun z => some (va_rf z)) hf27) dX0_sign_142 ?_
      refine lv_aload_n hx hb dX0_sign_145 rfl (lv_at hl 1 rfl) ?_
      refine lv_aload_n hx hb dX0_sign_146 rfl (lv_at hl 2 rfl) ?_
      refine p_get (v := .ref q2) (C := RX7) (Tc := TX7) (N := 11) (ci := 13) hx hb hq pin_wsX70 hown hE hP hO (by rw [hf23]; decide) (rep_1 hf23) rfl 7 (by decide) (hq _ pw_169) (fun _ h9 => h9) (congrArg (fun z => some (va_rf z)) hf27) dX0_sign_147 ?_
      have hO : OKP G h0 a (upd (upd (upd (upd (upd (upd (upd (upd (upd (upd F 2 (nI sz)) 5 (nI cs)) 12 (nI vr)) 5 (nI cs8)) 13 as9) 14 wt10) 15 wf11) 2 (nI sz)) 5 (nI cs8)) 12 (nI vr)) (updR (updR (updR (updR R 2 (.ref pq)) 3 (.ref mq)) 2 (.ref pq)) 3 (.ref mq)) Z B7 J K6 w := hO.to rfl
      obtain ⟨_, qr257, hqr258⟩ := hO.2.1 24 _ (sg_24 G h0 a _ _ _ _ _)
      refine pn_V0 (G := G) (As := [.ref q2]) (rest := [.ref q2, .ref (a 4)]) hx hb hml hown hq hE hX pX0_al hP hD hS hA hl.1 ((ihv (by omega)) h0 a (upd (upd (upd (upd (upd (upd (upd F 2 (nI sz)) 5 (nI cs)) 12 (nI vr)) 5 (nI cs8)) 13 as9) 14 wt10) 15 wf11) (updR (updR R 2 (.ref pq)) 3 (.ref mq)) Z B7 J K6 w pq dr ml nd nm cp it s9 q2 mq cs8 vr sz g rk (by omega) (BdE.wp hbe29 hwp) (BdE.pt hbe29 hwp hps) (BdE.rko hbe29 hrk) (by omega) (by omega) hng31 hf24 hf28 ⟨hv1.1, (by have z9 := hv1; omega)⟩ hO hl0) (gV pw_173 pw_174 pw_175 pw_63 pw_224) hV_X0_value qr257 0 hqr258 rfl rfl rfl (Nat.le_of_ble_eq_true rfl) dX0_sign_150 ⟨(by show 0 + 1 ≤ 1; omega), (by show 0 + 6 ≤ 6; omega)⟩ ⟨(by show (5 * (n - 1) + 34) + 1 ≤ (5 * n + 33); omega), (by show 8 + (3 + 11) + (200 * (n - 1) + 600) ≤ (200 * n + 560); omega)⟩ (fun v256 u254 H locs hw255 hP hD hS => ?_) (fun ux ce9 q9 H9 locs9 hux hP9 hD9 hS9 hce hcv hcl => pb_out ux (ThQ.up (Thx.same (Thx.same (Thx.same (Thx.f (Thx.f (Thx.f (Thx.f (Bth.thx hbb30) (by omega)) (by omega)) (by omega)) (by omega)) rfl) rfl) rfl) (show RhX (updR (updR R 2 (.ref pq)) 3 (.ref mq)) (updR (updR (updR (updR R 2 (.ref pq)) 3 (.ref mq)) 2 (.ref pq)) 3 (.ref mq)) from fun k9 hk9 => by unfold updR; simp only [show ¬ k9 = 1 by omega, show ¬ k9 = 2 by omega, show ¬ k9 = 3 by omega, show ¬ k9 = 4 by omega, if_false]) hux) hnt hlocks hce hcv hcl hP9 hD9 hS9 (by show 0 + 1 ≤ 1; omega) (by show 0 + 6 ≤ 6; omega))
      obtain ⟨w, K259, B260, cs261, as262, wt263, wf264, r265⟩ := u254
      obtain ⟨hw255, h266, h267, h268, hO⟩ := hw255
      have h266 : BdE K6 K259 := h266
      have h267 : Bth B7 B260 := h267
      have h268 : cs261 ≤ 10000 := h268
      obtain rfl : v256 = some (.int r265) := hw255
      have hf269 : K259.1 pq = 7 := (BdE.T h266 hf16 (by decide))
      have hf270 : K259.2.2.1 18 pq = some (a 1) := (BdE.C h266 (by rw [hf16]; decide) 18).trans hf17
      have hf271 : K259.2.2.1 14 pq = some dr := (BdE.C h266 (by rw [hf16]; decide) 14).trans hf18
      have hf272 : K259.1 dr = 8 := (BdE.T h266 hf19 (by decide))
      have hf273 : K259.2.2.1 15 pq = some ml := (BdE.C h266 (by rw [hf16]; decide) 15).trans hf20
      have hf274 : K259.1 ml = 5 := (BdE.T h266 hf21 (by decide))
      have hf275 : K259.2.1 24 pq = (nI nd) := (BdE.I h266 (by rw [hf16]; decide) (by decide) (by decide)).trans hf22
      have hf276 : K259.1 q = 1 := (BdE.T h266 hf23 (by decide))
      have hf277 : K259.1 mq = 3 := (BdE.T h266 hf24 (by decide))
      have hf278 : K259.2.2.1 0 q = some q1 := (BdE.C h266 (by rw [hf23]; decide) 0).trans hf25
      have hf279 : K259.1 q1 = 1 := (BdE.T h266 hf26 (by decide))
      have hf280 : K259.2.2.1 1 q = some q2 := (BdE.C h266 (by rw [hf23]; decide) 1).trans hf27
      have hf281 : K259.1 q2 = 1 := (BdE.T h266 hf28 (by decide))
      have hO : OKP G h0 a (upd (upd (upd (upd (upd (upd F 2 (nI sz)) 5 (nI cs261)) 12 (nI vr)) 13 as262) 14 wt263) 15 wf264) (updR (updR R 2 (.ref pq)) 3 (.ref mq)) Z B260 J K259 w := hO.to rfl
      refine W.widen (k := 0) (n := 0) (by show 0 + 0 ≤ 0; omega) (by show 0 + 0 ≤ 0; omega) ?_
      refine W.eq (g2 := F0 m 153 ls [.int r265, .ref q2, .ref (a 4)]) rfl ?_
      have hbe282 := BdE.trans hbe29 h266
      have hbb283 : Bth B B260 := Bth.trans (show Thx (upd (upd (upd F 2 (nI sz)) 5 (nI cs)) 12 (nI vr)) (upd (upd (upd (upd (upd (upd (upd F 2 (nI sz)) 5 (nI cs)) 12 (nI vr)) 5 (nI cs8)) 13 as9) 14 wt10) 15 wf11) B B7 from (Thx.f (Thx.f (Thx.f (Thx.f (Bth.thx hbb30) (by omega)) (by omega)) (by omega)) (by omega))).2 h267
      have hng284 : Nng (B260 18) := h267.2 hng31
      refine lv_iload_n hx hb dX0_sign_153 rfl (lv_at hl 0 rfl) ?_
      have hO : OKP G h0 a (upd (upd (upd (upd (upd (upd (upd (upd F 2 (nI sz)) 5 (nI cs)) 12 (nI vr)) 5 (nI cs261)) 13 as262) 14 wt263) 15 wf264) 2 (nI sz)) (updR (updR (updR R 2 (.ref pq)) 3 (.ref mq)) 2 (.ref pq)) Z B260 J K259 w := hO.to rfl
      obtain ⟨_, qr288, hqr289⟩ := hO.2.1 24 _ (sg_24 G h0 a _ _ _ _ _)
      refine pn_V0 (G := G) (As := [.ref q2, .int r265, .int r12]) (rest := []) hx hb hml hown hq hE hX pX0_al hP hD hS hA hl.1 (B_fit l G h0 a (upd (upd (upd (upd (upd (upd (upd F 2 (nI sz)) 5 (nI cs)) 12 (nI vr)) 5 (nI cs261)) 13 as262) 14 wt263) 15 wf264) (updR (updR R 2 (.ref pq)) 3 (.ref mq)) Z B260 J K259 w pq dr ml nd q2 sz r265 r12 g (by omega) (BdE.pt hbe282 hwp hps).1 (BdE.pt hbe282 hwp hps).2.1 hf281 hO hl0) (gV pw_176 pw_177 pw_178 pw_63 pw_114) hV_X0_fit qr288 0 hqr289 rfl rfl rfl (Nat.le_of_ble_eq_true rfl) dX0_sign_154 ⟨(by show 0 + 1 ≤ 1; omega), (by show 0 + 6 ≤ 6; omega)⟩ ⟨(by show 7 + 1 ≤ (5 * n + 33); omega), (by show 8 + (4 + 11) + 122 ≤ (200 * n + 560); omega)⟩ (fun v287 u285 H locs hw286 hP hD hS => ?_) (fun ux ce9 q9 H9 locs9 hux hP9 hD9 hS9 hce hcv hcl => pb_out ux (ThQ.up (Thx.same (Thx.f (Thx.f (Thx.f (Thx.f (Bth.thx hbb283) (by omega)) (by omega)) (by omega)) (by omega)) rfl) (show RhX (updR (updR R 2 (.ref pq)) 3 (.ref mq)) (updR (updR (updR R 2 (.ref pq)) 3 (.ref mq)) 2 (.ref pq)) from fun k9 hk9 => by unfold updR; simp only [show ¬ k9 = 1 by omega, show ¬ k9 = 2 by omega, show ¬ k9 = 3 by omega, show ¬ k9 = 4 by omega, if_false]) hux) hnt hlocks hce hcv hcl hP9 hD9 hS9 (by show 0 + 1 ≤ 1; omega) (by show 0 + 6 ≤ 6; omega))
      obtain ⟨w, _⟩ := u285
      obtain ⟨hw286, hO⟩ := hw286
      obtain rfl : v287 = none := hw286
      have hO : OKP G h0 a (upd (upd (upd (upd (upd (upd F 2 (nI sz)) 5 (nI cs261)) 12 (nI vr)) 13 as262) 14 wt263) 15 wf264) (updR (updR R 2 (.ref pq)) 3 (.ref mq)) Z B260 J K259 w := hO.to rfl
      refine W.widen (k := 0) (n := 0) (by show 0 + 0 ≤ 0; omega) (by show 0 + 0 ≤ 0; omega) ?_
      refine W.eq (g2 := F0 m 157 ls []) rfl ?_
      refine lv_aload_n hx hb dX0_sign_157 rfl (lv_at hl 1 rfl) ?_
      refine lv_bipush (v := 10) hx hb dX0_sign_158 (by decide) ?_
      refine lv_iload_n hx hb dX0_sign_160 rfl (lv_at hl 3 rfl) ?_
      refine lv_iload_n hx hb dX0_sign_161 rfl (lv_at hl 0 rfl) ?_
      have hO : OKW G h0 a (upd (upd (upd (upd (upd (upd (upd F 2 (nI sz)) 5 (nI cs261)) 12 (nI vr)) 13 as262) 14 wt263) 15 wf264) 5 (nI cs261)) (updR (updR R 2 (.ref pq)) 3 (.ref mq)) Z B260 J K259.1 (fun q99 x99 => x99 = rep G a K259 q99) w := hO.to rfl
      obtain ⟨_, qr293, hqr294⟩ := hO.2.1 24 _ (sg_24 G h0 a _ _ _ _ _)
      refine pc_V0 (G := G) (As := [.int 10, .int 51, .int r12]) (rest := []) hx hb hml hown hq hE hX pX0_al hP hD hS hA hl.1 (B_give l G h0 a (upd (upd (upd (upd (upd (upd F 2 (nI sz)) 5 (nI cs261)) 12 (nI vr)) 13 as262) 14 wt263) 15 wf264) (updR (updR R 2 (.ref pq)) 3 (.ref mq)) Z B260 J K259.1 (fun q99 x99 => x99 = rep G a K259 q99) w 10 51 r12 cs261 (by omega) hng284 hO) (gV pw_158 pw_159 pw_160 pw_63 pw_128) hV_X0_give qr293 0 hqr294 rfl rfl rfl (Nat.le_of_ble_eq_true rfl) dX0_sign_162 ⟨(by show 0 + 0 ≤ 1; omega), (by show 0 + 0 ≤ 6; omega)⟩ ⟨(by show 3 + 1 ≤ (5 * n + 33); omega), (by show 8 + (4 + 11) + 83 ≤ (200 * n + 560); omega)⟩ (fun v292 u290 H locs hw291 hP hD hS => ?_)
      obtain ⟨w, cs295, f296, f297, f298, f299⟩ := u290
      obtain ⟨hw291, h300, h301, hO⟩ := hw291
      have h300 : cs261 ≤ cs295 ∧ cs295 ≤ cs261 + 1 ∧ cs295 ≤ 10000 := h300
      have h301 : Nng f298 := h301
      obtain rfl : v292 = some (.int r12) := hw291
      have hO : OKP G h0 a (upd (upd (upd (upd (upd (upd F 2 (nI sz)) 5 (nI cs295)) 12 (nI vr)) 13 as262) 14 wt263) 15 wf264) (updR (updR R 2 (.ref pq)) 3 (.ref mq)) Z (updA (updA (updA (updA B260 16 f296) 17 f297) 18 f298) 19 f299) J K259 w := hO.to rfl
      refine W.widen (k := 0) (n := 0) (Nat.le_of_ble_eq_true rfl) (Nat.le_of_ble_eq_true rfl) ?_
      refine W.eq (g2 := F0 m 165 ls [.int r12]) rfl ?_
      refine W_size (fun hz1 hz2 => ?_)
      refine vx_ret ?_
      have hz302 : BdE K K259 := hbe282
      have hz303 : Bth B (updA (updA (updA (updA B260 16 f296) 17 f297) 18 f298) 19 f299) := (show Thx (upd (upd (upd F 2 (nI sz)) 5 (nI cs)) 12 (nI vr)) (upd (upd (upd (upd (upd (upd (upd F 2 (nI sz)) 5 (nI cs)) 12 (nI vr)) 5 (nI cs295)) 13 as262) 14 wt263) 15 wf264) B (updA (updA (updA (updA B260 16 f296) 17 f297) 18 f298) 19 f299) from (Thx.b (Thx.b8 (Thx.b (Thx.b (Thx.f (Thx.f (Thx.f (Thx.f (Bth.thx hbb283) (by omega)) (by omega)) (by omega)) (by omega)) (by omega) (by decide)) (by omega) (by decide)) h301) (by omega) (by decide))).2
      have hz304 : cs295 ≤ 10000 := (by omega)
      have hO : OKP G h0 a (upd (upd (upd (upd (upd (upd F 2 (nI sz)) 5 (nI cs295)) 12 (nI vr)) 13 as262) 14 wt263) 15 wf264) (updR (updR R 2 (.ref pq)) 3 (.ref mq)) Z (updA (updA (updA (updA B260 16 f296) 17 f297) 18 f298) 19 f299) J K259 w := hO.to rfl
      refine W.widen (k := 1) (n := 6) (by omega) (by omega) ?_
      have hzz1 : H.size ≤ s.heap.size + (0) := (by have z : 0 ≤ 0 := (by omega); omega)
      have hzz2 : hSl H ≤ hSl s.heap + (0) := (by have z : 0 ≤ 0 := (by omega); omega)
      exact W.iret (v := r12) hx hb hr (fun t99 ht99 hW99 => ⟨⟨_, (w, (K259, (updA (updA (updA (updA B260 16 f296) 17 f297) 18 f298) 19 f299), cs295, as262, wt263, wf264, r12)), rfl, ⟨rfl, hz302, hz303, hz304, hO⟩, by rw [ht99]; exact hP, hD, by rw [ht99]; exact hzz1, by rw [ht99]; exact hzz2⟩, hS.F ht99⟩) hS.2.2 dX0_sign_165
    · refine lv_iload_n hx hb dX0_sign_118 rfl (lv_at hl 0 rfl) ?_
      refine lv_bipush (v := 61) hx hb dX0_sign_119 (by decide) ?_
      refine lv_icmp_eq (tgt := 140) hx hb dX0_sign_121 (by decide) (fun c305 => ?_) (fun c305 => ?_)
      · refine lv_aload_n hx hb dX0_sign_140 rfl (lv_at hl 1 rfl) ?_
        refine lv_aload_n hx hb dX0_sign_141 rfl (lv_at hl 2 rfl) ?_
        refine p_get (v := .ref q2) (C := RX7) (Tc := TX7) (N := 11) (ci := 13) hx hb hq pin_wsX70 hown hE hP hO (by rw [hf23]; decide) (rep_1 hf23) rfl 7 (by decide) (hq _ pw_169) (fun _ h9 => h9) (congrArg (fun z => some (va_rf z)) hf27) dX0_sign_142 ?_
        refine lv_aload_n hx hb dX0_sign_145 rfl (lv_at hl 1 rfl) ?_
        refine lv_aload_n hx hb dX0_sign_146 rfl (lv_at hl 2 rfl) ?_
        refine p_get (v := .ref q2) (C := RX7) (Tc := TX7) (N := 11) (ci := 13) hx hb hq pin_wsX70 hown hE hP hO (by rw [hf23]; decide) (rep_1 hf23) rfl 7 (by decide) (hq _ pw_169) (fun _ h9 => h9) (congrArg (fun z => some (va_rf z)) hf27) dX0_sign_147 ?_
        have hO : OKP G h0 a (upd (upd (upd (upd (upd (upd (upd (upd (upd (upd F 2 (nI sz)) 5 (nI cs)) 12 (nI vr)) 5 (nI cs8)) 13 as9) 14 wt10) 15 wf11) 2 (nI sz)) 5 (nI cs8)) 12 (nI vr)) (updR (updR (updR (updR R 2 (.ref pq)) 3 (.ref mq)) 2 (.ref pq)) 3 (.ref mq)) Z B7 J K6 w := hO.to rfl
        obtain ⟨_, qr309, hqr310⟩ := hO.2.1 24 _ (sg_24 G h0 a _ _ _ _ _)
        refine pn_V0 (G := G) (As := [.ref q2]) (rest := [.ref q2, .ref (a 4)]) hx hb hml hown hq hE hX pX0_al hP hD hS hA hl.1 ((ihv (by omega)) h0 a (upd (upd (upd (upd (upd (upd (upd F 2 (nI sz)) 5 (nI cs)) 12 (nI vr)) 5 (nI cs8)) 13 as9) 14 wt10) 15 wf11) (updR (updR R 2 (.ref pq)) 3 (.ref mq)) Z B7 J K6 w pq dr ml nd nm cp it s9 q2 mq cs8 vr sz g rk (by omega) (BdE.wp hbe29 hwp) (BdE.pt hbe29 hwp hps) (BdE.rko hbe29 hrk) (by omega) (by omega) hng31 hf24 hf28 ⟨hv1.1, (by have z9 := hv1; omega)⟩ hO hl0) (gV pw_173 pw_174 pw_175 pw_63 pw_224) hV_X0_value qr309 0 hqr310 rfl rfl rfl (Nat.le_of_ble_eq_true rfl) dX0_sign_150 ⟨(by show 0 + 1 ≤ 1; omega), (by show 0 + 6 ≤ 6; omega)⟩ ⟨(by show (5 * (n - 1) + 34) + 1 ≤ (5 * n + 33); omega), (by show 8 + (3 + 11) + (200 * (n - 1) + 600) ≤ (200 * n + 560); omega)⟩ (fun v308 u306 H locs hw307 hP hD hS => ?_) (fun ux ce9 q9 H9 locs9 hux hP9 hD9 hS9 hce hcv hcl => pb_out ux (ThQ.up (Thx.same (Thx.same (Thx.same (Thx.f (Thx.f (Thx.f (Thx.f (Bth.thx hbb30) (by omega)) (by omega)) (by omega)) (by omega)) rfl) rfl) rfl) (show RhX (updR (updR R 2 (.ref pq)) 3 (.ref mq)) (updR (updR (updR (updR R 2 (.ref pq)) 3 (.ref mq)) 2 (.ref pq)) 3 (.ref mq)) from fun k9 hk9 => by unfold updR; simp only [show ¬ k9 = 1 by omega, show ¬ k9 = 2 by omega, show ¬ k9 = 3 by omega, show ¬ k9 = 4 by omega, if_false]) hux) hnt hlocks hce hcv hcl hP9 hD9 hS9 (by show 0 + 1 ≤ 1; omega) (by show 0 + 6 ≤ 6; omega))
        obtain ⟨w, K311, B312, cs313, as314, wt315, wf316, r317⟩ := u306
        obtain ⟨hw307, h318, h319, h320, hO⟩ := hw307
        have h318 : BdE K6 K311 := h318
        have h319 : Bth B7 B312 := h319
        have h320 : cs313 ≤ 10000 := h320
        obtain rfl : v308 = some (.int r317) := hw307
        have hf321 : K311.1 pq = 7 := (BdE.T h318 hf16 (by decide))
        have hf322 : K311.2.2.1 18 pq = some (a 1) := (BdE.C h318 (by rw [hf16]; decide) 18).trans hf17
        have hf323 : K311.2.2.1 14 pq = some dr := (BdE.C h318 (by rw [hf16]; decide) 14).trans hf18
        have hf324 : K311.1 dr = 8 := (BdE.T h318 hf19 (by decide))
        have hf325 : K311.2.2.1 15 pq = some ml := (BdE.C h318 (by rw [hf16]; decide) 15).trans hf20
        have hf326 : K311.1 ml = 5 := (BdE.T h318 hf21 (by decide))
        have hf327 : K311.2.1 24 pq = (nI nd) := (BdE.I h318 (by rw [hf16]; decide) (by decide) (by decide)).trans hf22
        have hf328 : K311.1 q = 1 := (BdE.T h318 hf23 (by decide))
        have hf329 : K311.1 mq = 3 := (BdE.T h318 hf24 (by decide))
        have hf330 : K311.2.2.1 0 q = some q1 := (BdE.C h318 (by rw [hf23]; decide) 0).trans hf25
        have hf331 : K311.1 q1 = 1 := (BdE.T h318 hf26 (by decide))
        have hf332 : K311.2.2.1 1 q = some q2 := (BdE.C h318 (by rw [hf23]; decide) 1).trans hf27
        have hf333 : K311.1 q2 = 1 := (BdE.T h318 hf28 (by decide))
        have hO : OKP G h0 a (upd (upd (upd (upd (upd (upd F 2 (nI sz)) 5 (nI cs313)) 12 (nI vr)) 13 as314) 14 wt315) 15 wf316) (updR (updR R 2 (.ref pq)) 3 (.ref mq)) Z B312 J K311 w := hO.to rfl
        refine W.widen (k := 0) (n := 0) (by show 0 + 0 ≤ 0; omega) (by show 0 + 0 ≤ 0; omega) ?_
        refine W.eq (g2 := F0 m 153 ls [.int r317, .ref q2, .ref (a 4)]) rfl ?_
        have hbe334 := BdE.trans hbe29 h318
        have hbb335 : Bth B B312 := Bth.trans (show Thx (upd (upd (upd F 2 (nI sz)) 5 (nI cs)) 12 (nI vr)) (upd (upd (upd (upd (upd (upd (upd F 2 (nI sz)) 5 (nI cs)) 12 (nI vr)) 5 (nI cs8)) 13 as9) 14 wt10) 15 wf11) B B7 from (Thx.f (Thx.f (Thx.f (Thx.f (Bth.thx hbb30) (by omega)) (by omega)) (by omega)) (by omega))).2 h319
        have hng336 : Nng (B312 18) := h319.2 hng31
        refine lv_iload_n hx hb dX0_sign_153 rfl (lv_at hl 0 rfl) ?_
        have hO : OKP G h0 a (upd (upd (upd (upd (upd (upd (upd (upd F 2 (nI sz)) 5 (nI cs)) 12 (nI vr)) 5 (nI cs313)) 13 as314) 14 wt315) 15 wf316) 2 (nI sz)) (updR (updR (updR R 2 (.ref pq)) 3 (.ref mq)) 2 (.ref pq)) Z B312 J K311 w := hO.to rfl
        obtain ⟨_, qr340, hqr341⟩ := hO.2.1 24 _ (sg_24 G h0 a _ _ _ _ _)
        refine pn_V0 (G := G) (As := [.ref q2, .int r317, .int r12]) (rest := []) hx hb hml hown hq hE hX pX0_al hP hD hS hA hl.1 (B_fit l G h0 a (upd (upd (upd (upd (upd (upd (upd F 2 (nI sz)) 5 (nI cs)) 12 (nI vr)) 5 (nI cs313)) 13 as314) 14 wt315) 15 wf316) (updR (updR R 2 (.ref pq)) 3 (.ref mq)) Z B312 J K311 w pq dr ml nd q2 sz r317 r12 g (by omega) (BdE.pt hbe334 hwp hps).1 (BdE.pt hbe334 hwp hps).2.1 hf333 hO hl0) (gV pw_176 pw_177 pw_178 pw_63 pw_114) hV_X0_fit qr340 0 hqr341 rfl rfl rfl (Nat.le_of_ble_eq_true rfl) dX0_sign_154 ⟨(by show 0 + 1 ≤ 1; omega), (by show 0 + 6 ≤ 6; omega)⟩ ⟨(by show 7 + 1 ≤ (5 * n + 33); omega), (by show 8 + (4 + 11) + 122 ≤ (200 * n + 560); omega)⟩ (fun v339 u337 H locs hw338 hP hD hS => ?_) (fun ux ce9 q9 H9 locs9 hux hP9 hD9 hS9 hce hcv hcl => pb_out ux (ThQ.up (Thx.same (Thx.f (Thx.f (Thx.f (Thx.f (Bth.thx hbb335) (by omega)) (by omega)) (by omega)) (by omega)) rfl) (show RhX (updR (updR R 2 (.ref pq)) 3 (.ref mq)) (updR (updR (updR R 2 (.ref pq)) 3 (.ref mq)) 2 (.ref pq)) from fun k9 hk9 => by unfold updR; simp only [show ¬ k9 = 1 by omega, show ¬ k9 = 2 by omega, show ¬ k9 = 3 by omega, show ¬ k9 = 4 by omega, if_false]) hux) hnt hlocks hce hcv hcl hP9 hD9 hS9 (by show 0 + 1 ≤ 1; omega) (by show 0 + 6 ≤ 6; omega))
        obtain ⟨w, _⟩ := u337
        obtain ⟨hw338, hO⟩ := hw338
        obtain rfl : v339 = none := hw338
        have hO : OKP G h0 a (upd (upd (upd (upd (upd (upd F 2 (nI sz)) 5 (nI cs313)) 12 (nI vr)) 13 as314) 14 wt315) 15 wf316) (updR (updR R 2 (.ref pq)) 3 (.ref mq)) Z B312 J K311 w := hO.to rfl
        refine W.widen (k := 0) (n := 0) (by show 0 + 0 ≤ 0; omega) (by show 0 + 0 ≤ 0; omega) ?_
        refine W.eq (g2 := F0 m 157 ls []) rfl ?_
        refine lv_aload_n hx hb dX0_sign_157 rfl (lv_at hl 1 rfl) ?_
        refine lv_bipush (v := 10) hx hb dX0_sign_158 (by decide) ?_
        refine lv_iload_n hx hb dX0_sign_160 rfl (lv_at hl 3 rfl) ?_
        refine lv_iload_n hx hb dX0_sign_161 rfl (lv_at hl 0 rfl) ?_
        have hO : OKW G h0 a (upd (upd (upd (upd (upd (upd (upd F 2 (nI sz)) 5 (nI cs313)) 12 (nI vr)) 13 as314) 14 wt315) 15 wf316) 5 (nI cs313)) (updR (updR R 2 (.ref pq)) 3 (.ref mq)) Z B312 J K311.1 (fun q99 x99 => x99 = rep G a K311 q99) w := hO.to rfl
        obtain ⟨_, qr345, hqr346⟩ := hO.2.1 24 _ (sg_24 G h0 a _ _ _ _ _)
        refine pc_V0 (G := G) (As := [.int 10, .int 51, .int r12]) (rest := []) hx hb hml hown hq hE hX pX0_al hP hD hS hA hl.1 (B_give l G h0 a (upd (upd (upd (upd (upd (upd F 2 (nI sz)) 5 (nI cs313)) 12 (nI vr)) 13 as314) 14 wt315) 15 wf316) (updR (updR R 2 (.ref pq)) 3 (.ref mq)) Z B312 J K311.1 (fun q99 x99 => x99 = rep G a K311 q99) w 10 51 r12 cs313 (by omega) hng336 hO) (gV pw_158 pw_159 pw_160 pw_63 pw_128) hV_X0_give qr345 0 hqr346 rfl rfl rfl (Nat.le_of_ble_eq_true rfl) dX0_sign_162 ⟨(by show 0 + 0 ≤ 1; omega), (by show 0 + 0 ≤ 6; omega)⟩ ⟨(by show 3 + 1 ≤ (5 * n + 33); omega), (by show 8 + (4 + 11) + 83 ≤ (200 * n + 560); omega)⟩ (fun v344 u342 H locs hw343 hP hD hS => ?_)
        obtain ⟨w, cs347, f348, f349, f350, f351⟩ := u342
        obtain ⟨hw343, h352, h353, hO⟩ := hw343
        have h352 : cs313 ≤ cs347 ∧ cs347 ≤ cs313 + 1 ∧ cs347 ≤ 10000 := h352
        have h353 : Nng f350 := h353
        obtain rfl : v344 = some (.int r12) := hw343
        have hO : OKP G h0 a (upd (upd (upd (upd (upd (upd F 2 (nI sz)) 5 (nI cs347)) 12 (nI vr)) 13 as314) 14 wt315) 15 wf316) (updR (updR R 2 (.ref pq)) 3 (.ref mq)) Z (updA (updA (updA (updA B312 16 f348) 17 f349) 18 f350) 19 f351) J K311 w := hO.to rfl
        refine W.widen (k := 0) (n := 0) (Nat.le_of_ble_eq_true rfl) (Nat.le_of_ble_eq_true rfl) ?_
        refine W.eq (g2 := F0 m 165 ls [.int r12]) rfl ?_
        refine W_size (fun hz1 hz2 => ?_)
        refine vx_ret ?_
        have hz354 : BdE K K311 := hbe334
        have hz355 : Bth B (updA (updA (updA (updA B312 16 f348) 17 f349) 18 f350) 19 f351) := (show Thx (upd (upd (upd F 2 (nI sz)) 5 (nI cs)) 12 (nI vr)) (upd (upd (upd (upd (upd (upd (upd F 2 (nI sz)) 5 (nI cs)) 12 (nI vr)) 5 (nI cs347)) 13 as314) 14 wt315) 15 wf316) B (updA (updA (updA (updA B312 16 f348) 17 f349) 18 f350) 19 f351) from (Thx.b (Thx.b8 (Thx.b (Thx.b (Thx.f (Thx.f (Thx.f (Thx.f (Bth.thx hbb335) (by omega)) (by omega)) (by omega)) (by omega)) (by omega) (by decide)) (by omega) (by decide)) h353) (by omega) (by decide))).2
        have hz356 : cs347 ≤ 10000 := (by omega)
        have hO : OKP G h0 a (upd (upd (upd (upd (upd (upd F 2 (nI sz)) 5 (nI cs347)) 12 (nI vr)) 13 as314) 14 wt315) 15 wf316) (updR (updR R 2 (.ref pq)) 3 (.ref mq)) Z (updA (updA (updA (updA B312 16 f348) 17 f349) 18 f350) 19 f351) J K311 w := hO.to rfl
        refine W.widen (k := 1) (n := 6) (by omega) (by omega) ?_
        have hzz1 : H.size ≤ s.heap.size + (0) := (by have z : 0 ≤ 0 := (by omega); omega)
        have hzz2 : hSl H ≤ hSl s.heap + (0) := (by have z : 0 ≤ 0 := (by omega); omega)
        exact W.iret (v := r12) hx hb hr (fun t99 ht99 hW99 => ⟨⟨_, (w, (K311, (updA (updA (updA (updA B312 16 f348) 17 f349) 18 f350) 19 f351), cs347, as314, wt315, wf316, r12)), rfl, ⟨rfl, hz354, hz355, hz356, hO⟩, by rw [ht99]; exact hP, hD, by rw [ht99]; exact hzz1, by rw [ht99]; exact hzz2⟩, hS.F ht99⟩) hS.2.2 dX0_sign_165
      · refine lv_aload_n hx hb dX0_sign_124 rfl (lv_at hl 1 rfl) ?_
        refine c_get (v := .ref (a 1)) (C := RX0) (Tc := TX0) (N := 13) (ci := 0) hx hb hq pin_wsX00 hown hE hP hO 24 (sg_24 G h0 a _ _ _ _ _) rfl 0 (by decide) (hq _ pw_4) (fun _ h9 => h9) rfl dX0_sign_125 ?_
        refine lv_bipush (v := 11) hx hb dX0_sign_128 (by decide) ?_
        refine lv_aload_n hx hb dX0_sign_130 rfl (lv_at hl 2 rfl) ?_
        refine p_get (v := .ref q1) (C := RX7) (Tc := TX7) (N := 11) (ci := 13) hx hb hq pin_wsX70 hown hE hP hO (by rw [hf23]; decide) (rep_1 hf23) rfl 6 (by decide) (hq _ pw_180) (fun _ h9 => h9) (congrArg (fun z => some (va_rf z)) hf25) dX0_sign_131 ?_
        refine p_get (v := .int (K6.2.1 2 q1)) (C := RX7) (Tc := TX7) (N := 11) (ci := 13) hx hb hq pin_wsX70 hown hE hP hO (by rw [hf26]; decide) (rep_1 hf26) rfl 2 (by decide) (hq _ pw_82) (fun _ h9 => h9) rfl dX0_sign_134 ?_
        have hO : OKW G h0 a (upd (upd (upd (upd (upd (upd (upd (upd F 2 (nI sz)) 5 (nI cs)) 12 (nI vr)) 5 (nI cs8)) 13 as9) 14 wt10) 15 wf11) 2 (nI sz)) (updR (updR R 2 (.ref pq)) 3 (.ref mq)) Z B7 J K6.1 (fun q99 x99 => x99 = rep G a K6 q99) w := hO.to rfl
        obtain ⟨_, qr360, hqr361⟩ := hO.2.1 2 _ (sg_2 G h0 a _ _ _ _ _)
        refine pn_V0 (G := G) (As := [.int 11, .int (K6.2.1 2 q1)]) (rest := []) hx hb hml hown hq hE hX pX0_al hP hD hS hA hl.1 (K_fail l G h0 a (upd (upd (upd (upd (upd (upd (upd F 2 (nI sz)) 5 (nI cs)) 12 (nI vr)) 5 (nI cs8)) 13 as9) 14 wt10) 15 wf11) (updR (updR R 2 (.ref pq)) 3 (.ref mq)) Z B7 J K6.1 (fun q99 x99 => x99 = rep G a K6 q99) w 11 (K6.2.1 2 q1) sz (by omega) hO hl0) (gV pw_64 pw_65 pw_66 pw_59 pw_43) hV_X10_fail qr360 7 hqr361 rfl rfl rfl (Nat.le_of_ble_eq_true rfl) dX0_sign_137 ⟨(by show 0 + 1 ≤ 1; omega), (by show 0 + 6 ≤ 6; omega)⟩ ⟨(by show 6 + 1 ≤ (5 * n + 33); omega), (by show 8 + (3 + 11) + 100 ≤ (200 * n + 560); omega)⟩ (fun v359 u357 H locs hw358 hP hD hS => hw358.elim) (fun ux ce9 q9 H9 locs9 hux hP9 hD9 hS9 hce hcv hcl => pb_out ux (ThQ.up (Thx.same (Thx.f (Thx.f (Thx.f (Thx.f (Bth.thx hbb30) (by omega)) (by omega)) (by omega)) (by omega)) rfl) RhX.rfl hux) hnt hlocks hce hcv hcl hP9 hD9 hS9 (by show 0 + 1 ≤ 1; omega) (by show 0 + 6 ≤ 6; omega))
  by_cases h362 : x = 52
  · subst h362
    refine lv_tableIn (tgt := 166) (off := 156) hx hb dX0_sign_10 (by decide) (by decide) (by decide) (by decide) ?_
    refine lv_aload_n hx hb dX0_sign_166 rfl (lv_at hl 1 rfl) ?_
    refine lv_aload_n hx hb dX0_sign_167 rfl (lv_at hl 2 rfl) ?_
    refine p_get (v := .ref q1) (C := RX7) (Tc := TX7) (N := 11) (ci := 13) hx hb hq pin_wsX70 hown hE hP hO (by rw [hf23]; decide) (rep_1 hf23) rfl 6 (by decide) (hq _ pw_180) (fun _ h9 => h9) (congrArg (fun z => some (va_rf z)) hf25) dX0_sign_168 ?_
    refine lv_iload_n hx hb dX0_sign_171 rfl (lv_at hl 0 rfl) ?_
    refine lv_bipush (v := 60) hx hb dX0_sign_172 (by decide) ?_
    have hO : OKP G h0 a (upd (upd (upd (upd (upd (upd (upd (upd F 2 (nI sz)) 5 (nI cs)) 12 (nI vr)) 5 (nI cs8)) 13 as9) 14 wt10) 15 wf11) 2 (nI sz)) (updR (updR (updR R 2 (.ref pq)) 3 (.ref mq)) 2 (.ref pq)) Z B7 J K6 w := hO.to rfl
    obtain ⟨_, qr366, hqr367⟩ := hO.2.1 24 _ (sg_24 G h0 a _ _ _ _ _)
    refine pn_V0 (G := G) (As := [.ref q1, .int r12, .int 60]) (rest := []) hx hb hml hown hq hE hX pX0_al hP hD hS hA hl.1 (B_fit l G h0 a (upd (upd (upd (upd (upd (upd (upd F 2 (nI sz)) 5 (nI cs)) 12 (nI vr)) 5 (nI cs8)) 13 as9) 14 wt10) 15 wf11) (updR (updR R 2 (.ref pq)) 3 (.ref mq)) Z B7 J K6 w pq dr ml nd q1 sz r12 60 g (by omega) (BdE.pt hbe29 hwp hps).1 (BdE.pt hbe29 hwp hps).2.1 hf26 hO hl0) (gV pw_176 pw_177 pw_178 pw_63 pw_114) hV_X0_fit qr366 0 hqr367 rfl rfl rfl (Nat.le_of_ble_eq_true rfl) dX0_sign_174 ⟨(by show 0 + 1 ≤ 1; omega), (by show 0 + 6 ≤ 6; omega)⟩ ⟨(by show 7 + 1 ≤ (5 * n + 33); omega), (by show 8 + (4 + 11) + 122 ≤ (200 * n + 560); omega)⟩ (fun v365 u363 H locs hw364 hP hD hS => ?_) (fun ux ce9 q9 H9 locs9 hux hP9 hD9 hS9 hce hcv hcl => pb_out ux (ThQ.up (Thx.same (Thx.f (Thx.f (Thx.f (Thx.f (Bth.thx hbb30) (by omega)) (by omega)) (by omega)) (by omega)) rfl) (show RhX (updR (updR R 2 (.ref pq)) 3 (.ref mq)) (updR (updR (updR R 2 (.ref pq)) 3 (.ref mq)) 2 (.ref pq)) from fun k9 hk9 => by unfold updR; simp only [show ¬ k9 = 1 by omega, show ¬ k9 = 2 by omega, show ¬ k9 = 3 by omega, show ¬ k9 = 4 by omega, if_false]) hux) hnt hlocks hce hcv hcl hP9 hD9 hS9 (by show 0 + 1 ≤ 1; omega) (by show 0 + 6 ≤ 6; omega))
    obtain ⟨w, _⟩ := u363
    obtain ⟨hw364, hO⟩ := hw364
    obtain rfl : v365 = none := hw364
    have hO : OKP G h0 a (upd (upd (upd (upd (upd (upd F 2 (nI sz)) 5 (nI cs8)) 12 (nI vr)) 13 as9) 14 wt10) 15 wf11) (updR (updR R 2 (.ref pq)) 3 (.ref mq)) Z B7 J K6 w := hO.to rfl
    refine W.widen (k := 0) (n := 0) (by show 0 + 0 ≤ 0; omega) (by show 0 + 0 ≤ 0; omega) ?_
    refine W.eq (g2 := F0 m 177 ls []) rfl ?_
    refine lv_aload_n hx hb dX0_sign_177 rfl (lv_at hl 1 rfl) ?_
    refine lv_aload_n hx hb dX0_sign_178 rfl (lv_at hl 2 rfl) ?_
    refine p_get (v := .ref q2) (C := RX7) (Tc := TX7) (N := 11) (ci := 13) hx hb hq pin_wsX70 hown hE hP hO (by rw [hf23]; decide) (rep_1 hf23) rfl 7 (by decide) (hq _ pw_169) (fun _ h9 => h9) (congrArg (fun z => some (va_rf z)) hf27) dX0_sign_179 ?_
    refine lv_aload_n hx hb dX0_sign_182 rfl (lv_at hl 1 rfl) ?_
    refine lv_aload_n hx hb dX0_sign_183 rfl (lv_at hl 2 rfl) ?_
    refine p_get (v := .ref q2) (C := RX7) (Tc := TX7) (N := 11) (ci := 13) hx hb hq pin_wsX70 hown hE hP hO (by rw [hf23]; decide) (rep_1 hf23) rfl 7 (by decide) (hq _ pw_169) (fun _ h9 => h9) (congrArg (fun z => some (va_rf z)) hf27) dX0_sign_184 ?_
    have hO : OKP G h0 a (upd (upd (upd (upd (upd (upd (upd (upd (upd (upd F 2 (nI sz)) 5 (nI cs)) 12 (nI vr)) 5 (nI cs8)) 13 as9) 14 wt10) 15 wf11) 2 (nI sz)) 5 (nI cs8)) 12 (nI vr)) (updR (updR (updR (updR R 2 (.ref pq)) 3 (.ref mq)) 2 (.ref pq)) 3 (.ref mq)) Z B7 J K6 w := hO.to rfl
    obtain ⟨_, qr371, hqr372⟩ := hO.2.1 24 _ (sg_24 G h0 a _ _ _ _ _)
    refine pn_V0 (G := G) (As := [.ref q2]) (rest := [.ref q2, .ref (a 4)]) hx hb hml hown hq hE hX pX0_al hP hD hS hA hl.1 ((ihv (by omega)) h0 a (upd (upd (upd (upd (upd (upd (upd F 2 (nI sz)) 5 (nI cs)) 12 (nI vr)) 5 (nI cs8)) 13 as9) 14 wt10) 15 wf11) (updR (updR R 2 (.ref pq)) 3 (.ref mq)) Z B7 J K6 w pq dr ml nd nm cp it s9 q2 mq cs8 vr sz g rk (by omega) (BdE.wp hbe29 hwp) (BdE.pt hbe29 hwp hps) (BdE.rko hbe29 hrk) (by omega) (by omega) hng31 hf24 hf28 ⟨hv1.1, (by have z9 := hv1; omega)⟩ hO hl0) (gV pw_173 pw_174 pw_175 pw_63 pw_224) hV_X0_value qr371 0 hqr372 rfl rfl rfl (Nat.le_of_ble_eq_true rfl) dX0_sign_187 ⟨(by show 0 + 1 ≤ 1; omega), (by show 0 + 6 ≤ 6; omega)⟩ ⟨(by show (5 * (n - 1) + 34) + 1 ≤ (5 * n + 33); omega), (by show 8 + (3 + 11) + (200 * (n - 1) + 600) ≤ (200 * n + 560); omega)⟩ (fun v370 u368 H locs hw369 hP hD hS => ?_) (fun ux ce9 q9 H9 locs9 hux hP9 hD9 hS9 hce hcv hcl => pb_out ux (ThQ.up (Thx.same (Thx.same (Thx.same (Thx.f (Thx.f (Thx.f (Thx.f (Bth.thx hbb30) (by omega)) (by omega)) (by omega)) (by omega)) rfl) rfl) rfl) (show RhX (updR (updR R 2 (.ref pq)) 3 (.ref mq)) (updR (updR (updR (updR R 2 (.ref pq)) 3 (.ref mq)) 2 (.ref pq)) 3 (.ref mq)) from fun k9 hk9 => by unfold updR; simp only [show ¬ k9 = 1 by omega, show ¬ k9 = 2 by omega, show ¬ k9 = 3 by omega, show ¬ k9 = 4 by omega, if_false]) hux) hnt hlocks hce hcv hcl hP9 hD9 hS9 (by show 0 + 1 ≤ 1; omega) (by show 0 + 6 ≤ 6; omega))
    obtain ⟨w, K373, B374, cs375, as376, wt377, wf378, r379⟩ := u368
    obtain ⟨hw369, h380, h381, h382, hO⟩ := hw369
    have h380 : BdE K6 K373 := h380
    have h381 : Bth B7 B374 := h381
    have h382 : cs375 ≤ 10000 := h382
    obtain rfl : v370 = some (.int r379) := hw369
    have hf383 : K373.1 pq = 7 := (BdE.T h380 hf16 (by decide))
    have hf384 : K373.2.2.1 18 pq = some (a 1) := (BdE.C h380 (by rw [hf16]; decide) 18).trans hf17
    have hf385 : K373.2.2.1 14 pq = some dr := (BdE.C h380 (by rw [hf16]; decide) 14).trans hf18
    have hf386 : K373.1 dr = 8 := (BdE.T h380 hf19 (by decide))
    have hf387 : K373.2.2.1 15 pq = some ml := (BdE.C h380 (by rw [hf16]; decide) 15).trans hf20
    have hf388 : K373.1 ml = 5 := (BdE.T h380 hf21 (by decide))
    have hf389 : K373.2.1 24 pq = (nI nd) := (BdE.I h380 (by rw [hf16]; decide) (by decide) (by decide)).trans hf22
    have hf390 : K373.1 q = 1 := (BdE.T h380 hf23 (by decide))
    have hf391 : K373.1 mq = 3 := (BdE.T h380 hf24 (by decide))
    have hf392 : K373.2.2.1 0 q = some q1 := (BdE.C h380 (by rw [hf23]; decide) 0).trans hf25
    have hf393 : K373.1 q1 = 1 := (BdE.T h380 hf26 (by decide))
    have hf394 : K373.2.2.1 1 q = some q2 := (BdE.C h380 (by rw [hf23]; decide) 1).trans hf27
    have hf395 : K373.1 q2 = 1 := (BdE.T h380 hf28 (by decide))
    have hO : OKP G h0 a (upd (upd (upd (upd (upd (upd F 2 (nI sz)) 5 (nI cs375)) 12 (nI vr)) 13 as376) 14 wt377) 15 wf378) (updR (updR R 2 (.ref pq)) 3 (.ref mq)) Z B374 J K373 w := hO.to rfl
    refine W.widen (k := 0) (n := 0) (by show 0 + 0 ≤ 0; omega) (by show 0 + 0 ≤ 0; omega) ?_
    refine W.eq (g2 := F0 m 190 ls [.int r379, .ref q2, .ref (a 4)]) rfl ?_
    have hbe396 := BdE.trans hbe29 h380
    have hbb397 : Bth B B374 := Bth.trans (show Thx (upd (upd (upd F 2 (nI sz)) 5 (nI cs)) 12 (nI vr)) (upd (upd (upd (upd (upd (upd (upd F 2 (nI sz)) 5 (nI cs)) 12 (nI vr)) 5 (nI cs8)) 13 as9) 14 wt10) 15 wf11) B B7 from (Thx.f (Thx.f (Thx.f (Thx.f (Bth.thx hbb30) (by omega)) (by omega)) (by omega)) (by omega))).2 h381
    have hng398 : Nng (B374 18) := h381.2 hng31
    refine lv_bipush (v := 60) hx hb dX0_sign_190 (by decide) ?_
    have hO : OKP G h0 a (upd (upd (upd (upd (upd (upd (upd (upd F 2 (nI sz)) 5 (nI cs)) 12 (nI vr)) 5 (nI cs375)) 13 as376) 14 wt377) 15 wf378) 2 (nI sz)) (updR (updR (updR R 2 (.ref pq)) 3 (.ref mq)) 2 (.ref pq)) Z B374 J K373 w := hO.to rfl
    obtain ⟨_, qr402, hqr403⟩ := hO.2.1 24 _ (sg_24 G h0 a _ _ _ _ _)
    refine pn_V0 (G := G) (As := [.ref q2, .int r379, .int 60]) (rest := []) hx hb hml hown hq hE hX pX0_al hP hD hS hA hl.1 (B_fit l G h0 a (upd (upd (upd (upd (upd (upd (upd F 2 (nI sz)) 5 (nI cs)) 12 (nI vr)) 5 (nI cs375)) 13 as376) 14 wt377) 15 wf378) (updR (updR R 2 (.ref pq)) 3 (.ref mq)) Z B374 J K373 w pq dr ml nd q2 sz r379 60 g (by omega) (BdE.pt hbe396 hwp hps).1 (BdE.pt hbe396 hwp hps).2.1 hf395 hO hl0) (gV pw_176 pw_177 pw_178 pw_63 pw_114) hV_X0_fit qr402 0 hqr403 rfl rfl rfl (Nat.le_of_ble_eq_true rfl) dX0_sign_192 ⟨(by show 0 + 1 ≤ 1; omega), (by show 0 + 6 ≤ 6; omega)⟩ ⟨(by show 7 + 1 ≤ (5 * n + 33); omega), (by show 8 + (4 + 11) + 122 ≤ (200 * n + 560); omega)⟩ (fun v401 u399 H locs hw400 hP hD hS => ?_) (fun ux ce9 q9 H9 locs9 hux hP9 hD9 hS9 hce hcv hcl => pb_out ux (ThQ.up (Thx.same (Thx.f (Thx.f (Thx.f (Thx.f (Bth.thx hbb397) (by omega)) (by omega)) (by omega)) (by omega)) rfl) (show RhX (updR (updR R 2 (.ref pq)) 3 (.ref mq)) (updR (updR (updR R 2 (.ref pq)) 3 (.ref mq)) 2 (.ref pq)) from fun k9 hk9 => by unfold updR; simp only [show ¬ k9 = 1 by omega, show ¬ k9 = 2 by omega, show ¬ k9 = 3 by omega, show ¬ k9 = 4 by omega, if_false]) hux) hnt hlocks hce hcv hcl hP9 hD9 hS9 (by show 0 + 1 ≤ 1; omega) (by show 0 + 6 ≤ 6; omega))
    obtain ⟨w, _⟩ := u399
    obtain ⟨hw400, hO⟩ := hw400
    obtain rfl : v401 = none := hw400
    have hO : OKP G h0 a (upd (upd (upd (upd (upd (upd F 2 (nI sz)) 5 (nI cs375)) 12 (nI vr)) 13 as376) 14 wt377) 15 wf378) (updR (updR R 2 (.ref pq)) 3 (.ref mq)) Z B374 J K373 w := hO.to rfl
    refine W.widen (k := 0) (n := 0) (by show 0 + 0 ≤ 0; omega) (by show 0 + 0 ≤ 0; omega) ?_
    refine W.eq (g2 := F0 m 195 ls []) rfl ?_
    refine lv_iload_n hx hb dX0_sign_195 rfl (lv_at hl 3 rfl) ?_
    refine lv_bipush (v := 54) hx hb dX0_sign_196 (by decide) ?_
    refine lv_icmp_lt (tgt := 211) hx hb dX0_sign_198 (by decide) (fun c404 => ?_) (fun c404 => absurd c404 (by decide))
    refine lv_iconst (v := 0) hx hb dX0_sign_211 (by decide) ?_
    refine lv_istore (lv' := [(4, .int 0), (3, .int r12), (0, .ref (a 4)), (1, .ref q), (2, .int 52)]) hx hb dX0_sign_212 hl (by decide) rfl (fun ls hl => ?_)
    refine lv_aload_n hx hb dX0_sign_214 rfl (lv_at hl 2 rfl) ?_
    refine lv_bipush (v := 10) hx hb dX0_sign_215 (by decide) ?_
    refine lv_iload_n hx hb dX0_sign_217 rfl (lv_at hl 4 rfl) ?_
    refine lv_iload hx hb dX0_sign_218 (lv_at hl 0 rfl) ?_
    refine lv_if_eq (tgt := 228) hx hb dX0_sign_220 (by decide) (fun c405 => ?_) (fun c405 => absurd c405 (by decide))
    refine lv_bipush (v := 60) hx hb dX0_sign_228 (by decide) ?_
    have hO : OKW G h0 a (upd (upd (upd (upd (upd (upd (upd F 2 (nI sz)) 5 (nI cs375)) 12 (nI vr)) 13 as376) 14 wt377) 15 wf378) 5 (nI cs375)) (updR (updR R 2 (.ref pq)) 3 (.ref mq)) Z B374 J K373.1 (fun q99 x99 => x99 = rep G a K373 q99) w := hO.to rfl
    obtain ⟨_, qr409, hqr410⟩ := hO.2.1 24 _ (sg_24 G h0 a _ _ _ _ _)
    refine pc_V0 (G := G) (As := [.int 10, .int 52, .int 60]) (rest := []) hx hb hml hown hq hE hX pX0_al hP hD hS hA hl.1 (B_give l G h0 a (upd (upd (upd (upd (upd (upd F 2 (nI sz)) 5 (nI cs375)) 12 (nI vr)) 13 as376) 14 wt377) 15 wf378) (updR (updR R 2 (.ref pq)) 3 (.ref mq)) Z B374 J K373.1 (fun q99 x99 => x99 = rep G a K373 q99) w 10 52 60 cs375 (by omega) hng398 hO) (gV pw_158 pw_159 pw_160 pw_63 pw_128) hV_X0_give qr409 0 hqr410 rfl rfl rfl (Nat.le_of_ble_eq_true rfl) dX0_sign_230 ⟨(by show 0 + 0 ≤ 1; omega), (by show 0 + 0 ≤ 6; omega)⟩ ⟨(by show 3 + 1 ≤ (5 * n + 33); omega), (by show 8 + (4 + 11) + 83 ≤ (200 * n + 560); omega)⟩ (fun v408 u406 H locs hw407 hP hD hS => ?_)
    obtain ⟨w, cs411, f412, f413, f414, f415⟩ := u406
    obtain ⟨hw407, h416, h417, hO⟩ := hw407
    have h416 : cs375 ≤ cs411 ∧ cs411 ≤ cs375 + 1 ∧ cs411 ≤ 10000 := h416
    have h417 : Nng f414 := h417
    obtain rfl : v408 = some (.int 60) := hw407
    have hO : OKP G h0 a (upd (upd (upd (upd (upd (upd F 2 (nI sz)) 5 (nI cs411)) 12 (nI vr)) 13 as376) 14 wt377) 15 wf378) (updR (updR R 2 (.ref pq)) 3 (.ref mq)) Z (updA (updA (updA (updA B374 16 f412) 17 f413) 18 f414) 19 f415) J K373 w := hO.to rfl
    refine W.widen (k := 0) (n := 0) (Nat.le_of_ble_eq_true rfl) (Nat.le_of_ble_eq_true rfl) ?_
    refine W.eq (g2 := F0 m 233 ls [.int 60]) rfl ?_
    refine W_size (fun hz1 hz2 => ?_)
    refine vx_ret ?_
    have hz418 : BdE K K373 := hbe396
    have hz419 : Bth B (updA (updA (updA (updA B374 16 f412) 17 f413) 18 f414) 19 f415) := (show Thx (upd (upd (upd F 2 (nI sz)) 5 (nI cs)) 12 (nI vr)) (upd (upd (upd (upd (upd (upd (upd F 2 (nI sz)) 5 (nI cs)) 12 (nI vr)) 5 (nI cs411)) 13 as376) 14 wt377) 15 wf378) B (updA (updA (updA (updA B374 16 f412) 17 f413) 18 f414) 19 f415) from (Thx.b (Thx.b8 (Thx.b (Thx.b (Thx.f (Thx.f (Thx.f (Thx.f (Bth.thx hbb397) (by omega)) (by omega)) (by omega)) (by omega)) (by omega) (by decide)) (by omega) (by decide)) h417) (by omega) (by decide))).2
    have hz420 : cs411 ≤ 10000 := (by omega)
    have hO : OKP G h0 a (upd (upd (upd (upd (upd (upd F 2 (nI sz)) 5 (nI cs411)) 12 (nI vr)) 13 as376) 14 wt377) 15 wf378) (updR (updR R 2 (.ref pq)) 3 (.ref mq)) Z (updA (updA (updA (updA B374 16 f412) 17 f413) 18 f414) 19 f415) J K373 w := hO.to rfl
    refine W.widen (k := 1) (n := 6) (by omega) (by omega) ?_
    have hzz1 : H.size ≤ s.heap.size + (0) := (by have z : 0 ≤ 0 := (by omega); omega)
    have hzz2 : hSl H ≤ hSl s.heap + (0) := (by have z : 0 ≤ 0 := (by omega); omega)
    exact W.iret (v := 60) hx hb hr (fun t99 ht99 hW99 => ⟨⟨_, (w, (K373, (updA (updA (updA (updA B374 16 f412) 17 f413) 18 f414) 19 f415), cs411, as376, wt377, wf378, (60 : Int32))), rfl, ⟨rfl, hz418, hz419, hz420, hO⟩, by rw [ht99]; exact hP, hD, by rw [ht99]; exact hzz1, by rw [ht99]; exact hzz2⟩, hS.F ht99⟩) hS.2.2 dX0_sign_233
  by_cases h421 : x = 53
  · subst h421
    refine lv_tableIn (tgt := 166) (off := 156) hx hb dX0_sign_10 (by decide) (by decide) (by decide) (by decide) ?_
    refine lv_aload_n hx hb dX0_sign_166 rfl (lv_at hl 1 rfl) ?_
    refine lv_aload_n hx hb dX0_sign_167 rfl (lv_at hl 2 rfl) ?_
    refine p_get (v := .ref q1) (C := RX7) (Tc := TX7) (N := 11) (ci := 13) hx hb hq pin_wsX70 hown hE hP hO (by rw [hf23]; decide) (rep_1 hf23) rfl 6 (by decide) (hq _ pw_180) (fun _ h9 => h9) (congrArg (fun z => some (va_rf z)) hf25) dX0_sign_168 ?_
    refine lv_iload_n hx hb dX0_sign_171 rfl (lv_at hl 0 rfl) ?_
    refine lv_bipush (v := 60) hx hb dX0_sign_172 (by decide) ?_
    have hO : OKP G h0 a (upd (upd (upd (upd (upd (upd (upd (upd F 2 (nI sz)) 5 (nI cs)) 12 (nI vr)) 5 (nI cs8)) 13 as9) 14 wt10) 15 wf11) 2 (nI sz)) (updR (updR (updR R 2 (.ref pq)) 3 (.ref mq)) 2 (.ref pq)) Z B7 J K6 w := hO.to rfl
    obtain ⟨_, qr425, hqr426⟩ := hO.2.1 24 _ (sg_24 G h0 a _ _ _ _ _)
    refine pn_V0 (G := G) (As := [.ref q1, .int r12, .int 60]) (rest := []) hx hb hml hown hq hE hX pX0_al hP hD hS hA hl.1 (B_fit l G h0 a (upd (upd (upd (upd (upd (upd (upd F 2 (nI sz)) 5 (nI cs)) 12 (nI vr)) 5 (nI cs8)) 13 as9) 14 wt10) 15 wf11) (updR (updR R 2 (.ref pq)) 3 (.ref mq)) Z B7 J K6 w pq dr ml nd q1 sz r12 60 g (by omega) (BdE.pt hbe29 hwp hps).1 (BdE.pt hbe29 hwp hps).2.1 hf26 hO hl0) (gV pw_176 pw_177 pw_178 pw_63 pw_114) hV_X0_fit qr425 0 hqr426 rfl rfl rfl (Nat.le_of_ble_eq_true rfl) dX0_sign_174 ⟨(by show 0 + 1 ≤ 1; omega), (by show 0 + 6 ≤ 6; omega)⟩ ⟨(by show 7 + 1 ≤ (5 * n + 33); omega), (by show 8 + (4 + 11) + 122 ≤ (200 * n + 560); omega)⟩ (fun v424 u422 H locs hw423 hP hD hS => ?_) (fun ux ce9 q9 H9 locs9 hux hP9 hD9 hS9 hce hcv hcl => pb_out ux (ThQ.up (Thx.same (Thx.f (Thx.f (Thx.f (Thx.f (Bth.thx hbb30) (by omega)) (by omega)) (by omega)) (by omega)) rfl) (show RhX (updR (updR R 2 (.ref pq)) 3 (.ref mq)) (updR (updR (updR R 2 (.ref pq)) 3 (.ref mq)) 2 (.ref pq)) from fun k9 hk9 => by unfold updR; simp only [show ¬ k9 = 1 by omega, show ¬ k9 = 2 by omega, show ¬ k9 = 3 by omega, show ¬ k9 = 4 by omega, if_false]) hux) hnt hlocks hce hcv hcl hP9 hD9 hS9 (by show 0 + 1 ≤ 1; omega) (by show 0 + 6 ≤ 6; omega))
    obtain ⟨w, _⟩ := u422
    obtain ⟨hw423, hO⟩ := hw423
    obtain rfl : v424 = none := hw423
    have hO : OKP G h0 a (upd (upd (upd (upd (upd (upd F 2 (nI sz)) 5 (nI cs8)) 12 (nI vr)) 13 as9) 14 wt10) 15 wf11) (updR (updR R 2 (.ref pq)) 3 (.ref mq)) Z B7 J K6 w := hO.to rfl
    refine W.widen (k := 0) (n := 0) (by show 0 + 0 ≤ 0; omega) (by show 0 + 0 ≤ 0; omega) ?_
    refine W.eq (g2 := F0 m 177 ls []) rfl ?_
    refine lv_aload_n hx hb dX0_sign_177 rfl (lv_at hl 1 rfl) ?_
    refine lv_aload_n hx hb dX0_sign_178 rfl (lv_at hl 2 rfl) ?_
    refine p_get (v := .ref q2) (C := RX7) (Tc := TX7) (N := 11) (ci := 13) hx hb hq pin_wsX70 hown hE hP hO (by rw [hf23]; decide) (rep_1 hf23) rfl 7 (by decide) (hq _ pw_169) (fun _ h9 => h9) (congrArg (fun z => some (va_rf z)) hf27) dX0_sign_179 ?_
    refine lv_aload_n hx hb dX0_sign_182 rfl (lv_at hl 1 rfl) ?_
    refine lv_aload_n hx hb dX0_sign_183 rfl (lv_at hl 2 rfl) ?_
    refine p_get (v := .ref q2) (C := RX7) (Tc := TX7) (N := 11) (ci := 13) hx hb hq pin_wsX70 hown hE hP hO (by rw [hf23]; decide) (rep_1 hf23) rfl 7 (by decide) (hq _ pw_169) (fun _ h9 => h9) (congrArg (fun z => some (va_rf z)) hf27) dX0_sign_184 ?_
    have hO : OKP G h0 a (upd (upd (upd (upd (upd (upd (upd (upd (upd (upd F 2 (nI sz)) 5 (nI cs)) 12 (nI vr)) 5 (nI cs8)) 13 as9) 14 wt10) 15 wf11) 2 (nI sz)) 5 (nI cs8)) 12 (nI vr)) (updR (updR (updR (updR R 2 (.ref pq)) 3 (.ref mq)) 2 (.ref pq)) 3 (.ref mq)) Z B7 J K6 w := hO.to rfl
    obtain ⟨_, qr430, hqr431⟩ := hO.2.1 24 _ (sg_24 G h0 a _ _ _ _ _)
    refine pn_V0 (G := G) (As := [.ref q2]) (rest := [.ref q2, .ref (a 4)]) hx hb hml hown hq hE hX pX0_al hP hD hS hA hl.1 ((ihv (by omega)) h0 a (upd (upd (upd (upd (upd (upd (upd F 2 (nI sz)) 5 (nI cs)) 12 (nI vr)) 5 (nI cs8)) 13 as9) 14 wt10) 15 wf11) (updR (updR R 2 (.ref pq)) 3 (.ref mq)) Z B7 J K6 w pq dr ml nd nm cp it s9 q2 mq cs8 vr sz g rk (by omega) (BdE.wp hbe29 hwp) (BdE.pt hbe29 hwp hps) (BdE.rko hbe29 hrk) (by omega) (by omega) hng31 hf24 hf28 ⟨hv1.1, (by have z9 := hv1; omega)⟩ hO hl0) (gV pw_173 pw_174 pw_175 pw_63 pw_224) hV_X0_value qr430 0 hqr431 rfl rfl rfl (Nat.le_of_ble_eq_true rfl) dX0_sign_187 ⟨(by show 0 + 1 ≤ 1; omega), (by show 0 + 6 ≤ 6; omega)⟩ ⟨(by show (5 * (n - 1) + 34) + 1 ≤ (5 * n + 33); omega), (by show 8 + (3 + 11) + (200 * (n - 1) + 600) ≤ (200 * n + 560); omega)⟩ (fun v429 u427 H locs hw428 hP hD hS => ?_) (fun ux ce9 q9 H9 locs9 hux hP9 hD9 hS9 hce hcv hcl => pb_out ux (ThQ.up (Thx.same (Thx.same (Thx.same (Thx.f (Thx.f (Thx.f (Thx.f (Bth.thx hbb30) (by omega)) (by omega)) (by omega)) (by omega)) rfl) rfl) rfl) (show RhX (updR (updR R 2 (.ref pq)) 3 (.ref mq)) (updR (updR (updR (updR R 2 (.ref pq)) 3 (.ref mq)) 2 (.ref pq)) 3 (.ref mq)) from fun k9 hk9 => by unfold updR; simp only [show ¬ k9 = 1 by omega, show ¬ k9 = 2 by omega, show ¬ k9 = 3 by omega, show ¬ k9 = 4 by omega, if_false]) hux) hnt hlocks hce hcv hcl hP9 hD9 hS9 (by show 0 + 1 ≤ 1; omega) (by show 0 + 6 ≤ 6; omega))
    obtain ⟨w, K432, B433, cs434, as435, wt436, wf437, r438⟩ := u427
    obtain ⟨hw428, h439, h440, h441, hO⟩ := hw428
    have h439 : BdE K6 K432 := h439
    have h440 : Bth B7 B433 := h440
    have h441 : cs434 ≤ 10000 := h441
    obtain rfl : v429 = some (.int r438) := hw428
    have hf442 : K432.1 pq = 7 := (BdE.T h439 hf16 (by decide))
    have hf443 : K432.2.2.1 18 pq = some (a 1) := (BdE.C h439 (by rw [hf16]; decide) 18).trans hf17
    have hf444 : K432.2.2.1 14 pq = some dr := (BdE.C h439 (by rw [hf16]; decide) 14).trans hf18
    have hf445 : K432.1 dr = 8 := (BdE.T h439 hf19 (by decide))
    have hf446 : K432.2.2.1 15 pq = some ml := (BdE.C h439 (by rw [hf16]; decide) 15).trans hf20
    have hf447 : K432.1 ml = 5 := (BdE.T h439 hf21 (by decide))
    have hf448 : K432.2.1 24 pq = (nI nd) := (BdE.I h439 (by rw [hf16]; decide) (by decide) (by decide)).trans hf22
    have hf449 : K432.1 q = 1 := (BdE.T h439 hf23 (by decide))
    have hf450 : K432.1 mq = 3 := (BdE.T h439 hf24 (by decide))
    have hf451 : K432.2.2.1 0 q = some q1 := (BdE.C h439 (by rw [hf23]; decide) 0).trans hf25
    have hf452 : K432.1 q1 = 1 := (BdE.T h439 hf26 (by decide))
    have hf453 : K432.2.2.1 1 q = some q2 := (BdE.C h439 (by rw [hf23]; decide) 1).trans hf27
    have hf454 : K432.1 q2 = 1 := (BdE.T h439 hf28 (by decide))
    have hO : OKP G h0 a (upd (upd (upd (upd (upd (upd F 2 (nI sz)) 5 (nI cs434)) 12 (nI vr)) 13 as435) 14 wt436) 15 wf437) (updR (updR R 2 (.ref pq)) 3 (.ref mq)) Z B433 J K432 w := hO.to rfl
    refine W.widen (k := 0) (n := 0) (by show 0 + 0 ≤ 0; omega) (by show 0 + 0 ≤ 0; omega) ?_
    refine W.eq (g2 := F0 m 190 ls [.int r438, .ref q2, .ref (a 4)]) rfl ?_
    have hbe455 := BdE.trans hbe29 h439
    have hbb456 : Bth B B433 := Bth.trans (show Thx (upd (upd (upd F 2 (nI sz)) 5 (nI cs)) 12 (nI vr)) (upd (upd (upd (upd (upd (upd (upd F 2 (nI sz)) 5 (nI cs)) 12 (nI vr)) 5 (nI cs8)) 13 as9) 14 wt10) 15 wf11) B B7 from (Thx.f (Thx.f (Thx.f (Thx.f (Bth.thx hbb30) (by omega)) (by omega)) (by omega)) (by omega))).2 h440
    have hng457 : Nng (B433 18) := h440.2 hng31
    refine lv_bipush (v := 60) hx hb dX0_sign_190 (by decide) ?_
    have hO : OKP G h0 a (upd (upd (upd (upd (upd (upd (upd (upd F 2 (nI sz)) 5 (nI cs)) 12 (nI vr)) 5 (nI cs434)) 13 as435) 14 wt436) 15 wf437) 2 (nI sz)) (updR (updR (updR R 2 (.ref pq)) 3 (.ref mq)) 2 (.ref pq)) Z B433 J K432 w := hO.to rfl
    obtain ⟨_, qr461, hqr462⟩ := hO.2.1 24 _ (sg_24 G h0 a _ _ _ _ _)
    refine pn_V0 (G := G) (As := [.ref q2, .int r438, .int 60]) (rest := []) hx hb hml hown hq hE hX pX0_al hP hD hS hA hl.1 (B_fit l G h0 a (upd (upd (upd (upd (upd (upd (upd F 2 (nI sz)) 5 (nI cs)) 12 (nI vr)) 5 (nI cs434)) 13 as435) 14 wt436) 15 wf437) (updR (updR R 2 (.ref pq)) 3 (.ref mq)) Z B433 J K432 w pq dr ml nd q2 sz r438 60 g (by omega) (BdE.pt hbe455 hwp hps).1 (BdE.pt hbe455 hwp hps).2.1 hf454 hO hl0) (gV pw_176 pw_177 pw_178 pw_63 pw_114) hV_X0_fit qr461 0 hqr462 rfl rfl rfl (Nat.le_of_ble_eq_true rfl) dX0_sign_192 ⟨(by show 0 + 1 ≤ 1; omega), (by show 0 + 6 ≤ 6; omega)⟩ ⟨(by show 7 + 1 ≤ (5 * n + 33); omega), (by show 8 + (4 + 11) + 122 ≤ (200 * n + 560); omega)⟩ (fun v460 u458 H locs hw459 hP hD hS => ?_) (fun ux ce9 q9 H9 locs9 hux hP9 hD9 hS9 hce hcv hcl => pb_out ux (ThQ.up (Thx.same (Thx.f (Thx.f (Thx.f (Thx.f (Bth.thx hbb456) (by omega)) (by omega)) (by omega)) (by omega)) rfl) (show RhX (updR (updR R 2 (.ref pq)) 3 (.ref mq)) (updR (updR (updR R 2 (.ref pq)) 3 (.ref mq)) 2 (.ref pq)) from fun k9 hk9 => by unfold updR; simp only [show ¬ k9 = 1 by omega, show ¬ k9 = 2 by omega, show ¬ k9 = 3 by omega, show ¬ k9 = 4 by omega, if_false]) hux) hnt hlocks hce hcv hcl hP9 hD9 hS9 (by show 0 + 1 ≤ 1; omega) (by show 0 + 6 ≤ 6; omega))
    obtain ⟨w, _⟩ := u458
    obtain ⟨hw459, hO⟩ := hw459
    obtain rfl : v460 = none := hw459
    have hO : OKP G h0 a (upd (upd (upd (upd (upd (upd F 2 (nI sz)) 5 (nI cs434)) 12 (nI vr)) 13 as435) 14 wt436) 15 wf437) (updR (updR R 2 (.ref pq)) 3 (.ref mq)) Z B433 J K432 w := hO.to rfl
    refine W.widen (k := 0) (n := 0) (by show 0 + 0 ≤ 0; omega) (by show 0 + 0 ≤ 0; omega) ?_
    refine W.eq (g2 := F0 m 195 ls []) rfl ?_
    refine lv_iload_n hx hb dX0_sign_195 rfl (lv_at hl 3 rfl) ?_
    refine lv_bipush (v := 54) hx hb dX0_sign_196 (by decide) ?_
    refine lv_icmp_lt (tgt := 211) hx hb dX0_sign_198 (by decide) (fun c463 => ?_) (fun c463 => absurd c463 (by decide))
    refine lv_iconst (v := 0) hx hb dX0_sign_211 (by decide) ?_
    refine lv_istore (lv' := [(4, .int 0), (3, .int r12), (0, .ref (a 4)), (1, .ref q), (2, .int 53)]) hx hb dX0_sign_212 hl (by decide) rfl (fun ls hl => ?_)
    refine lv_aload_n hx hb dX0_sign_214 rfl (lv_at hl 2 rfl) ?_
    refine lv_bipush (v := 10) hx hb dX0_sign_215 (by decide) ?_
    refine lv_iload_n hx hb dX0_sign_217 rfl (lv_at hl 4 rfl) ?_
    refine lv_iload hx hb dX0_sign_218 (lv_at hl 0 rfl) ?_
    refine lv_if_eq (tgt := 228) hx hb dX0_sign_220 (by decide) (fun c464 => ?_) (fun c464 => absurd c464 (by decide))
    refine lv_bipush (v := 60) hx hb dX0_sign_228 (by decide) ?_
    have hO : OKW G h0 a (upd (upd (upd (upd (upd (upd (upd F 2 (nI sz)) 5 (nI cs434)) 12 (nI vr)) 13 as435) 14 wt436) 15 wf437) 5 (nI cs434)) (updR (updR R 2 (.ref pq)) 3 (.ref mq)) Z B433 J K432.1 (fun q99 x99 => x99 = rep G a K432 q99) w := hO.to rfl
    obtain ⟨_, qr468, hqr469⟩ := hO.2.1 24 _ (sg_24 G h0 a _ _ _ _ _)
    refine pc_V0 (G := G) (As := [.int 10, .int 53, .int 60]) (rest := []) hx hb hml hown hq hE hX pX0_al hP hD hS hA hl.1 (B_give l G h0 a (upd (upd (upd (upd (upd (upd F 2 (nI sz)) 5 (nI cs434)) 12 (nI vr)) 13 as435) 14 wt436) 15 wf437) (updR (updR R 2 (.ref pq)) 3 (.ref mq)) Z B433 J K432.1 (fun q99 x99 => x99 = rep G a K432 q99) w 10 53 60 cs434 (by omega) hng457 hO) (gV pw_158 pw_159 pw_160 pw_63 pw_128) hV_X0_give qr468 0 hqr469 rfl rfl rfl (Nat.le_of_ble_eq_true rfl) dX0_sign_230 ⟨(by show 0 + 0 ≤ 1; omega), (by show 0 + 0 ≤ 6; omega)⟩ ⟨(by show 3 + 1 ≤ (5 * n + 33); omega), (by show 8 + (4 + 11) + 83 ≤ (200 * n + 560); omega)⟩ (fun v467 u465 H locs hw466 hP hD hS => ?_)
    obtain ⟨w, cs470, f471, f472, f473, f474⟩ := u465
    obtain ⟨hw466, h475, h476, hO⟩ := hw466
    have h475 : cs434 ≤ cs470 ∧ cs470 ≤ cs434 + 1 ∧ cs470 ≤ 10000 := h475
    have h476 : Nng f473 := h476
    obtain rfl : v467 = some (.int 60) := hw466
    have hO : OKP G h0 a (upd (upd (upd (upd (upd (upd F 2 (nI sz)) 5 (nI cs470)) 12 (nI vr)) 13 as435) 14 wt436) 15 wf437) (updR (updR R 2 (.ref pq)) 3 (.ref mq)) Z (updA (updA (updA (updA B433 16 f471) 17 f472) 18 f473) 19 f474) J K432 w := hO.to rfl
    refine W.widen (k := 0) (n := 0) (Nat.le_of_ble_eq_true rfl) (Nat.le_of_ble_eq_true rfl) ?_
    refine W.eq (g2 := F0 m 233 ls [.int 60]) rfl ?_
    refine W_size (fun hz1 hz2 => ?_)
    refine vx_ret ?_
    have hz477 : BdE K K432 := hbe455
    have hz478 : Bth B (updA (updA (updA (updA B433 16 f471) 17 f472) 18 f473) 19 f474) := (show Thx (upd (upd (upd F 2 (nI sz)) 5 (nI cs)) 12 (nI vr)) (upd (upd (upd (upd (upd (upd (upd F 2 (nI sz)) 5 (nI cs)) 12 (nI vr)) 5 (nI cs470)) 13 as435) 14 wt436) 15 wf437) B (updA (updA (updA (updA B433 16 f471) 17 f472) 18 f473) 19 f474) from (Thx.b (Thx.b8 (Thx.b (Thx.b (Thx.f (Thx.f (Thx.f (Thx.f (Bth.thx hbb456) (by omega)) (by omega)) (by omega)) (by omega)) (by omega) (by decide)) (by omega) (by decide)) h476) (by omega) (by decide))).2
    have hz479 : cs470 ≤ 10000 := (by omega)
    have hO : OKP G h0 a (upd (upd (upd (upd (upd (upd F 2 (nI sz)) 5 (nI cs470)) 12 (nI vr)) 13 as435) 14 wt436) 15 wf437) (updR (updR R 2 (.ref pq)) 3 (.ref mq)) Z (updA (updA (updA (updA B433 16 f471) 17 f472) 18 f473) 19 f474) J K432 w := hO.to rfl
    refine W.widen (k := 1) (n := 6) (by omega) (by omega) ?_
    have hzz1 : H.size ≤ s.heap.size + (0) := (by have z : 0 ≤ 0 := (by omega); omega)
    have hzz2 : hSl H ≤ hSl s.heap + (0) := (by have z : 0 ≤ 0 := (by omega); omega)
    exact W.iret (v := 60) hx hb hr (fun t99 ht99 hW99 => ⟨⟨_, (w, (K432, (updA (updA (updA (updA B433 16 f471) 17 f472) 18 f473) 19 f474), cs470, as435, wt436, wf437, (60 : Int32))), rfl, ⟨rfl, hz477, hz478, hz479, hO⟩, by rw [ht99]; exact hP, hD, by rw [ht99]; exact hzz1, by rw [ht99]; exact hzz2⟩, hS.F ht99⟩) hS.2.2 dX0_sign_233
  by_cases h480 : x = 54
  · subst h480
    refine lv_tableIn (tgt := 166) (off := 156) hx hb dX0_sign_10 (by decide) (by decide) (by decide) (by decide) ?_
    refine lv_aload_n hx hb dX0_sign_166 rfl (lv_at hl 1 rfl) ?_
    refine lv_aload_n hx hb dX0_sign_167 rfl (lv_at hl 2 rfl) ?_
    refine p_get (v := .ref q1) (C := RX7) (Tc := TX7) (N := 11) (ci := 13) hx hb hq pin_wsX70 hown hE hP hO (by rw [hf23]; decide) (rep_1 hf23) rfl 6 (by decide) (hq _ pw_180) (fun _ h9 => h9) (congrArg (fun z => some (va_rf z)) hf25) dX0_sign_168 ?_
    refine lv_iload_n hx hb dX0_sign_171 rfl (lv_at hl 0 rfl) ?_
    refine lv_bipush (v := 60) hx hb dX0_sign_172 (by decide) ?_
    have hO : OKP G h0 a (upd (upd (upd (upd (upd (upd (upd (upd F 2 (nI sz)) 5 (nI cs)) 12 (nI vr)) 5 (nI cs8)) 13 as9) 14 wt10) 15 wf11) 2 (nI sz)) (updR (updR (updR R 2 (.ref pq)) 3 (.ref mq)) 2 (.ref pq)) Z B7 J K6 w := hO.to rfl
    obtain ⟨_, qr484, hqr485⟩ := hO.2.1 24 _ (sg_24 G h0 a _ _ _ _ _)
    refine pn_V0 (G := G) (As := [.ref q1, .int r12, .int 60]) (rest := []) hx hb hml hown hq hE hX pX0_al hP hD hS hA hl.1 (B_fit l G h0 a (upd (upd (upd (upd (upd (upd (upd F 2 (nI sz)) 5 (nI cs)) 12 (nI vr)) 5 (nI cs8)) 13 as9) 14 wt10) 15 wf11) (updR (updR R 2 (.ref pq)) 3 (.ref mq)) Z B7 J K6 w pq dr ml nd q1 sz r12 60 g (by omega) (BdE.pt hbe29 hwp hps).1 (BdE.pt hbe29 hwp hps).2.1 hf26 hO hl0) (gV pw_176 pw_177 pw_178 pw_63 pw_114) hV_X0_fit qr484 0 hqr485 rfl rfl rfl (Nat.le_of_ble_eq_true rfl) dX0_sign_174 ⟨(by show 0 + 1 ≤ 1; omega), (by show 0 + 6 ≤ 6; omega)⟩ ⟨(by show 7 + 1 ≤ (5 * n + 33); omega), (by show 8 + (4 + 11) + 122 ≤ (200 * n + 560); omega)⟩ (fun v483 u481 H locs hw482 hP hD hS => ?_) (fun ux ce9 q9 H9 locs9 hux hP9 hD9 hS9 hce hcv hcl => pb_out ux (ThQ.up (Thx.same (Thx.f (Thx.f (Thx.f (Thx.f (Bth.thx hbb30) (by omega)) (by omega)) (by omega)) (by omega)) rfl) (show RhX (updR (updR R 2 (.ref pq)) 3 (.ref mq)) (updR (updR (updR R 2 (.ref pq)) 3 (.ref mq)) 2 (.ref pq)) from fun k9 hk9 => by unfold updR; simp only [show ¬ k9 = 1 by omega, show ¬ k9 = 2 by omega, show ¬ k9 = 3 by omega, show ¬ k9 = 4 by omega, if_false]) hux) hnt hlocks hce hcv hcl hP9 hD9 hS9 (by show 0 + 1 ≤ 1; omega) (by show 0 + 6 ≤ 6; omega))
    obtain ⟨w, _⟩ := u481
    obtain ⟨hw482, hO⟩ := hw482
    obtain rfl : v483 = none := hw482
    have hO : OKP G h0 a (upd (upd (upd (upd (upd (upd F 2 (nI sz)) 5 (nI cs8)) 12 (nI vr)) 13 as9) 14 wt10) 15 wf11) (updR (updR R 2 (.ref pq)) 3 (.ref mq)) Z B7 J K6 w := hO.to rfl
    refine W.widen (k := 0) (n := 0) (by show 0 + 0 ≤ 0; omega) (by show 0 + 0 ≤ 0; omega) ?_
    refine W.eq (g2 := F0 m 177 ls []) rfl ?_
    refine lv_aload_n hx hb dX0_sign_177 rfl (lv_at hl 1 rfl) ?_
    refine lv_aload_n hx hb dX0_sign_178 rfl (lv_at hl 2 rfl) ?_
    refine p_get (v := .ref q2) (C := RX7) (Tc := TX7) (N := 11) (ci := 13) hx hb hq pin_wsX70 hown hE hP hO (by rw [hf23]; decide) (rep_1 hf23) rfl 7 (by decide) (hq _ pw_169) (fun _ h9 => h9) (congrArg (fun z => some (va_rf z)) hf27) dX0_sign_179 ?_
    refine lv_aload_n hx hb dX0_sign_182 rfl (lv_at hl 1 rfl) ?_
    refine lv_aload_n hx hb dX0_sign_183 rfl (lv_at hl 2 rfl) ?_
    refine p_get (v := .ref q2) (C := RX7) (Tc := TX7) (N := 11) (ci := 13) hx hb hq pin_wsX70 hown hE hP hO (by rw [hf23]; decide) (rep_1 hf23) rfl 7 (by decide) (hq _ pw_169) (fun _ h9 => h9) (congrArg (fun z => some (va_rf z)) hf27) dX0_sign_184 ?_
    have hO : OKP G h0 a (upd (upd (upd (upd (upd (upd (upd (upd (upd (upd F 2 (nI sz)) 5 (nI cs)) 12 (nI vr)) 5 (nI cs8)) 13 as9) 14 wt10) 15 wf11) 2 (nI sz)) 5 (nI cs8)) 12 (nI vr)) (updR (updR (updR (updR R 2 (.ref pq)) 3 (.ref mq)) 2 (.ref pq)) 3 (.ref mq)) Z B7 J K6 w := hO.to rfl
    obtain ⟨_, qr489, hqr490⟩ := hO.2.1 24 _ (sg_24 G h0 a _ _ _ _ _)
    refine pn_V0 (G := G) (As := [.ref q2]) (rest := [.ref q2, .ref (a 4)]) hx hb hml hown hq hE hX pX0_al hP hD hS hA hl.1 ((ihv (by omega)) h0 a (upd (upd (upd (upd (upd (upd (upd F 2 (nI sz)) 5 (nI cs)) 12 (nI vr)) 5 (nI cs8)) 13 as9) 14 wt10) 15 wf11) (updR (updR R 2 (.ref pq)) 3 (.ref mq)) Z B7 J K6 w pq dr ml nd nm cp it s9 q2 mq cs8 vr sz g rk (by omega) (BdE.wp hbe29 hwp) (BdE.pt hbe29 hwp hps) (BdE.rko hbe29 hrk) (by omega) (by omega) hng31 hf24 hf28 ⟨hv1.1, (by have z9 := hv1; omega)⟩ hO hl0) (gV pw_173 pw_174 pw_175 pw_63 pw_224) hV_X0_value qr489 0 hqr490 rfl rfl rfl (Nat.le_of_ble_eq_true rfl) dX0_sign_187 ⟨(by show 0 + 1 ≤ 1; omega), (by show 0 + 6 ≤ 6; omega)⟩ ⟨(by show (5 * (n - 1) + 34) + 1 ≤ (5 * n + 33); omega), (by show 8 + (3 + 11) + (200 * (n - 1) + 600) ≤ (200 * n + 560); omega)⟩ (fun v488 u486 H locs hw487 hP hD hS => ?_) (fun ux ce9 q9 H9 locs9 hux hP9 hD9 hS9 hce hcv hcl => pb_out ux (ThQ.up (Thx.same (Thx.same (Thx.same (Thx.f (Thx.f (Thx.f (Thx.f (Bth.thx hbb30) (by omega)) (by omega)) (by omega)) (by omega)) rfl) rfl) rfl) (show RhX (updR (updR R 2 (.ref pq)) 3 (.ref mq)) (updR (updR (updR (updR R 2 (.ref pq)) 3 (.ref mq)) 2 (.ref pq)) 3 (.ref mq)) from fun k9 hk9 => by unfold updR; simp only [show ¬ k9 = 1 by omega, show ¬ k9 = 2 by omega, show ¬ k9 = 3 by omega, show ¬ k9 = 4 by omega, if_false]) hux) hnt hlocks hce hcv hcl hP9 hD9 hS9 (by show 0 + 1 ≤ 1; omega) (by show 0 + 6 ≤ 6; omega))
    obtain ⟨w, K491, B492, cs493, as494, wt495, wf496, r497⟩ := u486
    obtain ⟨hw487, h498, h499, h500, hO⟩ := hw487
    have h498 : BdE K6 K491 := h498
    have h499 : Bth B7 B492 := h499
    have h500 : cs493 ≤ 10000 := h500
    obtain rfl : v488 = some (.int r497) := hw487
    have hf501 : K491.1 pq = 7 := (BdE.T h498 hf16 (by decide))
    have hf502 : K491.2.2.1 18 pq = some (a 1) := (BdE.C h498 (by rw [hf16]; decide) 18).trans hf17
    have hf503 : K491.2.2.1 14 pq = some dr := (BdE.C h498 (by rw [hf16]; decide) 14).trans hf18
    have hf504 : K491.1 dr = 8 := (BdE.T h498 hf19 (by decide))
    have hf505 : K491.2.2.1 15 pq = some ml := (BdE.C h498 (by rw [hf16]; decide) 15).trans hf20
    have hf506 : K491.1 ml = 5 := (BdE.T h498 hf21 (by decide))
    have hf507 : K491.2.1 24 pq = (nI nd) := (BdE.I h498 (by rw [hf16]; decide) (by decide) (by decide)).trans hf22
    have hf508 : K491.1 q = 1 := (BdE.T h498 hf23 (by decide))
    have hf509 : K491.1 mq = 3 := (BdE.T h498 hf24 (by decide))
    have hf510 : K491.2.2.1 0 q = some q1 := (BdE.C h498 (by rw [hf23]; decide) 0).trans hf25
    have hf511 : K491.1 q1 = 1 := (BdE.T h498 hf26 (by decide))
    have hf512 : K491.2.2.1 1 q = some q2 := (BdE.C h498 (by rw [hf23]; decide) 1).trans hf27
    have hf513 : K491.1 q2 = 1 := (BdE.T h498 hf28 (by decide))
    have hO : OKP G h0 a (upd (upd (upd (upd (upd (upd F 2 (nI sz)) 5 (nI cs493)) 12 (nI vr)) 13 as494) 14 wt495) 15 wf496) (updR (updR R 2 (.ref pq)) 3 (.ref mq)) Z B492 J K491 w := hO.to rfl
    refine W.widen (k := 0) (n := 0) (by show 0 + 0 ≤ 0; omega) (by show 0 + 0 ≤ 0; omega) ?_
    refine W.eq (g2 := F0 m 190 ls [.int r497, .ref q2, .ref (a 4)]) rfl ?_
    have hbe514 := BdE.trans hbe29 h498
    have hbb515 : Bth B B492 := Bth.trans (show Thx (upd (upd (upd F 2 (nI sz)) 5 (nI cs)) 12 (nI vr)) (upd (upd (upd (upd (upd (upd (upd F 2 (nI sz)) 5 (nI cs)) 12 (nI vr)) 5 (nI cs8)) 13 as9) 14 wt10) 15 wf11) B B7 from (Thx.f (Thx.f (Thx.f (Thx.f (Bth.thx hbb30) (by omega)) (by omega)) (by omega)) (by omega))).2 h499
    have hng516 : Nng (B492 18) := h499.2 hng31
    refine lv_bipush (v := 60) hx hb dX0_sign_190 (by decide) ?_
    have hO : OKP G h0 a (upd (upd (upd (upd (upd (upd (upd (upd F 2 (nI sz)) 5 (nI cs)) 12 (nI vr)) 5 (nI cs493)) 13 as494) 14 wt495) 15 wf496) 2 (nI sz)) (updR (updR (updR R 2 (.ref pq)) 3 (.ref mq)) 2 (.ref pq)) Z B492 J K491 w := hO.to rfl
    obtain ⟨_, qr520, hqr521⟩ := hO.2.1 24 _ (sg_24 G h0 a _ _ _ _ _)
    refine pn_V0 (G := G) (As := [.ref q2, .int r497, .int 60]) (rest := []) hx hb hml hown hq hE hX pX0_al hP hD hS hA hl.1 (B_fit l G h0 a (upd (upd (upd (upd (upd (upd (upd F 2 (nI sz)) 5 (nI cs)) 12 (nI vr)) 5 (nI cs493)) 13 as494) 14 wt495) 15 wf496) (updR (updR R 2 (.ref pq)) 3 (.ref mq)) Z B492 J K491 w pq dr ml nd q2 sz r497 60 g (by omega) (BdE.pt hbe514 hwp hps).1 (BdE.pt hbe514 hwp hps).2.1 hf513 hO hl0) (gV pw_176 pw_177 pw_178 pw_63 pw_114) hV_X0_fit qr520 0 hqr521 rfl rfl rfl (Nat.le_of_ble_eq_true rfl) dX0_sign_192 ⟨(by show 0 + 1 ≤ 1; omega), (by show 0 + 6 ≤ 6; omega)⟩ ⟨(by show 7 + 1 ≤ (5 * n + 33); omega), (by show 8 + (4 + 11) + 122 ≤ (200 * n + 560); omega)⟩ (fun v519 u517 H locs hw518 hP hD hS => ?_) (fun ux ce9 q9 H9 locs9 hux hP9 hD9 hS9 hce hcv hcl => pb_out ux (ThQ.up (Thx.same (Thx.f (Thx.f (Thx.f (Thx.f (Bth.thx hbb515) (by omega)) (by omega)) (by omega)) (by omega)) rfl) (show RhX (updR (updR R 2 (.ref pq)) 3 (.ref mq)) (updR (updR (updR R 2 (.ref pq)) 3 (.ref mq)) 2 (.ref pq)) from fun k9 hk9 => by unfold updR; simp only [show ¬ k9 = 1 by omega, show ¬ k9 = 2 by omega, show ¬ k9 = 3 by omega, show ¬ k9 = 4 by omega, if_false]) hux) hnt hlocks hce hcv hcl hP9 hD9 hS9 (by show 0 + 1 ≤ 1; omega) (by show 0 + 6 ≤ 6; omega))
    obtain ⟨w, _⟩ := u517
    obtain ⟨hw518, hO⟩ := hw518
    obtain rfl : v519 = none := hw518
    have hO : OKP G h0 a (upd (upd (upd (upd (upd (upd F 2 (nI sz)) 5 (nI cs493)) 12 (nI vr)) 13 as494) 14 wt495) 15 wf496) (updR (updR R 2 (.ref pq)) 3 (.ref mq)) Z B492 J K491 w := hO.to rfl
    refine W.widen (k := 0) (n := 0) (by show 0 + 0 ≤ 0; omega) (by show 0 + 0 ≤ 0; omega) ?_
    refine W.eq (g2 := F0 m 195 ls []) rfl ?_
    refine lv_iload_n hx hb dX0_sign_195 rfl (lv_at hl 3 rfl) ?_
    refine lv_bipush (v := 54) hx hb dX0_sign_196 (by decide) ?_
    refine lv_icmp_lt (tgt := 211) hx hb dX0_sign_198 (by decide) (fun c522 => absurd c522 (by decide)) (fun c522 => ?_)
    refine lv_iload_n hx hb dX0_sign_201 rfl (lv_at hl 3 rfl) ?_
    refine lv_bipush (v := 57) hx hb dX0_sign_202 (by decide) ?_
    refine lv_icmp_gt (tgt := 211) hx hb dX0_sign_204 (by decide) (fun c523 => absurd c523 (by decide)) (fun c523 => ?_)
    refine lv_iconst (v := 1) hx hb dX0_sign_207 (by decide) ?_
    refine lv_goto (tgt := 212) hx hb dX0_sign_208 (by decide) ?_
    refine lv_istore (lv' := [(4, .int 1), (3, .int r12), (0, .ref (a 4)), (1, .ref q), (2, .int 54)]) hx hb dX0_sign_212 hl (by decide) rfl (fun ls hl => ?_)
    refine lv_aload_n hx hb dX0_sign_214 rfl (lv_at hl 2 rfl) ?_
    refine lv_bipush (v := 10) hx hb dX0_sign_215 (by decide) ?_
    refine lv_iload_n hx hb dX0_sign_217 rfl (lv_at hl 4 rfl) ?_
    refine lv_iload hx hb dX0_sign_218 (lv_at hl 0 rfl) ?_
    refine lv_if_eq (tgt := 228) hx hb dX0_sign_220 (by decide) (fun c524 => absurd c524 (by decide)) (fun c524 => ?_)
    refine lv_bipush (v := 61) hx hb dX0_sign_223 (by decide) ?_
    refine lv_goto (tgt := 230) hx hb dX0_sign_225 (by decide) ?_
    have hO : OKW G h0 a (upd (upd (upd (upd (upd (upd (upd F 2 (nI sz)) 5 (nI cs493)) 12 (nI vr)) 13 as494) 14 wt495) 15 wf496) 5 (nI cs493)) (updR (updR R 2 (.ref pq)) 3 (.ref mq)) Z B492 J K491.1 (fun q99 x99 => x99 = rep G a K491 q99) w := hO.to rfl
    obtain ⟨_, qr528, hqr529⟩ := hO.2.1 24 _ (sg_24 G h0 a _ _ _ _ _)
    refine pc_V0 (G := G) (As := [.int 10, .int 54, .int 61]) (rest := []) hx hb hml hown hq hE hX pX0_al hP hD hS hA hl.1 (B_give l G h0 a (upd (upd (upd (upd (upd (upd F 2 (nI sz)) 5 (nI cs493)) 12 (nI vr)) 13 as494) 14 wt495) 15 wf496) (updR (updR R 2 (.ref pq)) 3 (.ref mq)) Z B492 J K491.1 (fun q99 x99 => x99 = rep G a K491 q99) w 10 54 61 cs493 (by omega) hng516 hO) (gV pw_158 pw_159 pw_160 pw_63 pw_128) hV_X0_give qr528 0 hqr529 rfl rfl rfl (Nat.le_of_ble_eq_true rfl) dX0_sign_230 ⟨(by show 0 + 0 ≤ 1; omega), (by show 0 + 0 ≤ 6; omega)⟩ ⟨(by show 3 + 1 ≤ (5 * n + 33); omega), (by show 8 + (4 + 11) + 83 ≤ (200 * n + 560); omega)⟩ (fun v527 u525 H locs hw526 hP hD hS => ?_)
    obtain ⟨w, cs530, f531, f532, f533, f534⟩ := u525
    obtain ⟨hw526, h535, h536, hO⟩ := hw526
    have h535 : cs493 ≤ cs530 ∧ cs530 ≤ cs493 + 1 ∧ cs530 ≤ 10000 := h535
    have h536 : Nng f533 := h536
    obtain rfl : v527 = some (.int 61) := hw526
    have hO : OKP G h0 a (upd (upd (upd (upd (upd (upd F 2 (nI sz)) 5 (nI cs530)) 12 (nI vr)) 13 as494) 14 wt495) 15 wf496) (updR (updR R 2 (.ref pq)) 3 (.ref mq)) Z (updA (updA (updA (updA B492 16 f531) 17 f532) 18 f533) 19 f534) J K491 w := hO.to rfl
    refine W.widen (k := 0) (n := 0) (Nat.le_of_ble_eq_true rfl) (Nat.le_of_ble_eq_true rfl) ?_
    refine W.eq (g2 := F0 m 233 ls [.int 61]) rfl ?_
    refine W_size (fun hz1 hz2 => ?_)
    refine vx_ret ?_
    have hz537 : BdE K K491 := hbe514
    have hz538 : Bth B (updA (updA (updA (updA B492 16 f531) 17 f532) 18 f533) 19 f534) := (show Thx (upd (upd (upd F 2 (nI sz)) 5 (nI cs)) 12 (nI vr)) (upd (upd (upd (upd (upd (upd (upd F 2 (nI sz)) 5 (nI cs)) 12 (nI vr)) 5 (nI cs530)) 13 as494) 14 wt495) 15 wf496) B (updA (updA (updA (updA B492 16 f531) 17 f532) 18 f533) 19 f534) from (Thx.b (Thx.b8 (Thx.b (Thx.b (Thx.f (Thx.f (Thx.f (Thx.f (Bth.thx hbb515) (by omega)) (by omega)) (by omega)) (by omega)) (by omega) (by decide)) (by omega) (by decide)) h536) (by omega) (by decide))).2
    have hz539 : cs530 ≤ 10000 := (by omega)
    have hO : OKP G h0 a (upd (upd (upd (upd (upd (upd F 2 (nI sz)) 5 (nI cs530)) 12 (nI vr)) 13 as494) 14 wt495) 15 wf496) (updR (updR R 2 (.ref pq)) 3 (.ref mq)) Z (updA (updA (updA (updA B492 16 f531) 17 f532) 18 f533) 19 f534) J K491 w := hO.to rfl
    refine W.widen (k := 1) (n := 6) (by omega) (by omega) ?_
    have hzz1 : H.size ≤ s.heap.size + (0) := (by have z : 0 ≤ 0 := (by omega); omega)
    have hzz2 : hSl H ≤ hSl s.heap + (0) := (by have z : 0 ≤ 0 := (by omega); omega)
    exact W.iret (v := 61) hx hb hr (fun t99 ht99 hW99 => ⟨⟨_, (w, (K491, (updA (updA (updA (updA B492 16 f531) 17 f532) 18 f533) 19 f534), cs530, as494, wt495, wf496, (61 : Int32))), rfl, ⟨rfl, hz537, hz538, hz539, hO⟩, by rw [ht99]; exact hP, hD, by rw [ht99]; exact hzz1, by rw [ht99]; exact hzz2⟩, hS.F ht99⟩) hS.2.2 dX0_sign_233
  by_cases h540 : x = 55
  · subst h540
    refine lv_tableIn (tgt := 166) (off := 156) hx hb dX0_sign_10 (by decide) (by decide) (by decide) (by decide) ?_
    refine lv_aload_n hx hb dX0_sign_166 rfl (lv_at hl 1 rfl) ?_
    refine lv_aload_n hx hb dX0_sign_167 rfl (lv_at hl 2 rfl) ?_
    refine p_get (v := .ref q1) (C := RX7) (Tc := TX7) (N := 11) (ci := 13) hx hb hq pin_wsX70 hown hE hP hO (by rw [hf23]; decide) (rep_1 hf23) rfl 6 (by decide) (hq _ pw_180) (fun _ h9 => h9) (congrArg (fun z => some (va_rf z)) hf25) dX0_sign_168 ?_
    refine lv_iload_n hx hb dX0_sign_171 rfl (lv_at hl 0 rfl) ?_
    refine lv_bipush (v := 60) hx hb dX0_sign_172 (by decide) ?_
    have hO : OKP G h0 a (upd (upd (upd (upd (upd (upd (upd (upd F 2 (nI sz)) 5 (nI cs)) 12 (nI vr)) 5 (nI cs8)) 13 as9) 14 wt10) 15 wf11) 2 (nI sz)) (updR (updR (updR R 2 (.ref pq)) 3 (.ref mq)) 2 (.ref pq)) Z B7 J K6 w := hO.to rfl
    obtain ⟨_, qr544, hqr545⟩ := hO.2.1 24 _ (sg_24 G h0 a _ _ _ _ _)
    refine pn_V0 (G := G) (As := [.ref q1, .int r12, .int 60]) (rest := []) hx hb hml hown hq hE hX pX0_al hP hD hS hA hl.1 (B_fit l G h0 a (upd (upd (upd (upd (upd (upd (upd F 2 (nI sz)) 5 (nI cs)) 12 (nI vr)) 5 (nI cs8)) 13 as9) 14 wt10) 15 wf11) (updR (updR R 2 (.ref pq)) 3 (.ref mq)) Z B7 J K6 w pq dr ml nd q1 sz r12 60 g (by omega) (BdE.pt hbe29 hwp hps).1 (BdE.pt hbe29 hwp hps).2.1 hf26 hO hl0) (gV pw_176 pw_177 pw_178 pw_63 pw_114) hV_X0_fit qr544 0 hqr545 rfl rfl rfl (Nat.le_of_ble_eq_true rfl) dX0_sign_174 ⟨(by show 0 + 1 ≤ 1; omega), (by show 0 + 6 ≤ 6; omega)⟩ ⟨(by show 7 + 1 ≤ (5 * n + 33); omega), (by show 8 + (4 + 11) + 122 ≤ (200 * n + 560); omega)⟩ (fun v543 u541 H locs hw542 hP hD hS => ?_) (fun ux ce9 q9 H9 locs9 hux hP9 hD9 hS9 hce hcv hcl => pb_out ux (ThQ.up (Thx.same (Thx.f (Thx.f (Thx.f (Thx.f (Bth.thx hbb30) (by omega)) (by omega)) (by omega)) (by omega)) rfl) (show RhX (updR (updR R 2 (.ref pq)) 3 (.ref mq)) (updR (updR (updR R 2 (.ref pq)) 3 (.ref mq)) 2 (.ref pq)) from fun k9 hk9 => by unfold updR; simp only [show ¬ k9 = 1 by omega, show ¬ k9 = 2 by omega, show ¬ k9 = 3 by omega, show ¬ k9 = 4 by omega, if_false]) hux) hnt hlocks hce hcv hcl hP9 hD9 hS9 (by show 0 + 1 ≤ 1; omega) (by show 0 + 6 ≤ 6; omega))
    obtain ⟨w, _⟩ := u541
    obtain ⟨hw542, hO⟩ := hw542
    obtain rfl : v543 = none := hw542
    have hO : OKP G h0 a (upd (upd (upd (upd (upd (upd F 2 (nI sz)) 5 (nI cs8)) 12 (nI vr)) 13 as9) 14 wt10) 15 wf11) (updR (updR R 2 (.ref pq)) 3 (.ref mq)) Z B7 J K6 w := hO.to rfl
    refine W.widen (k := 0) (n := 0) (by show 0 + 0 ≤ 0; omega) (by show 0 + 0 ≤ 0; omega) ?_
    refine W.eq (g2 := F0 m 177 ls []) rfl ?_
    refine lv_aload_n hx hb dX0_sign_177 rfl (lv_at hl 1 rfl) ?_
    refine lv_aload_n hx hb dX0_sign_178 rfl (lv_at hl 2 rfl) ?_
    refine p_get (v := .ref q2) (C := RX7) (Tc := TX7) (N := 11) (ci := 13) hx hb hq pin_wsX70 hown hE hP hO (by rw [hf23]; decide) (rep_1 hf23) rfl 7 (by decide) (hq _ pw_169) (fun _ h9 => h9) (congrArg (fun z => some (va_rf z)) hf27) dX0_sign_179 ?_
    refine lv_aload_n hx hb dX0_sign_182 rfl (lv_at hl 1 rfl) ?_
    refine lv_aload_n hx hb dX0_sign_183 rfl (lv_at hl 2 rfl) ?_
    refine p_get (v := .ref q2) (C := RX7) (Tc := TX7) (N := 11) (ci := 13) hx hb hq pin_wsX70 hown hE hP hO (by rw [hf23]; decide) (rep_1 hf23) rfl 7 (by decide) (hq _ pw_169) (fun _ h9 => h9) (congrArg (fun z => some (va_rf z)) hf27) dX0_sign_184 ?_
    have hO : OKP G h0 a (upd (upd (upd (upd (upd (upd (upd (upd (upd (upd F 2 (nI sz)) 5 (nI cs)) 12 (nI vr)) 5 (nI cs8)) 13 as9) 14 wt10) 15 wf11) 2 (nI sz)) 5 (nI cs8)) 12 (nI vr)) (updR (updR (updR (updR R 2 (.ref pq)) 3 (.ref mq)) 2 (.ref pq)) 3 (.ref mq)) Z B7 J K6 w := hO.to rfl
    obtain ⟨_, qr549, hqr550⟩ := hO.2.1 24 _ (sg_24 G h0 a _ _ _ _ _)
    refine pn_V0 (G := G) (As := [.ref q2]) (rest := [.ref q2, .ref (a 4)]) hx hb hml hown hq hE hX pX0_al hP hD hS hA hl.1 ((ihv (by omega)) h0 a (upd (upd (upd (upd (upd (upd (upd F 2 (nI sz)) 5 (nI cs)) 12 (nI vr)) 5 (nI cs8)) 13 as9) 14 wt10) 15 wf11) (updR (updR R 2 (.ref pq)) 3 (.ref mq)) Z B7 J K6 w pq dr ml nd nm cp it s9 q2 mq cs8 vr sz g rk (by omega) (BdE.wp hbe29 hwp) (BdE.pt hbe29 hwp hps) (BdE.rko hbe29 hrk) (by omega) (by omega) hng31 hf24 hf28 ⟨hv1.1, (by have z9 := hv1; omega)⟩ hO hl0) (gV pw_173 pw_174 pw_175 pw_63 pw_224) hV_X0_value qr549 0 hqr550 rfl rfl rfl (Nat.le_of_ble_eq_true rfl) dX0_sign_187 ⟨(by show 0 + 1 ≤ 1; omega), (by show 0 + 6 ≤ 6; omega)⟩ ⟨(by show (5 * (n - 1) + 34) + 1 ≤ (5 * n + 33); omega), (by show 8 + (3 + 11) + (200 * (n - 1) + 600) ≤ (200 * n + 560); omega)⟩ (fun v548 u546 H locs hw547 hP hD hS => ?_) (fun ux ce9 q9 H9 locs9 hux hP9 hD9 hS9 hce hcv hcl => pb_out ux (ThQ.up (Thx.same (Thx.same (Thx.same (Thx.f (Thx.f (Thx.f (Thx.f (Bth.thx hbb30) (by omega)) (by omega)) (by omega)) (by omega)) rfl) rfl) rfl) (show RhX (updR (updR R 2 (.ref pq)) 3 (.ref mq)) (updR (updR (updR (updR R 2 (.ref pq)) 3 (.ref mq)) 2 (.ref pq)) 3 (.ref mq)) from fun k9 hk9 => by unfold updR; simp only [show ¬ k9 = 1 by omega, show ¬ k9 = 2 by omega, show ¬ k9 = 3 by omega, show ¬ k9 = 4 by omega, if_false]) hux) hnt hlocks hce hcv hcl hP9 hD9 hS9 (by show 0 + 1 ≤ 1; omega) (by show 0 + 6 ≤ 6; omega))
    obtain ⟨w, K551, B552, cs553, as554, wt555, wf556, r557⟩ := u546
    obtain ⟨hw547, h558, h559, h560, hO⟩ := hw547
    have h558 : BdE K6 K551 := h558
    have h559 : Bth B7 B552 := h559
    have h560 : cs553 ≤ 10000 := h560
    obtain rfl : v548 = some (.int r557) := hw547
    have hf561 : K551.1 pq = 7 := (BdE.T h558 hf16 (by decide))
    have hf562 : K551.2.2.1 18 pq = some (a 1) := (BdE.C h558 (by rw [hf16]; decide) 18).trans hf17
    have hf563 : K551.2.2.1 14 pq = some dr := (BdE.C h558 (by rw [hf16]; decide) 14).trans hf18
    have hf564 : K551.1 dr = 8 := (BdE.T h558 hf19 (by decide))
    have hf565 : K551.2.2.1 15 pq = some ml := (BdE.C h558 (by rw [hf16]; decide) 15).trans hf20
    have hf566 : K551.1 ml = 5 := (BdE.T h558 hf21 (by decide))
    have hf567 : K551.2.1 24 pq = (nI nd) := (BdE.I h558 (by rw [hf16]; decide) (by decide) (by decide)).trans hf22
    have hf568 : K551.1 q = 1 := (BdE.T h558 hf23 (by decide))
    have hf569 : K551.1 mq = 3 := (BdE.T h558 hf24 (by decide))
    have hf570 : K551.2.2.1 0 q = some q1 := (BdE.C h558 (by rw [hf23]; decide) 0).trans hf25
    have hf571 : K551.1 q1 = 1 := (BdE.T h558 hf26 (by decide))
    have hf572 : K551.2.2.1 1 q = some q2 := (BdE.C h558 (by rw [hf23]; decide) 1).trans hf27
    have hf573 : K551.1 q2 = 1 := (BdE.T h558 hf28 (by decide))
    have hO : OKP G h0 a (upd (upd (upd (upd (upd (upd F 2 (nI sz)) 5 (nI cs553)) 12 (nI vr)) 13 as554) 14 wt555) 15 wf556) (updR (updR R 2 (.ref pq)) 3 (.ref mq)) Z B552 J K551 w := hO.to rfl
    refine W.widen (k := 0) (n := 0) (by show 0 + 0 ≤ 0; omega) (by show 0 + 0 ≤ 0; omega) ?_
    refine W.eq (g2 := F0 m 190 ls [.int r557, .ref q2, .ref (a 4)]) rfl ?_
    have hbe574 := BdE.trans hbe29 h558
    have hbb575 : Bth B B552 := Bth.trans (show Thx (upd (upd (upd F 2 (nI sz)) 5 (nI cs)) 12 (nI vr)) (upd (upd (upd (upd (upd (upd (upd F 2 (nI sz)) 5 (nI cs)) 12 (nI vr)) 5 (nI cs8)) 13 as9) 14 wt10) 15 wf11) B B7 from (Thx.f (Thx.f (Thx.f (Thx.f (Bth.thx hbb30) (by omega)) (by omega)) (by omega)) (by omega))).2 h559
    have hng576 : Nng (B552 18) := h559.2 hng31
    refine lv_bipush (v := 60) hx hb dX0_sign_190 (by decide) ?_
    have hO : OKP G h0 a (upd (upd (upd (upd (upd (upd (upd (upd F 2 (nI sz)) 5 (nI cs)) 12 (nI vr)) 5 (nI cs553)) 13 as554) 14 wt555) 15 wf556) 2 (nI sz)) (updR (updR (updR R 2 (.ref pq)) 3 (.ref mq)) 2 (.ref pq)) Z B552 J K551 w := hO.to rfl
    obtain ⟨_, qr580, hqr581⟩ := hO.2.1 24 _ (sg_24 G h0 a _ _ _ _ _)
    refine pn_V0 (G := G) (As := [.ref q2, .int r557, .int 60]) (rest := []) hx hb hml hown hq hE hX pX0_al hP hD hS hA hl.1 (B_fit l G h0 a (upd (upd (upd (upd (upd (upd (upd F 2 (nI sz)) 5 (nI cs)) 12 (nI vr)) 5 (nI cs553)) 13 as554) 14 wt555) 15 wf556) (updR (updR R 2 (.ref pq)) 3 (.ref mq)) Z B552 J K551 w pq dr ml nd q2 sz r557 60 g (by omega) (BdE.pt hbe574 hwp hps).1 (BdE.pt hbe574 hwp hps).2.1 hf573 hO hl0) (gV pw_176 pw_177 pw_178 pw_63 pw_114) hV_X0_fit qr580 0 hqr581 rfl rfl rfl (Nat.le_of_ble_eq_true rfl) dX0_sign_192 ⟨(by show 0 + 1 ≤ 1; omega), (by show 0 + 6 ≤ 6; omega)⟩ ⟨(by show 7 + 1 ≤ (5 * n + 33); omega), (by show 8 + (4 + 11) + 122 ≤ (200 * n + 560); omega)⟩ (fun v579 u577 H locs hw578 hP hD hS => ?_) (fun ux ce9 q9 H9 locs9 hux hP9 hD9 hS9 hce hcv hcl => pb_out ux (ThQ.up (Thx.same (Thx.f (Thx.f (Thx.f (Thx.f (Bth.thx hbb575) (by omega)) (by omega)) (by omega)) (by omega)) rfl) (show RhX (updR (updR R 2 (.ref pq)) 3 (.ref mq)) (updR (updR (updR R 2 (.ref pq)) 3 (.ref mq)) 2 (.ref pq)) from fun k9 hk9 => by unfold updR; simp only [show ¬ k9 = 1 by omega, show ¬ k9 = 2 by omega, show ¬ k9 = 3 by omega, show ¬ k9 = 4 by omega, if_false]) hux) hnt hlocks hce hcv hcl hP9 hD9 hS9 (by show 0 + 1 ≤ 1; omega) (by show 0 + 6 ≤ 6; omega))
    obtain ⟨w, _⟩ := u577
    obtain ⟨hw578, hO⟩ := hw578
    obtain rfl : v579 = none := hw578
    have hO : OKP G h0 a (upd (upd (upd (upd (upd (upd F 2 (nI sz)) 5 (nI cs553)) 12 (nI vr)) 13 as554) 14 wt555) 15 wf556) (updR (updR R 2 (.ref pq)) 3 (.ref mq)) Z B552 J K551 w := hO.to rfl
    refine W.widen (k := 0) (n := 0) (by show 0 + 0 ≤ 0; omega) (by show 0 + 0 ≤ 0; omega) ?_
    refine W.eq (g2 := F0 m 195 ls []) rfl ?_
    refine lv_iload_n hx hb dX0_sign_195 rfl (lv_at hl 3 rfl) ?_
    refine lv_bipush (v := 54) hx hb dX0_sign_196 (by decide) ?_
    refine lv_icmp_lt (tgt := 211) hx hb dX0_sign_198 (by decide) (fun c582 => absurd c582 (by decide)) (fun c582 => ?_)
    refine lv_iload_n hx hb dX0_sign_201 rfl (lv_at hl 3 rfl) ?_
    refine lv_bipush (v := 57) hx hb dX0_sign_202 (by decide) ?_
    refine lv_icmp_gt (tgt := 211) hx hb dX0_sign_204 (by decide) (fun c583 => absurd c583 (by decide)) (fun c583 => ?_)
    refine lv_iconst (v := 1) hx hb dX0_sign_207 (by decide) ?_
    refine lv_goto (tgt := 212) hx hb dX0_sign_208 (by decide) ?_
    refine lv_istore (lv' := [(4, .int 1), (3, .int r12), (0, .ref (a 4)), (1, .ref q), (2, .int 55)]) hx hb dX0_sign_212 hl (by decide) rfl (fun ls hl => ?_)
    refine lv_aload_n hx hb dX0_sign_214 rfl (lv_at hl 2 rfl) ?_
    refine lv_bipush (v := 10) hx hb dX0_sign_215 (by decide) ?_
    refine lv_iload_n hx hb dX0_sign_217 rfl (lv_at hl 4 rfl) ?_
    refine lv_iload hx hb dX0_sign_218 (lv_at hl 0 rfl) ?_
    refine lv_if_eq (tgt := 228) hx hb dX0_sign_220 (by decide) (fun c584 => absurd c584 (by decide)) (fun c584 => ?_)
    refine lv_bipush (v := 61) hx hb dX0_sign_223 (by decide) ?_
    refine lv_goto (tgt := 230) hx hb dX0_sign_225 (by decide) ?_
    have hO : OKW G h0 a (upd (upd (upd (upd (upd (upd (upd F 2 (nI sz)) 5 (nI cs553)) 12 (nI vr)) 13 as554) 14 wt555) 15 wf556) 5 (nI cs553)) (updR (updR R 2 (.ref pq)) 3 (.ref mq)) Z B552 J K551.1 (fun q99 x99 => x99 = rep G a K551 q99) w := hO.to rfl
    obtain ⟨_, qr588, hqr589⟩ := hO.2.1 24 _ (sg_24 G h0 a _ _ _ _ _)
    refine pc_V0 (G := G) (As := [.int 10, .int 55, .int 61]) (rest := []) hx hb hml hown hq hE hX pX0_al hP hD hS hA hl.1 (B_give l G h0 a (upd (upd (upd (upd (upd (upd F 2 (nI sz)) 5 (nI cs553)) 12 (nI vr)) 13 as554) 14 wt555) 15 wf556) (updR (updR R 2 (.ref pq)) 3 (.ref mq)) Z B552 J K551.1 (fun q99 x99 => x99 = rep G a K551 q99) w 10 55 61 cs553 (by omega) hng576 hO) (gV pw_158 pw_159 pw_160 pw_63 pw_128) hV_X0_give qr588 0 hqr589 rfl rfl rfl (Nat.le_of_ble_eq_true rfl) dX0_sign_230 ⟨(by show 0 + 0 ≤ 1; omega), (by show 0 + 0 ≤ 6; omega)⟩ ⟨(by show 3 + 1 ≤ (5 * n + 33); omega), (by show 8 + (4 + 11) + 83 ≤ (200 * n + 560); omega)⟩ (fun v587 u585 H locs hw586 hP hD hS => ?_)
    obtain ⟨w, cs590, f591, f592, f593, f594⟩ := u585
    obtain ⟨hw586, h595, h596, hO⟩ := hw586
    have h595 : cs553 ≤ cs590 ∧ cs590 ≤ cs553 + 1 ∧ cs590 ≤ 10000 := h595
    have h596 : Nng f593 := h596
    obtain rfl : v587 = some (.int 61) := hw586
    have hO : OKP G h0 a (upd (upd (upd (upd (upd (upd F 2 (nI sz)) 5 (nI cs590)) 12 (nI vr)) 13 as554) 14 wt555) 15 wf556) (updR (updR R 2 (.ref pq)) 3 (.ref mq)) Z (updA (updA (updA (updA B552 16 f591) 17 f592) 18 f593) 19 f594) J K551 w := hO.to rfl
    refine W.widen (k := 0) (n := 0) (Nat.le_of_ble_eq_true rfl) (Nat.le_of_ble_eq_true rfl) ?_
    refine W.eq (g2 := F0 m 233 ls [.int 61]) rfl ?_
    refine W_size (fun hz1 hz2 => ?_)
    refine vx_ret ?_
    have hz597 : BdE K K551 := hbe574
    have hz598 : Bth B (updA (updA (updA (updA B552 16 f591) 17 f592) 18 f593) 19 f594) := (show Thx (upd (upd (upd F 2 (nI sz)) 5 (nI cs)) 12 (nI vr)) (upd (upd (upd (upd (upd (upd (upd F 2 (nI sz)) 5 (nI cs)) 12 (nI vr)) 5 (nI cs590)) 13 as554) 14 wt555) 15 wf556) B (updA (updA (updA (updA B552 16 f591) 17 f592) 18 f593) 19 f594) from (Thx.b (Thx.b8 (Thx.b (Thx.b (Thx.f (Thx.f (Thx.f (Thx.f (Bth.thx hbb575) (by omega)) (by omega)) (by omega)) (by omega)) (by omega) (by decide)) (by omega) (by decide)) h596) (by omega) (by decide))).2
    have hz599 : cs590 ≤ 10000 := (by omega)
    have hO : OKP G h0 a (upd (upd (upd (upd (upd (upd F 2 (nI sz)) 5 (nI cs590)) 12 (nI vr)) 13 as554) 14 wt555) 15 wf556) (updR (updR R 2 (.ref pq)) 3 (.ref mq)) Z (updA (updA (updA (updA B552 16 f591) 17 f592) 18 f593) 19 f594) J K551 w := hO.to rfl
    refine W.widen (k := 1) (n := 6) (by omega) (by omega) ?_
    have hzz1 : H.size ≤ s.heap.size + (0) := (by have z : 0 ≤ 0 := (by omega); omega)
    have hzz2 : hSl H ≤ hSl s.heap + (0) := (by have z : 0 ≤ 0 := (by omega); omega)
    exact W.iret (v := 61) hx hb hr (fun t99 ht99 hW99 => ⟨⟨_, (w, (K551, (updA (updA (updA (updA B552 16 f591) 17 f592) 18 f593) 19 f594), cs590, as554, wt555, wf556, (61 : Int32))), rfl, ⟨rfl, hz597, hz598, hz599, hO⟩, by rw [ht99]; exact hP, hD, by rw [ht99]; exact hzz1, by rw [ht99]; exact hzz2⟩, hS.F ht99⟩) hS.2.2 dX0_sign_233
  by_cases h600 : x = 56
  · subst h600
    refine lv_tableIn (tgt := 166) (off := 156) hx hb dX0_sign_10 (by decide) (by decide) (by decide) (by decide) ?_
    refine lv_aload_n hx hb dX0_sign_166 rfl (lv_at hl 1 rfl) ?_
    refine lv_aload_n hx hb dX0_sign_167 rfl (lv_at hl 2 rfl) ?_
    refine p_get (v := .ref q1) (C := RX7) (Tc := TX7) (N := 11) (ci := 13) hx hb hq pin_wsX70 hown hE hP hO (by rw [hf23]; decide) (rep_1 hf23) rfl 6 (by decide) (hq _ pw_180) (fun _ h9 => h9) (congrArg (fun z => some (va_rf z)) hf25) dX0_sign_168 ?_
    refine lv_iload_n hx hb dX0_sign_171 rfl (lv_at hl 0 rfl) ?_
    refine lv_bipush (v := 60) hx hb dX0_sign_172 (by decide) ?_
    have hO : OKP G h0 a (upd (upd (upd (upd (upd (upd (upd (upd F 2 (nI sz)) 5 (nI cs)) 12 (nI vr)) 5 (nI cs8)) 13 as9) 14 wt10) 15 wf11) 2 (nI sz)) (updR (updR (updR R 2 (.ref pq)) 3 (.ref mq)) 2 (.ref pq)) Z B7 J K6 w := hO.to rfl
    obtain ⟨_, qr604, hqr605⟩ := hO.2.1 24 _ (sg_24 G h0 a _ _ _ _ _)
    refine pn_V0 (G := G) (As := [.ref q1, .int r12, .int 60]) (rest := []) hx hb hml hown hq hE hX pX0_al hP hD hS hA hl.1 (B_fit l G h0 a (upd (upd (upd (upd (upd (upd (upd F 2 (nI sz)) 5 (nI cs)) 12 (nI vr)) 5 (nI cs8)) 13 as9) 14 wt10) 15 wf11) (updR (updR R 2 (.ref pq)) 3 (.ref mq)) Z B7 J K6 w pq dr ml nd q1 sz r12 60 g (by omega) (BdE.pt hbe29 hwp hps).1 (BdE.pt hbe29 hwp hps).2.1 hf26 hO hl0) (gV pw_176 pw_177 pw_178 pw_63 pw_114) hV_X0_fit qr604 0 hqr605 rfl rfl rfl (Nat.le_of_ble_eq_true rfl) dX0_sign_174 ⟨(by show 0 + 1 ≤ 1; omega), (by show 0 + 6 ≤ 6; omega)⟩ ⟨(by show 7 + 1 ≤ (5 * n + 33); omega), (by show 8 + (4 + 11) + 122 ≤ (200 * n + 560); omega)⟩ (fun v603 u601 H locs hw602 hP hD hS => ?_) (fun ux ce9 q9 H9 locs9 hux hP9 hD9 hS9 hce hcv hcl => pb_out ux (ThQ.up (Thx.same (Thx.f (Thx.f (Thx.f (Thx.f (Bth.thx hbb30) (by omega)) (by omega)) (by omega)) (by omega)) rfl) (show RhX (updR (updR R 2 (.ref pq)) 3 (.ref mq)) (updR (updR (updR R 2 (.ref pq)) 3 (.ref mq)) 2 (.ref pq)) from fun k9 hk9 => by unfold updR; simp only [show ¬ k9 = 1 by omega, show ¬ k9 = 2 by omega, show ¬ k9 = 3 by omega, show ¬ k9 = 4 by omega, if_false]) hux) hnt hlocks hce hcv hcl hP9 hD9 hS9 (by show 0 + 1 ≤ 1; omega) (by show 0 + 6 ≤ 6; omega))
    obtain ⟨w, _⟩ := u601
    obtain ⟨hw602, hO⟩ := hw602
    obtain rfl : v603 = none := hw602
    have hO : OKP G h0 a (upd (upd (upd (upd (upd (upd F 2 (nI sz)) 5 (nI cs8)) 12 (nI vr)) 13 as9) 14 wt10) 15 wf11) (updR (updR R 2 (.ref pq)) 3 (.ref mq)) Z B7 J K6 w := hO.to rfl
    refine W.widen (k := 0) (n := 0) (by show 0 + 0 ≤ 0; omega) (by show 0 + 0 ≤ 0; omega) ?_
    refine W.eq (g2 := F0 m 177 ls []) rfl ?_
    refine lv_aload_n hx hb dX0_sign_177 rfl (lv_at hl 1 rfl) ?_
    refine lv_aload_n hx hb dX0_sign_178 rfl (lv_at hl 2 rfl) ?_
    refine p_get (v := .ref q2) (C := RX7) (Tc := TX7) (N := 11) (ci := 13) hx hb hq pin_wsX70 hown hE hP hO (by rw [hf23]; decide) (rep_1 hf23) rfl 7 (by decide) (hq _ pw_169) (fun _ h9 => h9) (congrArg (fun z => some (va_rf z)) hf27) dX0_sign_179 ?_
    refine lv_aload_n hx hb dX0_sign_182 rfl (lv_at hl 1 rfl) ?_
    refine lv_aload_n hx hb dX0_sign_183 rfl (lv_at hl 2 rfl) ?_
    refine p_get (v := .ref q2) (C := RX7) (Tc := TX7) (N := 11) (ci := 13) hx hb hq pin_wsX70 hown hE hP hO (by rw [hf23]; decide) (rep_1 hf23) rfl 7 (by decide) (hq _ pw_169) (fun _ h9 => h9) (congrArg (fun z => some (va_rf z)) hf27) dX0_sign_184 ?_
    have hO : OKP G h0 a (upd (upd (upd (upd (upd (upd (upd (upd (upd (upd F 2 (nI sz)) 5 (nI cs)) 12 (nI vr)) 5 (nI cs8)) 13 as9) 14 wt10) 15 wf11) 2 (nI sz)) 5 (nI cs8)) 12 (nI vr)) (updR (updR (updR (updR R 2 (.ref pq)) 3 (.ref mq)) 2 (.ref pq)) 3 (.ref mq)) Z B7 J K6 w := hO.to rfl
    obtain ⟨_, qr609, hqr610⟩ := hO.2.1 24 _ (sg_24 G h0 a _ _ _ _ _)
    refine pn_V0 (G := G) (As := [.ref q2]) (rest := [.ref q2, .ref (a 4)]) hx hb hml hown hq hE hX pX0_al hP hD hS hA hl.1 ((ihv (by omega)) h0 a (upd (upd (upd (upd (upd (upd (upd F 2 (nI sz)) 5 (nI cs)) 12 (nI vr)) 5 (nI cs8)) 13 as9) 14 wt10) 15 wf11) (updR (updR R 2 (.ref pq)) 3 (.ref mq)) Z B7 J K6 w pq dr ml nd nm cp it s9 q2 mq cs8 vr sz g rk (by omega) (BdE.wp hbe29 hwp) (BdE.pt hbe29 hwp hps) (BdE.rko hbe29 hrk) (by omega) (by omega) hng31 hf24 hf28 ⟨hv1.1, (by have z9 := hv1; omega)⟩ hO hl0) (gV pw_173 pw_174 pw_175 pw_63 pw_224) hV_X0_value qr609 0 hqr610 rfl rfl rfl (Nat.le_of_ble_eq_true rfl) dX0_sign_187 ⟨(by show 0 + 1 ≤ 1; omega), (by show 0 + 6 ≤ 6; omega)⟩ ⟨(by show (5 * (n - 1) + 34) + 1 ≤ (5 * n + 33); omega), (by show 8 + (3 + 11) + (200 * (n - 1) + 600) ≤ (200 * n + 560); omega)⟩ (fun v608 u606 H locs hw607 hP hD hS => ?_) (fun ux ce9 q9 H9 locs9 hux hP9 hD9 hS9 hce hcv hcl => pb_out ux (ThQ.up (Thx.same (Thx.same (Thx.same (Thx.f (Thx.f (Thx.f (Thx.f (Bth.thx hbb30) (by omega)) (by omega)) (by omega)) (by omega)) rfl) rfl) rfl) (show RhX (updR (updR R 2 (.ref pq)) 3 (.ref mq)) (updR (updR (updR (updR R 2 (.ref pq)) 3 (.ref mq)) 2 (.ref pq)) 3 (.ref mq)) from fun k9 hk9 => by unfold updR; simp only [show ¬ k9 = 1 by omega, show ¬ k9 = 2 by omega, show ¬ k9 = 3 by omega, show ¬ k9 = 4 by omega, if_false]) hux) hnt hlocks hce hcv hcl hP9 hD9 hS9 (by show 0 + 1 ≤ 1; omega) (by show 0 + 6 ≤ 6; omega))
    obtain ⟨w, K611, B612, cs613, as614, wt615, wf616, r617⟩ := u606
    obtain ⟨hw607, h618, h619, h620, hO⟩ := hw607
    have h618 : BdE K6 K611 := h618
    have h619 : Bth B7 B612 := h619
    have h620 : cs613 ≤ 10000 := h620
    obtain rfl : v608 = some (.int r617) := hw607
    have hf621 : K611.1 pq = 7 := (BdE.T h618 hf16 (by decide))
    have hf622 : K611.2.2.1 18 pq = some (a 1) := (BdE.C h618 (by rw [hf16]; decide) 18).trans hf17
    have hf623 : K611.2.2.1 14 pq = some dr := (BdE.C h618 (by rw [hf16]; decide) 14).trans hf18
    have hf624 : K611.1 dr = 8 := (BdE.T h618 hf19 (by decide))
    have hf625 : K611.2.2.1 15 pq = some ml := (BdE.C h618 (by rw [hf16]; decide) 15).trans hf20
    have hf626 : K611.1 ml = 5 := (BdE.T h618 hf21 (by decide))
    have hf627 : K611.2.1 24 pq = (nI nd) := (BdE.I h618 (by rw [hf16]; decide) (by decide) (by decide)).trans hf22
    have hf628 : K611.1 q = 1 := (BdE.T h618 hf23 (by decide))
    have hf629 : K611.1 mq = 3 := (BdE.T h618 hf24 (by decide))
    have hf630 : K611.2.2.1 0 q = some q1 := (BdE.C h618 (by rw [hf23]; decide) 0).trans hf25
    have hf631 : K611.1 q1 = 1 := (BdE.T h618 hf26 (by decide))
    have hf632 : K611.2.2.1 1 q = some q2 := (BdE.C h618 (by rw [hf23]; decide) 1).trans hf27
    have hf633 : K611.1 q2 = 1 := (BdE.T h618 hf28 (by decide))
    have hO : OKP G h0 a (upd (upd (upd (upd (upd (upd F 2 (nI sz)) 5 (nI cs613)) 12 (nI vr)) 13 as614) 14 wt615) 15 wf616) (updR (updR R 2 (.ref pq)) 3 (.ref mq)) Z B612 J K611 w := hO.to rfl
    refine W.widen (k := 0) (n := 0) (by show 0 + 0 ≤ 0; omega) (by show 0 + 0 ≤ 0; omega) ?_
    refine W.eq (g2 := F0 m 190 ls [.int r617, .ref q2, .ref (a 4)]) rfl ?_
    have hbe634 := BdE.trans hbe29 h618
    have hbb635 : Bth B B612 := Bth.trans (show Thx (upd (upd (upd F 2 (nI sz)) 5 (nI cs)) 12 (nI vr)) (upd (upd (upd (upd (upd (upd (upd F 2 (nI sz)) 5 (nI cs)) 12 (nI vr)) 5 (nI cs8)) 13 as9) 14 wt10) 15 wf11) B B7 from (Thx.f (Thx.f (Thx.f (Thx.f (Bth.thx hbb30) (by omega)) (by omega)) (by omega)) (by omega))).2 h619
    have hng636 : Nng (B612 18) := h619.2 hng31
    refine lv_bipush (v := 60) hx hb dX0_sign_190 (by decide) ?_
    have hO : OKP G h0 a (upd (upd (upd (upd (upd (upd (upd (upd F 2 (nI sz)) 5 (nI cs)) 12 (nI vr)) 5 (nI cs613)) 13 as614) 14 wt615) 15 wf616) 2 (nI sz)) (updR (updR (updR R 2 (.ref pq)) 3 (.ref mq)) 2 (.ref pq)) Z B612 J K611 w := hO.to rfl
    obtain ⟨_, qr640, hqr641⟩ := hO.2.1 24 _ (sg_24 G h0 a _ _ _ _ _)
    refine pn_V0 (G := G) (As := [.ref q2, .int r617, .int 60]) (rest := []) hx hb hml hown hq hE hX pX0_al hP hD hS hA hl.1 (B_fit l G h0 a (upd (upd (upd (upd (upd (upd (upd F 2 (nI sz)) 5 (nI cs)) 12 (nI vr)) 5 (nI cs613)) 13 as614) 14 wt615) 15 wf616) (updR (updR R 2 (.ref pq)) 3 (.ref mq)) Z B612 J K611 w pq dr ml nd q2 sz r617 60 g (by omega) (BdE.pt hbe634 hwp hps).1 (BdE.pt hbe634 hwp hps).2.1 hf633 hO hl0) (gV pw_176 pw_177 pw_178 pw_63 pw_114) hV_X0_fit qr640 0 hqr641 rfl rfl rfl (Nat.le_of_ble_eq_true rfl) dX0_sign_192 ⟨(by show 0 + 1 ≤ 1; omega), (by show 0 + 6 ≤ 6; omega)⟩ ⟨(by show 7 + 1 ≤ (5 * n + 33); omega), (by show 8 + (4 + 11) + 122 ≤ (200 * n + 560); omega)⟩ (fun v639 u637 H locs hw638 hP hD hS => ?_) (fun ux ce9 q9 H9 locs9 hux hP9 hD9 hS9 hce hcv hcl => pb_out ux (ThQ.up (Thx.same (Thx.f (Thx.f (Thx.f (Thx.f (Bth.thx hbb635) (by omega)) (by omega)) (by omega)) (by omega)) rfl) (show RhX (updR (updR R 2 (.ref pq)) 3 (.ref mq)) (updR (updR (updR R 2 (.ref pq)) 3 (.ref mq)) 2 (.ref pq)) from fun k9 hk9 => by unfold updR; simp only [show ¬ k9 = 1 by omega, show ¬ k9 = 2 by omega, show ¬ k9 = 3 by omega, show ¬ k9 = 4 by omega, if_false]) hux) hnt hlocks hce hcv hcl hP9 hD9 hS9 (by show 0 + 1 ≤ 1; omega) (by show 0 + 6 ≤ 6; omega))
    obtain ⟨w, _⟩ := u637
    obtain ⟨hw638, hO⟩ := hw638
    obtain rfl : v639 = none := hw638
    have hO : OKP G h0 a (upd (upd (upd (upd (upd (upd F 2 (nI sz)) 5 (nI cs613)) 12 (nI vr)) 13 as614) 14 wt615) 15 wf616) (updR (updR R 2 (.ref pq)) 3 (.ref mq)) Z B612 J K611 w := hO.to rfl
    refine W.widen (k := 0) (n := 0) (by show 0 + 0 ≤ 0; omega) (by show 0 + 0 ≤ 0; omega) ?_
    refine W.eq (g2 := F0 m 195 ls []) rfl ?_
    refine lv_iload_n hx hb dX0_sign_195 rfl (lv_at hl 3 rfl) ?_
    refine lv_bipush (v := 54) hx hb dX0_sign_196 (by decide) ?_
    refine lv_icmp_lt (tgt := 211) hx hb dX0_sign_198 (by decide) (fun c642 => absurd c642 (by decide)) (fun c642 => ?_)
    refine lv_iload_n hx hb dX0_sign_201 rfl (lv_at hl 3 rfl) ?_
    refine lv_bipush (v := 57) hx hb dX0_sign_202 (by decide) ?_
    refine lv_icmp_gt (tgt := 211) hx hb dX0_sign_204 (by decide) (fun c643 => absurd c643 (by decide)) (fun c643 => ?_)
    refine lv_iconst (v := 1) hx hb dX0_sign_207 (by decide) ?_
    refine lv_goto (tgt := 212) hx hb dX0_sign_208 (by decide) ?_
    refine lv_istore (lv' := [(4, .int 1), (3, .int r12), (0, .ref (a 4)), (1, .ref q), (2, .int 56)]) hx hb dX0_sign_212 hl (by decide) rfl (fun ls hl => ?_)
    refine lv_aload_n hx hb dX0_sign_214 rfl (lv_at hl 2 rfl) ?_
    refine lv_bipush (v := 10) hx hb dX0_sign_215 (by decide) ?_
    refine lv_iload_n hx hb dX0_sign_217 rfl (lv_at hl 4 rfl) ?_
    refine lv_iload hx hb dX0_sign_218 (lv_at hl 0 rfl) ?_
    refine lv_if_eq (tgt := 228) hx hb dX0_sign_220 (by decide) (fun c644 => absurd c644 (by decide)) (fun c644 => ?_)
    refine lv_bipush (v := 61) hx hb dX0_sign_223 (by decide) ?_
    refine lv_goto (tgt := 230) hx hb dX0_sign_225 (by decide) ?_
    have hO : OKW G h0 a (upd (upd (upd (upd (upd (upd (upd F 2 (nI sz)) 5 (nI cs613)) 12 (nI vr)) 13 as614) 14 wt615) 15 wf616) 5 (nI cs613)) (updR (updR R 2 (.ref pq)) 3 (.ref mq)) Z B612 J K611.1 (fun q99 x99 => x99 = rep G a K611 q99) w := hO.to rfl
    obtain ⟨_, qr648, hqr649⟩ := hO.2.1 24 _ (sg_24 G h0 a _ _ _ _ _)
    refine pc_V0 (G := G) (As := [.int 10, .int 56, .int 61]) (rest := []) hx hb hml hown hq hE hX pX0_al hP hD hS hA hl.1 (B_give l G h0 a (upd (upd (upd (upd (upd (upd F 2 (nI sz)) 5 (nI cs613)) 12 (nI vr)) 13 as614) 14 wt615) 15 wf616) (updR (updR R 2 (.ref pq)) 3 (.ref mq)) Z B612 J K611.1 (fun q99 x99 => x99 = rep G a K611 q99) w 10 56 61 cs613 (by omega) hng636 hO) (gV pw_158 pw_159 pw_160 pw_63 pw_128) hV_X0_give qr648 0 hqr649 rfl rfl rfl (Nat.le_of_ble_eq_true rfl) dX0_sign_230 ⟨(by show 0 + 0 ≤ 1; omega), (by show 0 + 0 ≤ 6; omega)⟩ ⟨(by show 3 + 1 ≤ (5 * n + 33); omega), (by show 8 + (4 + 11) + 83 ≤ (200 * n + 560); omega)⟩ (fun v647 u645 H locs hw646 hP hD hS => ?_)
    obtain ⟨w, cs650, f651, f652, f653, f654⟩ := u645
    obtain ⟨hw646, h655, h656, hO⟩ := hw646
    have h655 : cs613 ≤ cs650 ∧ cs650 ≤ cs613 + 1 ∧ cs650 ≤ 10000 := h655
    have h656 : Nng f653 := h656
    obtain rfl : v647 = some (.int 61) := hw646
    have hO : OKP G h0 a (upd (upd (upd (upd (upd (upd F 2 (nI sz)) 5 (nI cs650)) 12 (nI vr)) 13 as614) 14 wt615) 15 wf616) (updR (updR R 2 (.ref pq)) 3 (.ref mq)) Z (updA (updA (updA (updA B612 16 f651) 17 f652) 18 f653) 19 f654) J K611 w := hO.to rfl
    refine W.widen (k := 0) (n := 0) (Nat.le_of_ble_eq_true rfl) (Nat.le_of_ble_eq_true rfl) ?_
    refine W.eq (g2 := F0 m 233 ls [.int 61]) rfl ?_
    refine W_size (fun hz1 hz2 => ?_)
    refine vx_ret ?_
    have hz657 : BdE K K611 := hbe634
    have hz658 : Bth B (updA (updA (updA (updA B612 16 f651) 17 f652) 18 f653) 19 f654) := (show Thx (upd (upd (upd F 2 (nI sz)) 5 (nI cs)) 12 (nI vr)) (upd (upd (upd (upd (upd (upd (upd F 2 (nI sz)) 5 (nI cs)) 12 (nI vr)) 5 (nI cs650)) 13 as614) 14 wt615) 15 wf616) B (updA (updA (updA (updA B612 16 f651) 17 f652) 18 f653) 19 f654) from (Thx.b (Thx.b8 (Thx.b (Thx.b (Thx.f (Thx.f (Thx.f (Thx.f (Bth.thx hbb635) (by omega)) (by omega)) (by omega)) (by omega)) (by omega) (by decide)) (by omega) (by decide)) h656) (by omega) (by decide))).2
    have hz659 : cs650 ≤ 10000 := (by omega)
    have hO : OKP G h0 a (upd (upd (upd (upd (upd (upd F 2 (nI sz)) 5 (nI cs650)) 12 (nI vr)) 13 as614) 14 wt615) 15 wf616) (updR (updR R 2 (.ref pq)) 3 (.ref mq)) Z (updA (updA (updA (updA B612 16 f651) 17 f652) 18 f653) 19 f654) J K611 w := hO.to rfl
    refine W.widen (k := 1) (n := 6) (by omega) (by omega) ?_
    have hzz1 : H.size ≤ s.heap.size + (0) := (by have z : 0 ≤ 0 := (by omega); omega)
    have hzz2 : hSl H ≤ hSl s.heap + (0) := (by have z : 0 ≤ 0 := (by omega); omega)
    exact W.iret (v := 61) hx hb hr (fun t99 ht99 hW99 => ⟨⟨_, (w, (K611, (updA (updA (updA (updA B612 16 f651) 17 f652) 18 f653) 19 f654), cs650, as614, wt615, wf616, (61 : Int32))), rfl, ⟨rfl, hz657, hz658, hz659, hO⟩, by rw [ht99]; exact hP, hD, by rw [ht99]; exact hzz1, by rw [ht99]; exact hzz2⟩, hS.F ht99⟩) hS.2.2 dX0_sign_233
  by_cases h660 : x = 57
  · subst h660
    refine lv_tableIn (tgt := 166) (off := 156) hx hb dX0_sign_10 (by decide) (by decide) (by decide) (by decide) ?_
    refine lv_aload_n hx hb dX0_sign_166 rfl (lv_at hl 1 rfl) ?_
    refine lv_aload_n hx hb dX0_sign_167 rfl (lv_at hl 2 rfl) ?_
    refine p_get (v := .ref q1) (C := RX7) (Tc := TX7) (N := 11) (ci := 13) hx hb hq pin_wsX70 hown hE hP hO (by rw [hf23]; decide) (rep_1 hf23) rfl 6 (by decide) (hq _ pw_180) (fun _ h9 => h9) (congrArg (fun z => some (va_rf z)) hf25) dX0_sign_168 ?_
    refine lv_iload_n hx hb dX0_sign_171 rfl (lv_at hl 0 rfl) ?_
    refine lv_bipush (v := 60) hx hb dX0_sign_172 (by decide) ?_
    have hO : OKP G h0 a (upd (upd (upd (upd (upd (upd (upd (upd F 2 (nI sz)) 5 (nI cs)) 12 (nI vr)) 5 (nI cs8)) 13 as9) 14 wt10) 15 wf11) 2 (nI sz)) (updR (updR (updR R 2 (.ref pq)) 3 (.ref mq)) 2 (.ref pq)) Z B7 J K6 w := hO.to rfl
    obtain ⟨_, qr664, hqr665⟩ := hO.2.1 24 _ (sg_24 G h0 a _ _ _ _ _)
    refine pn_V0 (G := G) (As := [.ref q1, .int r12, .int 60]) (rest := []) hx hb hml hown hq hE hX pX0_al hP hD hS hA hl.1 (B_fit l G h0 a (upd (upd (upd (upd (upd (upd (upd F 2 (nI sz)) 5 (nI cs)) 12 (nI vr)) 5 (nI cs8)) 13 as9) 14 wt10) 15 wf11) (updR (updR R 2 (.ref pq)) 3 (.ref mq)) Z B7 J K6 w pq dr ml nd q1 sz r12 60 g (by omega) (BdE.pt hbe29 hwp hps).1 (BdE.pt hbe29 hwp hps).2.1 hf26 hO hl0) (gV pw_176 pw_177 pw_178 pw_63 pw_114) hV_X0_fit qr664 0 hqr665 rfl rfl rfl (Nat.le_of_ble_eq_true rfl) dX0_sign_174 ⟨(by show 0 + 1 ≤ 1; omega), (by show 0 + 6 ≤ 6; omega)⟩ ⟨(by show 7 + 1 ≤ (5 * n + 33); omega), (by show 8 + (4 + 11) + 122 ≤ (200 * n + 560); omega)⟩ (fun v663 u661 H locs hw662 hP hD hS => ?_) (fun ux ce9 q9 H9 locs9 hux hP9 hD9 hS9 hce hcv hcl => pb_out ux (ThQ.up (Thx.same (Thx.f (Thx.f (Thx.f (Thx.f (Bth.thx hbb30) (by omega)) (by omega)) (by omega)) (by omega)) rfl) (show RhX (updR (updR R 2 (.ref pq)) 3 (.ref mq)) (updR (updR (updR R 2 (.ref pq)) 3 (.ref mq)) 2 (.ref pq)) from fun k9 hk9 => by unfold updR; simp only [show ¬ k9 = 1 by omega, show ¬ k9 = 2 by omega, show ¬ k9 = 3 by omega, show ¬ k9 = 4 by omega, if_false]) hux) hnt hlocks hce hcv hcl hP9 hD9 hS9 (by show 0 + 1 ≤ 1; omega) (by show 0 + 6 ≤ 6; omega))
    obtain ⟨w, _⟩ := u661
    obtain ⟨hw662, hO⟩ := hw662
    obtain rfl : v663 = none := hw662
    have hO : OKP G h0 a (upd (upd (upd (upd (upd (upd F 2 (nI sz)) 5 (nI cs8)) 12 (nI vr)) 13 as9) 14 wt10) 15 wf11) (updR (updR R 2 (.ref pq)) 3 (.ref mq)) Z B7 J K6 w := hO.to rfl
    refine W.widen (k := 0) (n := 0) (by show 0 + 0 ≤ 0; omega) (by show 0 + 0 ≤ 0; omega) ?_
    refine W.eq (g2 := F0 m 177 ls []) rfl ?_
    refine lv_aload_n hx hb dX0_sign_177 rfl (lv_at hl 1 rfl) ?_
    refine lv_aload_n hx hb dX0_sign_178 rfl (lv_at hl 2 rfl) ?_
    refine p_get (v := .ref q2) (C := RX7) (Tc := TX7) (N := 11) (ci := 13) hx hb hq pin_wsX70 hown hE hP hO (by rw [hf23]; decide) (rep_1 hf23) rfl 7 (by decide) (hq _ pw_169) (fun _ h9 => h9) (congrArg (fun z => some (va_rf z)) hf27) dX0_sign_179 ?_
    refine lv_aload_n hx hb dX0_sign_182 rfl (lv_at hl 1 rfl) ?_
    refine lv_aload_n hx hb dX0_sign_183 rfl (lv_at hl 2 rfl) ?_
    refine p_get (v := .ref q2) (C := RX7) (Tc := TX7) (N := 11) (ci := 13) hx hb hq pin_wsX70 hown hE hP hO (by rw [hf23]; decide) (rep_1 hf23) rfl 7 (by decide) (hq _ pw_169) (fun _ h9 => h9) (congrArg (fun z => some (va_rf z)) hf27) dX0_sign_184 ?_
    have hO : OKP G h0 a (upd (upd (upd (upd (upd (upd (upd (upd (upd (upd F 2 (nI sz)) 5 (nI cs)) 12 (nI vr)) 5 (nI cs8)) 13 as9) 14 wt10) 15 wf11) 2 (nI sz)) 5 (nI cs8)) 12 (nI vr)) (updR (updR (updR (updR R 2 (.ref pq)) 3 (.ref mq)) 2 (.ref pq)) 3 (.ref mq)) Z B7 J K6 w := hO.to rfl
    obtain ⟨_, qr669, hqr670⟩ := hO.2.1 24 _ (sg_24 G h0 a _ _ _ _ _)
    refine pn_V0 (G := G) (As := [.ref q2]) (rest := [.ref q2, .ref (a 4)]) hx hb hml hown hq hE hX pX0_al hP hD hS hA hl.1 ((ihv (by omega)) h0 a (upd (upd (upd (upd (upd (upd (upd F 2 (nI sz)) 5 (nI cs)) 12 (nI vr)) 5 (nI cs8)) 13 as9) 14 wt10) 15 wf11) (updR (updR R 2 (.ref pq)) 3 (.ref mq)) Z B7 J K6 w pq dr ml nd nm cp it s9 q2 mq cs8 vr sz g rk (by omega) (BdE.wp hbe29 hwp) (BdE.pt hbe29 hwp hps) (BdE.rko hbe29 hrk) (by omega) (by omega) hng31 hf24 hf28 ⟨hv1.1, (by have z9 := hv1; omega)⟩ hO hl0) (gV pw_173 pw_174 pw_175 pw_63 pw_224) hV_X0_value qr669 0 hqr670 rfl rfl rfl (Nat.le_of_ble_eq_true rfl) dX0_sign_187 ⟨(by show 0 + 1 ≤ 1; omega), (by show 0 + 6 ≤ 6; omega)⟩ ⟨(by show (5 * (n - 1) + 34) + 1 ≤ (5 * n + 33); omega), (by show 8 + (3 + 11) + (200 * (n - 1) + 600) ≤ (200 * n + 560); omega)⟩ (fun v668 u666 H locs hw667 hP hD hS => ?_) (fun ux ce9 q9 H9 locs9 hux hP9 hD9 hS9 hce hcv hcl => pb_out ux (ThQ.up (Thx.same (Thx.same (Thx.same (Thx.f (Thx.f (Thx.f (Thx.f (Bth.thx hbb30) (by omega)) (by omega)) (by omega)) (by omega)) rfl) rfl) rfl) (show RhX (updR (updR R 2 (.ref pq)) 3 (.ref mq)) (updR (updR (updR (updR R 2 (.ref pq)) 3 (.ref mq)) 2 (.ref pq)) 3 (.ref mq)) from fun k9 hk9 => by unfold updR; simp only [show ¬ k9 = 1 by omega, show ¬ k9 = 2 by omega, show ¬ k9 = 3 by omega, show ¬ k9 = 4 by omega, if_false]) hux) hnt hlocks hce hcv hcl hP9 hD9 hS9 (by show 0 + 1 ≤ 1; omega) (by show 0 + 6 ≤ 6; omega))
    obtain ⟨w, K671, B672, cs673, as674, wt675, wf676, r677⟩ := u666
    obtain ⟨hw667, h678, h679, h680, hO⟩ := hw667
    have h678 : BdE K6 K671 := h678
    have h679 : Bth B7 B672 := h679
    have h680 : cs673 ≤ 10000 := h680
    obtain rfl : v668 = some (.int r677) := hw667
    have hf681 : K671.1 pq = 7 := (BdE.T h678 hf16 (by decide))
    have hf682 : K671.2.2.1 18 pq = some (a 1) := (BdE.C h678 (by rw [hf16]; decide) 18).trans hf17
    have hf683 : K671.2.2.1 14 pq = some dr := (BdE.C h678 (by rw [hf16]; decide) 14).trans hf18
    have hf684 : K671.1 dr = 8 := (BdE.T h678 hf19 (by decide))
    have hf685 : K671.2.2.1 15 pq = some ml := (BdE.C h678 (by rw [hf16]; decide) 15).trans hf20
    have hf686 : K671.1 ml = 5 := (BdE.T h678 hf21 (by decide))
    have hf687 : K671.2.1 24 pq = (nI nd) := (BdE.I h678 (by rw [hf16]; decide) (by decide) (by decide)).trans hf22
    have hf688 : K671.1 q = 1 := (BdE.T h678 hf23 (by decide))
    have hf689 : K671.1 mq = 3 := (BdE.T h678 hf24 (by decide))
    have hf690 : K671.2.2.1 0 q = some q1 := (BdE.C h678 (by rw [hf23]; decide) 0).trans hf25
    have hf691 : K671.1 q1 = 1 := (BdE.T h678 hf26 (by decide))
    have hf692 : K671.2.2.1 1 q = some q2 := (BdE.C h678 (by rw [hf23]; decide) 1).trans hf27
    have hf693 : K671.1 q2 = 1 := (BdE.T h678 hf28 (by decide))
    have hO : OKP G h0 a (upd (upd (upd (upd (upd (upd F 2 (nI sz)) 5 (nI cs673)) 12 (nI vr)) 13 as674) 14 wt675) 15 wf676) (updR (updR R 2 (.ref pq)) 3 (.ref mq)) Z B672 J K671 w := hO.to rfl
    refine W.widen (k := 0) (n := 0) (by show 0 + 0 ≤ 0; omega) (by show 0 + 0 ≤ 0; omega) ?_
    refine W.eq (g2 := F0 m 190 ls [.int r677, .ref q2, .ref (a 4)]) rfl ?_
    have hbe694 := BdE.trans hbe29 h678
    have hbb695 : Bth B B672 := Bth.trans (show Thx (upd (upd (upd F 2 (nI sz)) 5 (nI cs)) 12 (nI vr)) (upd (upd (upd (upd (upd (upd (upd F 2 (nI sz)) 5 (nI cs)) 12 (nI vr)) 5 (nI cs8)) 13 as9) 14 wt10) 15 wf11) B B7 from (Thx.f (Thx.f (Thx.f (Thx.f (Bth.thx hbb30) (by omega)) (by omega)) (by omega)) (by omega))).2 h679
    have hng696 : Nng (B672 18) := h679.2 hng31
    refine lv_bipush (v := 60) hx hb dX0_sign_190 (by decide) ?_
    have hO : OKP G h0 a (upd (upd (upd (upd (upd (upd (upd (upd F 2 (nI sz)) 5 (nI cs)) 12 (nI vr)) 5 (nI cs673)) 13 as674) 14 wt675) 15 wf676) 2 (nI sz)) (updR (updR (updR R 2 (.ref pq)) 3 (.ref mq)) 2 (.ref pq)) Z B672 J K671 w := hO.to rfl
    obtain ⟨_, qr700, hqr701⟩ := hO.2.1 24 _ (sg_24 G h0 a _ _ _ _ _)
    refine pn_V0 (G := G) (As := [.ref q2, .int r677, .int 60]) (rest := []) hx hb hml hown hq hE hX pX0_al hP hD hS hA hl.1 (B_fit l G h0 a (upd (upd (upd (upd (upd (upd (upd F 2 (nI sz)) 5 (nI cs)) 12 (nI vr)) 5 (nI cs673)) 13 as674) 14 wt675) 15 wf676) (updR (updR R 2 (.ref pq)) 3 (.ref mq)) Z B672 J K671 w pq dr ml nd q2 sz r677 60 g (by omega) (BdE.pt hbe694 hwp hps).1 (BdE.pt hbe694 hwp hps).2.1 hf693 hO hl0) (gV pw_176 pw_177 pw_178 pw_63 pw_114) hV_X0_fit qr700 0 hqr701 rfl rfl rfl (Nat.le_of_ble_eq_true rfl) dX0_sign_192 ⟨(by show 0 + 1 ≤ 1; omega), (by show 0 + 6 ≤ 6; omega)⟩ ⟨(by show 7 + 1 ≤ (5 * n + 33); omega), (by show 8 + (4 + 11) + 122 ≤ (200 * n + 560); omega)⟩ (fun v699 u697 H locs hw698 hP hD hS => ?_) (fun ux ce9 q9 H9 locs9 hux hP9 hD9 hS9 hce hcv hcl => pb_out ux (ThQ.up (Thx.same (Thx.f (Thx.f (Thx.f (Thx.f (Bth.thx hbb695) (by omega)) (by omega)) (by omega)) (by omega)) rfl) (show RhX (updR (updR R 2 (.ref pq)) 3 (.ref mq)) (updR (updR (updR R 2 (.ref pq)) 3 (.ref mq)) 2 (.ref pq)) from fun k9 hk9 => by unfold updR; simp only [show ¬ k9 = 1 by omega, show ¬ k9 = 2 by omega, show ¬ k9 = 3 by omega, show ¬ k9 = 4 by omega, if_false]) hux) hnt hlocks hce hcv hcl hP9 hD9 hS9 (by show 0 + 1 ≤ 1; omega) (by show 0 + 6 ≤ 6; omega))
    obtain ⟨w, _⟩ := u697
    obtain ⟨hw698, hO⟩ := hw698
    obtain rfl : v699 = none := hw698
    have hO : OKP G h0 a (upd (upd (upd (upd (upd (upd F 2 (nI sz)) 5 (nI cs673)) 12 (nI vr)) 13 as674) 14 wt675) 15 wf676) (updR (updR R 2 (.ref pq)) 3 (.ref mq)) Z B672 J K671 w := hO.to rfl
    refine W.widen (k := 0) (n := 0) (by show 0 + 0 ≤ 0; omega) (by show 0 + 0 ≤ 0; omega) ?_
    refine W.eq (g2 := F0 m 195 ls []) rfl ?_
    refine lv_iload_n hx hb dX0_sign_195 rfl (lv_at hl 3 rfl) ?_
    refine lv_bipush (v := 54) hx hb dX0_sign_196 (by decide) ?_
    refine lv_icmp_lt (tgt := 211) hx hb dX0_sign_198 (by decide) (fun c702 => absurd c702 (by decide)) (fun c702 => ?_)
    refine lv_iload_n hx hb dX0_sign_201 rfl (lv_at hl 3 rfl) ?_
    refine lv_bipush (v := 57) hx hb dX0_sign_202 (by decide) ?_
    refine lv_icmp_gt (tgt := 211) hx hb dX0_sign_204 (by decide) (fun c703 => absurd c703 (by decide)) (fun c703 => ?_)
    refine lv_iconst (v := 1) hx hb dX0_sign_207 (by decide) ?_
    refine lv_goto (tgt := 212) hx hb dX0_sign_208 (by decide) ?_
    refine lv_istore (lv' := [(4, .int 1), (3, .int r12), (0, .ref (a 4)), (1, .ref q), (2, .int 57)]) hx hb dX0_sign_212 hl (by decide) rfl (fun ls hl => ?_)
    refine lv_aload_n hx hb dX0_sign_214 rfl (lv_at hl 2 rfl) ?_
    refine lv_bipush (v := 10) hx hb dX0_sign_215 (by decide) ?_
    refine lv_iload_n hx hb dX0_sign_217 rfl (lv_at hl 4 rfl) ?_
    refine lv_iload hx hb dX0_sign_218 (lv_at hl 0 rfl) ?_
    refine lv_if_eq (tgt := 228) hx hb dX0_sign_220 (by decide) (fun c704 => absurd c704 (by decide)) (fun c704 => ?_)
    refine lv_bipush (v := 61) hx hb dX0_sign_223 (by decide) ?_
    refine lv_goto (tgt := 230) hx hb dX0_sign_225 (by decide) ?_
    have hO : OKW G h0 a (upd (upd (upd (upd (upd (upd (upd F 2 (nI sz)) 5 (nI cs673)) 12 (nI vr)) 13 as674) 14 wt675) 15 wf676) 5 (nI cs673)) (updR (updR R 2 (.ref pq)) 3 (.ref mq)) Z B672 J K671.1 (fun q99 x99 => x99 = rep G a K671 q99) w := hO.to rfl
    obtain ⟨_, qr708, hqr709⟩ := hO.2.1 24 _ (sg_24 G h0 a _ _ _ _ _)
    refine pc_V0 (G := G) (As := [.int 10, .int 57, .int 61]) (rest := []) hx hb hml hown hq hE hX pX0_al hP hD hS hA hl.1 (B_give l G h0 a (upd (upd (upd (upd (upd (upd F 2 (nI sz)) 5 (nI cs673)) 12 (nI vr)) 13 as674) 14 wt675) 15 wf676) (updR (updR R 2 (.ref pq)) 3 (.ref mq)) Z B672 J K671.1 (fun q99 x99 => x99 = rep G a K671 q99) w 10 57 61 cs673 (by omega) hng696 hO) (gV pw_158 pw_159 pw_160 pw_63 pw_128) hV_X0_give qr708 0 hqr709 rfl rfl rfl (Nat.le_of_ble_eq_true rfl) dX0_sign_230 ⟨(by show 0 + 0 ≤ 1; omega), (by show 0 + 0 ≤ 6; omega)⟩ ⟨(by show 3 + 1 ≤ (5 * n + 33); omega), (by show 8 + (4 + 11) + 83 ≤ (200 * n + 560); omega)⟩ (fun v707 u705 H locs hw706 hP hD hS => ?_)
    obtain ⟨w, cs710, f711, f712, f713, f714⟩ := u705
    obtain ⟨hw706, h715, h716, hO⟩ := hw706
    have h715 : cs673 ≤ cs710 ∧ cs710 ≤ cs673 + 1 ∧ cs710 ≤ 10000 := h715
    have h716 : Nng f713 := h716
    obtain rfl : v707 = some (.int 61) := hw706
    have hO : OKP G h0 a (upd (upd (upd (upd (upd (upd F 2 (nI sz)) 5 (nI cs710)) 12 (nI vr)) 13 as674) 14 wt675) 15 wf676) (updR (updR R 2 (.ref pq)) 3 (.ref mq)) Z (updA (updA (updA (updA B672 16 f711) 17 f712) 18 f713) 19 f714) J K671 w := hO.to rfl
    refine W.widen (k := 0) (n := 0) (Nat.le_of_ble_eq_true rfl) (Nat.le_of_ble_eq_true rfl) ?_
    refine W.eq (g2 := F0 m 233 ls [.int 61]) rfl ?_
    refine W_size (fun hz1 hz2 => ?_)
    refine vx_ret ?_
    have hz717 : BdE K K671 := hbe694
    have hz718 : Bth B (updA (updA (updA (updA B672 16 f711) 17 f712) 18 f713) 19 f714) := (show Thx (upd (upd (upd F 2 (nI sz)) 5 (nI cs)) 12 (nI vr)) (upd (upd (upd (upd (upd (upd (upd F 2 (nI sz)) 5 (nI cs)) 12 (nI vr)) 5 (nI cs710)) 13 as674) 14 wt675) 15 wf676) B (updA (updA (updA (updA B672 16 f711) 17 f712) 18 f713) 19 f714) from (Thx.b (Thx.b8 (Thx.b (Thx.b (Thx.f (Thx.f (Thx.f (Thx.f (Bth.thx hbb695) (by omega)) (by omega)) (by omega)) (by omega)) (by omega) (by decide)) (by omega) (by decide)) h716) (by omega) (by decide))).2
    have hz719 : cs710 ≤ 10000 := (by omega)
    have hO : OKP G h0 a (upd (upd (upd (upd (upd (upd F 2 (nI sz)) 5 (nI cs710)) 12 (nI vr)) 13 as674) 14 wt675) 15 wf676) (updR (updR R 2 (.ref pq)) 3 (.ref mq)) Z (updA (updA (updA (updA B672 16 f711) 17 f712) 18 f713) 19 f714) J K671 w := hO.to rfl
    refine W.widen (k := 1) (n := 6) (by omega) (by omega) ?_
    have hzz1 : H.size ≤ s.heap.size + (0) := (by have z : 0 ≤ 0 := (by omega); omega)
    have hzz2 : hSl H ≤ hSl s.heap + (0) := (by have z : 0 ≤ 0 := (by omega); omega)
    exact W.iret (v := 61) hx hb hr (fun t99 ht99 hW99 => ⟨⟨_, (w, (K671, (updA (updA (updA (updA B672 16 f711) 17 f712) 18 f713) 19 f714), cs710, as674, wt675, wf676, (61 : Int32))), rfl, ⟨rfl, hz717, hz718, hz719, hO⟩, by rw [ht99]; exact hP, hD, by rw [ht99]; exact hzz1, by rw [ht99]; exact hzz2⟩, hS.F ht99⟩) hS.2.2 dX0_sign_233
  by_cases h720 : x = 58
  · subst h720
    refine lv_tableIn (tgt := 68) (off := 58) hx hb dX0_sign_10 (by decide) (by decide) (by decide) (by decide) ?_
    refine lv_aload_n hx hb dX0_sign_68 rfl (lv_at hl 1 rfl) ?_
    refine c_get (v := .ref pq) (C := RX0) (Tc := TX0) (N := 13) (ci := 0) hx hb hq pin_wsX00 hown hE hP hO 24 (sg_24 G h0 a _ _ _ _ _) rfl 6 (by decide) (hq _ pw_110) (fun _ h9 => h9) rfl dX0_sign_69 ?_
    refine lv_iload_n hx hb dX0_sign_72 rfl (lv_at hl 0 rfl) ?_
    refine lv_aload_n hx hb dX0_sign_73 rfl (lv_at hl 1 rfl) ?_
    refine lv_aload_n hx hb dX0_sign_74 rfl (lv_at hl 2 rfl) ?_
    refine p_get (v := .ref q2) (C := RX7) (Tc := TX7) (N := 11) (ci := 13) hx hb hq pin_wsX70 hown hE hP hO (by rw [hf23]; decide) (rep_1 hf23) rfl 7 (by decide) (hq _ pw_169) (fun _ h9 => h9) (congrArg (fun z => some (va_rf z)) hf27) dX0_sign_75 ?_
    have hO : OKP G h0 a (upd (upd (upd (upd (upd (upd (upd (upd (upd (upd F 2 (nI sz)) 5 (nI cs)) 12 (nI vr)) 5 (nI cs8)) 13 as9) 14 wt10) 15 wf11) 2 (nI sz)) 5 (nI cs8)) 12 (nI vr)) (updR (updR (updR (updR R 2 (.ref pq)) 3 (.ref mq)) 2 (.ref pq)) 3 (.ref mq)) Z B7 J K6 w := hO.to rfl
    obtain ⟨_, qr724, hqr725⟩ := hO.2.1 24 _ (sg_24 G h0 a _ _ _ _ _)
    refine pn_V0 (G := G) (As := [.ref q2]) (rest := [.int r12, .ref pq]) hx hb hml hown hq hE hX pX0_al hP hD hS hA hl.1 ((ihv (by omega)) h0 a (upd (upd (upd (upd (upd (upd (upd F 2 (nI sz)) 5 (nI cs)) 12 (nI vr)) 5 (nI cs8)) 13 as9) 14 wt10) 15 wf11) (updR (updR R 2 (.ref pq)) 3 (.ref mq)) Z B7 J K6 w pq dr ml nd nm cp it s9 q2 mq cs8 vr sz g rk (by omega) (BdE.wp hbe29 hwp) (BdE.pt hbe29 hwp hps) (BdE.rko hbe29 hrk) (by omega) (by omega) hng31 hf24 hf28 ⟨hv1.1, (by have z9 := hv1; omega)⟩ hO hl0) (gV pw_173 pw_174 pw_175 pw_63 pw_224) hV_X0_value qr724 0 hqr725 rfl rfl rfl (Nat.le_of_ble_eq_true rfl) dX0_sign_78 ⟨(by show 0 + 1 ≤ 1; omega), (by show 0 + 6 ≤ 6; omega)⟩ ⟨(by show (5 * (n - 1) + 34) + 1 ≤ (5 * n + 33); omega), (by show 8 + (3 + 11) + (200 * (n - 1) + 600) ≤ (200 * n + 560); omega)⟩ (fun v723 u721 H locs hw722 hP hD hS => ?_) (fun ux ce9 q9 H9 locs9 hux hP9 hD9 hS9 hce hcv hcl => pb_out ux (ThQ.up (Thx.same (Thx.same (Thx.same (Thx.f (Thx.f (Thx.f (Thx.f (Bth.thx hbb30) (by omega)) (by omega)) (by omega)) (by omega)) rfl) rfl) rfl) (show RhX (updR (updR R 2 (.ref pq)) 3 (.ref mq)) (updR (updR (updR (updR R 2 (.ref pq)) 3 (.ref mq)) 2 (.ref pq)) 3 (.ref mq)) from fun k9 hk9 => by unfold updR; simp only [show ¬ k9 = 1 by omega, show ¬ k9 = 2 by omega, show ¬ k9 = 3 by omega, show ¬ k9 = 4 by omega, if_false]) hux) hnt hlocks hce hcv hcl hP9 hD9 hS9 (by show 0 + 1 ≤ 1; omega) (by show 0 + 6 ≤ 6; omega))
    obtain ⟨w, K726, B727, cs728, as729, wt730, wf731, r732⟩ := u721
    obtain ⟨hw722, h733, h734, h735, hO⟩ := hw722
    have h733 : BdE K6 K726 := h733
    have h734 : Bth B7 B727 := h734
    have h735 : cs728 ≤ 10000 := h735
    obtain rfl : v723 = some (.int r732) := hw722
    have hf736 : K726.1 pq = 7 := (BdE.T h733 hf16 (by decide))
    have hf737 : K726.2.2.1 18 pq = some (a 1) := (BdE.C h733 (by rw [hf16]; decide) 18).trans hf17
    have hf738 : K726.2.2.1 14 pq = some dr := (BdE.C h733 (by rw [hf16]; decide) 14).trans hf18
    have hf739 : K726.1 dr = 8 := (BdE.T h733 hf19 (by decide))
    have hf740 : K726.2.2.1 15 pq = some ml := (BdE.C h733 (by rw [hf16]; decide) 15).trans hf20
    have hf741 : K726.1 ml = 5 := (BdE.T h733 hf21 (by decide))
    have hf742 : K726.2.1 24 pq = (nI nd) := (BdE.I h733 (by rw [hf16]; decide) (by decide) (by decide)).trans hf22
    have hf743 : K726.1 q = 1 := (BdE.T h733 hf23 (by decide))
    have hf744 : K726.1 mq = 3 := (BdE.T h733 hf24 (by decide))
    have hf745 : K726.2.2.1 0 q = some q1 := (BdE.C h733 (by rw [hf23]; decide) 0).trans hf25
    have hf746 : K726.1 q1 = 1 := (BdE.T h733 hf26 (by decide))
    have hf747 : K726.2.2.1 1 q = some q2 := (BdE.C h733 (by rw [hf23]; decide) 1).trans hf27
    have hf748 : K726.1 q2 = 1 := (BdE.T h733 hf28 (by decide))
    have hO : OKP G h0 a (upd (upd (upd (upd (upd (upd F 2 (nI sz)) 5 (nI cs728)) 12 (nI vr)) 13 as729) 14 wt730) 15 wf731) (updR (updR R 2 (.ref pq)) 3 (.ref mq)) Z B727 J K726 w := hO.to rfl
    refine W.widen (k := 0) (n := 0) (by show 0 + 0 ≤ 0; omega) (by show 0 + 0 ≤ 0; omega) ?_
    refine W.eq (g2 := F0 m 81 ls [.int r732, .int r12, .ref pq]) rfl ?_
    have hbe749 := BdE.trans hbe29 h733
    have hbb750 : Bth B B727 := Bth.trans (show Thx (upd (upd (upd F 2 (nI sz)) 5 (nI cs)) 12 (nI vr)) (upd (upd (upd (upd (upd (upd (upd F 2 (nI sz)) 5 (nI cs)) 12 (nI vr)) 5 (nI cs8)) 13 as9) 14 wt10) 15 wf11) B B7 from (Thx.f (Thx.f (Thx.f (Thx.f (Bth.thx hbb30) (by omega)) (by omega)) (by omega)) (by omega))).2 h734
    have hng751 : Nng (B727 18) := h734.2 hng31
    have hO : OKP G h0 a (upd (upd (upd (upd (upd (upd F 2 (nI sz)) 5 (nI cs728)) 12 (nI vr)) 13 as729) 14 wt730) 15 wf731) (updR (updR R 2 (.ref pq)) 3 (.ref mq)) Z B727 J K726 w := hO.to rfl
    obtain ⟨qr755, hqr756⟩ := p_recv hO (by rw [hf736]; decide) (rep_7 hf736)
    refine pc_V0 (G := G) (As := [.int r12, .int r732]) (rest := []) hx hb hml hown hq hE hX pX0_al hP hD hS hA hl.1 (G_common l G h0 a (upd (upd (upd (upd (upd (upd F 2 (nI sz)) 5 (nI cs728)) 12 (nI vr)) 13 as729) 14 wt730) 15 wf731) (updR (updR R 2 (.ref pq)) 3 (.ref mq)) Z B727 J K726 w pq dr ml nd r12 r732 g (BdE.pt hbe749 hwp hps).1 (BdE.pt hbe749 hwp hps).2.1 hO) (gV pw_203 pw_204 pw_205 pw_106 pw_135) hV_X9_common qr755 6 hqr756 rfl rfl rfl (Nat.le_of_ble_eq_true rfl) dX0_sign_81 ⟨(by show 0 + 0 ≤ 1; omega), (by show 0 + 0 ≤ 6; omega)⟩ ⟨(by show 4 + 1 ≤ (5 * n + 33); omega), (by show 8 + (3 + 11) + 104 ≤ (200 * n + 560); omega)⟩ (fun v754 u752 H locs hw753 hP hD hS => ?_)
    obtain ⟨w, r757⟩ := u752
    obtain ⟨hw753, hO⟩ := hw753
    obtain rfl : v754 = some (.int r757) := hw753
    have hO : OKP G h0 a (upd (upd (upd (upd (upd (upd F 2 (nI sz)) 5 (nI cs728)) 12 (nI vr)) 13 as729) 14 wt730) 15 wf731) (updR (updR R 2 (.ref pq)) 3 (.ref mq)) Z B727 J K726 w := hO.to rfl
    refine W.widen (k := 0) (n := 0) (Nat.le_of_ble_eq_true rfl) (Nat.le_of_ble_eq_true rfl) ?_
    refine W.eq (g2 := F0 m 84 ls [.int r757]) rfl ?_
    refine lv_bipush (v := 63) hx hb dX0_sign_84 (by decide) ?_
    refine lv_icmp_ne (tgt := 102) hx hb dX0_sign_86 (by decide) (fun c758 => ?_) (fun c758 => ?_)
    · refine lv_aload_n hx hb dX0_sign_102 rfl (lv_at hl 1 rfl) ?_
      refine lv_bipush (v := 10) hx hb dX0_sign_103 (by decide) ?_
      refine lv_iload_n hx hb dX0_sign_105 rfl (lv_at hl 3 rfl) ?_
      refine lv_bipush (v := 61) hx hb dX0_sign_106 (by decide) ?_
      have hO : OKW G h0 a (upd (upd (upd (upd (upd (upd (upd F 2 (nI sz)) 5 (nI cs728)) 12 (nI vr)) 13 as729) 14 wt730) 15 wf731) 5 (nI cs728)) (updR (updR R 2 (.ref pq)) 3 (.ref mq)) Z B727 J K726.1 (fun q99 x99 => x99 = rep G a K726 q99) w := hO.to rfl
      obtain ⟨_, qr762, hqr763⟩ := hO.2.1 24 _ (sg_24 G h0 a _ _ _ _ _)
      refine pc_V0 (G := G) (As := [.int 10, .int 58, .int 61]) (rest := []) hx hb hml hown hq hE hX pX0_al hP hD hS hA hl.1 (B_give l G h0 a (upd (upd (upd (upd (upd (upd F 2 (nI sz)) 5 (nI cs728)) 12 (nI vr)) 13 as729) 14 wt730) 15 wf731) (updR (updR R 2 (.ref pq)) 3 (.ref mq)) Z B727 J K726.1 (fun q99 x99 => x99 = rep G a K726 q99) w 10 58 61 cs728 (by omega) hng751 hO) (gV pw_158 pw_159 pw_160 pw_63 pw_128) hV_X0_give qr762 0 hqr763 rfl rfl rfl (Nat.le_of_ble_eq_true rfl) dX0_sign_108 ⟨(by show 0 + 0 ≤ 1; omega), (by show 0 + 0 ≤ 6; omega)⟩ ⟨(by show 3 + 1 ≤ (5 * n + 33); omega), (by show 8 + (4 + 11) + 83 ≤ (200 * n + 560); omega)⟩ (fun v761 u759 H locs hw760 hP hD hS => ?_)
      obtain ⟨w, cs764, f765, f766, f767, f768⟩ := u759
      obtain ⟨hw760, h769, h770, hO⟩ := hw760
      have h769 : cs728 ≤ cs764 ∧ cs764 ≤ cs728 + 1 ∧ cs764 ≤ 10000 := h769
      have h770 : Nng f767 := h770
      obtain rfl : v761 = some (.int 61) := hw760
      have hO : OKP G h0 a (upd (upd (upd (upd (upd (upd F 2 (nI sz)) 5 (nI cs764)) 12 (nI vr)) 13 as729) 14 wt730) 15 wf731) (updR (updR R 2 (.ref pq)) 3 (.ref mq)) Z (updA (updA (updA (updA B727 16 f765) 17 f766) 18 f767) 19 f768) J K726 w := hO.to rfl
      refine W.widen (k := 0) (n := 0) (Nat.le_of_ble_eq_true rfl) (Nat.le_of_ble_eq_true rfl) ?_
      refine W.eq (g2 := F0 m 111 ls [.int 61]) rfl ?_
      refine W_size (fun hz1 hz2 => ?_)
      refine vx_ret ?_
      have hz771 : BdE K K726 := hbe749
      have hz772 : Bth B (updA (updA (updA (updA B727 16 f765) 17 f766) 18 f767) 19 f768) := (show Thx (upd (upd (upd F 2 (nI sz)) 5 (nI cs)) 12 (nI vr)) (upd (upd (upd (upd (upd (upd (upd F 2 (nI sz)) 5 (nI cs)) 12 (nI vr)) 5 (nI cs764)) 13 as729) 14 wt730) 15 wf731) B (updA (updA (updA (updA B727 16 f765) 17 f766) 18 f767) 19 f768) from (Thx.b (Thx.b8 (Thx.b (Thx.b (Thx.f (Thx.f (Thx.f (Thx.f (Bth.thx hbb750) (by omega)) (by omega)) (by omega)) (by omega)) (by omega) (by decide)) (by omega) (by decide)) h770) (by omega) (by decide))).2
      have hz773 : cs764 ≤ 10000 := (by omega)
      have hO : OKP G h0 a (upd (upd (upd (upd (upd (upd F 2 (nI sz)) 5 (nI cs764)) 12 (nI vr)) 13 as729) 14 wt730) 15 wf731) (updR (updR R 2 (.ref pq)) 3 (.ref mq)) Z (updA (updA (updA (updA B727 16 f765) 17 f766) 18 f767) 19 f768) J K726 w := hO.to rfl
      refine W.widen (k := 1) (n := 6) (by omega) (by omega) ?_
      have hzz1 : H.size ≤ s.heap.size + (0) := (by have z : 0 ≤ 0 := (by omega); omega)
      have hzz2 : hSl H ≤ hSl s.heap + (0) := (by have z : 0 ≤ 0 := (by omega); omega)
      exact W.iret (v := 61) hx hb hr (fun t99 ht99 hW99 => ⟨⟨_, (w, (K726, (updA (updA (updA (updA B727 16 f765) 17 f766) 18 f767) 19 f768), cs764, as729, wt730, wf731, (61 : Int32))), rfl, ⟨rfl, hz771, hz772, hz773, hO⟩, by rw [ht99]; exact hP, hD, by rw [ht99]; exact hzz1, by rw [ht99]; exact hzz2⟩, hS.F ht99⟩) hS.2.2 dX0_sign_111
    · refine lv_aload_n hx hb dX0_sign_89 rfl (lv_at hl 1 rfl) ?_
      refine c_get (v := .ref (a 1)) (C := RX0) (Tc := TX0) (N := 13) (ci := 0) hx hb hq pin_wsX00 hown hE hP hO 24 (sg_24 G h0 a _ _ _ _ _) rfl 0 (by decide) (hq _ pw_4) (fun _ h9 => h9) rfl dX0_sign_90 ?_
      refine lv_bipush (v := 11) hx hb dX0_sign_93 (by decide) ?_
      refine lv_aload_n hx hb dX0_sign_95 rfl (lv_at hl 2 rfl) ?_
      refine p_get (v := .int (K726.2.1 1 q)) (C := RX7) (Tc := TX7) (N := 11) (ci := 13) hx hb hq pin_wsX70 hown hE hP hO (by rw [hf743]; decide) (rep_1 hf743) rfl 1 (by decide) (hq _ pw_81) (fun _ h9 => h9) rfl dX0_sign_96 ?_
      have hO : OKW G h0 a (upd (upd (upd (upd (upd (upd (upd (upd F 2 (nI sz)) 5 (nI cs)) 12 (nI vr)) 5 (nI cs728)) 13 as729) 14 wt730) 15 wf731) 2 (nI sz)) (updR (updR R 2 (.ref pq)) 3 (.ref mq)) Z B727 J K726.1 (fun q99 x99 => x99 = rep G a K726 q99) w := hO.to rfl
      obtain ⟨_, qr777, hqr778⟩ := hO.2.1 2 _ (sg_2 G h0 a _ _ _ _ _)
      refine pn_V0 (G := G) (As := [.int 11, .int (K726.2.1 1 q)]) (rest := []) hx hb hml hown hq hE hX pX0_al hP hD hS hA hl.1 (K_fail l G h0 a (upd (upd (upd (upd (upd (upd (upd F 2 (nI sz)) 5 (nI cs)) 12 (nI vr)) 5 (nI cs728)) 13 as729) 14 wt730) 15 wf731) (updR (updR R 2 (.ref pq)) 3 (.ref mq)) Z B727 J K726.1 (fun q99 x99 => x99 = rep G a K726 q99) w 11 (K726.2.1 1 q) sz (by omega) hO hl0) (gV pw_64 pw_65 pw_66 pw_59 pw_43) hV_X10_fail qr777 7 hqr778 rfl rfl rfl (Nat.le_of_ble_eq_true rfl) dX0_sign_99 ⟨(by show 0 + 1 ≤ 1; omega), (by show 0 + 6 ≤ 6; omega)⟩ ⟨(by show 6 + 1 ≤ (5 * n + 33); omega), (by show 8 + (3 + 11) + 100 ≤ (200 * n + 560); omega)⟩ (fun v776 u774 H locs hw775 hP hD hS => hw775.elim) (fun ux ce9 q9 H9 locs9 hux hP9 hD9 hS9 hce hcv hcl => pb_out ux (ThQ.up (Thx.same (Thx.f (Thx.f (Thx.f (Thx.f (Bth.thx hbb750) (by omega)) (by omega)) (by omega)) (by omega)) rfl) RhX.rfl hux) hnt hlocks hce hcv hcl hP9 hD9 hS9 (by show 0 + 1 ≤ 1; omega) (by show 0 + 6 ≤ 6; omega))
  by_cases h779 : x = 59
  · subst h779
    refine lv_tableIn (tgt := 68) (off := 58) hx hb dX0_sign_10 (by decide) (by decide) (by decide) (by decide) ?_
    refine lv_aload_n hx hb dX0_sign_68 rfl (lv_at hl 1 rfl) ?_
    refine c_get (v := .ref pq) (C := RX0) (Tc := TX0) (N := 13) (ci := 0) hx hb hq pin_wsX00 hown hE hP hO 24 (sg_24 G h0 a _ _ _ _ _) rfl 6 (by decide) (hq _ pw_110) (fun _ h9 => h9) rfl dX0_sign_69 ?_
    refine lv_iload_n hx hb dX0_sign_72 rfl (lv_at hl 0 rfl) ?_
    refine lv_aload_n hx hb dX0_sign_73 rfl (lv_at hl 1 rfl) ?_
    refine lv_aload_n hx hb dX0_sign_74 rfl (lv_at hl 2 rfl) ?_
    refine p_get (v := .ref q2) (C := RX7) (Tc := TX7) (N := 11) (ci := 13) hx hb hq pin_wsX70 hown hE hP hO (by rw [hf23]; decide) (rep_1 hf23) rfl 7 (by decide) (hq _ pw_169) (fun _ h9 => h9) (congrArg (fun z => some (va_rf z)) hf27) dX0_sign_75 ?_
    have hO : OKP G h0 a (upd (upd (upd (upd (upd (upd (upd (upd (upd (upd F 2 (nI sz)) 5 (nI cs)) 12 (nI vr)) 5 (nI cs8)) 13 as9) 14 wt10) 15 wf11) 2 (nI sz)) 5 (nI cs8)) 12 (nI vr)) (updR (updR (updR (updR R 2 (.ref pq)) 3 (.ref mq)) 2 (.ref pq)) 3 (.ref mq)) Z B7 J K6 w := hO.to rfl
    obtain ⟨_, qr783, hqr784⟩ := hO.2.1 24 _ (sg_24 G h0 a _ _ _ _ _)
    refine pn_V0 (G := G) (As := [.ref q2]) (rest := [.int r12, .ref pq]) hx hb hml hown hq hE hX pX0_al hP hD hS hA hl.1 ((ihv (by omega)) h0 a (upd (upd (upd (upd (upd (upd (upd F 2 (nI sz)) 5 (nI cs)) 12 (nI vr)) 5 (nI cs8)) 13 as9) 14 wt10) 15 wf11) (updR (updR R 2 (.ref pq)) 3 (.ref mq)) Z B7 J K6 w pq dr ml nd nm cp it s9 q2 mq cs8 vr sz g rk (by omega) (BdE.wp hbe29 hwp) (BdE.pt hbe29 hwp hps) (BdE.rko hbe29 hrk) (by omega) (by omega) hng31 hf24 hf28 ⟨hv1.1, (by have z9 := hv1; omega)⟩ hO hl0) (gV pw_173 pw_174 pw_175 pw_63 pw_224) hV_X0_value qr783 0 hqr784 rfl rfl rfl (Nat.le_of_ble_eq_true rfl) dX0_sign_78 ⟨(by show 0 + 1 ≤ 1; omega), (by show 0 + 6 ≤ 6; omega)⟩ ⟨(by show (5 * (n - 1) + 34) + 1 ≤ (5 * n + 33); omega), (by show 8 + (3 + 11) + (200 * (n - 1) + 600) ≤ (200 * n + 560); omega)⟩ (fun v782 u780 H locs hw781 hP hD hS => ?_) (fun ux ce9 q9 H9 locs9 hux hP9 hD9 hS9 hce hcv hcl => pb_out ux (ThQ.up (Thx.same (Thx.same (Thx.same (Thx.f (Thx.f (Thx.f (Thx.f (Bth.thx hbb30) (by omega)) (by omega)) (by omega)) (by omega)) rfl) rfl) rfl) (show RhX (updR (updR R 2 (.ref pq)) 3 (.ref mq)) (updR (updR (updR (updR R 2 (.ref pq)) 3 (.ref mq)) 2 (.ref pq)) 3 (.ref mq)) from fun k9 hk9 => by unfold updR; simp only [show ¬ k9 = 1 by omega, show ¬ k9 = 2 by omega, show ¬ k9 = 3 by omega, show ¬ k9 = 4 by omega, if_false]) hux) hnt hlocks hce hcv hcl hP9 hD9 hS9 (by show 0 + 1 ≤ 1; omega) (by show 0 + 6 ≤ 6; omega))
    obtain ⟨w, K785, B786, cs787, as788, wt789, wf790, r791⟩ := u780
    obtain ⟨hw781, h792, h793, h794, hO⟩ := hw781
    have h792 : BdE K6 K785 := h792
    have h793 : Bth B7 B786 := h793
    have h794 : cs787 ≤ 10000 := h794
    obtain rfl : v782 = some (.int r791) := hw781
    have hf795 : K785.1 pq = 7 := (BdE.T h792 hf16 (by decide))
    have hf796 : K785.2.2.1 18 pq = some (a 1) := (BdE.C h792 (by rw [hf16]; decide) 18).trans hf17
    have hf797 : K785.2.2.1 14 pq = some dr := (BdE.C h792 (by rw [hf16]; decide) 14).trans hf18
    have hf798 : K785.1 dr = 8 := (BdE.T h792 hf19 (by decide))
    have hf799 : K785.2.2.1 15 pq = some ml := (BdE.C h792 (by rw [hf16]; decide) 15).trans hf20
    have hf800 : K785.1 ml = 5 := (BdE.T h792 hf21 (by decide))
    have hf801 : K785.2.1 24 pq = (nI nd) := (BdE.I h792 (by rw [hf16]; decide) (by decide) (by decide)).trans hf22
    have hf802 : K785.1 q = 1 := (BdE.T h792 hf23 (by decide))
    have hf803 : K785.1 mq = 3 := (BdE.T h792 hf24 (by decide))
    have hf804 : K785.2.2.1 0 q = some q1 := (BdE.C h792 (by rw [hf23]; decide) 0).trans hf25
    have hf805 : K785.1 q1 = 1 := (BdE.T h792 hf26 (by decide))
    have hf806 : K785.2.2.1 1 q = some q2 := (BdE.C h792 (by rw [hf23]; decide) 1).trans hf27
    have hf807 : K785.1 q2 = 1 := (BdE.T h792 hf28 (by decide))
    have hO : OKP G h0 a (upd (upd (upd (upd (upd (upd F 2 (nI sz)) 5 (nI cs787)) 12 (nI vr)) 13 as788) 14 wt789) 15 wf790) (updR (updR R 2 (.ref pq)) 3 (.ref mq)) Z B786 J K785 w := hO.to rfl
    refine W.widen (k := 0) (n := 0) (by show 0 + 0 ≤ 0; omega) (by show 0 + 0 ≤ 0; omega) ?_
    refine W.eq (g2 := F0 m 81 ls [.int r791, .int r12, .ref pq]) rfl ?_
    have hbe808 := BdE.trans hbe29 h792
    have hbb809 : Bth B B786 := Bth.trans (show Thx (upd (upd (upd F 2 (nI sz)) 5 (nI cs)) 12 (nI vr)) (upd (upd (upd (upd (upd (upd (upd F 2 (nI sz)) 5 (nI cs)) 12 (nI vr)) 5 (nI cs8)) 13 as9) 14 wt10) 15 wf11) B B7 from (Thx.f (Thx.f (Thx.f (Thx.f (Bth.thx hbb30) (by omega)) (by omega)) (by omega)) (by omega))).2 h793
    have hng810 : Nng (B786 18) := h793.2 hng31
    have hO : OKP G h0 a (upd (upd (upd (upd (upd (upd F 2 (nI sz)) 5 (nI cs787)) 12 (nI vr)) 13 as788) 14 wt789) 15 wf790) (updR (updR R 2 (.ref pq)) 3 (.ref mq)) Z B786 J K785 w := hO.to rfl
    obtain ⟨qr814, hqr815⟩ := p_recv hO (by rw [hf795]; decide) (rep_7 hf795)
    refine pc_V0 (G := G) (As := [.int r12, .int r791]) (rest := []) hx hb hml hown hq hE hX pX0_al hP hD hS hA hl.1 (G_common l G h0 a (upd (upd (upd (upd (upd (upd F 2 (nI sz)) 5 (nI cs787)) 12 (nI vr)) 13 as788) 14 wt789) 15 wf790) (updR (updR R 2 (.ref pq)) 3 (.ref mq)) Z B786 J K785 w pq dr ml nd r12 r791 g (BdE.pt hbe808 hwp hps).1 (BdE.pt hbe808 hwp hps).2.1 hO) (gV pw_203 pw_204 pw_205 pw_106 pw_135) hV_X9_common qr814 6 hqr815 rfl rfl rfl (Nat.le_of_ble_eq_true rfl) dX0_sign_81 ⟨(by show 0 + 0 ≤ 1; omega), (by show 0 + 0 ≤ 6; omega)⟩ ⟨(by show 4 + 1 ≤ (5 * n + 33); omega), (by show 8 + (3 + 11) + 104 ≤ (200 * n + 560); omega)⟩ (fun v813 u811 H locs hw812 hP hD hS => ?_)
    obtain ⟨w, r816⟩ := u811
    obtain ⟨hw812, hO⟩ := hw812
    obtain rfl : v813 = some (.int r816) := hw812
    have hO : OKP G h0 a (upd (upd (upd (upd (upd (upd F 2 (nI sz)) 5 (nI cs787)) 12 (nI vr)) 13 as788) 14 wt789) 15 wf790) (updR (updR R 2 (.ref pq)) 3 (.ref mq)) Z B786 J K785 w := hO.to rfl
    refine W.widen (k := 0) (n := 0) (Nat.le_of_ble_eq_true rfl) (Nat.le_of_ble_eq_true rfl) ?_
    refine W.eq (g2 := F0 m 84 ls [.int r816]) rfl ?_
    refine lv_bipush (v := 63) hx hb dX0_sign_84 (by decide) ?_
    refine lv_icmp_ne (tgt := 102) hx hb dX0_sign_86 (by decide) (fun c817 => ?_) (fun c817 => ?_)
    · refine lv_aload_n hx hb dX0_sign_102 rfl (lv_at hl 1 rfl) ?_
      refine lv_bipush (v := 10) hx hb dX0_sign_103 (by decide) ?_
      refine lv_iload_n hx hb dX0_sign_105 rfl (lv_at hl 3 rfl) ?_
      refine lv_bipush (v := 61) hx hb dX0_sign_106 (by decide) ?_
      have hO : OKW G h0 a (upd (upd (upd (upd (upd (upd (upd F 2 (nI sz)) 5 (nI cs787)) 12 (nI vr)) 13 as788) 14 wt789) 15 wf790) 5 (nI cs787)) (updR (updR R 2 (.ref pq)) 3 (.ref mq)) Z B786 J K785.1 (fun q99 x99 => x99 = rep G a K785 q99) w := hO.to rfl
      obtain ⟨_, qr821, hqr822⟩ := hO.2.1 24 _ (sg_24 G h0 a _ _ _ _ _)
      refine pc_V0 (G := G) (As := [.int 10, .int 59, .int 61]) (rest := []) hx hb hml hown hq hE hX pX0_al hP hD hS hA hl.1 (B_give l G h0 a (upd (upd (upd (upd (upd (upd F 2 (nI sz)) 5 (nI cs787)) 12 (nI vr)) 13 as788) 14 wt789) 15 wf790) (updR (updR R 2 (.ref pq)) 3 (.ref mq)) Z B786 J K785.1 (fun q99 x99 => x99 = rep G a K785 q99) w 10 59 61 cs787 (by omega) hng810 hO) (gV pw_158 pw_159 pw_160 pw_63 pw_128) hV_X0_give qr821 0 hqr822 rfl rfl rfl (Nat.le_of_ble_eq_true rfl) dX0_sign_108 ⟨(by show 0 + 0 ≤ 1; omega), (by show 0 + 0 ≤ 6; omega)⟩ ⟨(by show 3 + 1 ≤ (5 * n + 33); omega), (by show 8 + (4 + 11) + 83 ≤ (200 * n + 560); omega)⟩ (fun v820 u818 H locs hw819 hP hD hS => ?_)
      obtain ⟨w, cs823, f824, f825, f826, f827⟩ := u818
      obtain ⟨hw819, h828, h829, hO⟩ := hw819
      have h828 : cs787 ≤ cs823 ∧ cs823 ≤ cs787 + 1 ∧ cs823 ≤ 10000 := h828
      have h829 : Nng f826 := h829
      obtain rfl : v820 = some (.int 61) := hw819
      have hO : OKP G h0 a (upd (upd (upd (upd (upd (upd F 2 (nI sz)) 5 (nI cs823)) 12 (nI vr)) 13 as788) 14 wt789) 15 wf790) (updR (updR R 2 (.ref pq)) 3 (.ref mq)) Z (updA (updA (updA (updA B786 16 f824) 17 f825) 18 f826) 19 f827) J K785 w := hO.to rfl
      refine W.widen (k := 0) (n := 0) (Nat.le_of_ble_eq_true rfl) (Nat.le_of_ble_eq_true rfl) ?_
      refine W.eq (g2 := F0 m 111 ls [.int 61]) rfl ?_
      refine W_size (fun hz1 hz2 => ?_)
      refine vx_ret ?_
      have hz830 : BdE K K785 := hbe808
      have hz831 : Bth B (updA (updA (updA (updA B786 16 f824) 17 f825) 18 f826) 19 f827) := (show Thx (upd (upd (upd F 2 (nI sz)) 5 (nI cs)) 12 (nI vr)) (upd (upd (upd (upd (upd (upd (upd F 2 (nI sz)) 5 (nI cs)) 12 (nI vr)) 5 (nI cs823)) 13 as788) 14 wt789) 15 wf790) B (updA (updA (updA (updA B786 16 f824) 17 f825) 18 f826) 19 f827) from (Thx.b (Thx.b8 (Thx.b (Thx.b (Thx.f (Thx.f (Thx.f (Thx.f (Bth.thx hbb809) (by omega)) (by omega)) (by omega)) (by omega)) (by omega) (by decide)) (by omega) (by decide)) h829) (by omega) (by decide))).2
      have hz832 : cs823 ≤ 10000 := (by omega)
      have hO : OKP G h0 a (upd (upd (upd (upd (upd (upd F 2 (nI sz)) 5 (nI cs823)) 12 (nI vr)) 13 as788) 14 wt789) 15 wf790) (updR (updR R 2 (.ref pq)) 3 (.ref mq)) Z (updA (updA (updA (updA B786 16 f824) 17 f825) 18 f826) 19 f827) J K785 w := hO.to rfl
      refine W.widen (k := 1) (n := 6) (by omega) (by omega) ?_
      have hzz1 : H.size ≤ s.heap.size + (0) := (by have z : 0 ≤ 0 := (by omega); omega)
      have hzz2 : hSl H ≤ hSl s.heap + (0) := (by have z : 0 ≤ 0 := (by omega); omega)
      exact W.iret (v := 61) hx hb hr (fun t99 ht99 hW99 => ⟨⟨_, (w, (K785, (updA (updA (updA (updA B786 16 f824) 17 f825) 18 f826) 19 f827), cs823, as788, wt789, wf790, (61 : Int32))), rfl, ⟨rfl, hz830, hz831, hz832, hO⟩, by rw [ht99]; exact hP, hD, by rw [ht99]; exact hzz1, by rw [ht99]; exact hzz2⟩, hS.F ht99⟩) hS.2.2 dX0_sign_111
    · refine lv_aload_n hx hb dX0_sign_89 rfl (lv_at hl 1 rfl) ?_
      refine c_get (v := .ref (a 1)) (C := RX0) (Tc := TX0) (N := 13) (ci := 0) hx hb hq pin_wsX00 hown hE hP hO 24 (sg_24 G h0 a _ _ _ _ _) rfl 0 (by decide) (hq _ pw_4) (fun _ h9 => h9) rfl dX0_sign_90 ?_
      refine lv_bipush (v := 11) hx hb dX0_sign_93 (by decide) ?_
      refine lv_aload_n hx hb dX0_sign_95 rfl (lv_at hl 2 rfl) ?_
      refine p_get (v := .int (K785.2.1 1 q)) (C := RX7) (Tc := TX7) (N := 11) (ci := 13) hx hb hq pin_wsX70 hown hE hP hO (by rw [hf802]; decide) (rep_1 hf802) rfl 1 (by decide) (hq _ pw_81) (fun _ h9 => h9) rfl dX0_sign_96 ?_
      have hO : OKW G h0 a (upd (upd (upd (upd (upd (upd (upd (upd F 2 (nI sz)) 5 (nI cs)) 12 (nI vr)) 5 (nI cs787)) 13 as788) 14 wt789) 15 wf790) 2 (nI sz)) (updR (updR R 2 (.ref pq)) 3 (.ref mq)) Z B786 J K785.1 (fun q99 x99 => x99 = rep G a K785 q99) w := hO.to rfl
      obtain ⟨_, qr836, hqr837⟩ := hO.2.1 2 _ (sg_2 G h0 a _ _ _ _ _)
      refine pn_V0 (G := G) (As := [.int 11, .int (K785.2.1 1 q)]) (rest := []) hx hb hml hown hq hE hX pX0_al hP hD hS hA hl.1 (K_fail l G h0 a (upd (upd (upd (upd (upd (upd (upd F 2 (nI sz)) 5 (nI cs)) 12 (nI vr)) 5 (nI cs787)) 13 as788) 14 wt789) 15 wf790) (updR (updR R 2 (.ref pq)) 3 (.ref mq)) Z B786 J K785.1 (fun q99 x99 => x99 = rep G a K785 q99) w 11 (K785.2.1 1 q) sz (by omega) hO hl0) (gV pw_64 pw_65 pw_66 pw_59 pw_43) hV_X10_fail qr836 7 hqr837 rfl rfl rfl (Nat.le_of_ble_eq_true rfl) dX0_sign_99 ⟨(by show 0 + 1 ≤ 1; omega), (by show 0 + 6 ≤ 6; omega)⟩ ⟨(by show 6 + 1 ≤ (5 * n + 33); omega), (by show 8 + (3 + 11) + 100 ≤ (200 * n + 560); omega)⟩ (fun v835 u833 H locs hw834 hP hD hS => hw834.elim) (fun ux ce9 q9 H9 locs9 hux hP9 hD9 hS9 hce hcv hcl => pb_out ux (ThQ.up (Thx.same (Thx.f (Thx.f (Thx.f (Thx.f (Bth.thx hbb809) (by omega)) (by omega)) (by omega)) (by omega)) rfl) RhX.rfl hux) hnt hlocks hce hcv hcl hP9 hD9 hS9 (by show 0 + 1 ≤ 1; omega) (by show 0 + 6 ≤ 6; omega))
  refine lv_tableOut (tgt := 166) hx hb dX0_sign_10 (sw_out59 h32 h142 h252 h362 h421 h480 h540 h600 h660 h720 h779) (by decide) ?_
  refine lv_aload_n hx hb dX0_sign_166 rfl (lv_at hl 1 rfl) ?_
  refine lv_aload_n hx hb dX0_sign_167 rfl (lv_at hl 2 rfl) ?_
  refine p_get (v := .ref q1) (C := RX7) (Tc := TX7) (N := 11) (ci := 13) hx hb hq pin_wsX70 hown hE hP hO (by rw [hf23]; decide) (rep_1 hf23) rfl 6 (by decide) (hq _ pw_180) (fun _ h9 => h9) (congrArg (fun z => some (va_rf z)) hf25) dX0_sign_168 ?_
  refine lv_iload_n hx hb dX0_sign_171 rfl (lv_at hl 0 rfl) ?_
  refine lv_bipush (v := 60) hx hb dX0_sign_172 (by decide) ?_
  have hO : OKP G h0 a (upd (upd (upd (upd (upd (upd (upd (upd F 2 (nI sz)) 5 (nI cs)) 12 (nI vr)) 5 (nI cs8)) 13 as9) 14 wt10) 15 wf11) 2 (nI sz)) (updR (updR (updR R 2 (.ref pq)) 3 (.ref mq)) 2 (.ref pq)) Z B7 J K6 w := hO.to rfl
  obtain ⟨_, qr841, hqr842⟩ := hO.2.1 24 _ (sg_24 G h0 a _ _ _ _ _)
  refine pn_V0 (G := G) (As := [.ref q1, .int r12, .int 60]) (rest := []) hx hb hml hown hq hE hX pX0_al hP hD hS hA hl.1 (B_fit l G h0 a (upd (upd (upd (upd (upd (upd (upd F 2 (nI sz)) 5 (nI cs)) 12 (nI vr)) 5 (nI cs8)) 13 as9) 14 wt10) 15 wf11) (updR (updR R 2 (.ref pq)) 3 (.ref mq)) Z B7 J K6 w pq dr ml nd q1 sz r12 60 g (by omega) (BdE.pt hbe29 hwp hps).1 (BdE.pt hbe29 hwp hps).2.1 hf26 hO hl0) (gV pw_176 pw_177 pw_178 pw_63 pw_114) hV_X0_fit qr841 0 hqr842 rfl rfl rfl (Nat.le_of_ble_eq_true rfl) dX0_sign_174 ⟨(by show 0 + 1 ≤ 1; omega), (by show 0 + 6 ≤ 6; omega)⟩ ⟨(by show 7 + 1 ≤ (5 * n + 33); omega), (by show 8 + (4 + 11) + 122 ≤ (200 * n + 560); omega)⟩ (fun v840 u838 H locs hw839 hP hD hS => ?_) (fun ux ce9 q9 H9 locs9 hux hP9 hD9 hS9 hce hcv hcl => pb_out ux (ThQ.up (Thx.same (Thx.f (Thx.f (Thx.f (Thx.f (Bth.thx hbb30) (by omega)) (by omega)) (by omega)) (by omega)) rfl) (show RhX (updR (updR R 2 (.ref pq)) 3 (.ref mq)) (updR (updR (updR R 2 (.ref pq)) 3 (.ref mq)) 2 (.ref pq)) from fun k9 hk9 => by unfold updR; simp only [show ¬ k9 = 1 by omega, show ¬ k9 = 2 by omega, show ¬ k9 = 3 by omega, show ¬ k9 = 4 by omega, if_false]) hux) hnt hlocks hce hcv hcl hP9 hD9 hS9 (by show 0 + 1 ≤ 1; omega) (by show 0 + 6 ≤ 6; omega))
  obtain ⟨w, _⟩ := u838
  obtain ⟨hw839, hO⟩ := hw839
  obtain rfl : v840 = none := hw839
  have hO : OKP G h0 a (upd (upd (upd (upd (upd (upd F 2 (nI sz)) 5 (nI cs8)) 12 (nI vr)) 13 as9) 14 wt10) 15 wf11) (updR (updR R 2 (.ref pq)) 3 (.ref mq)) Z B7 J K6 w := hO.to rfl
  refine W.widen (k := 0) (n := 0) (by show 0 + 0 ≤ 0; omega) (by show 0 + 0 ≤ 0; omega) ?_
  refine W.eq (g2 := F0 m 177 ls []) rfl ?_
  refine lv_aload_n hx hb dX0_sign_177 rfl (lv_at hl 1 rfl) ?_
  refine lv_aload_n hx hb dX0_sign_178 rfl (lv_at hl 2 rfl) ?_
  refine p_get (v := .ref q2) (C := RX7) (Tc := TX7) (N := 11) (ci := 13) hx hb hq pin_wsX70 hown hE hP hO (by rw [hf23]; decide) (rep_1 hf23) rfl 7 (by decide) (hq _ pw_169) (fun _ h9 => h9) (congrArg (fun z => some (va_rf z)) hf27) dX0_sign_179 ?_
  refine lv_aload_n hx hb dX0_sign_182 rfl (lv_at hl 1 rfl) ?_
  refine lv_aload_n hx hb dX0_sign_183 rfl (lv_at hl 2 rfl) ?_
  refine p_get (v := .ref q2) (C := RX7) (Tc := TX7) (N := 11) (ci := 13) hx hb hq pin_wsX70 hown hE hP hO (by rw [hf23]; decide) (rep_1 hf23) rfl 7 (by decide) (hq _ pw_169) (fun _ h9 => h9) (congrArg (fun z => some (va_rf z)) hf27) dX0_sign_184 ?_
  have hO : OKP G h0 a (upd (upd (upd (upd (upd (upd (upd (upd (upd (upd F 2 (nI sz)) 5 (nI cs)) 12 (nI vr)) 5 (nI cs8)) 13 as9) 14 wt10) 15 wf11) 2 (nI sz)) 5 (nI cs8)) 12 (nI vr)) (updR (updR (updR (updR R 2 (.ref pq)) 3 (.ref mq)) 2 (.ref pq)) 3 (.ref mq)) Z B7 J K6 w := hO.to rfl
  obtain ⟨_, qr846, hqr847⟩ := hO.2.1 24 _ (sg_24 G h0 a _ _ _ _ _)
  refine pn_V0 (G := G) (As := [.ref q2]) (rest := [.ref q2, .ref (a 4)]) hx hb hml hown hq hE hX pX0_al hP hD hS hA hl.1 ((ihv (by omega)) h0 a (upd (upd (upd (upd (upd (upd (upd F 2 (nI sz)) 5 (nI cs)) 12 (nI vr)) 5 (nI cs8)) 13 as9) 14 wt10) 15 wf11) (updR (updR R 2 (.ref pq)) 3 (.ref mq)) Z B7 J K6 w pq dr ml nd nm cp it s9 q2 mq cs8 vr sz g rk (by omega) (BdE.wp hbe29 hwp) (BdE.pt hbe29 hwp hps) (BdE.rko hbe29 hrk) (by omega) (by omega) hng31 hf24 hf28 ⟨hv1.1, (by have z9 := hv1; omega)⟩ hO hl0) (gV pw_173 pw_174 pw_175 pw_63 pw_224) hV_X0_value qr846 0 hqr847 rfl rfl rfl (Nat.le_of_ble_eq_true rfl) dX0_sign_187 ⟨(by show 0 + 1 ≤ 1; omega), (by show 0 + 6 ≤ 6; omega)⟩ ⟨(by show (5 * (n - 1) + 34) + 1 ≤ (5 * n + 33); omega), (by show 8 + (3 + 11) + (200 * (n - 1) + 600) ≤ (200 * n + 560); omega)⟩ (fun v845 u843 H locs hw844 hP hD hS => ?_) (fun ux ce9 q9 H9 locs9 hux hP9 hD9 hS9 hce hcv hcl => pb_out ux (ThQ.up (Thx.same (Thx.same (Thx.same (Thx.f (Thx.f (Thx.f (Thx.f (Bth.thx hbb30) (by omega)) (by omega)) (by omega)) (by omega)) rfl) rfl) rfl) (show RhX (updR (updR R 2 (.ref pq)) 3 (.ref mq)) (updR (updR (updR (updR R 2 (.ref pq)) 3 (.ref mq)) 2 (.ref pq)) 3 (.ref mq)) from fun k9 hk9 => by unfold updR; simp only [show ¬ k9 = 1 by omega, show ¬ k9 = 2 by omega, show ¬ k9 = 3 by omega, show ¬ k9 = 4 by omega, if_false]) hux) hnt hlocks hce hcv hcl hP9 hD9 hS9 (by show 0 + 1 ≤ 1; omega) (by show 0 + 6 ≤ 6; omega))
  obtain ⟨w, K848, B849, cs850, as851, wt852, wf853, r854⟩ := u843
  obtain ⟨hw844, h855, h856, h857, hO⟩ := hw844
  have h855 : BdE K6 K848 := h855
  have h856 : Bth B7 B849 := h856
  have h857 : cs850 ≤ 10000 := h857
  obtain rfl : v845 = some (.int r854) := hw844
  have hf858 : K848.1 pq = 7 := (BdE.T h855 hf16 (by decide))
  have hf859 : K848.2.2.1 18 pq = some (a 1) := (BdE.C h855 (by rw [hf16]; decide) 18).trans hf17
  have hf860 : K848.2.2.1 14 pq = some dr := (BdE.C h855 (by rw [hf16]; decide) 14).trans hf18
  have hf861 : K848.1 dr = 8 := (BdE.T h855 hf19 (by decide))
  have hf862 : K848.2.2.1 15 pq = some ml := (BdE.C h855 (by rw [hf16]; decide) 15).trans hf20
  have hf863 : K848.1 ml = 5 := (BdE.T h855 hf21 (by decide))
  have hf864 : K848.2.1 24 pq = (nI nd) := (BdE.I h855 (by rw [hf16]; decide) (by decide) (by decide)).trans hf22
  have hf865 : K848.1 q = 1 := (BdE.T h855 hf23 (by decide))
  have hf866 : K848.1 mq = 3 := (BdE.T h855 hf24 (by decide))
  have hf867 : K848.2.2.1 0 q = some q1 := (BdE.C h855 (by rw [hf23]; decide) 0).trans hf25
  have hf868 : K848.1 q1 = 1 := (BdE.T h855 hf26 (by decide))
  have hf869 : K848.2.2.1 1 q = some q2 := (BdE.C h855 (by rw [hf23]; decide) 1).trans hf27
  have hf870 : K848.1 q2 = 1 := (BdE.T h855 hf28 (by decide))
  have hO : OKP G h0 a (upd (upd (upd (upd (upd (upd F 2 (nI sz)) 5 (nI cs850)) 12 (nI vr)) 13 as851) 14 wt852) 15 wf853) (updR (updR R 2 (.ref pq)) 3 (.ref mq)) Z B849 J K848 w := hO.to rfl
  refine W.widen (k := 0) (n := 0) (by show 0 + 0 ≤ 0; omega) (by show 0 + 0 ≤ 0; omega) ?_
  refine W.eq (g2 := F0 m 190 ls [.int r854, .ref q2, .ref (a 4)]) rfl ?_
  have hbe871 := BdE.trans hbe29 h855
  have hbb872 : Bth B B849 := Bth.trans (show Thx (upd (upd (upd F 2 (nI sz)) 5 (nI cs)) 12 (nI vr)) (upd (upd (upd (upd (upd (upd (upd F 2 (nI sz)) 5 (nI cs)) 12 (nI vr)) 5 (nI cs8)) 13 as9) 14 wt10) 15 wf11) B B7 from (Thx.f (Thx.f (Thx.f (Thx.f (Bth.thx hbb30) (by omega)) (by omega)) (by omega)) (by omega))).2 h856
  have hng873 : Nng (B849 18) := h856.2 hng31
  refine lv_bipush (v := 60) hx hb dX0_sign_190 (by decide) ?_
  have hO : OKP G h0 a (upd (upd (upd (upd (upd (upd (upd (upd F 2 (nI sz)) 5 (nI cs)) 12 (nI vr)) 5 (nI cs850)) 13 as851) 14 wt852) 15 wf853) 2 (nI sz)) (updR (updR (updR R 2 (.ref pq)) 3 (.ref mq)) 2 (.ref pq)) Z B849 J K848 w := hO.to rfl
  obtain ⟨_, qr877, hqr878⟩ := hO.2.1 24 _ (sg_24 G h0 a _ _ _ _ _)
  refine pn_V0 (G := G) (As := [.ref q2, .int r854, .int 60]) (rest := []) hx hb hml hown hq hE hX pX0_al hP hD hS hA hl.1 (B_fit l G h0 a (upd (upd (upd (upd (upd (upd (upd F 2 (nI sz)) 5 (nI cs)) 12 (nI vr)) 5 (nI cs850)) 13 as851) 14 wt852) 15 wf853) (updR (updR R 2 (.ref pq)) 3 (.ref mq)) Z B849 J K848 w pq dr ml nd q2 sz r854 60 g (by omega) (BdE.pt hbe871 hwp hps).1 (BdE.pt hbe871 hwp hps).2.1 hf870 hO hl0) (gV pw_176 pw_177 pw_178 pw_63 pw_114) hV_X0_fit qr877 0 hqr878 rfl rfl rfl (Nat.le_of_ble_eq_true rfl) dX0_sign_192 ⟨(by show 0 + 1 ≤ 1; omega), (by show 0 + 6 ≤ 6; omega)⟩ ⟨(by show 7 + 1 ≤ (5 * n + 33); omega), (by show 8 + (4 + 11) + 122 ≤ (200 * n + 560); omega)⟩ (fun v876 u874 H locs hw875 hP hD hS => ?_) (fun ux ce9 q9 H9 locs9 hux hP9 hD9 hS9 hce hcv hcl => pb_out ux (ThQ.up (Thx.same (Thx.f (Thx.f (Thx.f (Thx.f (Bth.thx hbb872) (by omega)) (by omega)) (by omega)) (by omega)) rfl) (show RhX (updR (updR R 2 (.ref pq)) 3 (.ref mq)) (updR (updR (updR R 2 (.ref pq)) 3 (.ref mq)) 2 (.ref pq)) from fun k9 hk9 => by unfold updR; simp only [show ¬ k9 = 1 by omega, show ¬ k9 = 2 by omega, show ¬ k9 = 3 by omega, show ¬ k9 = 4 by omega, if_false]) hux) hnt hlocks hce hcv hcl hP9 hD9 hS9 (by show 0 + 1 ≤ 1; omega) (by show 0 + 6 ≤ 6; omega))
  obtain ⟨w, _⟩ := u874
  obtain ⟨hw875, hO⟩ := hw875
  obtain rfl : v876 = none := hw875
  have hO : OKP G h0 a (upd (upd (upd (upd (upd (upd F 2 (nI sz)) 5 (nI cs850)) 12 (nI vr)) 13 as851) 14 wt852) 15 wf853) (updR (updR R 2 (.ref pq)) 3 (.ref mq)) Z B849 J K848 w := hO.to rfl
  refine W.widen (k := 0) (n := 0) (by show 0 + 0 ≤ 0; omega) (by show 0 + 0 ≤ 0; omega) ?_
  refine W.eq (g2 := F0 m 195 ls []) rfl ?_
  refine lv_iload_n hx hb dX0_sign_195 rfl (lv_at hl 3 rfl) ?_
  refine lv_bipush (v := 54) hx hb dX0_sign_196 (by decide) ?_
  refine lv_icmp_lt (tgt := 211) hx hb dX0_sign_198 (by decide) (fun c879 => ?_) (fun c879 => ?_)
  · refine lv_iconst (v := 0) hx hb dX0_sign_211 (by decide) ?_
    refine lv_istore (lv' := [(4, .int 0), (3, .int r12), (0, .ref (a 4)), (1, .ref q), (2, .int x)]) hx hb dX0_sign_212 hl (by decide) rfl (fun ls hl => ?_)
    refine lv_aload_n hx hb dX0_sign_214 rfl (lv_at hl 2 rfl) ?_
    refine lv_bipush (v := 10) hx hb dX0_sign_215 (by decide) ?_
    refine lv_iload_n hx hb dX0_sign_217 rfl (lv_at hl 4 rfl) ?_
    refine lv_iload hx hb dX0_sign_218 (lv_at hl 0 rfl) ?_
    refine lv_if_eq (tgt := 228) hx hb dX0_sign_220 (by decide) (fun c880 => ?_) (fun c880 => absurd c880 (by decide))
    refine lv_bipush (v := 60) hx hb dX0_sign_228 (by decide) ?_
    have hO : OKW G h0 a (upd (upd (upd (upd (upd (upd (upd F 2 (nI sz)) 5 (nI cs850)) 12 (nI vr)) 13 as851) 14 wt852) 15 wf853) 5 (nI cs850)) (updR (updR R 2 (.ref pq)) 3 (.ref mq)) Z B849 J K848.1 (fun q99 x99 => x99 = rep G a K848 q99) w := hO.to rfl
    obtain ⟨_, qr884, hqr885⟩ := hO.2.1 24 _ (sg_24 G h0 a _ _ _ _ _)
    refine pc_V0 (G := G) (As := [.int 10, .int x, .int 60]) (rest := []) hx hb hml hown hq hE hX pX0_al hP hD hS hA hl.1 (B_give l G h0 a (upd (upd (upd (upd (upd (upd F 2 (nI sz)) 5 (nI cs850)) 12 (nI vr)) 13 as851) 14 wt852) 15 wf853) (updR (updR R 2 (.ref pq)) 3 (.ref mq)) Z B849 J K848.1 (fun q99 x99 => x99 = rep G a K848 q99) w 10 x 60 cs850 (by omega) hng873 hO) (gV pw_158 pw_159 pw_160 pw_63 pw_128) hV_X0_give qr884 0 hqr885 rfl rfl rfl (Nat.le_of_ble_eq_true rfl) dX0_sign_230 ⟨(by show 0 + 0 ≤ 1; omega), (by show 0 + 0 ≤ 6; omega)⟩ ⟨(by show 3 + 1 ≤ (5 * n + 33); omega), (by show 8 + (4 + 11) + 83 ≤ (200 * n + 560); omega)⟩ (fun v883 u881 H locs hw882 hP hD hS => ?_)
    obtain ⟨w, cs886, f887, f888, f889, f890⟩ := u881
    obtain ⟨hw882, h891, h892, hO⟩ := hw882
    have h891 : cs850 ≤ cs886 ∧ cs886 ≤ cs850 + 1 ∧ cs886 ≤ 10000 := h891
    have h892 : Nng f889 := h892
    obtain rfl : v883 = some (.int 60) := hw882
    have hO : OKP G h0 a (upd (upd (upd (upd (upd (upd F 2 (nI sz)) 5 (nI cs886)) 12 (nI vr)) 13 as851) 14 wt852) 15 wf853) (updR (updR R 2 (.ref pq)) 3 (.ref mq)) Z (updA (updA (updA (updA B849 16 f887) 17 f888) 18 f889) 19 f890) J K848 w := hO.to rfl
    refine W.widen (k := 0) (n := 0) (Nat.le_of_ble_eq_true rfl) (Nat.le_of_ble_eq_true rfl) ?_
    refine W.eq (g2 := F0 m 233 ls [.int 60]) rfl ?_
    refine W_size (fun hz1 hz2 => ?_)
    refine vx_ret ?_
    have hz893 : BdE K K848 := hbe871
    have hz894 : Bth B (updA (updA (updA (updA B849 16 f887) 17 f888) 18 f889) 19 f890) := (show Thx (upd (upd (upd F 2 (nI sz)) 5 (nI cs)) 12 (nI vr)) (upd (upd (upd (upd (upd (upd (upd F 2 (nI sz)) 5 (nI cs)) 12 (nI vr)) 5 (nI cs886)) 13 as851) 14 wt852) 15 wf853) B (updA (updA (updA (updA B849 16 f887) 17 f888) 18 f889) 19 f890) from (Thx.b (Thx.b8 (Thx.b (Thx.b (Thx.f (Thx.f (Thx.f (Thx.f (Bth.thx hbb872) (by omega)) (by omega)) (by omega)) (by omega)) (by omega) (by decide)) (by omega) (by decide)) h892) (by omega) (by decide))).2
    have hz895 : cs886 ≤ 10000 := (by omega)
    have hO : OKP G h0 a (upd (upd (upd (upd (upd (upd F 2 (nI sz)) 5 (nI cs886)) 12 (nI vr)) 13 as851) 14 wt852) 15 wf853) (updR (updR R 2 (.ref pq)) 3 (.ref mq)) Z (updA (updA (updA (updA B849 16 f887) 17 f888) 18 f889) 19 f890) J K848 w := hO.to rfl
    refine W.widen (k := 1) (n := 6) (by omega) (by omega) ?_
    have hzz1 : H.size ≤ s.heap.size + (0) := (by have z : 0 ≤ 0 := (by omega); omega)
    have hzz2 : hSl H ≤ hSl s.heap + (0) := (by have z : 0 ≤ 0 := (by omega); omega)
    exact W.iret (v := 60) hx hb hr (fun t99 ht99 hW99 => ⟨⟨_, (w, (K848, (updA (updA (updA (updA B849 16 f887) 17 f888) 18 f889) 19 f890), cs886, as851, wt852, wf853, (60 : Int32))), rfl, ⟨rfl, hz893, hz894, hz895, hO⟩, by rw [ht99]; exact hP, hD, by rw [ht99]; exact hzz1, by rw [ht99]; exact hzz2⟩, hS.F ht99⟩) hS.2.2 dX0_sign_233
  · refine lv_iload_n hx hb dX0_sign_201 rfl (lv_at hl 3 rfl) ?_
    refine lv_bipush (v := 57) hx hb dX0_sign_202 (by decide) ?_
    refine lv_icmp_gt (tgt := 211) hx hb dX0_sign_204 (by decide) (fun c896 => ?_) (fun c896 => ?_)
    · refine lv_iconst (v := 0) hx hb dX0_sign_211 (by decide) ?_
      refine lv_istore (lv' := [(4, .int 0), (3, .int r12), (0, .ref (a 4)), (1, .ref q), (2, .int x)]) hx hb dX0_sign_212 hl (by decide) rfl (fun ls hl => ?_)
      refine lv_aload_n hx hb dX0_sign_214 rfl (lv_at hl 2 rfl) ?_
      refine lv_bipush (v := 10) hx hb dX0_sign_215 (by decide) ?_
      refine lv_iload_n hx hb dX0_sign_217 rfl (lv_at hl 4 rfl) ?_
      refine lv_iload hx hb dX0_sign_218 (lv_at hl 0 rfl) ?_
      refine lv_if_eq (tgt := 228) hx hb dX0_sign_220 (by decide) (fun c897 => ?_) (fun c897 => absurd c897 (by decide))
      refine lv_bipush (v := 60) hx hb dX0_sign_228 (by decide) ?_
      have hO : OKW G h0 a (upd (upd (upd (upd (upd (upd (upd F 2 (nI sz)) 5 (nI cs850)) 12 (nI vr)) 13 as851) 14 wt852) 15 wf853) 5 (nI cs850)) (updR (updR R 2 (.ref pq)) 3 (.ref mq)) Z B849 J K848.1 (fun q99 x99 => x99 = rep G a K848 q99) w := hO.to rfl
      obtain ⟨_, qr901, hqr902⟩ := hO.2.1 24 _ (sg_24 G h0 a _ _ _ _ _)
      refine pc_V0 (G := G) (As := [.int 10, .int x, .int 60]) (rest := []) hx hb hml hown hq hE hX pX0_al hP hD hS hA hl.1 (B_give l G h0 a (upd (upd (upd (upd (upd (upd F 2 (nI sz)) 5 (nI cs850)) 12 (nI vr)) 13 as851) 14 wt852) 15 wf853) (updR (updR R 2 (.ref pq)) 3 (.ref mq)) Z B849 J K848.1 (fun q99 x99 => x99 = rep G a K848 q99) w 10 x 60 cs850 (by omega) hng873 hO) (gV pw_158 pw_159 pw_160 pw_63 pw_128) hV_X0_give qr901 0 hqr902 rfl rfl rfl (Nat.le_of_ble_eq_true rfl) dX0_sign_230 ⟨(by show 0 + 0 ≤ 1; omega), (by show 0 + 0 ≤ 6; omega)⟩ ⟨(by show 3 + 1 ≤ (5 * n + 33); omega), (by show 8 + (4 + 11) + 83 ≤ (200 * n + 560); omega)⟩ (fun v900 u898 H locs hw899 hP hD hS => ?_)
      obtain ⟨w, cs903, f904, f905, f906, f907⟩ := u898
      obtain ⟨hw899, h908, h909, hO⟩ := hw899
      have h908 : cs850 ≤ cs903 ∧ cs903 ≤ cs850 + 1 ∧ cs903 ≤ 10000 := h908
      have h909 : Nng f906 := h909
      obtain rfl : v900 = some (.int 60) := hw899
      have hO : OKP G h0 a (upd (upd (upd (upd (upd (upd F 2 (nI sz)) 5 (nI cs903)) 12 (nI vr)) 13 as851) 14 wt852) 15 wf853) (updR (updR R 2 (.ref pq)) 3 (.ref mq)) Z (updA (updA (updA (updA B849 16 f904) 17 f905) 18 f906) 19 f907) J K848 w := hO.to rfl
      refine W.widen (k := 0) (n := 0) (Nat.le_of_ble_eq_true rfl) (Nat.le_of_ble_eq_true rfl) ?_
      refine W.eq (g2 := F0 m 233 ls [.int 60]) rfl ?_
      refine W_size (fun hz1 hz2 => ?_)
      refine vx_ret ?_
      have hz910 : BdE K K848 := hbe871
      have hz911 : Bth B (updA (updA (updA (updA B849 16 f904) 17 f905) 18 f906) 19 f907) := (show Thx (upd (upd (upd F 2 (nI sz)) 5 (nI cs)) 12 (nI vr)) (upd (upd (upd (upd (upd (upd (upd F 2 (nI sz)) 5 (nI cs)) 12 (nI vr)) 5 (nI cs903)) 13 as851) 14 wt852) 15 wf853) B (updA (updA (updA (updA B849 16 f904) 17 f905) 18 f906) 19 f907) from (Thx.b (Thx.b8 (Thx.b (Thx.b (Thx.f (Thx.f (Thx.f (Thx.f (Bth.thx hbb872) (by omega)) (by omega)) (by omega)) (by omega)) (by omega) (by decide)) (by omega) (by decide)) h909) (by omega) (by decide))).2
      have hz912 : cs903 ≤ 10000 := (by omega)
      have hO : OKP G h0 a (upd (upd (upd (upd (upd (upd F 2 (nI sz)) 5 (nI cs903)) 12 (nI vr)) 13 as851) 14 wt852) 15 wf853) (updR (updR R 2 (.ref pq)) 3 (.ref mq)) Z (updA (updA (updA (updA B849 16 f904) 17 f905) 18 f906) 19 f907) J K848 w := hO.to rfl
      refine W.widen (k := 1) (n := 6) (by omega) (by omega) ?_
      have hzz1 : H.size ≤ s.heap.size + (0) := (by have z : 0 ≤ 0 := (by omega); omega)
      have hzz2 : hSl H ≤ hSl s.heap + (0) := (by have z : 0 ≤ 0 := (by omega); omega)
      exact W.iret (v := 60) hx hb hr (fun t99 ht99 hW99 => ⟨⟨_, (w, (K848, (updA (updA (updA (updA B849 16 f904) 17 f905) 18 f906) 19 f907), cs903, as851, wt852, wf853, (60 : Int32))), rfl, ⟨rfl, hz910, hz911, hz912, hO⟩, by rw [ht99]; exact hP, hD, by rw [ht99]; exact hzz1, by rw [ht99]; exact hzz2⟩, hS.F ht99⟩) hS.2.2 dX0_sign_233
    · refine lv_iconst (v := 1) hx hb dX0_sign_207 (by decide) ?_
      refine lv_goto (tgt := 212) hx hb dX0_sign_208 (by decide) ?_
      refine lv_istore (lv' := [(4, .int 1), (3, .int r12), (0, .ref (a 4)), (1, .ref q), (2, .int x)]) hx hb dX0_sign_212 hl (by decide) rfl (fun ls hl => ?_)
      refine lv_aload_n hx hb dX0_sign_214 rfl (lv_at hl 2 rfl) ?_
      refine lv_bipush (v := 10) hx hb dX0_sign_215 (by decide) ?_
      refine lv_iload_n hx hb dX0_sign_217 rfl (lv_at hl 4 rfl) ?_
      refine lv_iload hx hb dX0_sign_218 (lv_at hl 0 rfl) ?_
      refine lv_if_eq (tgt := 228) hx hb dX0_sign_220 (by decide) (fun c913 => absurd c913 (by decide)) (fun c913 => ?_)
      refine lv_bipush (v := 61) hx hb dX0_sign_223 (by decide) ?_
      refine lv_goto (tgt := 230) hx hb dX0_sign_225 (by decide) ?_
      have hO : OKW G h0 a (upd (upd (upd (upd (upd (upd (upd F 2 (nI sz)) 5 (nI cs850)) 12 (nI vr)) 13 as851) 14 wt852) 15 wf853) 5 (nI cs850)) (updR (updR R 2 (.ref pq)) 3 (.ref mq)) Z B849 J K848.1 (fun q99 x99 => x99 = rep G a K848 q99) w := hO.to rfl
      obtain ⟨_, qr917, hqr918⟩ := hO.2.1 24 _ (sg_24 G h0 a _ _ _ _ _)
      refine pc_V0 (G := G) (As := [.int 10, .int x, .int 61]) (rest := []) hx hb hml hown hq hE hX pX0_al hP hD hS hA hl.1 (B_give l G h0 a (upd (upd (upd (upd (upd (upd F 2 (nI sz)) 5 (nI cs850)) 12 (nI vr)) 13 as851) 14 wt852) 15 wf853) (updR (updR R 2 (.ref pq)) 3 (.ref mq)) Z B849 J K848.1 (fun q99 x99 => x99 = rep G a K848 q99) w 10 x 61 cs850 (by omega) hng873 hO) (gV pw_158 pw_159 pw_160 pw_63 pw_128) hV_X0_give qr917 0 hqr918 rfl rfl rfl (Nat.le_of_ble_eq_true rfl) dX0_sign_230 ⟨(by show 0 + 0 ≤ 1; omega), (by show 0 + 0 ≤ 6; omega)⟩ ⟨(by show 3 + 1 ≤ (5 * n + 33); omega), (by show 8 + (4 + 11) + 83 ≤ (200 * n + 560); omega)⟩ (fun v916 u914 H locs hw915 hP hD hS => ?_)
      obtain ⟨w, cs919, f920, f921, f922, f923⟩ := u914
      obtain ⟨hw915, h924, h925, hO⟩ := hw915
      have h924 : cs850 ≤ cs919 ∧ cs919 ≤ cs850 + 1 ∧ cs919 ≤ 10000 := h924
      have h925 : Nng f922 := h925
      obtain rfl : v916 = some (.int 61) := hw915
      have hO : OKP G h0 a (upd (upd (upd (upd (upd (upd F 2 (nI sz)) 5 (nI cs919)) 12 (nI vr)) 13 as851) 14 wt852) 15 wf853) (updR (updR R 2 (.ref pq)) 3 (.ref mq)) Z (updA (updA (updA (updA B849 16 f920) 17 f921) 18 f922) 19 f923) J K848 w := hO.to rfl
      refine W.widen (k := 0) (n := 0) (Nat.le_of_ble_eq_true rfl) (Nat.le_of_ble_eq_true rfl) ?_
      refine W.eq (g2 := F0 m 233 ls [.int 61]) rfl ?_
      refine W_size (fun hz1 hz2 => ?_)
      refine vx_ret ?_
      have hz926 : BdE K K848 := hbe871
      have hz927 : Bth B (updA (updA (updA (updA B849 16 f920) 17 f921) 18 f922) 19 f923) := (show Thx (upd (upd (upd F 2 (nI sz)) 5 (nI cs)) 12 (nI vr)) (upd (upd (upd (upd (upd (upd (upd F 2 (nI sz)) 5 (nI cs)) 12 (nI vr)) 5 (nI cs919)) 13 as851) 14 wt852) 15 wf853) B (updA (updA (updA (updA B849 16 f920) 17 f921) 18 f922) 19 f923) from (Thx.b (Thx.b8 (Thx.b (Thx.b (Thx.f (Thx.f (Thx.f (Thx.f (Bth.thx hbb872) (by omega)) (by omega)) (by omega)) (by omega)) (by omega) (by decide)) (by omega) (by decide)) h925) (by omega) (by decide))).2
      have hz928 : cs919 ≤ 10000 := (by omega)
      have hO : OKP G h0 a (upd (upd (upd (upd (upd (upd F 2 (nI sz)) 5 (nI cs919)) 12 (nI vr)) 13 as851) 14 wt852) 15 wf853) (updR (updR R 2 (.ref pq)) 3 (.ref mq)) Z (updA (updA (updA (updA B849 16 f920) 17 f921) 18 f922) 19 f923) J K848 w := hO.to rfl
      refine W.widen (k := 1) (n := 6) (by omega) (by omega) ?_
      have hzz1 : H.size ≤ s.heap.size + (0) := (by have z : 0 ≤ 0 := (by omega); omega)
      have hzz2 : hSl H ≤ hSl s.heap + (0) := (by have z : 0 ≤ 0 := (by omega); omega)
      exact W.iret (v := 61) hx hb hr (fun t99 ht99 hW99 => ⟨⟨_, (w, (K848, (updA (updA (updA (updA B849 16 f920) 17 f921) 18 f922) 19 f923), cs919, as851, wt852, wf853, (61 : Int32))), rfl, ⟨rfl, hz926, hz927, hz928, hO⟩, by rw [ht99]; exact hP, hD, by rw [ht99]; exact hzz1, by rw [ht99]; exact hzz2⟩, hS.F ht99⟩) hS.2.2 dX0_sign_233
