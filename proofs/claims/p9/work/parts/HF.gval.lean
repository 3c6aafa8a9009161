theorem NdO.ch {K : PK} {g : Nat → Nat → Nat} {q f : Nat} (h : NdO K g q) (hf : f ≤ 3) (hn : ¬ K.2.2.1 f q = none) : ∃ x : Nat, K.2.2.1 f q = some x ∧ K.1 x = 1 ∧ 1 ≤ g 0 x ∧ g 0 x + 1 ≤ g 0 q := by
  cases e : K.2.2.1 f q with
  | none => exact absurd e hn
  | some x => exact ⟨x, rfl, (h.2.1 f x hf e).1, (h.2.1 f x hf e).2.1, (h.2.1 f x hf e).2.2.1⟩
def PVa (l : Launch) (G : pT) (n : Nat) : Prop := ∀ (h0 : Nat) (a : Nat → Nat) (F : Nat → Int32) (R : Nat → Value) (Z : Int64) (B : Nat → Nat → Int32) (J : Nat → Nat → Int64) (K : PK) (w : va_W) (pq : Nat) (dr : Nat) (ml : Nat) (nd : Nat) (nm : Nat) (cp : Nat) (it : Nat → Nat) (s9 : Nat) (q : Nat) (mq : Nat) (cs : Nat) (vr : Nat) (sz : Nat) (g : Nat → Nat → Nat) (rk : Nat → Nat), (sz ≤ 5000) → (WPr G K g) → (PgT G K g (a 1) pq dr ml nd nm cp it s9) → (RkO K rk) → (cs ≤ 10000) → (vr ≤ 30) → (Nng (B 18)) → (K.1 mq = 3) → (K.1 q = 1) → (1 ≤ g 0 q ∧ g 0 q ≤ n) → (OKP G h0 a (upd (upd (upd F 2 (nI sz)) 5 (nI cs)) 12 (nI vr)) (updR (updR R 2 (.ref pq)) 3 (.ref mq)) Z B J K w) → (l.stackTraces = false) → PBn l G pX0 yX0_value cX0_value 3 (some .int) ({ frames := (5 * n + 34), cells := 1, slots := 6, locals := (200 * n + 600) }) [.ref (a 4), .ref q] w (fun (v : Option Value) (u : va_W × (PK × (Nat → Nat → Int32) × Nat × Int32 × Int32 × Int32 × Int32)) => v = some (.int u.2.2.2.2.2.2.2) ∧ (BdE K u.2.1) ∧ (Bth B u.2.2.1) ∧ (u.2.2.2.1 ≤ 10000) ∧ (OKP G h0 a (upd (upd (upd (upd (upd (upd F 2 (nI sz)) 5 (nI u.2.2.2.1)) 12 (nI vr)) 13 u.2.2.2.2.1) 14 u.2.2.2.2.2.1) 15 u.2.2.2.2.2.2.1) (updR (updR R 2 (.ref pq)) 3 (.ref mq)) Z u.2.2.1 J u.2.1 u.1)) (fun u => u.1) (fun (u : va_W × (PK × (Nat → Nat → Int32) × Nat × Int32 × Int32 × Int32 × Int32)) => 0) (fun (u : va_W × (PK × (Nat → Nat → Int32) × Nat × Int32 × Int32 × Int32 × Int32)) => 0) (fun (u : va_W × (Nat → Int32) × (Nat → Value) × (Nat → Nat → Int32)) => ThQ G h0 a (upd (upd (upd F 2 (nI sz)) 5 (nI cs)) 12 (nI vr)) (updR (updR R 2 (.ref pq)) 3 (.ref mq)) Z B J u) (fun u => u.1)
def IhV (l : Launch) (G : pT) (n : Nat) : Prop := 1 ≤ n → PVa l G (n - 1)
theorem dX0_negation_0 : decode cX0_negation 0 = .ok (.aload_n 0, 1) := by decide +kernel
theorem dX0_negation_1 : decode cX0_negation 1 = .ok (.aload_n 1, 1) := by decide +kernel
theorem dX0_negation_2 : decode cX0_negation 2 = .ok (.getfield 165, 3) := by decide +kernel
theorem dX0_negation_5 : decode cX0_negation 5 = .ok (.aload_n 0, 1) := by decide +kernel
theorem dX0_negation_6 : decode cX0_negation 6 = .ok (.aload_n 1, 1) := by decide +kernel
theorem dX0_negation_7 : decode cX0_negation 7 = .ok (.getfield 165, 3) := by decide +kernel
theorem dX0_negation_10 : decode cX0_negation 10 = .ok (.invokevirtual 209, 3) := by decide +kernel
theorem dX0_negation_13 : decode cX0_negation 13 = .ok (.bipush 61, 2) := by decide +kernel
theorem dX0_negation_15 : decode cX0_negation 15 = .ok (.invokevirtual 213, 3) := by decide +kernel
theorem dX0_negation_18 : decode cX0_negation 18 = .ok (.aload_n 0, 1) := by decide +kernel
theorem dX0_negation_19 : decode cX0_negation 19 = .ok (.getfield 240, 3) := by decide +kernel
theorem dX0_negation_22 : decode cX0_negation 22 = .ok (.istore_n 2, 1) := by decide +kernel
theorem dX0_negation_23 : decode cX0_negation 23 = .ok (.aload_n 0, 1) := by decide +kernel
theorem dX0_negation_24 : decode cX0_negation 24 = .ok (.aload_n 0, 1) := by decide +kernel
theorem dX0_negation_25 : decode cX0_negation 25 = .ok (.getfield 237, 3) := by decide +kernel
theorem dX0_negation_28 : decode cX0_negation 28 = .ok (.putfield 240, 3) := by decide +kernel
theorem dX0_negation_31 : decode cX0_negation 31 = .ok (.aload_n 0, 1) := by decide +kernel
theorem dX0_negation_32 : decode cX0_negation 32 = .ok (.iload_n 2, 1) := by decide +kernel
theorem dX0_negation_33 : decode cX0_negation 33 = .ok (.putfield 237, 3) := by decide +kernel
theorem dX0_negation_36 : decode cX0_negation 36 = .ok (.aload_n 0, 1) := by decide +kernel
theorem dX0_negation_37 : decode cX0_negation 37 = .ok (.bipush 11, 2) := by decide +kernel
theorem dX0_negation_39 : decode cX0_negation 39 = .ok (.bipush 53, 2) := by decide +kernel
theorem dX0_negation_41 : decode cX0_negation 41 = .ok (.bipush 61, 2) := by decide +kernel
theorem dX0_negation_43 : decode cX0_negation 43 = .ok (.invokevirtual 344, 3) := by decide +kernel
theorem dX0_negation_46 : decode cX0_negation 46 = .ok (.ireturn, 1) := by decide +kernel
theorem hV_X0_value : yX0_value.cls = RX0 ∧ yX0_value.cls ≠ "java/lang/invoke/MethodHandle" ∧ yX0_value.cls ≠ "java/lang/invoke/VarHandle" ∧ (parseMethodDescriptor yX0_value.desc).map (fun d => d.parameters.length) = some 1 := by decide +kernel
theorem hV_X0_fit : yX0_fit.cls = RX0 ∧ yX0_fit.cls ≠ "java/lang/invoke/MethodHandle" ∧ yX0_fit.cls ≠ "java/lang/invoke/VarHandle" ∧ (parseMethodDescriptor yX0_fit.desc).map (fun d => d.parameters.length) = some 3 := by decide +kernel
theorem hV_X0_give : yX0_give.cls = RX0 ∧ yX0_give.cls ≠ "java/lang/invoke/MethodHandle" ∧ yX0_give.cls ≠ "java/lang/invoke/VarHandle" ∧ (parseMethodDescriptor yX0_give.desc).map (fun d => d.parameters.length) = some 3 := by decide +kernel
set_option maxHeartbeats 16000000 in
set_option maxRecDepth 100000 in
theorem B_negation (l : Launch) (G : pT) (h0 : Nat) (a : Nat → Nat) (F : Nat → Int32) (R : Nat → Value) (Z : Int64) (B : Nat → Nat → Int32) (J : Nat → Nat → Int64) (K : PK) (w : va_W) (pq : Nat) (dr : Nat) (ml : Nat) (nd : Nat) (nm : Nat) (cp : Nat) (it : Nat → Nat) (s9 : Nat) (q : Nat) (mq : Nat) (cs : Nat) (vr : Nat) (sz : Nat) (n : Nat) (q1 : Nat) (g : Nat → Nat → Nat) (rk : Nat → Nat) (hsz : sz ≤ 5000) (hwp : WPr G K g) (hps : PgT G K g (a 1) pq dr ml nd nm cp it s9) (hrk : RkO K rk) (hcs : cs ≤ 10000) (hvr : vr ≤ 30) (hng : Nng (B 18)) (hmq : K.1 mq = 3) (hqT : K.1 q = 1) (hqL : 1 ≤ g 0 q ∧ g 0 q ≤ n) (hc0 : K.2.2.1 0 q = some q1) (ht0 : K.1 q1 = 1) (hv0 : 1 ≤ g 0 q1 ∧ g 0 q1 + 1 ≤ n) (ihv : IhV l G n) (hO : OKP G h0 a (upd (upd (upd F 2 (nI sz)) 5 (nI cs)) 12 (nI vr)) (updR (updR R 2 (.ref pq)) 3 (.ref mq)) Z B J K w) (hl0 : l.stackTraces = false) : PBn l G pX0 yX0_negation cX0_negation 3 (some .int) ({ frames := (5 * n + 33), cells := 1, slots := 6, locals := (200 * n + 560) }) [.ref (a 4), .ref q] w (fun (v : Option Value) (u : va_W × (PK × (Nat → Nat → Int32) × Nat × Int32 × Int32 × Int32 × Int32)) => v = some (.int u.2.2.2.2.2.2.2) ∧ (BdE K u.2.1) ∧ (Bth B u.2.2.1) ∧ (u.2.2.2.1 ≤ 10000) ∧ (OKP G h0 a (upd (upd (upd (upd (upd (upd F 2 (nI sz)) 5 (nI u.2.2.2.1)) 12 (nI vr)) 13 u.2.2.2.2.1) 14 u.2.2.2.2.2.1) 15 u.2.2.2.2.2.2.1) (updR (updR R 2 (.ref pq)) 3 (.ref mq)) Z u.2.2.1 J u.2.1 u.1)) (fun u => u.1) (fun (u : va_W × (PK × (Nat → Nat → Int32) × Nat × Int32 × Int32 × Int32 × Int32)) => 0) (fun (u : va_W × (PK × (Nat → Nat → Int32) × Nat × Int32 × Int32 × Int32 × Int32)) => 0) (fun (u : va_W × (Nat → Int32) × (Nat → Value) × (Nat → Nat → Int32)) => ThQ G h0 a (upd (upd (upd F 2 (nI sz)) 5 (nI cs)) 12 (nI vr)) (updR (updR R 2 (.ref pq)) 3 (.ref mq)) Z B J u) (fun u => u.1) := by
  intro sz
  refine vx_ofW (cc := cX0_negation) (maxL := 3) (ret := (some .int)) (by decide) rfl ?_
  intro p e s m args below meth c s₁ B9 hml hnt hv
  obtain ⟨rfl, hsz, hP, hD0, hE, hX⟩ := hv
  have hx := B9.exec
  have hb := B9.bytes
  have hr := B9.returns
  have hts := atoms_spec (ws := Cond.code yX0_negation cX0_negation 3 (some .int) :: pw) B9.pre
  have hq : ∀ w ∈ pw, w.before _ s = true := fun w h => hts w (List.mem_cons_of_mem _ h)
  have hown : s.vm.findClass RX0 = some m.cls := findClass_of_methodNamed B9.named
  have hlocks := B9.notSynchronized
  subst hsz
  have hD := hD0.self (sz := s.heap.size)
  have hA : ∀ q : Nat, s.heap.size ≤ q → va_A w s.heap.size q := fun q h => Or.inr h
  generalize va_A w s.heap.size = A at hD hE hA ⊢
  have hS : va_S A s.heap s.heap [] := va_S.rf
  have hl := lv_entry ([.ref (a 4), .ref q]) (n := 3) (Nat.le_of_ble_eq_true rfl)
  rw [lg_entry_eq]
  generalize (lg_sl ([.ref (a 4), .ref q]) ++ List.replicate (3 - (lg_sl ([.ref (a 4), .ref q])).length) Slot.unset).toArray = ls at hl ⊢
  have hl : lv_has ls 3 [(0, .ref (a 4)), (1, .ref q)] := hl
  have hpg := hps.1
  have hp1 := hpg.1
  have hp2 := hpg.2.1
  have hp3 := hpg.2.2.1
  have hp4 := hpg.2.2.2.1
  have hp5 := hpg.2.2.2.2.1
  have hp6 := hpg.2.2.2.2.2.1
  have hp8 := hpg.2.2.2.2.2.2.2.1
  have hp9 := hpg.2.2.2.2.2.2.2.2
  refine lv_aload_n hx hb dX0_negation_0 rfl (lv_at hl 0 rfl) ?_
  refine lv_aload_n hx hb dX0_negation_1 rfl (lv_at hl 1 rfl) ?_
  refine p_get (v := .ref q1) (C := RX7) (Tc := TX7) (N := 11) (ci := 13) hx hb hq pin_wsX70 hown hE hP hO (by rw [hqT]; decide) (rep_1 hqT) rfl 6 (by decide) (hq _ pw_180) (fun _ h9 => h9) (congrArg (fun z => some (va_rf z)) hc0) dX0_negation_2 ?_
  refine lv_aload_n hx hb dX0_negation_5 rfl (lv_at hl 0 rfl) ?_
  refine lv_aload_n hx hb dX0_negation_6 rfl (lv_at hl 1 rfl) ?_
  refine p_get (v := .ref q1) (C := RX7) (Tc := TX7) (N := 11) (ci := 13) hx hb hq pin_wsX70 hown hE hP hO (by rw [hqT]; decide) (rep_1 hqT) rfl 6 (by decide) (hq _ pw_180) (fun _ h9 => h9) (congrArg (fun z => some (va_rf z)) hc0) dX0_negation_7 ?_
  have hO : OKP G h0 a (upd (upd (upd (upd (upd (upd F 2 (nI sz)) 5 (nI cs)) 12 (nI vr)) 2 (nI sz)) 5 (nI cs)) 12 (nI vr)) (updR (updR (updR (updR R 2 (.ref pq)) 3 (.ref mq)) 2 (.ref pq)) 3 (.ref mq)) Z B J K w := hO.to rfl
  obtain ⟨_, qr4, hqr5⟩ := hO.2.1 24 _ (sg_24 G h0 a _ _ _ _ _)
  refine pn_V0 (G := G) (As := [.ref q1]) (rest := [.ref q1, .ref (a 4)]) hx hb hml hown hq hE hX pX0_al hP hD hS hA hl.1 ((ihv (by omega)) h0 a (upd (upd (upd F 2 (nI sz)) 5 (nI cs)) 12 (nI vr)) (updR (updR R 2 (.ref pq)) 3 (.ref mq)) Z B J K w pq dr ml nd nm cp it s9 q1 mq cs vr sz g rk (by omega) (BdE.wp BdE.rfl hwp) (BdE.pt BdE.rfl hwp hps) (BdE.rko BdE.rfl hrk) (by omega) (by omega) hng hmq ht0 ⟨hv0.1, (by have z9 := hv0; omega)⟩ hO hl0) (gV pw_173 pw_174 pw_175 pw_63 pw_224) hV_X0_value qr4 0 hqr5 rfl rfl rfl (Nat.le_of_ble_eq_true rfl) dX0_negation_10 ⟨(by show 0 + 1 ≤ 1; omega), (by show 0 + 6 ≤ 6; omega)⟩ ⟨(by show (5 * (n - 1) + 34) + 1 ≤ (5 * n + 33); omega), (by show 8 + (3 + 11) + (200 * (n - 1) + 600) ≤ (200 * n + 560); omega)⟩ (fun v3 u1 H locs hw2 hP hD hS => ?_) (fun ux ce9 q9 H9 locs9 hux hP9 hD9 hS9 hce hcv hcl => pb_out ux (ThQ.up (Thx.same (Thx.same (Thx.same Thx.rfl rfl) rfl) rfl) (show RhX (updR (updR R 2 (.ref pq)) 3 (.ref mq)) (updR (updR (updR (updR R 2 (.ref pq)) 3 (.ref mq)) 2 (.ref pq)) 3 (.ref mq)) from fun k9 hk9 => by unfold updR; simp only [show ¬ k9 = 1 by omega, show ¬ k9 = 2 by omega, show ¬ k9 = 3 by omega, show ¬ k9 = 4 by omega, if_false]) hux) hnt hlocks hce hcv hcl hP9 hD9 hS9 (by show 0 + 1 ≤ 1; omega) (by show 0 + 6 ≤ 6; omega))
  obtain ⟨w, K6, B7, cs8, as9, wt10, wf11, r12⟩ := u1
  obtain ⟨hw2, h13, h14, h15, hO⟩ := hw2
  have h13 : BdE K K6 := h13
  have h14 : Bth B B7 := h14
  have h15 : cs8 ≤ 10000 := h15
  obtain rfl : v3 = some (.int r12) := hw2
  have hf16 : K6.1 pq = 7 := (BdE.T h13 hp1 (by decide))
  have hf17 : K6.2.2.1 18 pq = some (a 1) := (BdE.C h13 (by rw [hp1]; decide) 18).trans hp2
  have hf18 : K6.2.2.1 14 pq = some dr := (BdE.C h13 (by rw [hp1]; decide) 14).trans hp3
  have hf19 : K6.1 dr = 8 := (BdE.T h13 hp4 (by decide))
  have hf20 : K6.2.2.1 15 pq = some ml := (BdE.C h13 (by rw [hp1]; decide) 15).trans hp5
  have hf21 : K6.1 ml = 5 := (BdE.T h13 hp6 (by decide))
  have hf22 : K6.2.1 24 pq = (nI nd) := (BdE.I h13 (by rw [hp1]; decide) (by decide) (by decide)).trans hp8
  have hf23 : K6.1 q = 1 := (BdE.T h13 hqT (by decide))
  have hf24 : K6.1 mq = 3 := (BdE.T h13 hmq (by decide))
  have hf25 : K6.2.2.1 0 q = some q1 := (BdE.C h13 (by rw [hqT]; decide) 0).trans hc0
  have hf26 : K6.1 q1 = 1 := (BdE.T h13 ht0 (by decide))
  have hO : OKP G h0 a (upd (upd (upd (upd (upd (upd F 2 (nI sz)) 5 (nI cs8)) 12 (nI vr)) 13 as9) 14 wt10) 15 wf11) (updR (updR R 2 (.ref pq)) 3 (.ref mq)) Z B7 J K6 w := hO.to rfl
  refine W.widen (k := 0) (n := 0) (by show 0 + 0 ≤ 0; omega) (by show 0 + 0 ≤ 0; omega) ?_
  refine W.eq (g2 := F0 m 13 ls [.int r12, .ref q1, .ref (a 4)]) rfl ?_
  have hbe27 := BdE.trans BdE.rfl h13
  have hbb28 : Bth B B7 := Bth.trans (show Thx (upd (upd (upd F 2 (nI sz)) 5 (nI cs)) 12 (nI vr)) (upd (upd (upd F 2 (nI sz)) 5 (nI cs)) 12 (nI vr)) B B from Thx.rfl).2 h14
  have hng29 : Nng (B7 18) := h14.2 hng
  refine lv_bipush (v := 61) hx hb dX0_negation_13 (by decide) ?_
  have hO : OKP G h0 a (upd (upd (upd (upd (upd (upd (upd (upd F 2 (nI sz)) 5 (nI cs)) 12 (nI vr)) 5 (nI cs8)) 13 as9) 14 wt10) 15 wf11) 2 (nI sz)) (updR (updR (updR R 2 (.ref pq)) 3 (.ref mq)) 2 (.ref pq)) Z B7 J K6 w := hO.to rfl
  obtain ⟨_, qr33, hqr34⟩ := hO.2.1 24 _ (sg_24 G h0 a _ _ _ _ _)
  refine pn_V0 (G := G) (As := [.ref q1, .int r12, .int 61]) (rest := []) hx hb hml hown hq hE hX pX0_al hP hD hS hA hl.1 (B_fit l G h0 a (upd (upd (upd (upd (upd (upd (upd F 2 (nI sz)) 5 (nI cs)) 12 (nI vr)) 5 (nI cs8)) 13 as9) 14 wt10) 15 wf11) (updR (updR R 2 (.ref pq)) 3 (.ref mq)) Z B7 J K6 w pq dr ml nd q1 sz r12 61 g (by omega) (BdE.pt hbe27 hwp hps).1 (BdE.pt hbe27 hwp hps).2.1 hf26 hO hl0) (gV pw_176 pw_177 pw_178 pw_63 pw_114) hV_X0_fit qr33 0 hqr34 rfl rfl rfl (Nat.le_of_ble_eq_true rfl) dX0_negation_15 ⟨(by show 0 + 1 ≤ 1; omega), (by show 0 + 6 ≤ 6; omega)⟩ ⟨(by show 7 + 1 ≤ (5 * n + 33); omega), (by show 8 + (4 + 11) + 122 ≤ (200 * n + 560); omega)⟩ (fun v32 u30 H locs hw31 hP hD hS => ?_) (fun ux ce9 q9 H9 locs9 hux hP9 hD9 hS9 hce hcv hcl => pb_out ux (ThQ.up (Thx.same (Thx.f (Thx.f (Thx.f (Thx.f (Bth.thx hbb28) (by omega)) (by omega)) (by omega)) (by omega)) rfl) (show RhX (updR (updR R 2 (.ref pq)) 3 (.ref mq)) (updR (updR (updR R 2 (.ref pq)) 3 (.ref mq)) 2 (.ref pq)) from fun k9 hk9 => by unfold updR; simp only [show ¬ k9 = 1 by omega, show ¬ k9 = 2 by omega, show ¬ k9 = 3 by omega, show ¬ k9 = 4 by omega, if_false]) hux) hnt hlocks hce hcv hcl hP9 hD9 hS9 (by show 0 + 1 ≤ 1; omega) (by show 0 + 6 ≤ 6; omega))
  obtain ⟨w, _⟩ := u30
  obtain ⟨hw31, hO⟩ := hw31
  obtain rfl : v32 = none := hw31
  have hO : OKP G h0 a (upd (upd (upd (upd (upd (upd F 2 (nI sz)) 5 (nI cs8)) 12 (nI vr)) 13 as9) 14 wt10) 15 wf11) (updR (updR R 2 (.ref pq)) 3 (.ref mq)) Z B7 J K6 w := hO.to rfl
  refine W.widen (k := 0) (n := 0) (by show 0 + 0 ≤ 0; omega) (by show 0 + 0 ≤ 0; omega) ?_
  refine W.eq (g2 := F0 m 18 ls []) rfl ?_
  refine lv_aload_n hx hb dX0_negation_18 rfl (lv_at hl 0 rfl) ?_
  refine c_get (v := .int wt10) (C := RX0) (Tc := TX0) (N := 13) (ci := 0) hx hb hq pin_wsX00 hown hE hP hO 24 (sg_24 G h0 a _ _ _ _ _) rfl 9 (by decide) (hq _ pw_156) (fun _ h9 => h9) rfl dX0_negation_19 ?_
  refine lv_istore_n (lv' := [(2, .int wt10), (0, .ref (a 4)), (1, .ref q)]) hx hb dX0_negation_22 rfl hl (by decide) rfl (fun ls hl => ?_)
  refine lv_aload_n hx hb dX0_negation_23 rfl (lv_at hl 1 rfl) ?_
  refine lv_aload_n hx hb dX0_negation_24 rfl (lv_at hl 1 rfl) ?_
  refine c_get (v := .int wf11) (C := RX0) (Tc := TX0) (N := 13) (ci := 0) hx hb hq pin_wsX00 hown hE hP hO 24 (sg_24 G h0 a _ _ _ _ _) rfl 10 (by decide) (hq _ pw_157) (fun _ h9 => h9) rfl dX0_negation_25 ?_
  refine c_put (v := .int wf11) (ty := .int) (C := RX0) (Tc := TX0) (N := 13) (ci := 0) hx hb hq pin_wsX00 tyX0 tyX0_ok nmX0 hown hE hP hD hS hO 24 (sg_24 G h0 a _ _ _ _ _) rfl 9 (by decide) (hq _ pw_156) (fun _ h9 => h9) rfl (by decide +kernel) rfl rfl (Nat.le_of_ble_eq_true rfl) (sf_14 G h0 a _ _ _ _ _ wf11) dX0_negation_28 (fun H locs w hP hD hS hO => ?_)
  refine lv_aload_n hx hb dX0_negation_31 rfl (lv_at hl 1 rfl) ?_
  refine lv_iload_n hx hb dX0_negation_32 rfl (lv_at hl 0 rfl) ?_
  refine c_put (v := .int wt10) (ty := .int) (C := RX0) (Tc := TX0) (N := 13) (ci := 0) hx hb hq pin_wsX00 tyX0 tyX0_ok nmX0 hown hE hP hD hS hO 24 (sg_24 G h0 a _ _ _ _ _) rfl 10 (by decide) (hq _ pw_157) (fun _ h9 => h9) rfl (by decide +kernel) rfl rfl (Nat.le_of_ble_eq_true rfl) (sf_15 G h0 a _ _ _ _ _ wt10) dX0_negation_33 (fun H locs w hP hD hS hO => ?_)
  refine lv_aload_n hx hb dX0_negation_36 rfl (lv_at hl 1 rfl) ?_
  refine lv_bipush (v := 11) hx hb dX0_negation_37 (by decide) ?_
  refine lv_bipush (v := 53) hx hb dX0_negation_39 (by decide) ?_
  refine lv_bipush (v := 61) hx hb dX0_negation_41 (by decide) ?_
  have hO : OKW G h0 a (upd (upd (upd (upd (upd (upd (upd F 2 (nI sz)) 5 (nI cs8)) 12 (nI vr)) 13 as9) 14 wf11) 15 wt10) 5 (nI cs8)) (updR (updR R 2 (.ref pq)) 3 (.ref mq)) Z B7 J K6.1 (fun q99 x99 => x99 = rep G a K6 q99) w := hO.to rfl
  obtain ⟨_, qr38, hqr39⟩ := hO.2.1 24 _ (sg_24 G h0 a _ _ _ _ _)
  refine pc_V0 (G := G) (As := [.int 11, .int 53, .int 61]) (rest := []) hx hb hml hown hq hE hX pX0_al hP hD hS hA hl.1 (B_give l G h0 a (upd (upd (upd (upd (upd (upd F 2 (nI sz)) 5 (nI cs8)) 12 (nI vr)) 13 as9) 14 wf11) 15 wt10) (updR (updR R 2 (.ref pq)) 3 (.ref mq)) Z B7 J K6.1 (fun q99 x99 => x99 = rep G a K6 q99) w 11 53 61 cs8 (by omega) hng29 hO) (gV pw_158 pw_159 pw_160 pw_63 pw_128) hV_X0_give qr38 0 hqr39 rfl rfl rfl (Nat.le_of_ble_eq_true rfl) dX0_negation_43 ⟨(by show 0 + 0 ≤ 1; omega), (by show 0 + 0 ≤ 6; omega)⟩ ⟨(by show 3 + 1 ≤ (5 * n + 33); omega), (by show 8 + (4 + 11) + 83 ≤ (200 * n + 560); omega)⟩ (fun v37 u35 H locs hw36 hP hD hS => ?_)
  obtain ⟨w, cs40, f41, f42, f43, f44⟩ := u35
  obtain ⟨hw36, h45, h46, hO⟩ := hw36
  have h45 : cs8 ≤ cs40 ∧ cs40 ≤ cs8 + 1 ∧ cs40 ≤ 10000 := h45
  have h46 : Nng f43 := h46
  obtain rfl : v37 = some (.int 61) := hw36
  have hO : OKP G h0 a (upd (upd (upd (upd (upd (upd F 2 (nI sz)) 5 (nI cs40)) 12 (nI vr)) 13 as9) 14 wf11) 15 wt10) (updR (updR R 2 (.ref pq)) 3 (.ref mq)) Z (updA (updA (updA (updA B7 16 f41) 17 f42) 18 f43) 19 f44) J K6 w := hO.to rfl
  refine W.widen (k := 0) (n := 0) (Nat.le_of_ble_eq_true rfl) (Nat.le_of_ble_eq_true rfl) ?_
  refine W.eq (g2 := F0 m 46 ls [.int 61]) rfl ?_
  refine W_size (fun hz1 hz2 => ?_)
  refine vx_ret ?_
  have hz47 : BdE K K6 := hbe27
  have hz48 : Bth B (updA (updA (updA (updA B7 16 f41) 17 f42) 18 f43) 19 f44) := (show Thx (upd (upd (upd F 2 (nI sz)) 5 (nI cs)) 12 (nI vr)) (upd (upd (upd (upd (upd (upd (upd F 2 (nI sz)) 5 (nI cs)) 12 (nI vr)) 5 (nI cs40)) 13 as9) 14 wf11) 15 wt10) B (updA (updA (updA (updA B7 16 f41) 17 f42) 18 f43) 19 f44) from (Thx.b (Thx.b8 (Thx.b (Thx.b (Thx.f (Thx.f (Thx.f (Thx.f (Bth.thx hbb28) (by omega)) (by omega)) (by omega)) (by omega)) (by omega) (by decide)) (by omega) (by decide)) h46) (by omega) (by decide))).2
  have hz49 : cs40 ≤ 10000 := (by omega)
  have hO : OKP G h0 a (upd (upd (upd (upd (upd (upd F 2 (nI sz)) 5 (nI cs40)) 12 (nI vr)) 13 as9) 14 wf11) 15 wt10) (updR (updR R 2 (.ref pq)) 3 (.ref mq)) Z (updA (updA (updA (updA B7 16 f41) 17 f42) 18 f43) 19 f44) J K6 w := hO.to rfl
  refine W.widen (k := 1) (n := 6) (by omega) (by omega) ?_
  have hzz1 : H.size ≤ s.heap.size + (0) := (by have z : 0 ≤ 0 := (by omega); omega)
  have hzz2 : hSl H ≤ hSl s.heap + (0) := (by have z : 0 ≤ 0 := (by omega); omega)
  exact W.iret (v := 61) hx hb hr (fun t99 ht99 hW99 => ⟨⟨_, (w, (K6, (updA (updA (updA (updA B7 16 f41) 17 f42) 18 f43) 19 f44), cs40, as9, wf11, wt10, (61 : Int32))), rfl, ⟨rfl, hz47, hz48, hz49, hO⟩, by rw [ht99]; exact hP, hD, by rw [ht99]; exact hzz1, by rw [ht99]; exact hzz2⟩, hS.F ht99⟩) hS.2.2 dX0_negation_46
theorem dX0_prefix_0 : decode cX0_prefix 0 = .ok (.aload_n 0, 1) := by decide +kernel
theorem dX0_prefix_1 : decode cX0_prefix 1 = .ok (.aload_n 1, 1) := by decide +kernel
theorem dX0_prefix_2 : decode cX0_prefix 2 = .ok (.getfield 165, 3) := by decide +kernel
theorem dX0_prefix_5 : decode cX0_prefix 5 = .ok (.aload_n 0, 1) := by decide +kernel
theorem dX0_prefix_6 : decode cX0_prefix 6 = .ok (.aload_n 1, 1) := by decide +kernel
theorem dX0_prefix_7 : decode cX0_prefix 7 = .ok (.getfield 165, 3) := by decide +kernel
theorem dX0_prefix_10 : decode cX0_prefix 10 = .ok (.invokevirtual 209, 3) := by decide +kernel
theorem dX0_prefix_13 : decode cX0_prefix 13 = .ok (.bipush 60, 2) := by decide +kernel
theorem dX0_prefix_15 : decode cX0_prefix 15 = .ok (.invokevirtual 213, 3) := by decide +kernel
theorem dX0_prefix_18 : decode cX0_prefix 18 = .ok (.aload_n 0, 1) := by decide +kernel
theorem dX0_prefix_19 : decode cX0_prefix 19 = .ok (.bipush 11, 2) := by decide +kernel
theorem dX0_prefix_21 : decode cX0_prefix 21 = .ok (.aload_n 0, 1) := by decide +kernel
theorem dX0_prefix_22 : decode cX0_prefix 22 = .ok (.getfield 9, 3) := by decide +kernel
theorem dX0_prefix_25 : decode cX0_prefix 25 = .ok (.aload_n 1, 1) := by decide +kernel
theorem dX0_prefix_26 : decode cX0_prefix 26 = .ok (.getfield 114, 3) := by decide +kernel
theorem dX0_prefix_29 : decode cX0_prefix 29 = .ok (.invokevirtual 306, 3) := by decide +kernel
theorem dX0_prefix_32 : decode cX0_prefix 32 = .ok (.bipush 60, 2) := by decide +kernel
theorem dX0_prefix_34 : decode cX0_prefix 34 = .ok (.invokevirtual 344, 3) := by decide +kernel
theorem dX0_prefix_37 : decode cX0_prefix 37 = .ok (.ireturn, 1) := by decide +kernel
set_option maxHeartbeats 16000000 in
set_option maxRecDepth 100000 in
theorem B_prefix (l : Launch) (G : pT) (h0 : Nat) (a : Nat → Nat) (F : Nat → Int32) (R : Nat → Value) (Z : Int64) (B : Nat → Nat → Int32) (J : Nat → Nat → Int64) (K : PK) (w : va_W) (pq : Nat) (dr : Nat) (ml : Nat) (nd : Nat) (nm : Nat) (cp : Nat) (it : Nat → Nat) (s9 : Nat) (q : Nat) (mq : Nat) (cs : Nat) (vr : Nat) (sz : Nat) (n : Nat) (q1 : Nat) (g : Nat → Nat → Nat) (rk : Nat → Nat) (hsz : sz ≤ 5000) (hwp : WPr G K g) (hps : PgT G K g (a 1) pq dr ml nd nm cp it s9) (hrk : RkO K rk) (hcs : cs ≤ 10000) (hvr : vr ≤ 30) (hng : Nng (B 18)) (hmq : K.1 mq = 3) (hqT : K.1 q = 1) (hqL : 1 ≤ g 0 q ∧ g 0 q ≤ n) (hc0 : K.2.2.1 0 q = some q1) (ht0 : K.1 q1 = 1) (hv0 : 1 ≤ g 0 q1 ∧ g 0 q1 + 1 ≤ n) (ihv : IhV l G n) (hO : OKP G h0 a (upd (upd (upd F 2 (nI sz)) 5 (nI cs)) 12 (nI vr)) (updR (updR R 2 (.ref pq)) 3 (.ref mq)) Z B J K w) (hl0 : l.stackTraces = false) : PBn l G pX0 yX0_prefix cX0_prefix 2 (some .int) ({ frames := (5 * n + 33), cells := 1, slots := 6, locals := (200 * n + 560) }) [.ref (a 4), .ref q] w (fun (v : Option Value) (u : va_W × (PK × (Nat → Nat → Int32) × Nat × Int32 × Int32 × Int32 × Int32)) => v = some (.int u.2.2.2.2.2.2.2) ∧ (BdE K u.2.1) ∧ (Bth B u.2.2.1) ∧ (u.2.2.2.1 ≤ 10000) ∧ (OKP G h0 a (upd (upd (upd (upd (upd (upd F 2 (nI sz)) 5 (nI u.2.2.2.1)) 12 (nI vr)) 13 u.2.2.2.2.1) 14 u.2.2.2.2.2.1) 15 u.2.2.2.2.2.2.1) (updR (updR R 2 (.ref pq)) 3 (.ref mq)) Z u.2.2.1 J u.2.1 u.1)) (fun u => u.1) (fun (u : va_W × (PK × (Nat → Nat → Int32) × Nat × Int32 × Int32 × Int32 × Int32)) => 0) (fun (u : va_W × (PK × (Nat → Nat → Int32) × Nat × Int32 × Int32 × Int32 × Int32)) => 0) (fun (u : va_W × (Nat → Int32) × (Nat → Value) × (Nat → Nat → Int32)) => ThQ G h0 a (upd (upd (upd F 2 (nI sz)) 5 (nI cs)) 12 (nI vr)) (updR (updR R 2 (.ref pq)) 3 (.ref mq)) Z B J u) (fun u => u.1) := by
  intro sz
  refine vx_ofW (cc := cX0_prefix) (maxL := 2) (ret := (some .int)) (by decide) rfl ?_
  intro p e s m args below meth c s₁ B9 hml hnt hv
  obtain ⟨rfl, hsz, hP, hD0, hE, hX⟩ := hv
  have hx := B9.exec
  have hb := B9.bytes
  have hr := B9.returns
  have hts := atoms_spec (ws := Cond.code yX0_prefix cX0_prefix 2 (some .int) :: pw) B9.pre
  have hq : ∀ w ∈ pw, w.before _ s = true := fun w h => hts w (List.mem_cons_of_mem _ h)
  have hown : s.vm.findClass RX0 = some m.cls := findClass_of_methodNamed B9.named
  have hlocks := B9.notSynchronized
  subst hsz
  have hD := hD0.self (sz := s.heap.size)
  have hA : ∀ q : Nat, s.heap.size ≤ q → va_A w s.heap.size q := fun q h => Or.inr h
  generalize va_A w s.heap.size = A at hD hE hA ⊢
  have hS : va_S A s.heap s.heap [] := va_S.rf
  have hl := lv_entry ([.ref (a 4), .ref q]) (n := 2) (Nat.le_of_ble_eq_true rfl)
  rw [lg_entry_eq]
  generalize (lg_sl ([.ref (a 4), .ref q]) ++ List.replicate (2 - (lg_sl ([.ref (a 4), .ref q])).length) Slot.unset).toArray = ls at hl ⊢
  have hl : lv_has ls 2 [(0, .ref (a 4)), (1, .ref q)] := hl
  have hpg := hps.1
  have hp1 := hpg.1
  have hp2 := hpg.2.1
  have hp3 := hpg.2.2.1
  have hp4 := hpg.2.2.2.1
  have hp5 := hpg.2.2.2.2.1
  have hp6 := hpg.2.2.2.2.2.1
  have hp8 := hpg.2.2.2.2.2.2.2.1
  have hp9 := hpg.2.2.2.2.2.2.2.2
  refine lv_aload_n hx hb dX0_prefix_0 rfl (lv_at hl 0 rfl) ?_
  refine lv_aload_n hx hb dX0_prefix_1 rfl (lv_at hl 1 rfl) ?_
  refine p_get (v := .ref q1) (C := RX7) (Tc := TX7) (N := 11) (ci := 13) hx hb hq pin_wsX70 hown hE hP hO (by rw [hqT]; decide) (rep_1 hqT) rfl 6 (by decide) (hq _ pw_180) (fun _ h9 => h9) (congrArg (fun z => some (va_rf z)) hc0) dX0_prefix_2 ?_
  refine lv_aload_n hx hb dX0_prefix_5 rfl (lv_at hl 0 rfl) ?_
  refine lv_aload_n hx hb dX0_prefix_6 rfl (lv_at hl 1 rfl) ?_
  refine p_get (v := .ref q1) (C := RX7) (Tc := TX7) (N := 11) (ci := 13) hx hb hq pin_wsX70 hown hE hP hO (by rw [hqT]; decide) (rep_1 hqT) rfl 6 (by decide) (hq _ pw_180) (fun _ h9 => h9) (congrArg (fun z => some (va_rf z)) hc0) dX0_prefix_7 ?_
  have hO : OKP G h0 a (upd (upd (upd (upd (upd (upd F 2 (nI sz)) 5 (nI cs)) 12 (nI vr)) 2 (nI sz)) 5 (nI cs)) 12 (nI vr)) (updR (updR (updR (updR R 2 (.ref pq)) 3 (.ref mq)) 2 (.ref pq)) 3 (.ref mq)) Z B J K w := hO.to rfl
  obtain ⟨_, qr4, hqr5⟩ := hO.2.1 24 _ (sg_24 G h0 a _ _ _ _ _)
  refine pn_V0 (G := G) (As := [.ref q1]) (rest := [.ref q1, .ref (a 4)]) hx hb hml hown hq hE hX pX0_al hP hD hS hA hl.1 ((ihv (by omega)) h0 a (upd (upd (upd F 2 (nI sz)) 5 (nI cs)) 12 (nI vr)) (updR (updR R 2 (.ref pq)) 3 (.ref mq)) Z B J K w pq dr ml nd nm cp it s9 q1 mq cs vr sz g rk (by omega) (BdE.wp BdE.rfl hwp) (BdE.pt BdE.rfl hwp hps) (BdE.rko BdE.rfl hrk) (by omega) (by omega) hng hmq ht0 ⟨hv0.1, (by have z9 := hv0; omega)⟩ hO hl0) (gV pw_173 pw_174 pw_175 pw_63 pw_224) hV_X0_value qr4 0 hqr5 rfl rfl rfl (Nat.le_of_ble_eq_true rfl) dX0_prefix_10 ⟨(by show 0 + 1 ≤ 1; omega), (by show 0 + 6 ≤ 6; omega)⟩ ⟨(by show (5 * (n - 1) + 34) + 1 ≤ (5 * n + 33); omega), (by show 8 + (3 + 11) + (200 * (n - 1) + 600) ≤ (200 * n + 560); omega)⟩ (fun v3 u1 H locs hw2 hP hD hS => ?_) (fun ux ce9 q9 H9 locs9 hux hP9 hD9 hS9 hce hcv hcl => pb_out ux (ThQ.up (Thx.same (Thx.same (Thx.same Thx.rfl rfl) rfl) rfl) (show RhX (updR (updR R 2 (.ref pq)) 3 (.ref mq)) (updR (updR (updR (updR R 2 (.ref pq)) 3 (.ref mq)) 2 (.ref pq)) 3 (.ref mq)) from fun k9 hk9 => by unfold updR; simp only [show ¬ k9 = 1 by omega, show ¬ k9 = 2 by omega, show ¬ k9 = 3 by omega, show ¬ k9 = 4 by omega, if_false]) hux) hnt hlocks hce hcv hcl hP9 hD9 hS9 (by show 0 + 1 ≤ 1; omega) (by show 0 + 6 ≤ 6; omega))
  obtain ⟨w, K6, B7, cs8, as9, wt10, wf11, r12⟩ := u1
  obtain ⟨hw2, h13, h14, h15, hO⟩ := hw2
  have h13 : BdE K K6 := h13
  have h14 : Bth B B7 := h14
  have h15 : cs8 ≤ 10000 := h15
  obtain rfl : v3 = some (.int r12) := hw2
  have hf16 : K6.1 pq = 7 := (BdE.T h13 hp1 (by decide))
  have hf17 : K6.2.2.1 18 pq = some (a 1) := (BdE.C h13 (by rw [hp1]; decide) 18).trans hp2
  have hf18 : K6.2.2.1 14 pq = some dr := (BdE.C h13 (by rw [hp1]; decide) 14).trans hp3
  have hf19 : K6.1 dr = 8 := (BdE.T h13 hp4 (by decide))
  have hf20 : K6.2.2.1 15 pq = some ml := (BdE.C h13 (by rw [hp1]; decide) 15).trans hp5
  have hf21 : K6.1 ml = 5 := (BdE.T h13 hp6 (by decide))
  have hf22 : K6.2.1 24 pq = (nI nd) := (BdE.I h13 (by rw [hp1]; decide) (by decide) (by decide)).trans hp8
  have hf23 : K6.1 q = 1 := (BdE.T h13 hqT (by decide))
  have hf24 : K6.1 mq = 3 := (BdE.T h13 hmq (by decide))
  have hf25 : K6.2.2.1 0 q = some q1 := (BdE.C h13 (by rw [hqT]; decide) 0).trans hc0
  have hf26 : K6.1 q1 = 1 := (BdE.T h13 ht0 (by decide))
  have hO : OKP G h0 a (upd (upd (upd (upd (upd (upd F 2 (nI sz)) 5 (nI cs8)) 12 (nI vr)) 13 as9) 14 wt10) 15 wf11) (updR (updR R 2 (.ref pq)) 3 (.ref mq)) Z B7 J K6 w := hO.to rfl
  refine W.widen (k := 0) (n := 0) (by show 0 + 0 ≤ 0; omega) (by show 0 + 0 ≤ 0; omega) ?_
  refine W.eq (g2 := F0 m 13 ls [.int r12, .ref q1, .ref (a 4)]) rfl ?_
  have hbe27 := BdE.trans BdE.rfl h13
  have hbb28 : Bth B B7 := Bth.trans (show Thx (upd (upd (upd F 2 (nI sz)) 5 (nI cs)) 12 (nI vr)) (upd (upd (upd F 2 (nI sz)) 5 (nI cs)) 12 (nI vr)) B B from Thx.rfl).2 h14
  have hng29 : Nng (B7 18) := h14.2 hng
  refine lv_bipush (v := 60) hx hb dX0_prefix_13 (by decide) ?_
  have hO : OKP G h0 a (upd (upd (upd (upd (upd (upd (upd (upd F 2 (nI sz)) 5 (nI cs)) 12 (nI vr)) 5 (nI cs8)) 13 as9) 14 wt10) 15 wf11) 2 (nI sz)) (updR (updR (updR R 2 (.ref pq)) 3 (.ref mq)) 2 (.ref pq)) Z B7 J K6 w := hO.to rfl
  obtain ⟨_, qr33, hqr34⟩ := hO.2.1 24 _ (sg_24 G h0 a _ _ _ _ _)
  refine pn_V0 (G := G) (As := [.ref q1, .int r12, .int 60]) (rest := []) hx hb hml hown hq hE hX pX0_al hP hD hS hA hl.1 (B_fit l G h0 a (upd (upd (upd (upd (upd (upd (upd F 2 (nI sz)) 5 (nI cs)) 12 (nI vr)) 5 (nI cs8)) 13 as9) 14 wt10) 15 wf11) (updR (updR R 2 (.ref pq)) 3 (.ref mq)) Z B7 J K6 w pq dr ml nd q1 sz r12 60 g (by omega) (BdE.pt hbe27 hwp hps).1 (BdE.pt hbe27 hwp hps).2.1 hf26 hO hl0) (gV pw_176 pw_177 pw_178 pw_63 pw_114) hV_X0_fit qr33 0 hqr34 rfl rfl rfl (Nat.le_of_ble_eq_true rfl) dX0_prefix_15 ⟨(by show 0 + 1 ≤ 1; omega), (by show 0 + 6 ≤ 6; omega)⟩ ⟨(by show 7 + 1 ≤ (5 * n + 33); omega), (by show 8 + (4 + 11) + 122 ≤ (200 * n + 560); omega)⟩ (fun v32 u30 H locs hw31 hP hD hS => ?_) (fun ux ce9 q9 H9 locs9 hux hP9 hD9 hS9 hce hcv hcl => pb_out ux (ThQ.up (Thx.same (Thx.f (Thx.f (Thx.f (Thx.f (Bth.thx hbb28) (by omega)) (by omega)) (by omega)) (by omega)) rfl) (show RhX (updR (updR R 2 (.ref pq)) 3 (.ref mq)) (updR (updR (updR R 2 (.ref pq)) 3 (.ref mq)) 2 (.ref pq)) from fun k9 hk9 => by unfold updR; simp only [show ¬ k9 = 1 by omega, show ¬ k9 = 2 by omega, show ¬ k9 = 3 by omega, show ¬ k9 = 4 by omega, if_false]) hux) hnt hlocks hce hcv hcl hP9 hD9 hS9 (by show 0 + 1 ≤ 1; omega) (by show 0 + 6 ≤ 6; omega))
  obtain ⟨w, _⟩ := u30
  obtain ⟨hw31, hO⟩ := hw31
  obtain rfl : v32 = none := hw31
  have hO : OKP G h0 a (upd (upd (upd (upd (upd (upd F 2 (nI sz)) 5 (nI cs8)) 12 (nI vr)) 13 as9) 14 wt10) 15 wf11) (updR (updR R 2 (.ref pq)) 3 (.ref mq)) Z B7 J K6 w := hO.to rfl
  refine W.widen (k := 0) (n := 0) (by show 0 + 0 ≤ 0; omega) (by show 0 + 0 ≤ 0; omega) ?_
  refine W.eq (g2 := F0 m 18 ls []) rfl ?_
  refine lv_aload_n hx hb dX0_prefix_18 rfl (lv_at hl 0 rfl) ?_
  refine lv_bipush (v := 11) hx hb dX0_prefix_19 (by decide) ?_
  refine lv_aload_n hx hb dX0_prefix_21 rfl (lv_at hl 0 rfl) ?_
  refine c_get (v := .ref (a 1)) (C := RX0) (Tc := TX0) (N := 13) (ci := 0) hx hb hq pin_wsX00 hown hE hP hO 24 (sg_24 G h0 a _ _ _ _ _) rfl 0 (by decide) (hq _ pw_4) (fun _ h9 => h9) rfl dX0_prefix_22 ?_
  refine lv_aload_n hx hb dX0_prefix_25 rfl (lv_at hl 1 rfl) ?_
  refine p_get (v := .int (K6.2.1 1 q)) (C := RX7) (Tc := TX7) (N := 11) (ci := 13) hx hb hq pin_wsX70 hown hE hP hO (by rw [hf23]; decide) (rep_1 hf23) rfl 1 (by decide) (hq _ pw_81) (fun _ h9 => h9) rfl dX0_prefix_26 ?_
  have hO : OKW G h0 a (upd (upd (upd (upd (upd (upd (upd F 2 (nI sz)) 5 (nI cs8)) 12 (nI vr)) 13 as9) 14 wt10) 15 wf11) 2 (nI sz)) (updR (updR R 2 (.ref pq)) 3 (.ref mq)) Z B7 J K6.1 (fun q99 x99 => x99 = rep G a K6 q99) w := hO.to rfl
  obtain ⟨_, qr38, hqr39⟩ := hO.2.1 2 _ (sg_2 G h0 a _ _ _ _ _)
  refine pc_V0 (G := G) (As := [.int (K6.2.1 1 q)]) (rest := [.int 11, .ref (a 4)]) hx hb hml hown hq hE hX pX0_al hP hD hS hA hl.1 (K_kindAt l G h0 a (upd (upd (upd (upd (upd (upd F 2 (nI sz)) 5 (nI cs8)) 12 (nI vr)) 13 as9) 14 wt10) 15 wf11) (updR (updR R 2 (.ref pq)) 3 (.ref mq)) Z B7 J K6.1 (fun q99 x99 => x99 = rep G a K6 q99) w (K6.2.1 1 q) sz (by omega) hO) (gV pw_192 pw_193 pw_194 pw_59 pw_126) hV_X10_kindAt qr38 7 hqr39 rfl rfl rfl (Nat.le_of_ble_eq_true rfl) dX0_prefix_29 ⟨(by show 0 + 0 ≤ 1; omega), (by show 0 + 0 ≤ 6; omega)⟩ ⟨(by show 2 + 1 ≤ (5 * n + 33); omega), (by show 8 + (2 + 11) + 60 ≤ (200 * n + 560); omega)⟩ (fun v37 u35 H locs hw36 hP hD hS => ?_)
  obtain ⟨w, r40⟩ := u35
  obtain ⟨hw36, h41, hO⟩ := hw36
  have h41 : r40 = 67 ∨ ∃ t : Nat, (K6.2.1 1 q) = nI t ∧ t < sz := h41
  obtain rfl : v37 = some (.int r40) := hw36
  have hO : OKP G h0 a (upd (upd (upd (upd (upd (upd F 2 (nI sz)) 5 (nI cs8)) 12 (nI vr)) 13 as9) 14 wt10) 15 wf11) (updR (updR R 2 (.ref pq)) 3 (.ref mq)) Z B7 J K6 w := hO.to rfl
  refine W.widen (k := 0) (n := 0) (Nat.le_of_ble_eq_true rfl) (Nat.le_of_ble_eq_true rfl) ?_
  refine W.eq (g2 := F0 m 32 ls [.int r40, .int 11, .ref (a 4)]) rfl ?_
  refine lv_bipush (v := 60) hx hb dX0_prefix_32 (by decide) ?_
  have hO : OKW G h0 a (upd (upd (upd (upd (upd (upd (upd F 2 (nI sz)) 5 (nI cs8)) 12 (nI vr)) 13 as9) 14 wt10) 15 wf11) 5 (nI cs8)) (updR (updR R 2 (.ref pq)) 3 (.ref mq)) Z B7 J K6.1 (fun q99 x99 => x99 = rep G a K6 q99) w := hO.to rfl
  obtain ⟨_, qr45, hqr46⟩ := hO.2.1 24 _ (sg_24 G h0 a _ _ _ _ _)
  refine pc_V0 (G := G) (As := [.int 11, .int r40, .int 60]) (rest := []) hx hb hml hown hq hE hX pX0_al hP hD hS hA hl.1 (B_give l G h0 a (upd (upd (upd (upd (upd (upd F 2 (nI sz)) 5 (nI cs8)) 12 (nI vr)) 13 as9) 14 wt10) 15 wf11) (updR (updR R 2 (.ref pq)) 3 (.ref mq)) Z B7 J K6.1 (fun q99 x99 => x99 = rep G a K6 q99) w 11 r40 60 cs8 (by omega) hng29 hO) (gV pw_158 pw_159 pw_160 pw_63 pw_128) hV_X0_give qr45 0 hqr46 rfl rfl rfl (Nat.le_of_ble_eq_true rfl) dX0_prefix_34 ⟨(by show 0 + 0 ≤ 1; omega), (by show 0 + 0 ≤ 6; omega)⟩ ⟨(by show 3 + 1 ≤ (5 * n + 33); omega), (by show 8 + (4 + 11) + 83 ≤ (200 * n + 560); omega)⟩ (fun v44 u42 H locs hw43 hP hD hS => ?_)
  obtain ⟨w, cs47, f48, f49, f50, f51⟩ := u42
  obtain ⟨hw43, h52, h53, hO⟩ := hw43
  have h52 : cs8 ≤ cs47 ∧ cs47 ≤ cs8 + 1 ∧ cs47 ≤ 10000 := h52
  have h53 : Nng f50 := h53
  obtain rfl : v44 = some (.int 60) := hw43
  have hO : OKP G h0 a (upd (upd (upd (upd (upd (upd F 2 (nI sz)) 5 (nI cs47)) 12 (nI vr)) 13 as9) 14 wt10) 15 wf11) (updR (updR R 2 (.ref pq)) 3 (.ref mq)) Z (updA (updA (updA (updA B7 16 f48) 17 f49) 18 f50) 19 f51) J K6 w := hO.to rfl
  refine W.widen (k := 0) (n := 0) (Nat.le_of_ble_eq_true rfl) (Nat.le_of_ble_eq_true rfl) ?_
  refine W.eq (g2 := F0 m 37 ls [.int 60]) rfl ?_
  refine W_size (fun hz1 hz2 => ?_)
  refine vx_ret ?_
  have hz54 : BdE K K6 := hbe27
  have hz55 : Bth B (updA (updA (updA (updA B7 16 f48) 17 f49) 18 f50) 19 f51) := (show Thx (upd (upd (upd F 2 (nI sz)) 5 (nI cs)) 12 (nI vr)) (upd (upd (upd (upd (upd (upd (upd F 2 (nI sz)) 5 (nI cs)) 12 (nI vr)) 5 (nI cs47)) 13 as9) 14 wt10) 15 wf11) B (updA (updA (updA (updA B7 16 f48) 17 f49) 18 f50) 19 f51) from (Thx.b (Thx.b8 (Thx.b (Thx.b (Thx.f (Thx.f (Thx.f (Thx.f (Bth.thx hbb28) (by omega)) (by omega)) (by omega)) (by omega)) (by omega) (by decide)) (by omega) (by decide)) h53) (by omega) (by decide))).2
  have hz56 : cs47 ≤ 10000 := (by omega)
  have hO : OKP G h0 a (upd (upd (upd (upd (upd (upd F 2 (nI sz)) 5 (nI cs47)) 12 (nI vr)) 13 as9) 14 wt10) 15 wf11) (updR (updR R 2 (.ref pq)) 3 (.ref mq)) Z (updA (updA (updA (updA B7 16 f48) 17 f49) 18 f50) 19 f51) J K6 w := hO.to rfl
  refine W.widen (k := 1) (n := 6) (by omega) (by omega) ?_
  have hzz1 : H.size ≤ s.heap.size + (0) := (by have z : 0 ≤ 0 := (by omega); omega)
  have hzz2 : hSl H ≤ hSl s.heap + (0) := (by have z : 0 ≤ 0 := (by omega); omega)
  exact W.iret (v := 60) hx hb hr (fun t99 ht99 hW99 => ⟨⟨_, (w, (K6, (updA (updA (updA (updA B7 16 f48) 17 f49) 18 f50) 19 f51), cs47, as9, wt10, wf11, (60 : Int32))), rfl, ⟨rfl, hz54, hz55, hz56, hO⟩, by rw [ht99]; exact hP, hD, by rw [ht99]; exact hzz1, by rw [ht99]; exact hzz2⟩, hS.F ht99⟩) hS.2.2 dX0_prefix_37
theorem dX0_length_0 : decode cX0_length 0 = .ok (.aload_n 0, 1) := by decide +kernel
theorem dX0_length_1 : decode cX0_length 1 = .ok (.aload_n 1, 1) := by decide +kernel
theorem dX0_length_2 : decode cX0_length 2 = .ok (.getfield 165, 3) := by decide +kernel
theorem dX0_length_5 : decode cX0_length 5 = .ok (.aload_n 0, 1) := by decide +kernel
theorem dX0_length_6 : decode cX0_length 6 = .ok (.aload_n 1, 1) := by decide +kernel
theorem dX0_length_7 : decode cX0_length 7 = .ok (.getfield 165, 3) := by decide +kernel
theorem dX0_length_10 : decode cX0_length 10 = .ok (.invokevirtual 209, 3) := by decide +kernel
theorem dX0_length_13 : decode cX0_length 13 = .ok (.invokevirtual 354, 3) := by decide +kernel
theorem dX0_length_16 : decode cX0_length 16 = .ok (.pop, 1) := by decide +kernel
theorem dX0_length_17 : decode cX0_length 17 = .ok (.aload_n 0, 1) := by decide +kernel
theorem dX0_length_18 : decode cX0_length 18 = .ok (.bipush 16, 2) := by decide +kernel
theorem dX0_length_20 : decode cX0_length 20 = .ok (.iconst 0, 1) := by decide +kernel
theorem dX0_length_21 : decode cX0_length 21 = .ok (.bipush 60, 2) := by decide +kernel
theorem dX0_length_23 : decode cX0_length 23 = .ok (.invokevirtual 344, 3) := by decide +kernel
theorem dX0_length_26 : decode cX0_length 26 = .ok (.ireturn, 1) := by decide +kernel
theorem hV_X0_elementType : yX0_elementType.cls = RX0 ∧ yX0_elementType.cls ≠ "java/lang/invoke/MethodHandle" ∧ yX0_elementType.cls ≠ "java/lang/invoke/VarHandle" ∧ (parseMethodDescriptor yX0_elementType.desc).map (fun d => d.parameters.length) = some 2 := by decide +kernel
set_option maxHeartbeats 16000000 in
set_option maxRecDepth 100000 in
theorem B_length (l : Launch) (G : pT) (h0 : Nat) (a : Nat → Nat) (F : Nat → Int32) (R : Nat → Value) (Z : Int64) (B : Nat → Nat → Int32) (J : Nat → Nat → Int64) (K : PK) (w : va_W) (pq : Nat) (dr : Nat) (ml : Nat) (nd : Nat) (nm : Nat) (cp : Nat) (it : Nat → Nat) (s9 : Nat) (q : Nat) (mq : Nat) (cs : Nat) (vr : Nat) (sz : Nat) (n : Nat) (q1 : Nat) (g : Nat → Nat → Nat) (rk : Nat → Nat) (hsz : sz ≤ 5000) (hwp : WPr G K g) (hps : PgT G K g (a 1) pq dr ml nd nm cp it s9) (hrk : RkO K rk) (hcs : cs ≤ 10000) (hvr : vr ≤ 30) (hng : Nng (B 18)) (hmq : K.1 mq = 3) (hqT : K.1 q = 1) (hqL : 1 ≤ g 0 q ∧ g 0 q ≤ n) (hc0 : K.2.2.1 0 q = some q1) (ht0 : K.1 q1 = 1) (hv0 : 1 ≤ g 0 q1 ∧ g 0 q1 + 1 ≤ n) (ihv : IhV l G n) (hO : OKP G h0 a (upd (upd (upd F 2 (nI sz)) 5 (nI cs)) 12 (nI vr)) (updR (updR R 2 (.ref pq)) 3 (.ref mq)) Z B J K w) (hl0 : l.stackTraces = false) : PBn l G pX0 yX0_length cX0_length 2 (some .int) ({ frames := (5 * n + 33), cells := 1, slots := 6, locals := (200 * n + 560) }) [.ref (a 4), .ref q] w (fun (v : Option Value) (u : va_W × (PK × (Nat → Nat → Int32) × Nat × Int32 × Int32 × Int32 × Int32)) => v = some (.int u.2.2.2.2.2.2.2) ∧ (BdE K u.2.1) ∧ (Bth B u.2.2.1) ∧ (u.2.2.2.1 ≤ 10000) ∧ (OKP G h0 a (upd (upd (upd (upd (upd (upd F 2 (nI sz)) 5 (nI u.2.2.2.1)) 12 (nI vr)) 13 u.2.2.2.2.1) 14 u.2.2.2.2.2.1) 15 u.2.2.2.2.2.2.1) (updR (updR R 2 (.ref pq)) 3 (.ref mq)) Z u.2.2.1 J u.2.1 u.1)) (fun u => u.1) (fun (u : va_W × (PK × (Nat → Nat → Int32) × Nat × Int32 × Int32 × Int32 × Int32)) => 0) (fun (u : va_W × (PK × (Nat → Nat → Int32) × Nat × Int32 × Int32 × Int32 × Int32)) => 0) (fun (u : va_W × (Nat → Int32) × (Nat → Value) × (Nat → Nat → Int32)) => ThQ G h0 a (upd (upd (upd F 2 (nI sz)) 5 (nI cs)) 12 (nI vr)) (updR (updR R 2 (.ref pq)) 3 (.ref mq)) Z B J u) (fun u => u.1) := by
  intro sz
  refine vx_ofW (cc := cX0_length) (maxL := 2) (ret := (some .int)) (by decide) rfl ?_
  intro p e s m args below meth c s₁ B9 hml hnt hv
  obtain ⟨rfl, hsz, hP, hD0, hE, hX⟩ := hv
  have hx := B9.exec
  have hb := B9.bytes
  have hr := B9.returns
  have hts := atoms_spec (ws := Cond.code yX0_length cX0_length 2 (some .int) :: pw) B9.pre
  have hq : ∀ w ∈ pw, w.before _ s = true := fun w h => hts w (List.mem_cons_of_mem _ h)
  have hown : s.vm.findClass RX0 = some m.cls := findClass_of_methodNamed B9.named
  have hlocks := B9.notSynchronized
  subst hsz
  have hD := hD0.self (sz := s.heap.size)
  have hA : ∀ q : Nat, s.heap.size ≤ q → va_A w s.heap.size q := fun q h => Or.inr h
  generalize va_A w s.heap.size = A at hD hE hA ⊢
  have hS : va_S A s.heap s.heap [] := va_S.rf
  have hl := lv_entry ([.ref (a 4), .ref q]) (n := 2) (Nat.le_of_ble_eq_true rfl)
  rw [lg_entry_eq]
  generalize (lg_sl ([.ref (a 4), .ref q]) ++ List.replicate (2 - (lg_sl ([.ref (a 4), .ref q])).length) Slot.unset).toArray = ls at hl ⊢
  have hl : lv_has ls 2 [(0, .ref (a 4)), (1, .ref q)] := hl
  have hpg := hps.1
  have hp1 := hpg.1
  have hp2 := hpg.2.1
  have hp3 := hpg.2.2.1
  have hp4 := hpg.2.2.2.1
  have hp5 := hpg.2.2.2.2.1
  have hp6 := hpg.2.2.2.2.2.1
  have hp8 := hpg.2.2.2.2.2.2.2.1
  have hp9 := hpg.2.2.2.2.2.2.2.2
  refine lv_aload_n hx hb dX0_length_0 rfl (lv_at hl 0 rfl) ?_
  refine lv_aload_n hx hb dX0_length_1 rfl (lv_at hl 1 rfl) ?_
  refine p_get (v := .ref q1) (C := RX7) (Tc := TX7) (N := 11) (ci := 13) hx hb hq pin_wsX70 hown hE hP hO (by rw [hqT]; decide) (rep_1 hqT) rfl 6 (by decide) (hq _ pw_180) (fun _ h9 => h9) (congrArg (fun z => some (va_rf z)) hc0) dX0_length_2 ?_
  refine lv_aload_n hx hb dX0_length_5 rfl (lv_at hl 0 rfl) ?_
  refine lv_aload_n hx hb dX0_length_6 rfl (lv_at hl 1 rfl) ?_
  refine p_get (v := .ref q1) (C := RX7) (Tc := TX7) (N := 11) (ci := 13) hx hb hq pin_wsX70 hown hE hP hO (by rw [hqT]; decide) (rep_1 hqT) rfl 6 (by decide) (hq _ pw_180) (fun _ h9 => h9) (congrArg (fun z => some (va_rf z)) hc0) dX0_length_7 ?_
  have hO : OKP G h0 a (upd (upd (upd (upd (upd (upd F 2 (nI sz)) 5 (nI cs)) 12 (nI vr)) 2 (nI sz)) 5 (nI cs)) 12 (nI vr)) (updR (updR (updR (updR R 2 (.ref pq)) 3 (.ref mq)) 2 (.ref pq)) 3 (.ref mq)) Z B J K w := hO.to rfl
  obtain ⟨_, qr4, hqr5⟩ := hO.2.1 24 _ (sg_24 G h0 a _ _ _ _ _)
  refine pn_V0 (G := G) (As := [.ref q1]) (rest := [.ref q1, .ref (a 4)]) hx hb hml hown hq hE hX pX0_al hP hD hS hA hl.1 ((ihv (by omega)) h0 a (upd (upd (upd F 2 (nI sz)) 5 (nI cs)) 12 (nI vr)) (updR (updR R 2 (.ref pq)) 3 (.ref mq)) Z B J K w pq dr ml nd nm cp it s9 q1 mq cs vr sz g rk (by omega) (BdE.wp BdE.rfl hwp) (BdE.pt BdE.rfl hwp hps) (BdE.rko BdE.rfl hrk) (by omega) (by omega) hng hmq ht0 ⟨hv0.1, (by have z9 := hv0; omega)⟩ hO hl0) (gV pw_173 pw_174 pw_175 pw_63 pw_224) hV_X0_value qr4 0 hqr5 rfl rfl rfl (Nat.le_of_ble_eq_true rfl) dX0_length_10 ⟨(by show 0 + 1 ≤ 1; omega), (by show 0 + 6 ≤ 6; omega)⟩ ⟨(by show (5 * (n - 1) + 34) + 1 ≤ (5 * n + 33); omega), (by show 8 + (3 + 11) + (200 * (n - 1) + 600) ≤ (200 * n + 560); omega)⟩ (fun v3 u1 H locs hw2 hP hD hS => ?_) (fun ux ce9 q9 H9 locs9 hux hP9 hD9 hS9 hce hcv hcl => pb_out ux (ThQ.up (Thx.same (Thx.same (Thx.same Thx.rfl rfl) rfl) rfl) (show RhX (updR (updR R 2 (.ref pq)) 3 (.ref mq)) (updR (updR (updR (updR R 2 (.ref pq)) 3 (.ref mq)) 2 (.ref pq)) 3 (.ref mq)) from fun k9 hk9 => by unfold updR; simp only [show ¬ k9 = 1 by omega, show ¬ k9 = 2 by omega, show ¬ k9 = 3 by omega, show ¬ k9 = 4 by omega, if_false]) hux) hnt hlocks hce hcv hcl hP9 hD9 hS9 (by show 0 + 1 ≤ 1; omega) (by show 0 + 6 ≤ 6; omega))
  obtain ⟨w, K6, B7, cs8, as9, wt10, wf11, r12⟩ := u1
  obtain ⟨hw2, h13, h14, h15, hO⟩ := hw2
  have h13 : BdE K K6 := h13
  have h14 : Bth B B7 := h14
  have h15 : cs8 ≤ 10000 := h15
  obtain rfl : v3 = some (.int r12) := hw2
  have hf16 : K6.1 pq = 7 := (BdE.T h13 hp1 (by decide))
  have hf17 : K6.2.2.1 18 pq = some (a 1) := (BdE.C h13 (by rw [hp1]; decide) 18).trans hp2
  have hf18 : K6.2.2.1 14 pq = some dr := (BdE.C h13 (by rw [hp1]; decide) 14).trans hp3
  have hf19 : K6.1 dr = 8 := (BdE.T h13 hp4 (by decide))
  have hf20 : K6.2.2.1 15 pq = some ml := (BdE.C h13 (by rw [hp1]; decide) 15).trans hp5
  have hf21 : K6.1 ml = 5 := (BdE.T h13 hp6 (by decide))
  have hf22 : K6.2.1 24 pq = (nI nd) := (BdE.I h13 (by rw [hp1]; decide) (by decide) (by decide)).trans hp8
  have hf23 : K6.1 q = 1 := (BdE.T h13 hqT (by decide))
  have hf24 : K6.1 mq = 3 := (BdE.T h13 hmq (by decide))
  have hf25 : K6.2.2.1 0 q = some q1 := (BdE.C h13 (by rw [hqT]; decide) 0).trans hc0
  have hf26 : K6.1 q1 = 1 := (BdE.T h13 ht0 (by decide))
  have hO : OKP G h0 a (upd (upd (upd (upd (upd (upd F 2 (nI sz)) 5 (nI cs8)) 12 (nI vr)) 13 as9) 14 wt10) 15 wf11) (updR (updR R 2 (.ref pq)) 3 (.ref mq)) Z B7 J K6 w := hO.to rfl
  refine W.widen (k := 0) (n := 0) (by show 0 + 0 ≤ 0; omega) (by show 0 + 0 ≤ 0; omega) ?_
  refine W.eq (g2 := F0 m 13 ls [.int r12, .ref q1, .ref (a 4)]) rfl ?_
  have hbe27 := BdE.trans BdE.rfl h13
  have hbb28 : Bth B B7 := Bth.trans (show Thx (upd (upd (upd F 2 (nI sz)) 5 (nI cs)) 12 (nI vr)) (upd (upd (upd F 2 (nI sz)) 5 (nI cs)) 12 (nI vr)) B B from Thx.rfl).2 h14
  have hng29 : Nng (B7 18) := h14.2 hng
  have hO : OKP G h0 a (upd (upd (upd (upd (upd (upd (upd (upd F 2 (nI sz)) 5 (nI cs)) 12 (nI vr)) 5 (nI cs8)) 13 as9) 14 wt10) 15 wf11) 2 (nI sz)) (updR (updR R 2 (.ref pq)) 3 (.ref mq)) Z B7 J K6 w := hO.to rfl
  obtain ⟨_, qr33, hqr34⟩ := hO.2.1 24 _ (sg_24 G h0 a _ _ _ _ _)
  refine pn_V0 (G := G) (As := [.ref q1, .int r12]) (rest := []) hx hb hml hown hq hE hX pX0_al hP hD hS hA hl.1 (B_elementType l G h0 a (upd (upd (upd (upd (upd (upd (upd F 2 (nI sz)) 5 (nI cs)) 12 (nI vr)) 5 (nI cs8)) 13 as9) 14 wt10) 15 wf11) (updR (updR R 2 (.ref pq)) 3 (.ref mq)) Z B7 J K6 w q1 sz r12 (by omega) hf26 hO hl0) (gV pw_207 pw_208 pw_209 pw_63 pw_137) hV_X0_elementType qr33 0 hqr34 rfl rfl rfl (Nat.le_of_ble_eq_true rfl) dX0_length_13 ⟨(by show 0 + 1 ≤ 1; omega), (by show 0 + 6 ≤ 6; omega)⟩ ⟨(by show 7 + 1 ≤ (5 * n + 33); omega), (by show 8 + (3 + 11) + 122 ≤ (200 * n + 560); omega)⟩ (fun v32 u30 H locs hw31 hP hD hS => ?_) (fun ux ce9 q9 H9 locs9 hux hP9 hD9 hS9 hce hcv hcl => pb_out ux (ThQ.up (Thx.same (Thx.f (Thx.f (Thx.f (Thx.f (Bth.thx hbb28) (by omega)) (by omega)) (by omega)) (by omega)) rfl) RhX.rfl hux) hnt hlocks hce hcv hcl hP9 hD9 hS9 (by show 0 + 1 ≤ 1; omega) (by show 0 + 6 ≤ 6; omega))
  obtain ⟨w, r35⟩ := u30
  obtain ⟨hw31, hO⟩ := hw31
  obtain rfl : v32 = some (.int r35) := hw31
  have hO : OKP G h0 a (upd (upd (upd (upd (upd (upd F 2 (nI sz)) 5 (nI cs8)) 12 (nI vr)) 13 as9) 14 wt10) 15 wf11) (updR (updR R 2 (.ref pq)) 3 (.ref mq)) Z B7 J K6 w := hO.to rfl
  refine W.widen (k := 0) (n := 0) (by show 0 + 0 ≤ 0; omega) (by show 0 + 0 ≤ 0; omega) ?_
  refine W.eq (g2 := F0 m 16 ls [.int r35]) rfl ?_
  refine lv_pop hx hb dX0_length_16 rfl ?_
  refine lv_aload_n hx hb dX0_length_17 rfl (lv_at hl 0 rfl) ?_
  refine lv_bipush (v := 16) hx hb dX0_length_18 (by decide) ?_
  refine lv_iconst (v := 0) hx hb dX0_length_20 (by decide) ?_
  refine lv_bipush (v := 60) hx hb dX0_length_21 (by decide) ?_
  have hO : OKW G h0 a (upd (upd (upd (upd (upd (upd (upd F 2 (nI sz)) 5 (nI cs8)) 12 (nI vr)) 13 as9) 14 wt10) 15 wf11) 5 (nI cs8)) (updR (updR R 2 (.ref pq)) 3 (.ref mq)) Z B7 J K6.1 (fun q99 x99 => x99 = rep G a K6 q99) w := hO.to rfl
  obtain ⟨_, qr39, hqr40⟩ := hO.2.1 24 _ (sg_24 G h0 a _ _ _ _ _)
  refine pc_V0 (G := G) (As := [.int 16, .int 0, .int 60]) (rest := []) hx hb hml hown hq hE hX pX0_al hP hD hS hA hl.1 (B_give l G h0 a (upd (upd (upd (upd (upd (upd F 2 (nI sz)) 5 (nI cs8)) 12 (nI vr)) 13 as9) 14 wt10) 15 wf11) (updR (updR R 2 (.ref pq)) 3 (.ref mq)) Z B7 J K6.1 (fun q99 x99 => x99 = rep G a K6 q99) w 16 0 60 cs8 (by omega) hng29 hO) (gV pw_158 pw_159 pw_160 pw_63 pw_128) hV_X0_give qr39 0 hqr40 rfl rfl rfl (Nat.le_of_ble_eq_true rfl) dX0_length_23 ⟨(by show 0 + 0 ≤ 1; omega), (by show 0 + 0 ≤ 6; omega)⟩ ⟨(by show 3 + 1 ≤ (5 * n + 33); omega), (by show 8 + (4 + 11) + 83 ≤ (200 * n + 560); omega)⟩ (fun v38 u36 H locs hw37 hP hD hS => ?_)
  obtain ⟨w, cs41, f42, f43, f44, f45⟩ := u36
  obtain ⟨hw37, h46, h47, hO⟩ := hw37
  have h46 : cs8 ≤ cs41 ∧ cs41 ≤ cs8 + 1 ∧ cs41 ≤ 10000 := h46
  have h47 : Nng f44 := h47
  obtain rfl : v38 = some (.int 60) := hw37
  have hO : OKP G h0 a (upd (upd (upd (upd (upd (upd F 2 (nI sz)) 5 (nI cs41)) 12 (nI vr)) 13 as9) 14 wt10) 15 wf11) (updR (updR R 2 (.ref pq)) 3 (.ref mq)) Z (updA (updA (updA (updA B7 16 f42) 17 f43) 18 f44) 19 f45) J K6 w := hO.to rfl
  refine W.widen (k := 0) (n := 0) (Nat.le_of_ble_eq_true rfl) (Nat.le_of_ble_eq_true rfl) ?_
  refine W.eq (g2 := F0 m 26 ls [.int 60]) rfl ?_
  refine W_size (fun hz1 hz2 => ?_)
  refine vx_ret ?_
  have hz48 : BdE K K6 := hbe27
  have hz49 : Bth B (updA (updA (updA (updA B7 16 f42) 17 f43) 18 f44) 19 f45) := (show Thx (upd (upd (upd F 2 (nI sz)) 5 (nI cs)) 12 (nI vr)) (upd (upd (upd (upd (upd (upd (upd F 2 (nI sz)) 5 (nI cs)) 12 (nI vr)) 5 (nI cs41)) 13 as9) 14 wt10) 15 wf11) B (updA (updA (updA (updA B7 16 f42) 17 f43) 18 f44) 19 f45) from (Thx.b (Thx.b8 (Thx.b (Thx.b (Thx.f (Thx.f (Thx.f (Thx.f (Bth.thx hbb28) (by omega)) (by omega)) (by omega)) (by omega)) (by omega) (by decide)) (by omega) (by decide)) h47) (by omega) (by decide))).2
  have hz50 : cs41 ≤ 10000 := (by omega)
  have hO : OKP G h0 a (upd (upd (upd (upd (upd (upd F 2 (nI sz)) 5 (nI cs41)) 12 (nI vr)) 13 as9) 14 wt10) 15 wf11) (updR (updR R 2 (.ref pq)) 3 (.ref mq)) Z (updA (updA (updA (updA B7 16 f42) 17 f43) 18 f44) 19 f45) J K6 w := hO.to rfl
  refine W.widen (k := 1) (n := 6) (by omega) (by omega) ?_
  have hzz1 : H.size ≤ s.heap.size + (0) := (by have z : 0 ≤ 0 := (by omega); omega)
  have hzz2 : hSl H ≤ hSl s.heap + (0) := (by have z : 0 ≤ 0 := (by omega); omega)
  exact W.iret (v := 60) hx hb hr (fun t99 ht99 hW99 => ⟨⟨_, (w, (K6, (updA (updA (updA (updA B7 16 f42) 17 f43) 18 f44) 19 f45), cs41, as9, wt10, wf11, (60 : Int32))), rfl, ⟨rfl, hz48, hz49, hz50, hO⟩, by rw [ht99]; exact hP, hD, by rw [ht99]; exact hzz1, by rw [ht99]; exact hzz2⟩, hS.F ht99⟩) hS.2.2 dX0_length_26
theorem dX0_element_0 : decode cX0_element 0 = .ok (.aload_n 0, 1) := by decide +kernel
theorem dX0_element_1 : decode cX0_element 1 = .ok (.aload_n 1, 1) := by decide +kernel
theorem dX0_element_2 : decode cX0_element 2 = .ok (.getfield 165, 3) := by decide +kernel
theorem dX0_element_5 : decode cX0_element 5 = .ok (.aload_n 0, 1) := by decide +kernel
theorem dX0_element_6 : decode cX0_element 6 = .ok (.aload_n 1, 1) := by decide +kernel
theorem dX0_element_7 : decode cX0_element 7 = .ok (.getfield 165, 3) := by decide +kernel
theorem dX0_element_10 : decode cX0_element 10 = .ok (.invokevirtual 209, 3) := by decide +kernel
theorem dX0_element_13 : decode cX0_element 13 = .ok (.invokevirtual 354, 3) := by decide +kernel
theorem dX0_element_16 : decode cX0_element 16 = .ok (.istore_n 2, 1) := by decide +kernel
theorem dX0_element_17 : decode cX0_element 17 = .ok (.aload_n 0, 1) := by decide +kernel
theorem dX0_element_18 : decode cX0_element 18 = .ok (.aload_n 1, 1) := by decide +kernel
theorem dX0_element_19 : decode cX0_element 19 = .ok (.getfield 202, 3) := by decide +kernel
theorem dX0_element_22 : decode cX0_element 22 = .ok (.aload_n 0, 1) := by decide +kernel
theorem dX0_element_23 : decode cX0_element 23 = .ok (.aload_n 1, 1) := by decide +kernel
theorem dX0_element_24 : decode cX0_element 24 = .ok (.getfield 202, 3) := by decide +kernel
theorem dX0_element_27 : decode cX0_element 27 = .ok (.invokevirtual 209, 3) := by decide +kernel
theorem dX0_element_30 : decode cX0_element 30 = .ok (.bipush 60, 2) := by decide +kernel
theorem dX0_element_32 : decode cX0_element 32 = .ok (.invokevirtual 213, 3) := by decide +kernel
theorem dX0_element_35 : decode cX0_element 35 = .ok (.iload_n 2, 1) := by decide +kernel
theorem dX0_element_36 : decode cX0_element 36 = .ok (.ireturn, 1) := by decide +kernel
set_option maxHeartbeats 16000000 in
set_option maxRecDepth 100000 in
theorem B_element (l : Launch) (G : pT) (h0 : Nat) (a : Nat → Nat) (F : Nat → Int32) (R : Nat → Value) (Z : Int64) (B : Nat → Nat → Int32) (J : Nat → Nat → Int64) (K : PK) (w : va_W) (pq : Nat) (dr : Nat) (ml : Nat) (nd : Nat) (nm : Nat) (cp : Nat) (it : Nat → Nat) (s9 : Nat) (q : Nat) (mq : Nat) (cs : Nat) (vr : Nat) (sz : Nat) (n : Nat) (q1 : Nat) (q2 : Nat) (g : Nat → Nat → Nat) (rk : Nat → Nat) (hsz : sz ≤ 5000) (hwp : WPr G K g) (hps : PgT G K g (a 1) pq dr ml nd nm cp it s9) (hrk : RkO K rk) (hcs : cs ≤ 10000) (hvr : vr ≤ 30) (hng : Nng (B 18)) (hmq : K.1 mq = 3) (hqT : K.1 q = 1) (hqL : 1 ≤ g 0 q ∧ g 0 q ≤ n) (hc0 : K.2.2.1 0 q = some q1) (ht0 : K.1 q1 = 1) (hv0 : 1 ≤ g 0 q1 ∧ g 0 q1 + 1 ≤ n) (hc1 : K.2.2.1 1 q = some q2) (ht1 : K.1 q2 = 1) (hv1 : 1 ≤ g 0 q2 ∧ g 0 q2 + 1 ≤ n) (ihv : IhV l G n) (hO : OKP G h0 a (upd (upd (upd F 2 (nI sz)) 5 (nI cs)) 12 (nI vr)) (updR (updR R 2 (.ref pq)) 3 (.ref mq)) Z B J K w) (hl0 : l.stackTraces = false) : PBn l G pX0 yX0_element cX0_element 3 (some .int) ({ frames := (5 * n + 33), cells := 1, slots := 6, locals := (200 * n + 560) }) [.ref (a 4), .ref q] w (fun (v : Option Value) (u : va_W × (PK × (Nat → Nat → Int32) × Nat × Int32 × Int32 × Int32 × Int32)) => v = some (.int u.2.2.2.2.2.2.2) ∧ (BdE K u.2.1) ∧ (Bth B u.2.2.1) ∧ (u.2.2.2.1 ≤ 10000) ∧ (OKP G h0 a (upd (upd (upd (upd (upd (upd F 2 (nI sz)) 5 (nI u.2.2.2.1)) 12 (nI vr)) 13 u.2.2.2.2.1) 14 u.2.2.2.2.2.1) 15 u.2.2.2.2.2.2.1) (updR (updR R 2 (.ref pq)) 3 (.ref mq)) Z u.2.2.1 J u.2.1 u.1)) (fun u => u.1) (fun (u : va_W × (PK × (Nat → Nat → Int32) × Nat × Int32 × Int32 × Int32 × Int32)) => 0) (fun (u : va_W × (PK × (Nat → Nat → Int32) × Nat × Int32 × Int32 × Int32 × Int32)) => 0) (fun (u : va_W × (Nat → Int32) × (Nat → Value) × (Nat → Nat → Int32)) => ThQ G h0 a (upd (upd (upd F 2 (nI sz)) 5 (nI cs)) 12 (nI vr)) (updR (updR R 2 (.ref pq)) 3 (.ref mq)) Z B J u) (fun u => u.1) := by
  intro sz
  refine vx_ofW (cc := cX0_element) (maxL := 3) (ret := (some .int)) (by decide) rfl ?_
  intro p e s m args below meth c s₁ B9 hml hnt hv
  obtain ⟨rfl, hsz, hP, hD0, hE, hX⟩ := hv
  have hx := B9.exec
  have hb := B9.bytes
  have hr := B9.returns
  have hts := atoms_spec (ws := Cond.code yX0_element cX0_element 3 (some .int) :: pw) B9.pre
  have hq : ∀ w ∈ pw, w.before _ s = true := fun w h => hts w (List.mem_cons_of_mem _ h)
  have hown : s.vm.findClass RX0 = some m.cls := findClass_of_methodNamed B9.named
  have hlocks := B9.notSynchronized
  subst hsz
  have hD := hD0.self (sz := s.heap.size)
  have hA : ∀ q : Nat, s.heap.size ≤ q → va_A w s.heap.size q := fun q h => Or.inr h
  generalize va_A w s.heap.size = A at hD hE hA ⊢
  have hS : va_S A s.heap s.heap [] := va_S.rf
  have hl := lv_entry ([.ref (a 4), .ref q]) (n := 3) (Nat.le_of_ble_eq_true rfl)
  rw [lg_entry_eq]
  generalize (lg_sl ([.ref (a 4), .ref q]) ++ List.replicate (3 - (lg_sl ([.ref (a 4), .ref q])).length) Slot.unset).toArray = ls at hl ⊢
  have hl : lv_has ls 3 [(0, .ref (a 4)), (1, .ref q)] := hl
  have hpg := hps.1
  have hp1 := hpg.1
  have hp2 := hpg.2.1
  have hp3 := hpg.2.2.1
  have hp4 := hpg.2.2.2.1
  have hp5 := hpg.2.2.2.2.1
  have hp6 := hpg.2.2.2.2.2.1
  have hp8 := hpg.2.2.2.2.2.2.2.1
  have hp9 := hpg.2.2.2.2.2.2.2.2
  refine lv_aload_n hx hb dX0_element_0 rfl (lv_at hl 0 rfl) ?_
  refine lv_aload_n hx hb dX0_element_1 rfl (lv_at hl 1 rfl) ?_
  refine p_get (v := .ref q1) (C := RX7) (Tc := TX7) (N := 11) (ci := 13) hx hb hq pin_wsX70 hown hE hP hO (by rw [hqT]; decide) (rep_1 hqT) rfl 6 (by decide) (hq _ pw_180) (fun _ h9 => h9) (congrArg (fun z => some (va_rf z)) hc0) dX0_element_2 ?_
  refine lv_aload_n hx hb dX0_element_5 rfl (lv_at hl 0 rfl) ?_
  refine lv_aload_n hx hb dX0_element_6 rfl (lv_at hl 1 rfl) ?_
  refine p_get (v := .ref q1) (C := RX7) (Tc := TX7) (N := 11) (ci := 13) hx hb hq pin_wsX70 hown hE hP hO (by rw [hqT]; decide) (rep_1 hqT) rfl 6 (by decide) (hq _ pw_180) (fun _ h9 => h9) (congrArg (fun z => some (va_rf z)) hc0) dX0_element_7 ?_
  have hO : OKP G h0 a (upd (upd (upd (upd (upd (upd F 2 (nI sz)) 5 (nI cs)) 12 (nI vr)) 2 (nI sz)) 5 (nI cs)) 12 (nI vr)) (updR (updR (updR (updR R 2 (.ref pq)) 3 (.ref mq)) 2 (.ref pq)) 3 (.ref mq)) Z B J K w := hO.to rfl
  obtain ⟨_, qr4, hqr5⟩ := hO.2.1 24 _ (sg_24 G h0 a _ _ _ _ _)
  refine pn_V0 (G := G) (As := [.ref q1]) (rest := [.ref q1, .ref (a 4)]) hx hb hml hown hq hE hX pX0_al hP hD hS hA hl.1 ((ihv (by omega)) h0 a (upd (upd (upd F 2 (nI sz)) 5 (nI cs)) 12 (nI vr)) (updR (updR R 2 (.ref pq)) 3 (.ref mq)) Z B J K w pq dr ml nd nm cp it s9 q1 mq cs vr sz g rk (by omega) (BdE.wp BdE.rfl hwp) (BdE.pt BdE.rfl hwp hps) (BdE.rko BdE.rfl hrk) (by omega) (by omega) hng hmq ht0 ⟨hv0.1, (by have z9 := hv0; omega)⟩ hO hl0) (gV pw_173 pw_174 pw_175 pw_63 pw_224) hV_X0_value qr4 0 hqr5 rfl rfl rfl (Nat.le_of_ble_eq_true rfl) dX0_element_10 ⟨(by show 0 + 1 ≤ 1; omega), (by show 0 + 6 ≤ 6; omega)⟩ ⟨(by show (5 * (n - 1) + 34) + 1 ≤ (5 * n + 33); omega), (by show 8 + (3 + 11) + (200 * (n - 1) + 600) ≤ (200 * n + 560); omega)⟩ (fun v3 u1 H locs hw2 hP hD hS => ?_) (fun ux ce9 q9 H9 locs9 hux hP9 hD9 hS9 hce hcv hcl => pb_out ux (ThQ.up (Thx.same (Thx.same (Thx.same Thx.rfl rfl) rfl) rfl) (show RhX (updR (updR R 2 (.ref pq)) 3 (.ref mq)) (updR (updR (updR (updR R 2 (.ref pq)) 3 (.ref mq)) 2 (.ref pq)) 3 (.ref mq)) from fun k9 hk9 => by unfold updR; simp only [show ¬ k9 = 1 by omega, show ¬ k9 = 2 by omega, show ¬ k9 = 3 by omega, show ¬ k9 = 4 by omega, if_false]) hux) hnt hlocks hce hcv hcl hP9 hD9 hS9 (by show 0 + 1 ≤ 1; omega) (by show 0 + 6 ≤ 6; omega))
  obtain ⟨w, K6, B7, cs8, as9, wt10, wf11, r12⟩ := u1
  obtain ⟨hw2, h13, h14, h15, hO⟩ := hw2
  have h13 : BdE K K6 := h13
  have h14 : Bth B B7 := h14
  have h15 : cs8 ≤ 10000 := h15
  obtain rfl : v3 = some (.int r12) := hw2
  have hf16 : K6.1 pq = 7 := (BdE.T h13 hp1 (by decide))
  have hf17 : K6.2.2.1 18 pq = some (a 1) := (BdE.C h13 (by rw [hp1]; decide) 18).trans hp2
  have hf18 : K6.2.2.1 14 pq = some dr := (BdE.C h13 (by rw [hp1]; decide) 14).trans hp3
  have hf19 : K6.1 dr = 8 := (BdE.T h13 hp4 (by decide))
  have hf20 : K6.2.2.1 15 pq = some ml := (BdE.C h13 (by rw [hp1]; decide) 15).trans hp5
  have hf21 : K6.1 ml = 5 := (BdE.T h13 hp6 (by decide))
  have hf22 : K6.2.1 24 pq = (nI nd) := (BdE.I h13 (by rw [hp1]; decide) (by decide) (by decide)).trans hp8
  have hf23 : K6.1 q = 1 := (BdE.T h13 hqT (by decide))
  have hf24 : K6.1 mq = 3 := (BdE.T h13 hmq (by decide))
  have hf25 : K6.2.2.1 0 q = some q1 := (BdE.C h13 (by rw [hqT]; decide) 0).trans hc0
  have hf26 : K6.1 q1 = 1 := (BdE.T h13 ht0 (by decide))
  have hf27 : K6.2.2.1 1 q = some q2 := (BdE.C h13 (by rw [hqT]; decide) 1).trans hc1
  have hf28 : K6.1 q2 = 1 := (BdE.T h13 ht1 (by decide))
  have hO : OKP G h0 a (upd (upd (upd (upd (upd (upd F 2 (nI sz)) 5 (nI cs8)) 12 (nI vr)) 13 as9) 14 wt10) 15 wf11) (updR (updR R 2 (.ref pq)) 3 (.ref mq)) Z B7 J K6 w := hO.to rfl
  refine W.widen (k := 0) (n := 0) (by show 0 + 0 ≤ 0; omega) (by show 0 + 0 ≤ 0; omega) ?_
  refine W.eq (g2 := F0 m 13 ls [.int r12, .ref q1, .ref (a 4)]) rfl ?_
  have hbe29 := BdE.trans BdE.rfl h13
  have hbb30 : Bth B B7 := Bth.trans (show Thx (upd (upd (upd F 2 (nI sz)) 5 (nI cs)) 12 (nI vr)) (upd (upd (upd F 2 (nI sz)) 5 (nI cs)) 12 (nI vr)) B B from Thx.rfl).2 h14
  have hng31 : Nng (B7 18) := h14.2 hng
  have hO : OKP G h0 a (upd (upd (upd (upd (upd (upd (upd (upd F 2 (nI sz)) 5 (nI cs)) 12 (nI vr)) 5 (nI cs8)) 13 as9) 14 wt10) 15 wf11) 2 (nI sz)) (updR (updR R 2 (.ref pq)) 3 (.ref mq)) Z B7 J K6 w := hO.to rfl
  obtain ⟨_, qr35, hqr36⟩ := hO.2.1 24 _ (sg_24 G h0 a _ _ _ _ _)
  refine pn_V0 (G := G) (As := [.ref q1, .int r12]) (rest := []) hx hb hml hown hq hE hX pX0_al hP hD hS hA hl.1 (B_elementType l G h0 a (upd (upd (upd (upd (upd (upd (upd F 2 (nI sz)) 5 (nI cs)) 12 (nI vr)) 5 (nI cs8)) 13 as9) 14 wt10) 15 wf11) (updR (updR R 2 (.ref pq)) 3 (.ref mq)) Z B7 J K6 w q1 sz r12 (by omega) hf26 hO hl0) (gV pw_207 pw_208 pw_209 pw_63 pw_137) hV_X0_elementType qr35 0 hqr36 rfl rfl rfl (Nat.le_of_ble_eq_true rfl) dX0_element_13 ⟨(by show 0 + 1 ≤ 1; omega), (by show 0 + 6 ≤ 6; omega)⟩ ⟨(by show 7 + 1 ≤ (5 * n + 33); omega), (by show 8 + (3 + 11) + 122 ≤ (200 * n + 560); omega)⟩ (fun v34 u32 H locs hw33 hP hD hS => ?_) (fun ux ce9 q9 H9 locs9 hux hP9 hD9 hS9 hce hcv hcl => pb_out ux (ThQ.up (Thx.same (Thx.f (Thx.f (Thx.f (Thx.f (Bth.thx hbb30) (by omega)) (by omega)) (by omega)) (by omega)) rfl) RhX.rfl hux) hnt hlocks hce hcv hcl hP9 hD9 hS9 (by show 0 + 1 ≤ 1; omega) (by show 0 + 6 ≤ 6; omega))
  obtain ⟨w, r37⟩ := u32
  obtain ⟨hw33, hO⟩ := hw33
  obtain rfl : v34 = some (.int r37) := hw33
  have hO : OKP G h0 a (upd (upd (upd (upd (upd (upd F 2 (nI sz)) 5 (nI cs8)) 12 (nI vr)) 13 as9) 14 wt10) 15 wf11) (updR (updR R 2 (.ref pq)) 3 (.ref mq)) Z B7 J K6 w := hO.to rfl
  refine W.widen (k := 0) (n := 0) (by show 0 + 0 ≤ 0; omega) (by show 0 + 0 ≤ 0; omega) ?_
  refine W.eq (g2 := F0 m 16 ls [.int r37]) rfl ?_
  refine lv_istore_n (lv' := [(2, .int r37), (0, .ref (a 4)), (1, .ref q)]) hx hb dX0_element_16 rfl hl (by decide) rfl (fun ls hl => ?_)
  refine lv_aload_n hx hb dX0_element_17 rfl (lv_at hl 1 rfl) ?_
  refine lv_aload_n hx hb dX0_element_18 rfl (lv_at hl 2 rfl) ?_
  refine p_get (v := .ref q2) (C := RX7) (Tc := TX7) (N := 11) (ci := 13) hx hb hq pin_wsX70 hown hE hP hO (by rw [hf23]; decide) (rep_1 hf23) rfl 7 (by decide) (hq _ pw_169) (fun _ h9 => h9) (congrArg (fun z => some (va_rf z)) hf27) dX0_element_19 ?_
  refine lv_aload_n hx hb dX0_element_22 rfl (lv_at hl 1 rfl) ?_
  refine lv_aload_n hx hb dX0_element_23 rfl (lv_at hl 2 rfl) ?_
  refine p_get (v := .ref q2) (C := RX7) (Tc := TX7) (N := 11) (ci := 13) hx hb hq pin_wsX70 hown hE hP hO (by rw [hf23]; decide) (rep_1 hf23) rfl 7 (by decide) (hq _ pw_169) (fun _ h9 => h9) (congrArg (fun z => some (va_rf z)) hf27) dX0_element_24 ?_
  have hO : OKP G h0 a (upd (upd (upd (upd (upd (upd (upd (upd (upd (upd F 2 (nI sz)) 5 (nI cs)) 12 (nI vr)) 5 (nI cs8)) 13 as9) 14 wt10) 15 wf11) 2 (nI sz)) 5 (nI cs8)) 12 (nI vr)) (updR (updR (updR (updR R 2 (.ref pq)) 3 (.ref mq)) 2 (.ref pq)) 3 (.ref mq)) Z B7 J K6 w := hO.to rfl
  obtain ⟨_, qr41, hqr42⟩ := hO.2.1 24 _ (sg_24 G h0 a _ _ _ _ _)
  refine pn_V0 (G := G) (As := [.ref q2]) (rest := [.ref q2, .ref (a 4)]) hx hb hml hown hq hE hX pX0_al hP hD hS hA hl.1 ((ihv (by omega)) h0 a (upd (upd (upd (upd (upd (upd (upd F 2 (nI sz)) 5 (nI cs)) 12 (nI vr)) 5 (nI cs8)) 13 as9) 14 wt10) 15 wf11) (updR (updR R 2 (.ref pq)) 3 (.ref mq)) Z B7 J K6 w pq dr ml nd nm cp it s9 q2 mq cs8 vr sz g rk (by omega) (BdE.wp hbe29 hwp) (BdE.pt hbe29 hwp hps) (BdE.rko hbe29 hrk) (by omega) (by omega) hng31 hf24 hf28 ⟨hv1.1, (by have z9 := hv1; omega)⟩ hO hl0) (gV pw_173 pw_174 pw_175 pw_63 pw_224) hV_X0_value qr41 0 hqr42 rfl rfl rfl (Nat.le_of_ble_eq_true rfl) dX0_element_27 ⟨(by show 0 + 1 ≤ 1; omega), (by show 0 + 6 ≤ 6; omega)⟩ ⟨(by show (5 * (n - 1) + 34) + 1 ≤ (5 * n + 33); omega), (by show 8 + (3 + 11) + (200 * (n - 1) + 600) ≤ (200 * n + 560); omega)⟩ (fun v40 u38 H locs hw39 hP hD hS => ?_) (fun ux ce9 q9 H9 locs9 hux hP9 hD9 hS9 hce hcv hcl => pb_out ux (ThQ.up (Thx.same (Thx.same (Thx.same (Thx.f (Thx.f (Thx.f (Thx.f (Bth.thx hbb30) (by omega)) (by omega)) (by omega)) (by omega)) rfl) rfl) rfl) (show RhX (updR (updR R 2 (.ref pq)) 3 (.ref mq)) (updR (updR (updR (updR R 2 (.ref pq)) 3 (.ref mq)) 2 (.ref pq)) 3 (.ref mq)) from fun k9 hk9 => by unfold updR; simp only [show ¬ k9 = 1 by omega, show ¬ k9 = 2 by omega, show ¬ k9 = 3 by omega, show ¬ k9 = 4 by omega, if_false]) hux) hnt hlocks hce hcv hcl hP9 hD9 hS9 (by show 0 + 1 ≤ 1; omega) (by show 0 + 6 ≤ 6; omega))
  obtain ⟨w, K43, B44, cs45, as46, wt47, wf48, r49⟩ := u38
  obtain ⟨hw39, h50, h51, h52, hO⟩ := hw39
  have h50 : BdE K6 K43 := h50
  have h51 : Bth B7 B44 := h51
  have h52 : cs45 ≤ 10000 := h52
  obtain rfl : v40 = some (.int r49) := hw39
  have hf53 : K43.1 pq = 7 := (BdE.T h50 hf16 (by decide))
  have hf54 : K43.2.2.1 18 pq = some (a 1) := (BdE.C h50 (by rw [hf16]; decide) 18).trans hf17
  have hf55 : K43.2.2.1 14 pq = some dr := (BdE.C h50 (by rw [hf16]; decide) 14).trans hf18
  have hf56 : K43.1 dr = 8 := (BdE.T h50 hf19 (by decide))
  have hf57 : K43.2.2.1 15 pq = some ml := (BdE.C h50 (by rw [hf16]; decide) 15).trans hf20
  have hf58 : K43.1 ml = 5 := (BdE.T h50 hf21 (by decide))
  have hf59 : K43.2.1 24 pq = (nI nd) := (BdE.I h50 (by rw [hf16]; decide) (by decide) (by decide)).trans hf22
  have hf60 : K43.1 q = 1 := (BdE.T h50 hf23 (by decide))
  have hf61 : K43.1 mq = 3 := (BdE.T h50 hf24 (by decide))
  have hf62 : K43.2.2.1 0 q = some q1 := (BdE.C h50 (by rw [hf23]; decide) 0).trans hf25
  have hf63 : K43.1 q1 = 1 := (BdE.T h50 hf26 (by decide))
  have hf64 : K43.2.2.1 1 q = some q2 := (BdE.C h50 (by rw [hf23]; decide) 1).trans hf27
  have hf65 : K43.1 q2 = 1 := (BdE.T h50 hf28 (by decide))
  have hO : OKP G h0 a (upd (upd (upd (upd (upd (upd F 2 (nI sz)) 5 (nI cs45)) 12 (nI vr)) 13 as46) 14 wt47) 15 wf48) (updR (updR R 2 (.ref pq)) 3 (.ref mq)) Z B44 J K43 w := hO.to rfl
  refine W.widen (k := 0) (n := 0) (by show 0 + 0 ≤ 0; omega) (by show 0 + 0 ≤ 0; omega) ?_
  refine W.eq (g2 := F0 m 30 ls [.int r49, .ref q2, .ref (a 4)]) rfl ?_
  have hbe66 := BdE.trans hbe29 h50
  have hbb67 : Bth B B44 := Bth.trans (show Thx (upd (upd (upd F 2 (nI sz)) 5 (nI cs)) 12 (nI vr)) (upd (upd (upd (upd (upd (upd (upd F 2 (nI sz)) 5 (nI cs)) 12 (nI vr)) 5 (nI cs8)) 13 as9) 14 wt10) 15 wf11) B B7 from (Thx.f (Thx.f (Thx.f (Thx.f (Bth.thx hbb30) (by omega)) (by omega)) (by omega)) (by omega))).2 h51
  have hng68 : Nng (B44 18) := h51.2 hng31
  refine lv_bipush (v := 60) hx hb dX0_element_30 (by decide) ?_
  have hO : OKP G h0 a (upd (upd (upd (upd (upd (upd (upd (upd F 2 (nI sz)) 5 (nI cs)) 12 (nI vr)) 5 (nI cs45)) 13 as46) 14 wt47) 15 wf48) 2 (nI sz)) (updR (updR (updR R 2 (.ref pq)) 3 (.ref mq)) 2 (.ref pq)) Z B44 J K43 w := hO.to rfl
  obtain ⟨_, qr72, hqr73⟩ := hO.2.1 24 _ (sg_24 G h0 a _ _ _ _ _)
  refine pn_V0 (G := G) (As := [.ref q2, .int r49, .int 60]) (rest := []) hx hb hml hown hq hE hX pX0_al hP hD hS hA hl.1 (B_fit l G h0 a (upd (upd (upd (upd (upd (upd (upd F 2 (nI sz)) 5 (nI cs)) 12 (nI vr)) 5 (nI cs45)) 13 as46) 14 wt47) 15 wf48) (updR (updR R 2 (.ref pq)) 3 (.ref mq)) Z B44 J K43 w pq dr ml nd q2 sz r49 60 g (by omega) (BdE.pt hbe66 hwp hps).1 (BdE.pt hbe66 hwp hps).2.1 hf65 hO hl0) (gV pw_176 pw_177 pw_178 pw_63 pw_114) hV_X0_fit qr72 0 hqr73 rfl rfl rfl (Nat.le_of_ble_eq_true rfl) dX0_element_32 ⟨(by show 0 + 1 ≤ 1; omega), (by show 0 + 6 ≤ 6; omega)⟩ ⟨(by show 7 + 1 ≤ (5 * n + 33); omega), (by show 8 + (4 + 11) + 122 ≤ (200 * n + 560); omega)⟩ (fun v71 u69 H locs hw70 hP hD hS => ?_) (fun ux ce9 q9 H9 locs9 hux hP9 hD9 hS9 hce hcv hcl => pb_out ux (ThQ.up (Thx.same (Thx.f (Thx.f (Thx.f (Thx.f (Bth.thx hbb67) (by omega)) (by omega)) (by omega)) (by omega)) rfl) (show RhX (updR (updR R 2 (.ref pq)) 3 (.ref mq)) (updR (updR (updR R 2 (.ref pq)) 3 (.ref mq)) 2 (.ref pq)) from fun k9 hk9 => by unfold updR; simp only [show ¬ k9 = 1 by omega, show ¬ k9 = 2 by omega, show ¬ k9 = 3 by omega, show ¬ k9 = 4 by omega, if_false]) hux) hnt hlocks hce hcv hcl hP9 hD9 hS9 (by show 0 + 1 ≤ 1; omega) (by show 0 + 6 ≤ 6; omega))
  obtain ⟨w, _⟩ := u69
  obtain ⟨hw70, hO⟩ := hw70
  obtain rfl : v71 = none := hw70
  have hO : OKP G h0 a (upd (upd (upd (upd (upd (upd F 2 (nI sz)) 5 (nI cs45)) 12 (nI vr)) 13 as46) 14 wt47) 15 wf48) (updR (updR R 2 (.ref pq)) 3 (.ref mq)) Z B44 J K43 w := hO.to rfl
  refine W.widen (k := 0) (n := 0) (by show 0 + 0 ≤ 0; omega) (by show 0 + 0 ≤ 0; omega) ?_
  refine W.eq (g2 := F0 m 35 ls []) rfl ?_
  refine lv_iload_n hx hb dX0_element_35 rfl (lv_at hl 0 rfl) ?_
  refine W_size (fun hz1 hz2 => ?_)
  refine vx_ret ?_
  have hz74 : BdE K K43 := hbe66
  have hz75 : Bth B B44 := (show Thx (upd (upd (upd F 2 (nI sz)) 5 (nI cs)) 12 (nI vr)) (upd (upd (upd (upd (upd (upd (upd F 2 (nI sz)) 5 (nI cs)) 12 (nI vr)) 5 (nI cs45)) 13 as46) 14 wt47) 15 wf48) B B44 from (Thx.f (Thx.f (Thx.f (Thx.f (Bth.thx hbb67) (by omega)) (by omega)) (by omega)) (by omega))).2
  have hz76 : cs45 ≤ 10000 := (by omega)
  have hO : OKP G h0 a (upd (upd (upd (upd (upd (upd F 2 (nI sz)) 5 (nI cs45)) 12 (nI vr)) 13 as46) 14 wt47) 15 wf48) (updR (updR R 2 (.ref pq)) 3 (.ref mq)) Z B44 J K43 w := hO.to rfl
  refine W.widen (k := 1) (n := 6) (by omega) (by omega) ?_
  have hzz1 : H.size ≤ s.heap.size + (0) := (by have z : 0 ≤ 0 := (by omega); omega)
  have hzz2 : hSl H ≤ hSl s.heap + (0) := (by have z : 0 ≤ 0 := (by omega); omega)
  exact W.iret (v := r37) hx hb hr (fun t99 ht99 hW99 => ⟨⟨_, (w, (K43, B44, cs45, as46, wt47, wf48, r37)), rfl, ⟨rfl, hz74, hz75, hz76, hO⟩, by rw [ht99]; exact hP, hD, by rw [ht99]; exact hzz1, by rw [ht99]; exact hzz2⟩, hS.F ht99⟩) hS.2.2 dX0_element_36
theorem dX0_newArray_0 : decode cX0_newArray 0 = .ok (.aload_n 0, 1) := by decide +kernel
theorem dX0_newArray_1 : decode cX0_newArray 1 = .ok (.aload_n 1, 1) := by decide +kernel
theorem dX0_newArray_2 : decode cX0_newArray 2 = .ok (.getfield 165, 3) := by decide +kernel
theorem dX0_newArray_5 : decode cX0_newArray 5 = .ok (.aload_n 0, 1) := by decide +kernel
theorem dX0_newArray_6 : decode cX0_newArray 6 = .ok (.aload_n 1, 1) := by decide +kernel
theorem dX0_newArray_7 : decode cX0_newArray 7 = .ok (.getfield 165, 3) := by decide +kernel
theorem dX0_newArray_10 : decode cX0_newArray 10 = .ok (.invokevirtual 209, 3) := by decide +kernel
theorem dX0_newArray_13 : decode cX0_newArray 13 = .ok (.bipush 60, 2) := by decide +kernel
theorem dX0_newArray_15 : decode cX0_newArray 15 = .ok (.invokevirtual 213, 3) := by decide +kernel
theorem dX0_newArray_18 : decode cX0_newArray 18 = .ok (.bipush 64, 2) := by decide +kernel
theorem dX0_newArray_20 : decode cX0_newArray 20 = .ok (.aload_n 0, 1) := by decide +kernel
theorem dX0_newArray_21 : decode cX0_newArray 21 = .ok (.getfield 9, 3) := by decide +kernel
theorem dX0_newArray_24 : decode cX0_newArray 24 = .ok (.aload_n 1, 1) := by decide +kernel
theorem dX0_newArray_25 : decode cX0_newArray 25 = .ok (.getfield 114, 3) := by decide +kernel
theorem dX0_newArray_28 : decode cX0_newArray 28 = .ok (.invokevirtual 120, 3) := by decide +kernel
theorem dX0_newArray_31 : decode cX0_newArray 31 = .ok (.iadd, 1) := by decide +kernel
theorem dX0_newArray_32 : decode cX0_newArray 32 = .ok (.istore_n 2, 1) := by decide +kernel
theorem dX0_newArray_33 : decode cX0_newArray 33 = .ok (.aload_n 0, 1) := by decide +kernel
theorem dX0_newArray_34 : decode cX0_newArray 34 = .ok (.bipush 22, 2) := by decide +kernel
theorem dX0_newArray_36 : decode cX0_newArray 36 = .ok (.iload_n 2, 1) := by decide +kernel
theorem dX0_newArray_37 : decode cX0_newArray 37 = .ok (.iload_n 2, 1) := by decide +kernel
theorem dX0_newArray_38 : decode cX0_newArray 38 = .ok (.invokevirtual 344, 3) := by decide +kernel
theorem dX0_newArray_41 : decode cX0_newArray 41 = .ok (.ireturn, 1) := by decide +kernel
set_option maxHeartbeats 16000000 in
set_option maxRecDepth 100000 in
theorem B_newArray (l : Launch) (G : pT) (h0 : Nat) (a : Nat → Nat) (F : Nat → Int32) (R : Nat → Value) (Z : Int64) (B : Nat → Nat → Int32) (J : Nat → Nat → Int64) (K : PK) (w : va_W) (pq : Nat) (dr : Nat) (ml : Nat) (nd : Nat) (nm : Nat) (cp : Nat) (it : Nat → Nat) (s9 : Nat) (q : Nat) (mq : Nat) (cs : Nat) (vr : Nat) (sz : Nat) (n : Nat) (q1 : Nat) (g : Nat → Nat → Nat) (rk : Nat → Nat) (hsz : sz ≤ 5000) (hwp : WPr G K g) (hps : PgT G K g (a 1) pq dr ml nd nm cp it s9) (hrk : RkO K rk) (hcs : cs ≤ 10000) (hvr : vr ≤ 30) (hng : Nng (B 18)) (hmq : K.1 mq = 3) (hqT : K.1 q = 1) (hqL : 1 ≤ g 0 q ∧ g 0 q ≤ n) (hc0 : K.2.2.1 0 q = some q1) (ht0 : K.1 q1 = 1) (hv0 : 1 ≤ g 0 q1 ∧ g 0 q1 + 1 ≤ n) (ihv : IhV l G n) (hO : OKP G h0 a (upd (upd (upd F 2 (nI sz)) 5 (nI cs)) 12 (nI vr)) (updR (updR R 2 (.ref pq)) 3 (.ref mq)) Z B J K w) (hl0 : l.stackTraces = false) : PBn l G pX0 yX0_newArray cX0_newArray 3 (some .int) ({ frames := (5 * n + 33), cells := 1, slots := 6, locals := (200 * n + 560) }) [.ref (a 4), .ref q] w (fun (v : Option Value) (u : va_W × (PK × (Nat → Nat → Int32) × Nat × Int32 × Int32 × Int32 × Int32)) => v = some (.int u.2.2.2.2.2.2.2) ∧ (BdE K u.2.1) ∧ (Bth B u.2.2.1) ∧ (u.2.2.2.1 ≤ 10000) ∧ (OKP G h0 a (upd (upd (upd (upd (upd (upd F 2 (nI sz)) 5 (nI u.2.2.2.1)) 12 (nI vr)) 13 u.2.2.2.2.1) 14 u.2.2.2.2.2.1) 15 u.2.2.2.2.2.2.1) (updR (updR R 2 (.ref pq)) 3 (.ref mq)) Z u.2.2.1 J u.2.1 u.1)) (fun u => u.1) (fun (u : va_W × (PK × (Nat → Nat → Int32) × Nat × Int32 × Int32 × Int32 × Int32)) => 0) (fun (u : va_W × (PK × (Nat → Nat → Int32) × Nat × Int32 × Int32 × Int32 × Int32)) => 0) (fun (u : va_W × (Nat → Int32) × (Nat → Value) × (Nat → Nat → Int32)) => ThQ G h0 a (upd (upd (upd F 2 (nI sz)) 5 (nI cs)) 12 (nI vr)) (updR (updR R 2 (.ref pq)) 3 (.ref mq)) Z B J u) (fun u => u.1) := by
  intro sz
  refine vx_ofW (cc := cX0_newArray) (maxL := 3) (ret := (some .int)) (by decide) rfl ?_
  intro p e s m args below meth c s₁ B9 hml hnt hv
  obtain ⟨rfl, hsz, hP, hD0, hE, hX⟩ := hv
  have hx := B9.exec
  have hb := B9.bytes
  have hr := B9.returns
  have hts := atoms_spec (ws := Cond.code yX0_newArray cX0_newArray 3 (some .int) :: pw) B9.pre
  have hq : ∀ w ∈ pw, w.before _ s = true := fun w h => hts w (List.mem_cons_of_mem _ h)
  have hown : s.vm.findClass RX0 = some m.cls := findClass_of_methodNamed B9.named
  have hlocks := B9.notSynchronized
  subst hsz
  have hD := hD0.self (sz := s.heap.size)
  have hA : ∀ q : Nat, s.heap.size ≤ q → va_A w s.heap.size q := fun q h => Or.inr h
  generalize va_A w s.heap.size = A at hD hE hA ⊢
  have hS : va_S A s.heap s.heap [] := va_S.rf
  have hl := lv_entry ([.ref (a 4), .ref q]) (n := 3) (Nat.le_of_ble_eq_true rfl)
  rw [lg_entry_eq]
  generalize (lg_sl ([.ref (a 4), .ref q]) ++ List.replicate (3 - (lg_sl ([.ref (a 4), .ref q])).length) Slot.unset).toArray = ls at hl ⊢
  have hl : lv_has ls 3 [(0, .ref (a 4)), (1, .ref q)] := hl
  have hpg := hps.1
  have hp1 := hpg.1
  have hp2 := hpg.2.1
  have hp3 := hpg.2.2.1
  have hp4 := hpg.2.2.2.1
  have hp5 := hpg.2.2.2.2.1
  have hp6 := hpg.2.2.2.2.2.1
  have hp8 := hpg.2.2.2.2.2.2.2.1
  have hp9 := hpg.2.2.2.2.2.2.2.2
  refine lv_aload_n hx hb dX0_newArray_0 rfl (lv_at hl 0 rfl) ?_
  refine lv_aload_n hx hb dX0_newArray_1 rfl (lv_at hl 1 rfl) ?_
  refine p_get (v := .ref q1) (C := RX7) (Tc := TX7) (N := 11) (ci := 13) hx hb hq pin_wsX70 hown hE hP hO (by rw [hqT]; decide) (rep_1 hqT) rfl 6 (by decide) (hq _ pw_180) (fun _ h9 => h9) (congrArg (fun z => some (va_rf z)) hc0) dX0_newArray_2 ?_
  refine lv_aload_n hx hb dX0_newArray_5 rfl (lv_at hl 0 rfl) ?_
  refine lv_aload_n hx hb dX0_newArray_6 rfl (lv_at hl 1 rfl) ?_
  refine p_get (v := .ref q1) (C := RX7) (Tc := TX7) (N := 11) (ci := 13) hx hb hq pin_wsX70 hown hE hP hO (by rw [hqT]; decide) (rep_1 hqT) rfl 6 (by decide) (hq _ pw_180) (fun _ h9 => h9) (congrArg (fun z => some (va_rf z)) hc0) dX0_newArray_7 ?_
  have hO : OKP G h0 a (upd (upd (upd (upd (upd (upd F 2 (nI sz)) 5 (nI cs)) 12 (nI vr)) 2 (nI sz)) 5 (nI cs)) 12 (nI vr)) (updR (updR (updR (updR R 2 (.ref pq)) 3 (.ref mq)) 2 (.ref pq)) 3 (.ref mq)) Z B J K w := hO.to rfl
  obtain ⟨_, qr4, hqr5⟩ := hO.2.1 24 _ (sg_24 G h0 a _ _ _ _ _)
  refine pn_V0 (G := G) (As := [.ref q1]) (rest := [.ref q1, .ref (a 4)]) hx hb hml hown hq hE hX pX0_al hP hD hS hA hl.1 ((ihv (by omega)) h0 a (upd (upd (upd F 2 (nI sz)) 5 (nI cs)) 12 (nI vr)) (updR (updR R 2 (.ref pq)) 3 (.ref mq)) Z B J K w pq dr ml nd nm cp it s9 q1 mq cs vr sz g rk (by omega) (BdE.wp BdE.rfl hwp) (BdE.pt BdE.rfl hwp hps) (BdE.rko BdE.rfl hrk) (by omega) (by omega) hng hmq ht0 ⟨hv0.1, (by have z9 := hv0; omega)⟩ hO hl0) (gV pw_173 pw_174 pw_175 pw_63 pw_224) hV_X0_value qr4 0 hqr5 rfl rfl rfl (Nat.le_of_ble_eq_true rfl) dX0_newArray_10 ⟨(by show 0 + 1 ≤ 1; omega), (by show 0 + 6 ≤ 6; omega)⟩ ⟨(by show (5 * (n - 1) + 34) + 1 ≤ (5 * n + 33); omega), (by show 8 + (3 + 11) + (200 * (n - 1) + 600) ≤ (200 * n + 560); omega)⟩ (fun v3 u1 H locs hw2 hP hD hS => ?_) (fun ux ce9 q9 H9 locs9 hux hP9 hD9 hS9 hce hcv hcl => pb_out ux (ThQ.up (Thx.same (Thx.same (Thx.same Thx.rfl rfl) rfl) rfl) (show RhX (updR (updR R 2 (.ref pq)) 3 (.ref mq)) (updR (updR (updR (updR R 2 (.ref pq)) 3 (.ref mq)) 2 (.ref pq)) 3 (.ref mq)) from fun k9 hk9 => by unfold updR; simp only [show ¬ k9 = 1 by omega, show ¬ k9 = 2 by omega, show ¬ k9 = 3 by omega, show ¬ k9 = 4 by omega, if_false]) hux) hnt hlocks hce hcv hcl hP9 hD9 hS9 (by show 0 + 1 ≤ 1; omega) (by show 0 + 6 ≤ 6; omega))
  obtain ⟨w, K6, B7, cs8, as9, wt10, wf11, r12⟩ := u1
  obtain ⟨hw2, h13, h14, h15, hO⟩ := hw2
  have h13 : BdE K K6 := h13
  have h14 : Bth B B7 := h14
  have h15 : cs8 ≤ 10000 := h15
  obtain rfl : v3 = some (.int r12) := hw2
  have hf16 : K6.1 pq = 7 := (BdE.T h13 hp1 (by decide))
  have hf17 : K6.2.2.1 18 pq = some (a 1) := (BdE.C h13 (by rw [hp1]; decide) 18).trans hp2
  have hf18 : K6.2.2.1 14 pq = some dr := (BdE.C h13 (by rw [hp1]; decide) 14).trans hp3
  have hf19 : K6.1 dr = 8 := (BdE.T h13 hp4 (by decide))
  have hf20 : K6.2.2.1 15 pq = some ml := (BdE.C h13 (by rw [hp1]; decide) 15).trans hp5
  have hf21 : K6.1 ml = 5 := (BdE.T h13 hp6 (by decide))
  have hf22 : K6.2.1 24 pq = (nI nd) := (BdE.I h13 (by rw [hp1]; decide) (by decide) (by decide)).trans hp8
  have hf23 : K6.1 q = 1 := (BdE.T h13 hqT (by decide))
  have hf24 : K6.1 mq = 3 := (BdE.T h13 hmq (by decide))
  have hf25 : K6.2.2.1 0 q = some q1 := (BdE.C h13 (by rw [hqT]; decide) 0).trans hc0
  have hf26 : K6.1 q1 = 1 := (BdE.T h13 ht0 (by decide))
  have hO : OKP G h0 a (upd (upd (upd (upd (upd (upd F 2 (nI sz)) 5 (nI cs8)) 12 (nI vr)) 13 as9) 14 wt10) 15 wf11) (updR (updR R 2 (.ref pq)) 3 (.ref mq)) Z B7 J K6 w := hO.to rfl
  refine W.widen (k := 0) (n := 0) (by show 0 + 0 ≤ 0; omega) (by show 0 + 0 ≤ 0; omega) ?_
  refine W.eq (g2 := F0 m 13 ls [.int r12, .ref q1, .ref (a 4)]) rfl ?_
  have hbe27 := BdE.trans BdE.rfl h13
  have hbb28 : Bth B B7 := Bth.trans (show Thx (upd (upd (upd F 2 (nI sz)) 5 (nI cs)) 12 (nI vr)) (upd (upd (upd F 2 (nI sz)) 5 (nI cs)) 12 (nI vr)) B B from Thx.rfl).2 h14
  have hng29 : Nng (B7 18) := h14.2 hng
  refine lv_bipush (v := 60) hx hb dX0_newArray_13 (by decide) ?_
  have hO : OKP G h0 a (upd (upd (upd (upd (upd (upd (upd (upd F 2 (nI sz)) 5 (nI cs)) 12 (nI vr)) 5 (nI cs8)) 13 as9) 14 wt10) 15 wf11) 2 (nI sz)) (updR (updR (updR R 2 (.ref pq)) 3 (.ref mq)) 2 (.ref pq)) Z B7 J K6 w := hO.to rfl
  obtain ⟨_, qr33, hqr34⟩ := hO.2.1 24 _ (sg_24 G h0 a _ _ _ _ _)
  refine pn_V0 (G := G) (As := [.ref q1, .int r12, .int 60]) (rest := []) hx hb hml hown hq hE hX pX0_al hP hD hS hA hl.1 (B_fit l G h0 a (upd (upd (upd (upd (upd (upd (upd F 2 (nI sz)) 5 (nI cs)) 12 (nI vr)) 5 (nI cs8)) 13 as9) 14 wt10) 15 wf11) (updR (updR R 2 (.ref pq)) 3 (.ref mq)) Z B7 J K6 w pq dr ml nd q1 sz r12 60 g (by omega) (BdE.pt hbe27 hwp hps).1 (BdE.pt hbe27 hwp hps).2.1 hf26 hO hl0) (gV pw_176 pw_177 pw_178 pw_63 pw_114) hV_X0_fit qr33 0 hqr34 rfl rfl rfl (Nat.le_of_ble_eq_true rfl) dX0_newArray_15 ⟨(by show 0 + 1 ≤ 1; omega), (by show 0 + 6 ≤ 6; omega)⟩ ⟨(by show 7 + 1 ≤ (5 * n + 33); omega), (by show 8 + (4 + 11) + 122 ≤ (200 * n + 560); omega)⟩ (fun v32 u30 H locs hw31 hP hD hS => ?_) (fun ux ce9 q9 H9 locs9 hux hP9 hD9 hS9 hce hcv hcl => pb_out ux (ThQ.up (Thx.same (Thx.f (Thx.f (Thx.f (Thx.f (Bth.thx hbb28) (by omega)) (by omega)) (by omega)) (by omega)) rfl) (show RhX (updR (updR R 2 (.ref pq)) 3 (.ref mq)) (updR (updR (updR R 2 (.ref pq)) 3 (.ref mq)) 2 (.ref pq)) from fun k9 hk9 => by unfold updR; simp only [show ¬ k9 = 1 by omega, show ¬ k9 = 2 by omega, show ¬ k9 = 3 by omega, show ¬ k9 = 4 by omega, if_false]) hux) hnt hlocks hce hcv hcl hP9 hD9 hS9 (by show 0 + 1 ≤ 1; omega) (by show 0 + 6 ≤ 6; omega))
  obtain ⟨w, _⟩ := u30
  obtain ⟨hw31, hO⟩ := hw31
  obtain rfl : v32 = none := hw31
  have hO : OKP G h0 a (upd (upd (upd (upd (upd (upd F 2 (nI sz)) 5 (nI cs8)) 12 (nI vr)) 13 as9) 14 wt10) 15 wf11) (updR (updR R 2 (.ref pq)) 3 (.ref mq)) Z B7 J K6 w := hO.to rfl
  refine W.widen (k := 0) (n := 0) (by show 0 + 0 ≤ 0; omega) (by show 0 + 0 ≤ 0; omega) ?_
  refine W.eq (g2 := F0 m 18 ls []) rfl ?_
  refine lv_bipush (v := 64) hx hb dX0_newArray_18 (by decide) ?_
  refine lv_aload_n hx hb dX0_newArray_20 rfl (lv_at hl 0 rfl) ?_
  refine c_get (v := .ref (a 1)) (C := RX0) (Tc := TX0) (N := 13) (ci := 0) hx hb hq pin_wsX00 hown hE hP hO 24 (sg_24 G h0 a _ _ _ _ _) rfl 0 (by decide) (hq _ pw_4) (fun _ h9 => h9) rfl dX0_newArray_21 ?_
  refine lv_aload_n hx hb dX0_newArray_24 rfl (lv_at hl 1 rfl) ?_
  refine p_get (v := .int (K6.2.1 1 q)) (C := RX7) (Tc := TX7) (N := 11) (ci := 13) hx hb hq pin_wsX70 hown hE hP hO (by rw [hf23]; decide) (rep_1 hf23) rfl 1 (by decide) (hq _ pw_81) (fun _ h9 => h9) rfl dX0_newArray_25 ?_
  have hO : OKW G h0 a (upd (upd (upd (upd (upd (upd (upd F 2 (nI sz)) 5 (nI cs8)) 12 (nI vr)) 13 as9) 14 wt10) 15 wf11) 2 (nI sz)) (updR (updR R 2 (.ref pq)) 3 (.ref mq)) Z B7 J K6.1 (fun q99 x99 => x99 = rep G a K6 q99) w := hO.to rfl
  obtain ⟨_, qr38, hqr39⟩ := hO.2.1 2 _ (sg_2 G h0 a _ _ _ _ _)
  refine pc_V0 (G := G) (As := [.int (K6.2.1 1 q)]) (rest := [.int 64]) hx hb hml hown hq hE hX pX0_al hP hD hS hA hl.1 (K_typeAt l G h0 a (upd (upd (upd (upd (upd (upd F 2 (nI sz)) 5 (nI cs8)) 12 (nI vr)) 13 as9) 14 wt10) 15 wf11) (updR (updR R 2 (.ref pq)) 3 (.ref mq)) Z B7 J K6.1 (fun q99 x99 => x99 = rep G a K6 q99) w (K6.2.1 1 q) sz (by omega) hO) (gV pw_92 pw_93 pw_94 pw_59 pw_36) hV_X10_typeAt qr38 7 hqr39 rfl rfl rfl (Nat.le_of_ble_eq_true rfl) dX0_newArray_28 ⟨(by show 0 + 0 ≤ 1; omega), (by show 0 + 0 ≤ 6; omega)⟩ ⟨(by show 2 + 1 ≤ (5 * n + 33); omega), (by show 8 + (2 + 11) + 60 ≤ (200 * n + 560); omega)⟩ (fun v37 u35 H locs hw36 hP hD hS => ?_)
  obtain ⟨w, r40⟩ := u35
  obtain ⟨hw36, hO⟩ := hw36
  obtain rfl : v37 = some (.int r40) := hw36
  have hO : OKP G h0 a (upd (upd (upd (upd (upd (upd F 2 (nI sz)) 5 (nI cs8)) 12 (nI vr)) 13 as9) 14 wt10) 15 wf11) (updR (updR R 2 (.ref pq)) 3 (.ref mq)) Z B7 J K6 w := hO.to rfl
  refine W.widen (k := 0) (n := 0) (Nat.le_of_ble_eq_true rfl) (Nat.le_of_ble_eq_true rfl) ?_
  refine W.eq (g2 := F0 m 31 ls [.int r40, .int 64]) rfl ?_
  refine lv_iadd hx hb dX0_newArray_31 ?_
  refine lv_topi (fun x41 e42 => ?_)
  refine lv_istore_n (lv' := [(2, .int x41), (0, .ref (a 4)), (1, .ref q)]) hx hb dX0_newArray_32 rfl hl (by decide) rfl (fun ls hl => ?_)
  refine lv_aload_n hx hb dX0_newArray_33 rfl (lv_at hl 1 rfl) ?_
  refine lv_bipush (v := 22) hx hb dX0_newArray_34 (by decide) ?_
  refine lv_iload_n hx hb dX0_newArray_36 rfl (lv_at hl 0 rfl) ?_
  refine lv_iload_n hx hb dX0_newArray_37 rfl (lv_at hl 0 rfl) ?_
  have hO : OKW G h0 a (upd (upd (upd (upd (upd (upd (upd F 2 (nI sz)) 5 (nI cs8)) 12 (nI vr)) 13 as9) 14 wt10) 15 wf11) 5 (nI cs8)) (updR (updR R 2 (.ref pq)) 3 (.ref mq)) Z B7 J K6.1 (fun q99 x99 => x99 = rep G a K6 q99) w := hO.to rfl
  obtain ⟨_, qr46, hqr47⟩ := hO.2.1 24 _ (sg_24 G h0 a _ _ _ _ _)
  refine pc_V0 (G := G) (As := [.int 22, .int x41, .int x41]) (rest := []) hx hb hml hown hq hE hX pX0_al hP hD hS hA hl.1 (B_give l G h0 a (upd (upd (upd (upd (upd (upd F 2 (nI sz)) 5 (nI cs8)) 12 (nI vr)) 13 as9) 14 wt10) 15 wf11) (updR (updR R 2 (.ref pq)) 3 (.ref mq)) Z B7 J K6.1 (fun q99 x99 => x99 = rep G a K6 q99) w 22 x41 x41 cs8 (by omega) hng29 hO) (gV pw_158 pw_159 pw_160 pw_63 pw_128) hV_X0_give qr46 0 hqr47 rfl rfl rfl (Nat.le_of_ble_eq_true rfl) dX0_newArray_38 ⟨(by show 0 + 0 ≤ 1; omega), (by show 0 + 0 ≤ 6; omega)⟩ ⟨(by show 3 + 1 ≤ (5 * n + 33); omega), (by show 8 + (4 + 11) + 83 ≤ (200 * n + 560); omega)⟩ (fun v45 u43 H locs hw44 hP hD hS => ?_)
  obtain ⟨w, cs48, f49, f50, f51, f52⟩ := u43
  obtain ⟨hw44, h53, h54, hO⟩ := hw44
  have h53 : cs8 ≤ cs48 ∧ cs48 ≤ cs8 + 1 ∧ cs48 ≤ 10000 := h53
  have h54 : Nng f51 := h54
  obtain rfl : v45 = some (.int x41) := hw44
  have hO : OKP G h0 a (upd (upd (upd (upd (upd (upd F 2 (nI sz)) 5 (nI cs48)) 12 (nI vr)) 13 as9) 14 wt10) 15 wf11) (updR (updR R 2 (.ref pq)) 3 (.ref mq)) Z (updA (updA (updA (updA B7 16 f49) 17 f50) 18 f51) 19 f52) J K6 w := hO.to rfl
  refine W.widen (k := 0) (n := 0) (Nat.le_of_ble_eq_true rfl) (Nat.le_of_ble_eq_true rfl) ?_
  refine W.eq (g2 := F0 m 41 ls [.int x41]) rfl ?_
  refine W_size (fun hz1 hz2 => ?_)
  refine vx_ret ?_
  have hz55 : BdE K K6 := hbe27
  have hz56 : Bth B (updA (updA (updA (updA B7 16 f49) 17 f50) 18 f51) 19 f52) := (show Thx (upd (upd (upd F 2 (nI sz)) 5 (nI cs)) 12 (nI vr)) (upd (upd (upd (upd (upd (upd (upd F 2 (nI sz)) 5 (nI cs)) 12 (nI vr)) 5 (nI cs48)) 13 as9) 14 wt10) 15 wf11) B (updA (updA (updA (updA B7 16 f49) 17 f50) 18 f51) 19 f52) from (Thx.b (Thx.b8 (Thx.b (Thx.b (Thx.f (Thx.f (Thx.f (Thx.f (Bth.thx hbb28) (by omega)) (by omega)) (by omega)) (by omega)) (by omega) (by decide)) (by omega) (by decide)) h54) (by omega) (by decide))).2
  have hz57 : cs48 ≤ 10000 := (by omega)
  have hO : OKP G h0 a (upd (upd (upd (upd (upd (upd F 2 (nI sz)) 5 (nI cs48)) 12 (nI vr)) 13 as9) 14 wt10) 15 wf11) (updR (updR R 2 (.ref pq)) 3 (.ref mq)) Z (updA (updA (updA (updA B7 16 f49) 17 f50) 18 f51) 19 f52) J K6 w := hO.to rfl
  refine W.widen (k := 1) (n := 6) (by omega) (by omega) ?_
  have hzz1 : H.size ≤ s.heap.size + (0) := (by have z : 0 ≤ 0 := (by omega); omega)
  have hzz2 : hSl H ≤ hSl s.heap + (0) := (by have z : 0 ≤ 0 := (by omega); omega)
  exact W.iret (v := x41) hx hb hr (fun t99 ht99 hW99 => ⟨⟨_, (w, (K6, (updA (updA (updA (updA B7 16 f49) 17 f50) 18 f51) 19 f52), cs48, as9, wt10, wf11, x41)), rfl, ⟨rfl, hz55, hz56, hz57, hO⟩, by rw [ht99]; exact hP, hD, by rw [ht99]; exact hzz1, by rw [ht99]; exact hzz2⟩, hS.F ht99⟩) hS.2.2 dX0_newArray_41
