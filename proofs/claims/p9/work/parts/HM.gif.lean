theorem dX0_ifStatement_0 : decode cX0_ifStatement 0 = .ok (.aload_n 0, 1) := by decide +kernel
theorem dX0_ifStatement_1 : decode cX0_ifStatement 1 = .ok (.aload_n 1, 1) := by decide +kernel
theorem dX0_ifStatement_2 : decode cX0_ifStatement 2 = .ok (.getfield 165, 3) := by decide +kernel
theorem dX0_ifStatement_5 : decode cX0_ifStatement 5 = .ok (.aload_n 0, 1) := by decide +kernel
theorem dX0_ifStatement_6 : decode cX0_ifStatement 6 = .ok (.aload_n 1, 1) := by decide +kernel
theorem dX0_ifStatement_7 : decode cX0_ifStatement 7 = .ok (.getfield 165, 3) := by decide +kernel
theorem dX0_ifStatement_10 : decode cX0_ifStatement 10 = .ok (.invokevirtual 209, 3) := by decide +kernel
theorem dX0_ifStatement_13 : decode cX0_ifStatement 13 = .ok (.bipush 61, 2) := by decide +kernel
theorem dX0_ifStatement_15 : decode cX0_ifStatement 15 = .ok (.invokevirtual 213, 3) := by decide +kernel
theorem dX0_ifStatement_18 : decode cX0_ifStatement 18 = .ok (.aload_n 0, 1) := by decide +kernel
theorem dX0_ifStatement_19 : decode cX0_ifStatement 19 = .ok (.getfield 237, 3) := by decide +kernel
theorem dX0_ifStatement_22 : decode cX0_ifStatement 22 = .ok (.istore_n 2, 1) := by decide +kernel
theorem dX0_ifStatement_23 : decode cX0_ifStatement 23 = .ok (.aload_n 0, 1) := by decide +kernel
theorem dX0_ifStatement_24 : decode cX0_ifStatement 24 = .ok (.aload_n 0, 1) := by decide +kernel
theorem dX0_ifStatement_25 : decode cX0_ifStatement 25 = .ok (.getfield 240, 3) := by decide +kernel
theorem dX0_ifStatement_28 : decode cX0_ifStatement 28 = .ok (.putfield 94, 3) := by decide +kernel
theorem dX0_ifStatement_31 : decode cX0_ifStatement 31 = .ok (.aload_n 0, 1) := by decide +kernel
theorem dX0_ifStatement_32 : decode cX0_ifStatement 32 = .ok (.getfield 15, 3) := by decide +kernel
theorem dX0_ifStatement_35 : decode cX0_ifStatement 35 = .ok (.bipush 7, 2) := by decide +kernel
theorem dX0_ifStatement_37 : decode cX0_ifStatement 37 = .ok (.iconst (-1), 1) := by decide +kernel
theorem dX0_ifStatement_38 : decode cX0_ifStatement 38 = .ok (.iconst 0, 1) := by decide +kernel
theorem dX0_ifStatement_39 : decode cX0_ifStatement 39 = .ok (.invokevirtual 243, 3) := by decide +kernel
theorem dX0_ifStatement_42 : decode cX0_ifStatement 42 = .ok (.istore_n 3, 1) := by decide +kernel
theorem dX0_ifStatement_43 : decode cX0_ifStatement 43 = .ok (.aload_n 0, 1) := by decide +kernel
theorem dX0_ifStatement_44 : decode cX0_ifStatement 44 = .ok (.aload_n 1, 1) := by decide +kernel
theorem dX0_ifStatement_45 : decode cX0_ifStatement 45 = .ok (.getfield 202, 3) := by decide +kernel
theorem dX0_ifStatement_48 : decode cX0_ifStatement 48 = .ok (.iconst 1, 1) := by decide +kernel
theorem dX0_ifStatement_49 : decode cX0_ifStatement 49 = .ok (.invokevirtual 168, 3) := by decide +kernel
theorem dX0_ifStatement_52 : decode cX0_ifStatement 52 = .ok (.aload_n 1, 1) := by decide +kernel
theorem dX0_ifStatement_53 : decode cX0_ifStatement 53 = .ok (.getfield 247, 3) := by decide +kernel
theorem dX0_ifStatement_56 : decode cX0_ifStatement 56 = .ok (.ifnonnull 22, 3) := by decide +kernel
theorem dX0_ifStatement_59 : decode cX0_ifStatement 59 = .ok (.aload_n 0, 1) := by decide +kernel
theorem dX0_ifStatement_60 : decode cX0_ifStatement 60 = .ok (.getfield 15, 3) := by decide +kernel
theorem dX0_ifStatement_63 : decode cX0_ifStatement 63 = .ok (.iload_n 3, 1) := by decide +kernel
theorem dX0_ifStatement_64 : decode cX0_ifStatement 64 = .ok (.invokevirtual 250, 3) := by decide +kernel
theorem dX0_ifStatement_67 : decode cX0_ifStatement 67 = .ok (.aload_n 0, 1) := by decide +kernel
theorem dX0_ifStatement_68 : decode cX0_ifStatement 68 = .ok (.dup, 1) := by decide +kernel
theorem dX0_ifStatement_69 : decode cX0_ifStatement 69 = .ok (.getfield 94, 3) := by decide +kernel
theorem dX0_ifStatement_72 : decode cX0_ifStatement 72 = .ok (.iload_n 2, 1) := by decide +kernel
theorem dX0_ifStatement_73 : decode cX0_ifStatement 73 = .ok (.iand, 1) := by decide +kernel
theorem dX0_ifStatement_74 : decode cX0_ifStatement 74 = .ok (.putfield 94, 3) := by decide +kernel
theorem dX0_ifStatement_77 : decode cX0_ifStatement 77 = .ok (.return_, 1) := by decide +kernel
theorem dX0_ifStatement_78 : decode cX0_ifStatement 78 = .ok (.aload_n 0, 1) := by decide +kernel
theorem dX0_ifStatement_79 : decode cX0_ifStatement 79 = .ok (.getfield 15, 3) := by decide +kernel
theorem dX0_ifStatement_82 : decode cX0_ifStatement 82 = .ok (.bipush 6, 2) := by decide +kernel
theorem dX0_ifStatement_84 : decode cX0_ifStatement 84 = .ok (.iconst (-1), 1) := by decide +kernel
theorem dX0_ifStatement_85 : decode cX0_ifStatement 85 = .ok (.iconst 0, 1) := by decide +kernel
theorem dX0_ifStatement_86 : decode cX0_ifStatement 86 = .ok (.invokevirtual 243, 3) := by decide +kernel
theorem dX0_ifStatement_89 : decode cX0_ifStatement 89 = .ok (.istore 4, 2) := by decide +kernel
theorem dX0_ifStatement_91 : decode cX0_ifStatement 91 = .ok (.aload_n 0, 1) := by decide +kernel
theorem dX0_ifStatement_92 : decode cX0_ifStatement 92 = .ok (.getfield 15, 3) := by decide +kernel
theorem dX0_ifStatement_95 : decode cX0_ifStatement 95 = .ok (.iload_n 3, 1) := by decide +kernel
theorem dX0_ifStatement_96 : decode cX0_ifStatement 96 = .ok (.invokevirtual 250, 3) := by decide +kernel
theorem dX0_ifStatement_99 : decode cX0_ifStatement 99 = .ok (.aload_n 0, 1) := by decide +kernel
theorem dX0_ifStatement_100 : decode cX0_ifStatement 100 = .ok (.getfield 94, 3) := by decide +kernel
theorem dX0_ifStatement_103 : decode cX0_ifStatement 103 = .ok (.istore 5, 2) := by decide +kernel
theorem dX0_ifStatement_105 : decode cX0_ifStatement 105 = .ok (.aload_n 0, 1) := by decide +kernel
theorem dX0_ifStatement_106 : decode cX0_ifStatement 106 = .ok (.iload_n 2, 1) := by decide +kernel
theorem dX0_ifStatement_107 : decode cX0_ifStatement 107 = .ok (.putfield 94, 3) := by decide +kernel
theorem dX0_ifStatement_110 : decode cX0_ifStatement 110 = .ok (.aload_n 0, 1) := by decide +kernel
theorem dX0_ifStatement_111 : decode cX0_ifStatement 111 = .ok (.aload_n 1, 1) := by decide +kernel
theorem dX0_ifStatement_112 : decode cX0_ifStatement 112 = .ok (.getfield 247, 3) := by decide +kernel
theorem dX0_ifStatement_115 : decode cX0_ifStatement 115 = .ok (.iconst 1, 1) := by decide +kernel
theorem dX0_ifStatement_116 : decode cX0_ifStatement 116 = .ok (.invokevirtual 168, 3) := by decide +kernel
theorem dX0_ifStatement_119 : decode cX0_ifStatement 119 = .ok (.aload_n 0, 1) := by decide +kernel
theorem dX0_ifStatement_120 : decode cX0_ifStatement 120 = .ok (.getfield 15, 3) := by decide +kernel
theorem dX0_ifStatement_123 : decode cX0_ifStatement 123 = .ok (.iload 4, 2) := by decide +kernel
theorem dX0_ifStatement_125 : decode cX0_ifStatement 125 = .ok (.invokevirtual 250, 3) := by decide +kernel
theorem dX0_ifStatement_128 : decode cX0_ifStatement 128 = .ok (.aload_n 0, 1) := by decide +kernel
theorem dX0_ifStatement_129 : decode cX0_ifStatement 129 = .ok (.dup, 1) := by decide +kernel
theorem dX0_ifStatement_130 : decode cX0_ifStatement 130 = .ok (.getfield 94, 3) := by decide +kernel
theorem dX0_ifStatement_133 : decode cX0_ifStatement 133 = .ok (.iload 5, 2) := by decide +kernel
theorem dX0_ifStatement_135 : decode cX0_ifStatement 135 = .ok (.iand, 1) := by decide +kernel
theorem dX0_ifStatement_136 : decode cX0_ifStatement 136 = .ok (.putfield 94, 3) := by decide +kernel
theorem dX0_ifStatement_139 : decode cX0_ifStatement 139 = .ok (.return_, 1) := by decide +kernel
set_option maxHeartbeats 40000000 in
set_option maxRecDepth 100000 in
theorem B_if (l : Launch) (G : pT) (h0 : Nat) (a : Nat → Nat) (F : Nat → Int32) (R : Nat → Value) (Z : Int64) (B : Nat → Nat → Int32) (J : Nat → Nat → Int64) (K : PK) (w : va_W) (pq : Nat) (dr : Nat) (ml : Nat) (nd : Nat) (nm : Nat) (cp : Nat) (it : Nat → Nat) (s9 : Nat) (q : Nat) (mq : Nat) (cs : Nat) (vr : Nat) (sz : Nat) (n : Nat) (q1 : Nat) (q2 : Nat) (hd : Nat) (dp : Nat) (rg : Nat) (ls9 : Int32) (lo : Option Nat) (g : Nat → Nat → Nat) (rk : Nat → Nat) (hsz : sz ≤ 5000) (hwp : WPr G K g) (hps : PgT G K g (a 1) pq dr ml nd nm cp it s9) (hrk : RkO K rk) (hcs : cs ≤ 10000) (hvr : vr ≤ 30) (hng : Nng (B 18)) (hmq : K.1 mq = 3) (hqT : K.1 q = 1) (hqL : 1 ≤ g 0 q ∧ g 0 q ≤ n) (hc0 : K.2.2.1 0 q = some q1) (ht0 : K.1 q1 = 1) (hv0 : 1 ≤ g 0 q1 ∧ g 0 q1 + 1 ≤ n) (hc1 : K.2.2.1 1 q = some q2) (ht1 : K.1 q2 = 1) (hv1 : 1 ≤ g 0 q2 ∧ g 0 q2 + 1 ≤ n) (hdp : dp ≤ 1000) (hrg : rg ≤ 625) (hhd : hd + 2 * n + 30 ≤ 900 + vr) (hlo : LpO K lo) (hkd : K.2.1 0 q = 25) (ist : IhT l G n) (ihv : IhV l G n) (hO : OKP G h0 a (upd (upd (upd (upd (upd (upd (upd F 2 (nI sz)) 5 (nI cs)) 6 (nI rg)) 7 (nI hd)) 8 (nI dp)) 12 (nI vr)) 16 ls9) (updR (updR (updR R 2 (.ref pq)) 3 (.ref mq)) 4 (va_rf lo)) Z B J K w) (hl0 : l.stackTraces = false) : PBn l G pX0 yX0_ifStatement cX0_ifStatement 6 none ({ frames := (5 * n + 46), cells := ((rE (g 2 q) - rS (g 2 q)) + 1), slots := (6 * (rE (g 2 q) - rS (g 2 q)) + 6), locals := (200 * n + 1120) }) [.ref (a 4), .ref q] w (fun (v : Option Value) (u : va_W × (PK × (Nat → Nat → Int32) × Nat × Int32 × Int32 × Int32 × Nat × Nat × Nat × Nat × Int32)) => v = none ∧ (BdE K u.2.1) ∧ (Bth B u.2.2.1) ∧ (u.2.2.2.1 ≤ 10000 ∧ u.2.2.2.2.2.2.2.2.2.2.1 ≤ 625 ∧ u.2.2.2.2.2.2.2.2.2.1 ≤ 1000) ∧ (vr ≤ u.2.2.2.2.2.2.2.1 ∧ u.2.2.2.2.2.2.2.1 ≤ 30 ∧ u.2.2.2.2.2.2.2.2.1 + vr = hd + u.2.2.2.2.2.2.2.1) ∧ (OKP G h0 a (upd (upd (upd (upd (upd (upd (upd (upd (upd (upd F 2 (nI sz)) 5 (nI u.2.2.2.1)) 6 (nI u.2.2.2.2.2.2.2.2.2.2.1)) 7 (nI u.2.2.2.2.2.2.2.2.1)) 8 (nI u.2.2.2.2.2.2.2.2.2.1)) 12 (nI u.2.2.2.2.2.2.2.1)) 13 u.2.2.2.2.1) 14 u.2.2.2.2.2.1) 15 u.2.2.2.2.2.2.1) 16 u.2.2.2.2.2.2.2.2.2.2.2) (updR (updR (updR R 2 (.ref pq)) 3 (.ref mq)) 4 (va_rf lo)) Z u.2.2.1 J u.2.1 u.1)) (fun u => u.1) (fun (u : va_W × (PK × (Nat → Nat → Int32) × Nat × Int32 × Int32 × Int32 × Nat × Nat × Nat × Nat × Int32)) => (rE (g 2 q) - rS (g 2 q))) (fun (u : va_W × (PK × (Nat → Nat → Int32) × Nat × Int32 × Int32 × Int32 × Nat × Nat × Nat × Nat × Int32)) => (6 * (rE (g 2 q) - rS (g 2 q)))) (fun (u : va_W × (Nat → Int32) × (Nat → Value) × (Nat → Nat → Int32)) => ThQ G h0 a (upd (upd (upd (upd (upd (upd (upd F 2 (nI sz)) 5 (nI cs)) 6 (nI rg)) 7 (nI hd)) 8 (nI dp)) 12 (nI vr)) 16 ls9) (updR (updR (updR R 2 (.ref pq)) 3 (.ref mq)) 4 (va_rf lo)) Z B J u) (fun u => u.1) := by
  intro sz
  refine vx_ofW (cc := cX0_ifStatement) (maxL := 6) (ret := none) (by decide) rfl ?_
  intro p e s m args below meth c s₁ B9 hml hnt hv
  obtain ⟨rfl, hsz, hP, hD0, hE, hX⟩ := hv
  have hx := B9.exec
  have hb := B9.bytes
  have hr := B9.returns
  have hts := atoms_spec (ws := Cond.code yX0_ifStatement cX0_ifStatement 6 none :: pw) B9.pre
  have hq : ∀ w ∈ pw, w.before _ s = true := fun w h => hts w (List.mem_cons_of_mem _ h)
  have hown : s.vm.findClass RX0 = some m.cls := findClass_of_methodNamed B9.named
  have hlocks := B9.notSynchronized
  subst hsz
  have hD := hD0.self (sz := s.heap.size)
  have hA : ∀ q : Nat, s.heap.size ≤ q → va_A w s.heap.size q := fun q h => Or.inr h
  generalize va_A w s.heap.size = A at hD hE hA ⊢
  have hS : va_S A s.heap s.heap [] := va_S.rf
  have hl := lv_entry ([.ref (a 4), .ref q]) (n := 6) (Nat.le_of_ble_eq_true rfl)
  rw [lg_entry_eq]
  generalize (lg_sl ([.ref (a 4), .ref q]) ++ List.replicate (6 - (lg_sl ([.ref (a 4), .ref q])).length) Slot.unset).toArray = ls at hl ⊢
  have hl : lv_has ls 6 [(0, .ref (a 4)), (1, .ref q)] := hl
  have hpg := hps.1
  have hp1 := hpg.1
  have hp2 := hpg.2.1
  have hp3 := hpg.2.2.1
  have hp4 := hpg.2.2.2.1
  have hp5 := hpg.2.2.2.2.1
  have hp6 := hpg.2.2.2.2.2.1
  have hp8 := hpg.2.2.2.2.2.2.2.1
  have hp9 := hpg.2.2.2.2.2.2.2.2
  have hnd := hwp.1 q hqT hqL.1
  have hiq := hnd.it
  have hri1 := NdO.iv25b hnd hkd hc1
  have hrx1 := (hwp.1 q2 ht1 hv1.1).it
  rcases hos2 : K.2.2.1 2 q with _ | q3
  · skip
    refine lv_aload_n hx hb dX0_ifStatement_0 rfl (lv_at hl 0 rfl) ?_
    refine lv_aload_n hx hb dX0_ifStatement_1 rfl (lv_at hl 1 rfl) ?_
    refine p_get (v := .ref q1) (C := RX7) (Tc := TX7) (N := 11) (ci := 13) hx hb hq pin_wsX70 hown hE hP hO (by rw [hqT]; decide) (rep_1 hqT) rfl 6 (by decide) (hq _ pw_180) (fun _ h9 => h9) (congrArg (fun z => some (va_rf z)) hc0) dX0_ifStatement_2 ?_
    refine lv_aload_n hx hb dX0_ifStatement_5 rfl (lv_at hl 0 rfl) ?_
    refine lv_aload_n hx hb dX0_ifStatement_6 rfl (lv_at hl 1 rfl) ?_
    refine p_get (v := .ref q1) (C := RX7) (Tc := TX7) (N := 11) (ci := 13) hx hb hq pin_wsX70 hown hE hP hO (by rw [hqT]; decide) (rep_1 hqT) rfl 6 (by decide) (hq _ pw_180) (fun _ h9 => h9) (congrArg (fun z => some (va_rf z)) hc0) dX0_ifStatement_7 ?_
    have hO : OKP G h0 a (upd (upd (upd (upd (upd (upd (upd (upd (upd (upd F 2 (nI sz)) 5 (nI cs)) 6 (nI rg)) 7 (nI hd)) 8 (nI dp)) 12 (nI vr)) 16 ls9) 2 (nI sz)) 5 (nI cs)) 12 (nI vr)) (updR (updR (updR (updR (updR R 2 (.ref pq)) 3 (.ref mq)) 4 (va_rf lo)) 2 (.ref pq)) 3 (.ref mq)) Z B J K w := hO.to rfl
    obtain ⟨_, qr4, hqr5⟩ := hO.2.1 24 _ (sg_24 G h0 a _ _ _ _ _)
    refine pn_V0 (G := G) (As := [.ref q1]) (rest := [.ref q1, .ref (a 4)]) hx hb hml hown hq hE hX pX0_al hP hD hS hA hl.1 ((ihv (by omega)) h0 a (upd (upd (upd (upd (upd (upd (upd F 2 (nI sz)) 5 (nI cs)) 6 (nI rg)) 7 (nI hd)) 8 (nI dp)) 12 (nI vr)) 16 ls9) (updR (updR (updR R 2 (.ref pq)) 3 (.ref mq)) 4 (va_rf lo)) Z B J K w pq dr ml nd nm cp it s9 q1 mq cs vr sz g rk (by omega) (BdE.wp BdE.rfl hwp) (BdE.pt BdE.rfl hwp hps) (BdE.rko BdE.rfl hrk) (by omega) (by omega) hng hmq ht0 ⟨hv0.1, (by have z9 := hv0; omega)⟩ hO hl0) (gV pw_173 pw_174 pw_175 pw_63 pw_224) hV_X0_value qr4 0 hqr5 rfl rfl rfl (Nat.le_of_ble_eq_true rfl) dX0_ifStatement_10 ⟨(by show 0 + 1 ≤ ((rE (g 2 q) - rS (g 2 q)) + 1); omega), (by show 0 + 6 ≤ (6 * (rE (g 2 q) - rS (g 2 q)) + 6); omega)⟩ ⟨(by show (5 * (n - 1) + 34) + 1 ≤ (5 * n + 46); omega), (by show 8 + (3 + 11) + (200 * (n - 1) + 600) ≤ (200 * n + 1120); omega)⟩ (fun v3 u1 H locs hw2 hP hD hS => ?_) (fun ux ce9 q9 H9 locs9 hux hP9 hD9 hS9 hce hcv hcl => pb_out ux (ThQ.up (Thx.same (Thx.same (Thx.same Thx.rfl rfl) rfl) rfl) (show RhX (updR (updR (updR R 2 (.ref pq)) 3 (.ref mq)) 4 (va_rf lo)) (updR (updR (updR (updR (updR R 2 (.ref pq)) 3 (.ref mq)) 4 (va_rf lo)) 2 (.ref pq)) 3 (.ref mq)) from fun k9 hk9 => by unfold updR; simp only [show ¬ k9 = 1 by omega, show ¬ k9 = 2 by omega, show ¬ k9 = 3 by omega, show ¬ k9 = 4 by omega, if_false]) hux) hnt hlocks hce hcv hcl hP9 hD9 hS9 (by show 0 + 1 ≤ ((rE (g 2 q) - rS (g 2 q)) + 1); omega) (by show 0 + 6 ≤ (6 * (rE (g 2 q) - rS (g 2 q)) + 6); omega))
    obtain ⟨w, K6, B7, cs8, as9, wt10, wf11, r12⟩ := u1
    obtain ⟨hw2, h13, h14, h15, hO⟩ := hw2
    have h13 : BdE K K6 := h13
    have h14 : Bth B B7 := h14
    have h15 : cs8 ≤ 10000 := h15
    obtain rfl : v3 = some (.int r12) := hw2
    have hf16 : K6.1 pq = 7 := (BdE.T h13 hp1 (by decide))
    have hf17 : K6.2.2.1 18 pq = some (a 1) := (BdE.C h13 (by rw [hp1]; decide) 18).trans hp2
    have hf18 : K6.2.2.1 14 pq = some dr := (BdE.C h13 (by rw [hp1]; decide) 14).trans hp3
    have hf19 : K6.1 dr = 8 := (BdE.T h13 hp4 (by decide))
    have hf20 : K6.2.2.1 15 pq = some ml := (BdE.C h13 (by rw [hp1]; decide) 15).trans hp5
    have hf21 : K6.1 ml = 5 := (BdE.T h13 hp6 (by decide))
    have hf22 : K6.2.1 24 pq = (nI nd) := (BdE.I h13 (by rw [hp1]; decide) (by decide) (by decide)).trans hp8
    have hf23 : K6.1 q = 1 := (BdE.T h13 hqT (by decide))
    have hf24 : K6.1 mq = 3 := (BdE.T h13 hmq (by decide))
    have hf25 : K6.2.2.1 0 q = some q1 := (BdE.C h13 (by rw [hqT]; decide) 0).trans hc0
    have hf26 : K6.1 q1 = 1 := (BdE.T h13 ht0 (by decide))
    have hf27 : K6.2.2.1 1 q = some q2 := (BdE.C h13 (by rw [hqT]; decide) 1).trans hc1
    have hf28 : K6.1 q2 = 1 := (BdE.T h13 ht1 (by decide))
    have hf29 : K6.2.2.1 2 q = none := (BdE.C h13 (by rw [hqT]; decide) 2).trans hos2
    have hO : OKP G h0 a (upd (upd (upd (upd (upd (upd (upd (upd (upd (upd F 2 (nI sz)) 5 (nI cs8)) 6 (nI rg)) 7 (nI hd)) 8 (nI dp)) 12 (nI vr)) 13 as9) 14 wt10) 15 wf11) 16 ls9) (updR (updR (updR R 2 (.ref pq)) 3 (.ref mq)) 4 (va_rf lo)) Z B7 J K6 w := hO.to rfl
    refine W.widen (k := 0) (n := 0) (by show 0 + 0 ≤ 0; omega) (by show 0 + 0 ≤ 0; omega) ?_
    refine W.eq (g2 := F0 m 13 ls [.int r12, .ref q1, .ref (a 4)]) rfl ?_
    have hbe30 := BdE.trans BdE.rfl h13
    have hbb31 : Bth B B7 := Bth.trans (show Thx (upd (upd (upd (upd (upd (upd (upd F 2 (nI sz)) 5 (nI cs)) 6 (nI rg)) 7 (nI hd)) 8 (nI dp)) 12 (nI vr)) 16 ls9) (upd (upd (upd (upd (upd (upd (upd F 2 (nI sz)) 5 (nI cs)) 6 (nI rg)) 7 (nI hd)) 8 (nI dp)) 12 (nI vr)) 16 ls9) B B from Thx.rfl).2 h14
    have hng32 : Nng (B7 18) := h14.2 hng
    refine lv_bipush (v := 61) hx hb dX0_ifStatement_13 (by decide) ?_
    have hO : OKP G h0 a (upd (upd (upd (upd (upd (upd (upd (upd (upd (upd (upd (upd F 2 (nI sz)) 5 (nI cs)) 6 (nI rg)) 7 (nI hd)) 8 (nI dp)) 12 (nI vr)) 16 ls9) 5 (nI cs8)) 13 as9) 14 wt10) 15 wf11) 2 (nI sz)) (updR (updR (updR (updR R 2 (.ref pq)) 3 (.ref mq)) 4 (va_rf lo)) 2 (.ref pq)) Z B7 J K6 w := hO.to rfl
    obtain ⟨_, qr36, hqr37⟩ := hO.2.1 24 _ (sg_24 G h0 a _ _ _ _ _)
    refine pn_V0 (G := G) (As := [.ref q1, .int r12, .int 61]) (rest := []) hx hb hml hown hq hE hX pX0_al hP hD hS hA hl.1 (B_fit l G h0 a (upd (upd (upd (upd (upd (upd (upd (upd (upd (upd (upd F 2 (nI sz)) 5 (nI cs)) 6 (nI rg)) 7 (nI hd)) 8 (nI dp)) 12 (nI vr)) 16 ls9) 5 (nI cs8)) 13 as9) 14 wt10) 15 wf11) (updR (updR (updR R 2 (.ref pq)) 3 (.ref mq)) 4 (va_rf lo)) Z B7 J K6 w pq dr ml nd q1 sz r12 61 g (by omega) (BdE.pt hbe30 hwp hps).1 (BdE.pt hbe30 hwp hps).2.1 hf26 hO hl0) (gV pw_176 pw_177 pw_178 pw_63 pw_114) hV_X0_fit qr36 0 hqr37 rfl rfl rfl (Nat.le_of_ble_eq_true rfl) dX0_ifStatement_15 ⟨(by show 0 + 1 ≤ ((rE (g 2 q) - rS (g 2 q)) + 1); omega), (by show 0 + 6 ≤ (6 * (rE (g 2 q) - rS (g 2 q)) + 6); omega)⟩ ⟨(by show 7 + 1 ≤ (5 * n + 46); omega), (by show 8 + (4 + 11) + 122 ≤ (200 * n + 1120); omega)⟩ (fun v35 u33 H locs hw34 hP hD hS => ?_) (fun ux ce9 q9 H9 locs9 hux hP9 hD9 hS9 hce hcv hcl => pb_out ux (ThQ.up (Thx.same (Thx.f (Thx.f (Thx.f (Thx.f (Bth.thx hbb31) (by omega)) (by omega)) (by omega)) (by omega)) rfl) (show RhX (updR (updR (updR R 2 (.ref pq)) 3 (.ref mq)) 4 (va_rf lo)) (updR (updR (updR (updR R 2 (.ref pq)) 3 (.ref mq)) 4 (va_rf lo)) 2 (.ref pq)) from fun k9 hk9 => by unfold updR; simp only [show ¬ k9 = 1 by omega, show ¬ k9 = 2 by omega, show ¬ k9 = 3 by omega, show ¬ k9 = 4 by omega, if_false]) hux) hnt hlocks hce hcv hcl hP9 hD9 hS9 (by show 0 + 1 ≤ ((rE (g 2 q) - rS (g 2 q)) + 1); omega) (by show 0 + 6 ≤ (6 * (rE (g 2 q) - rS (g 2 q)) + 6); omega))
    obtain ⟨w, _⟩ := u33
    obtain ⟨hw34, hO⟩ := hw34
    obtain rfl : v35 = none := hw34
    have hO : OKP G h0 a (upd (upd (upd (upd (upd (upd (upd (upd (upd (upd F 2 (nI sz)) 5 (nI cs8)) 6 (nI rg)) 7 (nI hd)) 8 (nI dp)) 12 (nI vr)) 13 as9) 14 wt10) 15 wf11) 16 ls9) (updR (updR (updR R 2 (.ref pq)) 3 (.ref mq)) 4 (va_rf lo)) Z B7 J K6 w := hO.to rfl
    refine W.widen (k := 0) (n := 0) (by show 0 + 0 ≤ 0; omega) (by show 0 + 0 ≤ 0; omega) ?_
    refine W.eq (g2 := F0 m 18 ls []) rfl ?_
    refine lv_aload_n hx hb dX0_ifStatement_18 rfl (lv_at hl 0 rfl) ?_
    refine c_get (v := .int wf11) (C := RX0) (Tc := TX0) (N := 13) (ci := 0) hx hb hq pin_wsX00 hown hE hP hO 24 (sg_24 G h0 a _ _ _ _ _) rfl 10 (by decide) (hq _ pw_157) (fun _ h9 => h9) rfl dX0_ifStatement_19 ?_
    refine lv_istore_n (lv' := [(2, .int wf11), (0, .ref (a 4)), (1, .ref q)]) hx hb dX0_ifStatement_22 rfl hl (by decide) rfl (fun ls hl => ?_)
    refine lv_aload_n hx hb dX0_ifStatement_23 rfl (lv_at hl 1 rfl) ?_
    refine lv_aload_n hx hb dX0_ifStatement_24 rfl (lv_at hl 1 rfl) ?_
    refine c_get (v := .int wt10) (C := RX0) (Tc := TX0) (N := 13) (ci := 0) hx hb hq pin_wsX00 hown hE hP hO 24 (sg_24 G h0 a _ _ _ _ _) rfl 9 (by decide) (hq _ pw_156) (fun _ h9 => h9) rfl dX0_ifStatement_25 ?_
    refine c_put (v := .int wt10) (ty := .int) (C := RX0) (Tc := TX0) (N := 13) (ci := 0) hx hb hq pin_wsX00 tyX0 tyX0_ok nmX0 hown hE hP hD hS hO 24 (sg_24 G h0 a _ _ _ _ _) rfl 8 (by decide) (hq _ pw_55) (fun _ h9 => h9) rfl (by decide +kernel) rfl rfl (Nat.le_of_ble_eq_true rfl) (sf_13 G h0 a _ _ _ _ _ wt10) dX0_ifStatement_28 (fun H locs w hP hD hS hO => ?_)
    refine lv_aload_n hx hb dX0_ifStatement_31 rfl (lv_at hl 1 rfl) ?_
    refine c_get (v := .ref (a 2)) (C := RX0) (Tc := TX0) (N := 13) (ci := 0) hx hb hq pin_wsX00 hown hE hP hO 24 (sg_24 G h0 a _ _ _ _ _) rfl 1 (by decide) (hq _ pw_5) (fun _ h9 => h9) rfl dX0_ifStatement_32 ?_
    refine lv_bipush (v := 7) hx hb dX0_ifStatement_35 (by decide) ?_
    refine lv_iconst (v := (-1)) hx hb dX0_ifStatement_37 (by decide) ?_
    refine lv_iconst (v := 0) hx hb dX0_ifStatement_38 (by decide) ?_
    have hO : OKW G h0 a (upd (upd (upd (upd (upd (upd (upd (upd (upd (upd (upd F 2 (nI sz)) 5 (nI cs8)) 6 (nI rg)) 7 (nI hd)) 8 (nI dp)) 12 (nI vr)) 13 wt10) 14 wt10) 15 wf11) 16 ls9) 5 (nI cs8)) (updR (updR (updR R 2 (.ref pq)) 3 (.ref mq)) 4 (va_rf lo)) Z B7 J K6.1 (fun q99 x99 => x99 = rep G a K6 q99) w := hO.to rfl
    obtain ⟨_, qr41, hqr42⟩ := hO.2.1 13 _ (sg_13 G h0 a _ _ _ _ _)
    refine pc_V0 (G := G) (As := [.int 7, .int (-1), .int (nI 0)]) (rest := []) hx hb hml hown hq hE hX pX0_al hP hD hS hA hl.1 (K_jump l G h0 a (upd (upd (upd (upd (upd (upd (upd (upd (upd (upd F 2 (nI sz)) 5 (nI cs8)) 6 (nI rg)) 7 (nI hd)) 8 (nI dp)) 12 (nI vr)) 13 wt10) 14 wt10) 15 wf11) 16 ls9) (updR (updR (updR R 2 (.ref pq)) 3 (.ref mq)) 4 (va_rf lo)) Z B7 J K6.1 (fun q99 x99 => x99 = rep G a K6 q99) w 7 (-1) 0 cs8 (by omega) (by omega) hng32 hO) (gV pw_197 pw_198 pw_199 pw_70 pw_132) hV_X1_jump qr41 1 hqr42 rfl rfl rfl (Nat.le_of_ble_eq_true rfl) dX0_ifStatement_39 ⟨(by show 0 + 0 ≤ ((rE (g 2 q) - rS (g 2 q)) + 1); omega), (by show 0 + 0 ≤ (6 * (rE (g 2 q) - rS (g 2 q)) + 6); omega)⟩ ⟨(by show 3 + 1 ≤ (5 * n + 46); omega), (by show 8 + (4 + 11) + 83 ≤ (200 * n + 1120); omega)⟩ (fun v40 u38 H locs hw39 hP hD hS => ?_)
    obtain ⟨w, cs43, f44, f45, f46, f47, r48⟩ := u38
    obtain ⟨hw39, h49, h50, hO⟩ := hw39
    have h49 : cs8 ≤ cs43 ∧ cs43 ≤ cs8 + 1 ∧ cs43 ≤ 10000 := h49
    have h50 : Nng f46 := h50
    obtain rfl : v40 = some (.int r48) := hw39
    have hO : OKP G h0 a (upd (upd (upd (upd (upd (upd (upd (upd (upd (upd F 2 (nI sz)) 5 (nI cs43)) 6 (nI rg)) 7 (nI hd)) 8 (nI dp)) 12 (nI vr)) 13 wt10) 14 wt10) 15 wf11) 16 ls9) (updR (updR (updR R 2 (.ref pq)) 3 (.ref mq)) 4 (va_rf lo)) Z (updA (updA (updA (updA B7 16 f44) 17 f45) 18 f46) 19 f47) J K6 w := hO.to rfl
    refine W.widen (k := 0) (n := 0) (Nat.le_of_ble_eq_true rfl) (Nat.le_of_ble_eq_true rfl) ?_
    refine W.eq (g2 := F0 m 42 ls [.int r48]) rfl ?_
    refine lv_istore_n (lv' := [(3, .int r48), (2, .int wf11), (0, .ref (a 4)), (1, .ref q)]) hx hb dX0_ifStatement_42 rfl hl (by decide) rfl (fun ls hl => ?_)
    refine lv_aload_n hx hb dX0_ifStatement_43 rfl (lv_at hl 2 rfl) ?_
    refine lv_aload_n hx hb dX0_ifStatement_44 rfl (lv_at hl 3 rfl) ?_
    refine p_get (v := .ref q2) (C := RX7) (Tc := TX7) (N := 11) (ci := 13) hx hb hq pin_wsX70 hown hE hP hO (by rw [hf23]; decide) (rep_1 hf23) rfl 7 (by decide) (hq _ pw_169) (fun _ h9 => h9) (congrArg (fun z => some (va_rf z)) hf27) dX0_ifStatement_45 ?_
    refine lv_iconst (v := 1) hx hb dX0_ifStatement_48 (by decide) ?_
    have hO : OKP G h0 a (upd (upd (upd (upd (upd (upd (upd (upd (upd (upd (upd (upd (upd (upd (upd (upd (upd (upd F 2 (nI sz)) 5 (nI cs)) 6 (nI rg)) 7 (nI hd)) 8 (nI dp)) 12 (nI vr)) 16 ls9) 5 (nI cs43)) 13 wt10) 14 wt10) 15 wf11) 2 (nI sz)) 5 (nI cs43)) 6 (nI rg)) 7 (nI hd)) 8 (nI dp)) 12 (nI vr)) 16 ls9) (updR (updR (updR (updR (updR (updR R 2 (.ref pq)) 3 (.ref mq)) 4 (va_rf lo)) 2 (.ref pq)) 3 (.ref mq)) 4 (va_rf lo)) Z (updA (updA (updA (updA B7 16 f44) 17 f45) 18 f46) 19 f47) J K6 w := hO.to rfl
    obtain ⟨_, qr54, hqr55⟩ := hO.2.1 24 _ (sg_24 G h0 a _ _ _ _ _)
    refine pn_V0 (G := G) (As := [.ref q2, .int (nI 1)]) (rest := []) hx hb hml hown hq hE hX pX0_al hP hD hS hA hl.1 ((ist (n - 1) (by omega)) h0 a (upd (upd (upd (upd (upd (upd (upd (upd (upd (upd (upd F 2 (nI sz)) 5 (nI cs)) 6 (nI rg)) 7 (nI hd)) 8 (nI dp)) 12 (nI vr)) 16 ls9) 5 (nI cs43)) 13 wt10) 14 wt10) 15 wf11) (updR (updR (updR R 2 (.ref pq)) 3 (.ref mq)) 4 (va_rf lo)) Z (updA (updA (updA (updA B7 16 f44) 17 f45) 18 f46) 19 f47) J K6 w pq dr ml nd nm cp it s9 q2 mq cs43 vr sz 1 hd dp rg ls9 lo g rk (by omega) (BdE.wp hbe30 hwp) (BdE.pt hbe30 hwp hps) (BdE.rko hbe30 hrk) (by omega) (by omega) h50 hf24 hf28 ⟨hv1.1, (by have z9 := hv1; omega)⟩ (by omega) (by omega) (by omega) (LpO.be hbe30 hlo) (by omega) hO hl0) (gV pw_300 pw_301 pw_302 pw_63 pw_323) hV_X0_statement qr54 0 hqr55 rfl rfl rfl (Nat.le_of_ble_eq_true rfl) dX0_ifStatement_49 ⟨(by show 0 + ((rE (g 2 q2) - rS (g 2 q2)) + 1) ≤ ((rE (g 2 q) - rS (g 2 q)) + 1); omega), (by show 0 + (6 * (rE (g 2 q2) - rS (g 2 q2)) + 6) ≤ (6 * (rE (g 2 q) - rS (g 2 q)) + 6); omega)⟩ ⟨(by show (5 * (n - 1) + 50) + 1 ≤ (5 * n + 46); omega), (by show 8 + (3 + 11) + (200 * (n - 1) + 1200) ≤ (200 * n + 1120); omega)⟩ (fun v53 u51 H locs hw52 hP hD hS => ?_) (fun ux ce9 q9 H9 locs9 hux hP9 hD9 hS9 hce hcv hcl => pb_out ux (ThQ.up (Thx.same (Thx.same (Thx.same (Thx.same (Thx.same (Thx.same (Thx.same (Thx.b (Thx.b8 (Thx.b (Thx.b (Thx.f (Thx.f (Thx.f (Thx.f (Bth.thx hbb31) (by omega)) (by omega)) (by omega)) (by omega)) (by omega) (by decide)) (by omega) (by decide)) h50) (by omega) (by decide)) rfl) rfl) rfl) rfl) rfl) rfl) rfl) (show RhX (updR (updR (updR R 2 (.ref pq)) 3 (.ref mq)) 4 (va_rf lo)) (updR (updR (updR (updR (updR (updR R 2 (.ref pq)) 3 (.ref mq)) 4 (va_rf lo)) 2 (.ref pq)) 3 (.ref mq)) 4 (va_rf lo)) from fun k9 hk9 => by unfold updR; simp only [show ¬ k9 = 1 by omega, show ¬ k9 = 2 by omega, show ¬ k9 = 3 by omega, show ¬ k9 = 4 by omega, if_false]) hux) hnt hlocks hce hcv hcl hP9 hD9 hS9 (by show 0 + ((rE (g 2 q2) - rS (g 2 q2)) + 1) ≤ ((rE (g 2 q) - rS (g 2 q)) + 1); omega) (by show 0 + (6 * (rE (g 2 q2) - rS (g 2 q2)) + 6) ≤ (6 * (rE (g 2 q) - rS (g 2 q)) + 6); omega))
    obtain ⟨w, K56, B57, cs58, as59, wt60, wf61, vr62, hd63, dp64, rg65, ls66⟩ := u51
    obtain ⟨hw52, h67, h68, h69, h70, hO⟩ := hw52
    have h67 : BdE K6 K56 := h67
    have h68 : Bth (updA (updA (updA (updA B7 16 f44) 17 f45) 18 f46) 19 f47) B57 := h68
    have h69 : cs58 ≤ 10000 ∧ rg65 ≤ 625 ∧ dp64 ≤ 1000 := h69
    have h70 : vr ≤ vr62 ∧ vr62 ≤ 30 ∧ hd63 + vr = hd + vr62 := h70
    obtain rfl : v53 = none := hw52
    have hf71 : K56.1 pq = 7 := (BdE.T h67 hf16 (by decide))
    have hf72 : K56.2.2.1 18 pq = some (a 1) := (BdE.C h67 (by rw [hf16]; decide) 18).trans hf17
    have hf73 : K56.2.2.1 14 pq = some dr := (BdE.C h67 (by rw [hf16]; decide) 14).trans hf18
    have hf74 : K56.1 dr = 8 := (BdE.T h67 hf19 (by decide))
    have hf75 : K56.2.2.1 15 pq = some ml := (BdE.C h67 (by rw [hf16]; decide) 15).trans hf20
    have hf76 : K56.1 ml = 5 := (BdE.T h67 hf21 (by decide))
    have hf77 : K56.2.1 24 pq = (nI nd) := (BdE.I h67 (by rw [hf16]; decide) (by decide) (by decide)).trans hf22
    have hf78 : K56.1 q = 1 := (BdE.T h67 hf23 (by decide))
    have hf79 : K56.1 mq = 3 := (BdE.T h67 hf24 (by decide))
    have hf80 : K56.2.2.1 0 q = some q1 := (BdE.C h67 (by rw [hf23]; decide) 0).trans hf25
    have hf81 : K56.1 q1 = 1 := (BdE.T h67 hf26 (by decide))
    have hf82 : K56.2.2.1 1 q = some q2 := (BdE.C h67 (by rw [hf23]; decide) 1).trans hf27
    have hf83 : K56.1 q2 = 1 := (BdE.T h67 hf28 (by decide))
    have hf84 : K56.2.2.1 2 q = none := (BdE.C h67 (by rw [hf23]; decide) 2).trans hf29
    have hO : OKP G h0 a (upd (upd (upd (upd (upd (upd (upd (upd (upd (upd F 2 (nI sz)) 5 (nI cs58)) 6 (nI rg65)) 7 (nI hd63)) 8 (nI dp64)) 12 (nI vr62)) 13 as59) 14 wt60) 15 wf61) 16 ls66) (updR (updR (updR R 2 (.ref pq)) 3 (.ref mq)) 4 (va_rf lo)) Z B57 J K56 w := hO.to rfl
    refine W.widen (k := (rE (g 2 q2) - rS (g 2 q2))) (n := (6 * (rE (g 2 q2) - rS (g 2 q2)))) (by show 0 + (rE (g 2 q2) - rS (g 2 q2)) ≤ (rE (g 2 q2) - rS (g 2 q2)); omega) (by show 0 + (6 * (rE (g 2 q2) - rS (g 2 q2))) ≤ (6 * (rE (g 2 q2) - rS (g 2 q2))); omega) ?_
    refine W.eq (g2 := F0 m 52 ls []) rfl ?_
    have hbe85 := BdE.trans hbe30 h67
    have hbb86 : Bth B B57 := Bth.trans (show Thx (upd (upd (upd (upd (upd (upd (upd F 2 (nI sz)) 5 (nI cs)) 6 (nI rg)) 7 (nI hd)) 8 (nI dp)) 12 (nI vr)) 16 ls9) (upd (upd (upd (upd (upd (upd (upd (upd (upd (upd (upd F 2 (nI sz)) 5 (nI cs)) 6 (nI rg)) 7 (nI hd)) 8 (nI dp)) 12 (nI vr)) 16 ls9) 5 (nI cs43)) 13 wt10) 14 wt10) 15 wf11) B (updA (updA (updA (updA B7 16 f44) 17 f45) 18 f46) 19 f47) from (Thx.b (Thx.b8 (Thx.b (Thx.b (Thx.f (Thx.f (Thx.f (Thx.f (Bth.thx hbb31) (by omega)) (by omega)) (by omega)) (by omega)) (by omega) (by decide)) (by omega) (by decide)) h50) (by omega) (by decide))).2 h68
    have hng87 : Nng (B57 18) := h68.2 h50
    refine lv_aload_n hx hb dX0_ifStatement_52 rfl (lv_at hl 3 rfl) ?_
    refine p_get (v := .null) (C := RX7) (Tc := TX7) (N := 11) (ci := 13) hx hb hq pin_wsX70 hown hE hP hO (by rw [hf78]; decide) (rep_1 hf78) rfl 8 (by decide) (hq _ pw_196) (fun _ h9 => h9) (congrArg (fun z => some (va_rf z)) hf84) dX0_ifStatement_53 ?_
    refine lv_ifnonnullN hx hb dX0_ifStatement_56 ?_
    refine lv_aload_n hx hb dX0_ifStatement_59 rfl (lv_at hl 2 rfl) ?_
    refine c_get (v := .ref (a 2)) (C := RX0) (Tc := TX0) (N := 13) (ci := 0) hx hb hq pin_wsX00 hown hE hP hO 24 (sg_24 G h0 a _ _ _ _ _) rfl 1 (by decide) (hq _ pw_5) (fun _ h9 => h9) rfl dX0_ifStatement_60 ?_
    refine lv_iload_n hx hb dX0_ifStatement_63 rfl (lv_at hl 0 rfl) ?_
    have hO : OKW G h0 a (upd (upd (upd (upd (upd (upd (upd (upd (upd (upd (upd F 2 (nI sz)) 5 (nI cs58)) 6 (nI rg65)) 7 (nI hd63)) 8 (nI dp64)) 12 (nI vr62)) 13 as59) 14 wt60) 15 wf61) 16 ls66) 5 (nI cs58)) (updR (updR (updR R 2 (.ref pq)) 3 (.ref mq)) 4 (va_rf lo)) Z B57 J K56.1 (fun q99 x99 => x99 = rep G a K56 q99) w := hO.to rfl
    obtain ⟨_, qr91, hqr92⟩ := hO.2.1 13 _ (sg_13 G h0 a _ _ _ _ _)
    refine pc_V0 (G := G) (As := [.int r48]) (rest := []) hx hb hml hown hq hE hX pX0_al hP hD hS hA hl.1 (K_land l G h0 a (upd (upd (upd (upd (upd (upd (upd (upd (upd (upd F 2 (nI sz)) 5 (nI cs58)) 6 (nI rg65)) 7 (nI hd63)) 8 (nI dp64)) 12 (nI vr62)) 13 as59) 14 wt60) 15 wf61) 16 ls66) (updR (updR (updR R 2 (.ref pq)) 3 (.ref mq)) 4 (va_rf lo)) Z B57 J K56.1 (fun q99 x99 => x99 = rep G a K56 q99) w r48 cs58 (by omega) hO) (gV pw_200 pw_201 pw_202 pw_70 pw_134) hV_X1_land qr91 1 hqr92 rfl rfl rfl (Nat.le_of_ble_eq_true rfl) dX0_ifStatement_64 ⟨(by show (rE (g 2 q2) - rS (g 2 q2)) + 0 ≤ ((rE (g 2 q) - rS (g 2 q)) + 1); omega), (by show (6 * (rE (g 2 q2) - rS (g 2 q2))) + 0 ≤ (6 * (rE (g 2 q) - rS (g 2 q)) + 6); omega)⟩ ⟨(by show 2 + 1 ≤ (5 * n + 46); omega), (by show 8 + (5 + 11) + 60 ≤ (200 * n + 1120); omega)⟩ (fun v90 u88 H locs hw89 hP hD hS => ?_)
    obtain ⟨w, f93⟩ := u88
    obtain ⟨hw89, hO⟩ := hw89
    obtain rfl : v90 = none := hw89
    have hO : OKP G h0 a (upd (upd (upd (upd (upd (upd (upd (upd (upd (upd F 2 (nI sz)) 5 (nI cs58)) 6 (nI rg65)) 7 (nI hd63)) 8 (nI dp64)) 12 (nI vr62)) 13 as59) 14 wt60) 15 wf61) 16 ls66) (updR (updR (updR R 2 (.ref pq)) 3 (.ref mq)) 4 (va_rf lo)) Z (updA B57 17 f93) J K56 w := hO.to rfl
    refine W.widen (k := (rE (g 2 q2) - rS (g 2 q2))) (n := (6 * (rE (g 2 q2) - rS (g 2 q2)))) (by show (rE (g 2 q2) - rS (g 2 q2)) + 0 ≤ (rE (g 2 q2) - rS (g 2 q2)); omega) (by show (6 * (rE (g 2 q2) - rS (g 2 q2))) + 0 ≤ (6 * (rE (g 2 q2) - rS (g 2 q2))); omega) ?_
    refine W.eq (g2 := F0 m 67 ls []) rfl ?_
    refine lv_aload_n hx hb dX0_ifStatement_67 rfl (lv_at hl 2 rfl) ?_
    refine lv_dup hx hb dX0_ifStatement_68 rfl ?_
    refine c_get (v := .int as59) (C := RX0) (Tc := TX0) (N := 13) (ci := 0) hx hb hq pin_wsX00 hown hE hP hO 24 (sg_24 G h0 a _ _ _ _ _) rfl 8 (by decide) (hq _ pw_55) (fun _ h9 => h9) rfl dX0_ifStatement_69 ?_
    refine lv_iload_n hx hb dX0_ifStatement_72 rfl (lv_at hl 1 rfl) ?_
    refine lv_iand hx hb dX0_ifStatement_73 ?_
    refine lv_topi (fun x94 e95 => ?_)
    refine c_put (v := .int x94) (ty := .int) (C := RX0) (Tc := TX0) (N := 13) (ci := 0) hx hb hq pin_wsX00 tyX0 tyX0_ok nmX0 hown hE hP hD hS hO 24 (sg_24 G h0 a _ _ _ _ _) rfl 8 (by decide) (hq _ pw_55) (fun _ h9 => h9) rfl (by decide +kernel) rfl rfl (Nat.le_of_ble_eq_true rfl) (sf_13 G h0 a _ _ _ _ _ x94) dX0_ifStatement_74 (fun H locs w hP hD hS hO => ?_)
    refine W_size (fun hz1 hz2 => ?_)
    refine vx_ret ?_
    have hz96 : BdE K K56 := hbe85
    have hz97 : Bth B (updA B57 17 f93) := (show Thx (upd (upd (upd (upd (upd (upd (upd F 2 (nI sz)) 5 (nI cs)) 6 (nI rg)) 7 (nI hd)) 8 (nI dp)) 12 (nI vr)) 16 ls9) (upd (upd (upd (upd (upd (upd (upd (upd (upd (upd (upd (upd (upd (upd (upd (upd F 2 (nI sz)) 5 (nI cs)) 6 (nI rg)) 7 (nI hd)) 8 (nI dp)) 12 (nI vr)) 16 ls9) 5 (nI cs58)) 6 (nI rg65)) 7 (nI hd63)) 8 (nI dp64)) 12 (nI vr62)) 13 x94) 14 wt60) 15 wf61) 16 ls66) B (updA B57 17 f93) from (Thx.b (Thx.f (Thx.f (Thx.f (Thx.f (Thx.f (Thx.f (Thx.f (Thx.f (Thx.f (Bth.thx hbb86) (by omega)) (by omega)) (by omega)) (by omega)) (by omega)) (by omega)) (by omega)) (by omega)) (by omega)) (by omega) (by decide))).2
    have hz98 : cs58 ≤ 10000 ∧ rg65 ≤ 625 ∧ dp64 ≤ 1000 := (by omega)
    have hz99 : vr ≤ vr62 ∧ vr62 ≤ 30 ∧ hd63 + vr = hd + vr62 := (by omega)
    have hO : OKP G h0 a (upd (upd (upd (upd (upd (upd (upd (upd (upd (upd F 2 (nI sz)) 5 (nI cs58)) 6 (nI rg65)) 7 (nI hd63)) 8 (nI dp64)) 12 (nI vr62)) 13 x94) 14 wt60) 15 wf61) 16 ls66) (updR (updR (updR R 2 (.ref pq)) 3 (.ref mq)) 4 (va_rf lo)) Z (updA B57 17 f93) J K56 w := hO.to rfl
    refine W.widen (k := ((rE (g 2 q) - rS (g 2 q)) + 1)) (n := (6 * (rE (g 2 q) - rS (g 2 q)) + 6)) (by omega) (by omega) ?_
    have hzz1 : H.size ≤ s.heap.size + ((rE (g 2 q) - rS (g 2 q))) := (by have z : (rE (g 2 q2) - rS (g 2 q2)) ≤ (rE (g 2 q) - rS (g 2 q)) := (by omega); omega)
    have hzz2 : hSl H ≤ hSl s.heap + ((6 * (rE (g 2 q) - rS (g 2 q)))) := (by have z : (6 * (rE (g 2 q2) - rS (g 2 q2))) ≤ (6 * (rE (g 2 q) - rS (g 2 q))) := (by omega); omega)
    exact W.vret hx hb hr (fun t99 ht99 hW99 => ⟨⟨_, (w, (K56, (updA B57 17 f93), cs58, x94, wt60, wf61, vr62, hd63, dp64, rg65, ls66)), rfl, ⟨rfl, hz96, hz97, hz98, hz99, hO⟩, by rw [ht99]; exact hP, hD, by rw [ht99]; exact hzz1, by rw [ht99]; exact hzz2⟩, hS.F ht99⟩) hS.2.2 dX0_ifStatement_77
  · skip
    have hcz2 := hnd.2.1 2 q3 (by decide) hos2
    have hcT2 := hcz2.1
    have hcv2 : 1 ≤ g 0 q3 ∧ g 0 q3 + 1 ≤ n := ⟨hcz2.2.1, (by have z := hcz2.2.2.1; omega)⟩
    have hri2 := NdO.iv25c hnd hkd hos2
    have hrx2 := (hwp.1 q3 hcT2 hcz2.2.1).it
    refine lv_aload_n hx hb dX0_ifStatement_0 rfl (lv_at hl 0 rfl) ?_
    refine lv_aload_n hx hb dX0_ifStatement_1 rfl (lv_at hl 1 rfl) ?_
    refine p_get (v := .ref q1) (C := RX7) (Tc := TX7) (N := 11) (ci := 13) hx hb hq pin_wsX70 hown hE hP hO (by rw [hqT]; decide) (rep_1 hqT) rfl 6 (by decide) (hq _ pw_180) (fun _ h9 => h9) (congrArg (fun z => some (va_rf z)) hc0) dX0_ifStatement_2 ?_
    refine lv_aload_n hx hb dX0_ifStatement_5 rfl (lv_at hl 0 rfl) ?_
    refine lv_aload_n hx hb dX0_ifStatement_6 rfl (lv_at hl 1 rfl) ?_
    refine p_get (v := .ref q1) (C := RX7) (Tc := TX7) (N := 11) (ci := 13) hx hb hq pin_wsX70 hown hE hP hO (by rw [hqT]; decide) (rep_1 hqT) rfl 6 (by decide) (hq _ pw_180) (fun _ h9 => h9) (congrArg (fun z => some (va_rf z)) hc0) dX0_ifStatement_7 ?_
    have hO : OKP G h0 a (upd (upd (upd (upd (upd (upd (upd (upd (upd (upd F 2 (nI sz)) 5 (nI cs)) 6 (nI rg)) 7 (nI hd)) 8 (nI dp)) 12 (nI vr)) 16 ls9) 2 (nI sz)) 5 (nI cs)) 12 (nI vr)) (updR (updR (updR (updR (updR R 2 (.ref pq)) 3 (.ref mq)) 4 (va_rf lo)) 2 (.ref pq)) 3 (.ref mq)) Z B J K w := hO.to rfl
    obtain ⟨_, qr103, hqr104⟩ := hO.2.1 24 _ (sg_24 G h0 a _ _ _ _ _)
    refine pn_V0 (G := G) (As := [.ref q1]) (rest := [.ref q1, .ref (a 4)]) hx hb hml hown hq hE hX pX0_al hP hD hS hA hl.1 ((ihv (by omega)) h0 a (upd (upd (upd (upd (upd (upd (upd F 2 (nI sz)) 5 (nI cs)) 6 (nI rg)) 7 (nI hd)) 8 (nI dp)) 12 (nI vr)) 16 ls9) (updR (updR (updR R 2 (.ref pq)) 3 (.ref mq)) 4 (va_rf lo)) Z B J K w pq dr ml nd nm cp it s9 q1 mq cs vr sz g rk (by omega) (BdE.wp BdE.rfl hwp) (BdE.pt BdE.rfl hwp hps) (BdE.rko BdE.rfl hrk) (by omega) (by omega) hng hmq ht0 ⟨hv0.1, (by have z9 := hv0; omega)⟩ hO hl0) (gV pw_173 pw_174 pw_175 pw_63 pw_224) hV_X0_value qr103 0 hqr104 rfl rfl rfl (Nat.le_of_ble_eq_true rfl) dX0_ifStatement_10 ⟨(by show 0 + 1 ≤ ((rE (g 2 q) - rS (g 2 q)) + 1); omega), (by show 0 + 6 ≤ (6 * (rE (g 2 q) - rS (g 2 q)) + 6); omega)⟩ ⟨(by show (5 * (n - 1) + 34) + 1 ≤ (5 * n + 46); omega), (by show 8 + (3 + 11) + (200 * (n - 1) + 600) ≤ (200 * n + 1120); omega)⟩ (fun v102 u100 H locs hw101 hP hD hS => ?_) (fun ux ce9 q9 H9 locs9 hux hP9 hD9 hS9 hce hcv hcl => pb_out ux (ThQ.up (Thx.same (Thx.same (Thx.same Thx.rfl rfl) rfl) rfl) (show RhX (updR (updR (updR R 2 (.ref pq)) 3 (.ref mq)) 4 (va_rf lo)) (updR (updR (updR (updR (updR R 2 (.ref pq)) 3 (.ref mq)) 4 (va_rf lo)) 2 (.ref pq)) 3 (.ref mq)) from fun k9 hk9 => by unfold updR; simp only [show ¬ k9 = 1 by omega, show ¬ k9 = 2 by omega, show ¬ k9 = 3 by omega, show ¬ k9 = 4 by omega, if_false]) hux) hnt hlocks hce hcv hcl hP9 hD9 hS9 (by show 0 + 1 ≤ ((rE (g 2 q) - rS (g 2 q)) + 1); omega) (by show 0 + 6 ≤ (6 * (rE (g 2 q) - rS (g 2 q)) + 6); omega))
    obtain ⟨w, K105, B106, cs107, as108, wt109, wf110, r111⟩ := u100
    obtain ⟨hw101, h112, h113, h114, hO⟩ := hw101
    have h112 : BdE K K105 := h112
    have h113 : Bth B B106 := h113
    have h114 : cs107 ≤ 10000 := h114
    obtain rfl : v102 = some (.int r111) := hw101
    have hf115 : K105.1 pq = 7 := (BdE.T h112 hp1 (by decide))
    have hf116 : K105.2.2.1 18 pq = some (a 1) := (BdE.C h112 (by rw [hp1]; decide) 18).trans hp2
    have hf117 : K105.2.2.1 14 pq = some dr := (BdE.C h112 (by rw [hp1]; decide) 14).trans hp3
    have hf118 : K105.1 dr = 8 := (BdE.T h112 hp4 (by decide))
    have hf119 : K105.2.2.1 15 pq = some ml := (BdE.C h112 (by rw [hp1]; decide) 15).trans hp5
    have hf120 : K105.1 ml = 5 := (BdE.T h112 hp6 (by decide))
    have hf121 : K105.2.1 24 pq = (nI nd) := (BdE.I h112 (by rw [hp1]; decide) (by decide) (by decide)).trans hp8
    have hf122 : K105.1 q = 1 := (BdE.T h112 hqT (by decide))
    have hf123 : K105.1 mq = 3 := (BdE.T h112 hmq (by decide))
    have hf124 : K105.2.2.1 0 q = some q1 := (BdE.C h112 (by rw [hqT]; decide) 0).trans hc0
    have hf125 : K105.1 q1 = 1 := (BdE.T h112 ht0 (by decide))
    have hf126 : K105.2.2.1 1 q = some q2 := (BdE.C h112 (by rw [hqT]; decide) 1).trans hc1
    have hf127 : K105.1 q2 = 1 := (BdE.T h112 ht1 (by decide))
    have hf128 : K105.2.2.1 2 q = some q3 := (BdE.C h112 (by rw [hqT]; decide) 2).trans hos2
    have hf129 : K105.1 q3 = 1 := (BdE.T h112 hcT2 (by decide))
    have hO : OKP G h0 a (upd (upd (upd (upd (upd (upd (upd (upd (upd (upd F 2 (nI sz)) 5 (nI cs107)) 6 (nI rg)) 7 (nI hd)) 8 (nI dp)) 12 (nI vr)) 13 as108) 14 wt109) 15 wf110) 16 ls9) (updR (updR (updR R 2 (.ref pq)) 3 (.ref mq)) 4 (va_rf lo)) Z B106 J K105 w := hO.to rfl
    refine W.widen (k := 0) (n := 0) (by show 0 + 0 ≤ 0; omega) (by show 0 + 0 ≤ 0; omega) ?_
    refine W.eq (g2 := F0 m 13 ls [.int r111, .ref q1, .ref (a 4)]) rfl ?_
    have hbe130 := BdE.trans BdE.rfl h112
    have hbb131 : Bth B B106 := Bth.trans (show Thx (upd (upd (upd (upd (upd (upd (upd F 2 (nI sz)) 5 (nI cs)) 6 (nI rg)) 7 (nI hd)) 8 (nI dp)) 12 (nI vr)) 16 ls9) (upd (upd (upd (upd (upd (upd (upd F 2 (nI sz)) 5 (nI cs)) 6 (nI rg)) 7 (nI hd)) 8 (nI dp)) 12 (nI vr)) 16 ls9) B B from Thx.rfl).2 h113
    have hng132 : Nng (B106 18) := h113.2 hng
    refine lv_bipush (v := 61) hx hb dX0_ifStatement_13 (by decide) ?_
    have hO : OKP G h0 a (upd (upd (upd (upd (upd (upd (upd (upd (upd (upd (upd (upd F 2 (nI sz)) 5 (nI cs)) 6 (nI rg)) 7 (nI hd)) 8 (nI dp)) 12 (nI vr)) 16 ls9) 5 (nI cs107)) 13 as108) 14 wt109) 15 wf110) 2 (nI sz)) (updR (updR (updR (updR R 2 (.ref pq)) 3 (.ref mq)) 4 (va_rf lo)) 2 (.ref pq)) Z B106 J K105 w := hO.to rfl
    obtain ⟨_, qr136, hqr137⟩ := hO.2.1 24 _ (sg_24 G h0 a _ _ _ _ _)
    refine pn_V0 (G := G) (As := [.ref q1, .int r111, .int 61]) (rest := []) hx hb hml hown hq hE hX pX0_al hP hD hS hA hl.1 (B_fit l G h0 a (upd (upd (upd (upd (upd (upd (upd (upd (upd (upd (upd F 2 (nI sz)) 5 (nI cs)) 6 (nI rg)) 7 (nI hd)) 8 (nI dp)) 12 (nI vr)) 16 ls9) 5 (nI cs107)) 13 as108) 14 wt109) 15 wf110) (updR (updR (updR R 2 (.ref pq)) 3 (.ref mq)) 4 (va_rf lo)) Z B106 J K105 w pq dr ml nd q1 sz r111 61 g (by omega) (BdE.pt hbe130 hwp hps).1 (BdE.pt hbe130 hwp hps).2.1 hf125 hO hl0) (gV pw_176 pw_177 pw_178 pw_63 pw_114) hV_X0_fit qr136 0 hqr137 rfl rfl rfl (Nat.le_of_ble_eq_true rfl) dX0_ifStatement_15 ⟨(by show 0 + 1 ≤ ((rE (g 2 q) - rS (g 2 q)) + 1); omega), (by show 0 + 6 ≤ (6 * (rE (g 2 q) - rS (g 2 q)) + 6); omega)⟩ ⟨(by show 7 + 1 ≤ (5 * n + 46); omega), (by show 8 + (4 + 11) + 122 ≤ (200 * n + 1120); omega)⟩ (fun v135 u133 H locs hw134 hP hD hS => ?_) (fun ux ce9 q9 H9 locs9 hux hP9 hD9 hS9 hce hcv hcl => pb_out ux (ThQ.up (Thx.same (Thx.f (Thx.f (Thx.f (Thx.f (Bth.thx hbb131) (by omega)) (by omega)) (by omega)) (by omega)) rfl) (show RhX (updR (updR (updR R 2 (.ref pq)) 3 (.ref mq)) 4 (va_rf lo)) (updR (updR (updR (updR R 2 (.ref pq)) 3 (.ref mq)) 4 (va_rf lo)) 2 (.ref pq)) from fun k9 hk9 => by unfold updR; simp only [show ¬ k9 = 1 by omega, show ¬ k9 = 2 by omega, show ¬ k9 = 3 by omega, show ¬ k9 = 4 by omega, if_false]) hux) hnt hlocks hce hcv hcl hP9 hD9 hS9 (by show 0 + 1 ≤ ((rE (g 2 q) - rS (g 2 q)) + 1); omega) (by show 0 + 6 ≤ (6 * (rE (g 2 q) - rS (g 2 q)) + 6); omega))
    obtain ⟨w, _⟩ := u133
    obtain ⟨hw134, hO⟩ := hw134
    obtain rfl : v135 = none := hw134
    have hO : OKP G h0 a (upd (upd (upd (upd (upd (upd (upd (upd (upd (upd F 2 (nI sz)) 5 (nI cs107)) 6 (nI rg)) 7 (nI hd)) 8 (nI dp)) 12 (nI vr)) 13 as108) 14 wt109) 15 wf110) 16 ls9) (updR (updR (updR R 2 (.ref pq)) 3 (.ref mq)) 4 (va_rf lo)) Z B106 J K105 w := hO.to rfl
    refine W.widen (k := 0) (n := 0) (by show 0 + 0 ≤ 0; omega) (by show 0 + 0 ≤ 0; omega) ?_
    refine W.eq (g2 := F0 m 18 ls []) rfl ?_
    refine lv_aload_n hx hb dX0_ifStatement_18 rfl (lv_at hl 0 rfl) ?_
    refine c_get (v := .int wf110) (C := RX0) (Tc := TX0) (N := 13) (ci := 0) hx hb hq pin_wsX00 hown hE hP hO 24 (sg_24 G h0 a _ _ _ _ _) rfl 10 (by decide) (hq _ pw_157) (fun _ h9 => h9) rfl dX0_ifStatement_19 ?_
    refine lv_istore_n (lv' := [(2, .int wf110), (0, .ref (a 4)), (1, .ref q)]) hx hb dX0_ifStatement_22 rfl hl (by decide) rfl (fun ls hl => ?_)
    refine lv_aload_n hx hb dX0_ifStatement_23 rfl (lv_at hl 1 rfl) ?_
    refine lv_aload_n hx hb dX0_ifStatement_24 rfl (lv_at hl 1 rfl) ?_
    refine c_get (v := .int wt109) (C := RX0) (Tc := TX0) (N := 13) (ci := 0) hx hb hq pin_wsX00 hown hE hP hO 24 (sg_24 G h0 a _ _ _ _ _) rfl 9 (by decide) (hq _ pw_156) (fun _ h9 => h9) rfl dX0_ifStatement_25 ?_
    refine c_put (v := .int wt109) (ty := .int) (C := RX0) (Tc := TX0) (N := 13) (ci := 0) hx hb hq pin_wsX00 tyX0 tyX0_ok nmX0 hown hE hP hD hS hO 24 (sg_24 G h0 a _ _ _ _ _) rfl 8 (by decide) (hq _ pw_55) (fun _ h9 => h9) rfl (by decide +kernel) rfl rfl (Nat.le_of_ble_eq_true rfl) (sf_13 G h0 a _ _ _ _ _ wt109) dX0_ifStatement_28 (fun H locs w hP hD hS hO => ?_)
    refine lv_aload_n hx hb dX0_ifStatement_31 rfl (lv_at hl 1 rfl) ?_
    refine c_get (v := .ref (a 2)) (C := RX0) (Tc := TX0) (N := 13) (ci := 0) hx hb hq pin_wsX00 hown hE hP hO 24 (sg_24 G h0 a _ _ _ _ _) rfl 1 (by decide) (hq _ pw_5) (fun _ h9 => h9) rfl dX0_ifStatement_32 ?_
    refine lv_bipush (v := 7) hx hb dX0_ifStatement_35 (by decide) ?_
    refine lv_iconst (v := (-1)) hx hb dX0_ifStatement_37 (by decide) ?_
    refine lv_iconst (v := 0) hx hb dX0_ifStatement_38 (by decide) ?_
    have hO : OKW G h0 a (upd (upd (upd (upd (upd (upd (upd (upd (upd (upd (upd F 2 (nI sz)) 5 (nI cs107)) 6 (nI rg)) 7 (nI hd)) 8 (nI dp)) 12 (nI vr)) 13 wt109) 14 wt109) 15 wf110) 16 ls9) 5 (nI cs107)) (updR (updR (updR R 2 (.ref pq)) 3 (.ref mq)) 4 (va_rf lo)) Z B106 J K105.1 (fun q99 x99 => x99 = rep G a K105 q99) w := hO.to rfl
    obtain ⟨_, qr141, hqr142⟩ := hO.2.1 13 _ (sg_13 G h0 a _ _ _ _ _)
    refine pc_V0 (G := G) (As := [.int 7, .int (-1), .int (nI 0)]) (rest := []) hx hb hml hown hq hE hX pX0_al hP hD hS hA hl.1 (K_jump l G h0 a (upd (upd (upd (upd (upd (upd (upd (upd (upd (upd F 2 (nI sz)) 5 (nI cs107)) 6 (nI rg)) 7 (nI hd)) 8 (nI dp)) 12 (nI vr)) 13 wt109) 14 wt109) 15 wf110) 16 ls9) (updR (updR (updR R 2 (.ref pq)) 3 (.ref mq)) 4 (va_rf lo)) Z B106 J K105.1 (fun q99 x99 => x99 = rep G a K105 q99) w 7 (-1) 0 cs107 (by omega) (by omega) hng132 hO) (gV pw_197 pw_198 pw_199 pw_70 pw_132) hV_X1_jump qr141 1 hqr142 rfl rfl rfl (Nat.le_of_ble_eq_true rfl) dX0_ifStatement_39 ⟨(by show 0 + 0 ≤ ((rE (g 2 q) - rS (g 2 q)) + 1); omega), (by show 0 + 0 ≤ (6 * (rE (g 2 q) - rS (g 2 q)) + 6); omega)⟩ ⟨(by show 3 + 1 ≤ (5 * n + 46); omega), (by show 8 + (4 + 11) + 83 ≤ (200 * n + 1120); omega)⟩ (fun v140 u138 H locs hw139 hP hD hS => ?_)
    obtain ⟨w, cs143, f144, f145, f146, f147, r148⟩ := u138
    obtain ⟨hw139, h149, h150, hO⟩ := hw139
    have h149 : cs107 ≤ cs143 ∧ cs143 ≤ cs107 + 1 ∧ cs143 ≤ 10000 := h149
    have h150 : Nng f146 := h150
    obtain rfl : v140 = some (.int r148) := hw139
    have hO : OKP G h0 a (upd (upd (upd (upd (upd (upd (upd (upd (upd (upd F 2 (nI sz)) 5 (nI cs143)) 6 (nI rg)) 7 (nI hd)) 8 (nI dp)) 12 (nI vr)) 13 wt109) 14 wt109) 15 wf110) 16 ls9) (updR (updR (updR R 2 (.ref pq)) 3 (.ref mq)) 4 (va_rf lo)) Z (updA (updA (updA (updA B106 16 f144) 17 f145) 18 f146) 19 f147) J K105 w := hO.to rfl
    refine W.widen (k := 0) (n := 0) (Nat.le_of_ble_eq_true rfl) (Nat.le_of_ble_eq_true rfl) ?_
    refine W.eq (g2 := F0 m 42 ls [.int r148]) rfl ?_
    refine lv_istore_n (lv' := [(3, .int r148), (2, .int wf110), (0, .ref (a 4)), (1, .ref q)]) hx hb dX0_ifStatement_42 rfl hl (by decide) rfl (fun ls hl => ?_)
    refine lv_aload_n hx hb dX0_ifStatement_43 rfl (lv_at hl 2 rfl) ?_
    refine lv_aload_n hx hb dX0_ifStatement_44 rfl (lv_at hl 3 rfl) ?_
    refine p_get (v := .ref q2) (C := RX7) (Tc := TX7) (N := 11) (ci := 13) hx hb hq pin_wsX70 hown hE hP hO (by rw [hf122]; decide) (rep_1 hf122) rfl 7 (by decide) (hq _ pw_169) (fun _ h9 => h9) (congrArg (fun z => some (va_rf z)) hf126) dX0_ifStatement_45 ?_
    refine lv_iconst (v := 1) hx hb dX0_ifStatement_48 (by decide) ?_
    have hO : OKP G h0 a (upd (upd (upd (upd (upd (upd (upd (upd (upd (upd (upd (upd (upd (upd (upd (upd (upd (upd F 2 (nI sz)) 5 (nI cs)) 6 (nI rg)) 7 (nI hd)) 8 (nI dp)) 12 (nI vr)) 16 ls9) 5 (nI cs143)) 13 wt109) 14 wt109) 15 wf110) 2 (nI sz)) 5 (nI cs143)) 6 (nI rg)) 7 (nI hd)) 8 (nI dp)) 12 (nI vr)) 16 ls9) (updR (updR (updR (updR (updR (updR R 2 (.ref pq)) 3 (.ref mq)) 4 (va_rf lo)) 2 (.ref pq)) 3 (.ref mq)) 4 (va_rf lo)) Z (updA (updA (updA (updA B106 16 f144) 17 f145) 18 f146) 19 f147) J K105 w := hO.to rfl
    obtain ⟨_, qr154, hqr155⟩ := hO.2.1 24 _ (sg_24 G h0 a _ _ _ _ _)
    refine pn_V0 (G := G) (As := [.ref q2, .int (nI 1)]) (rest := []) hx hb hml hown hq hE hX pX0_al hP hD hS hA hl.1 ((ist (n - 1) (by omega)) h0 a (upd (upd (upd (upd (upd (upd (upd (upd (upd (upd (upd F 2 (nI sz)) 5 (nI cs)) 6 (nI rg)) 7 (nI hd)) 8 (nI dp)) 12 (nI vr)) 16 ls9) 5 (nI cs143)) 13 wt109) 14 wt109) 15 wf110) (updR (updR (updR R 2 (.ref pq)) 3 (.ref mq)) 4 (va_rf lo)) Z (updA (updA (updA (updA B106 16 f144) 17 f145) 18 f146) 19 f147) J K105 w pq dr ml nd nm cp it s9 q2 mq cs143 vr sz 1 hd dp rg ls9 lo g rk (by omega) (BdE.wp hbe130 hwp) (BdE.pt hbe130 hwp hps) (BdE.rko hbe130 hrk) (by omega) (by omega) h150 hf123 hf127 ⟨hv1.1, (by have z9 := hv1; omega)⟩ (by omega) (by omega) (by omega) (LpO.be hbe130 hlo) (by omega) hO hl0) (gV pw_300 pw_301 pw_302 pw_63 pw_323) hV_X0_statement qr154 0 hqr155 rfl rfl rfl (Nat.le_of_ble_eq_true rfl) dX0_ifStatement_49 ⟨(by show 0 + ((rE (g 2 q2) - rS (g 2 q2)) + 1) ≤ ((rE (g 2 q) - rS (g 2 q)) + 1); omega), (by show 0 + (6 * (rE (g 2 q2) - rS (g 2 q2)) + 6) ≤ (6 * (rE (g 2 q) - rS (g 2 q)) + 6); omega)⟩ ⟨(by show (5 * (n - 1) + 50) + 1 ≤ (5 * n + 46); omega), (by show 8 + (3 + 11) + (200 * (n - 1) + 1200) ≤ (200 * n + 1120); omega)⟩ (fun v153 u151 H locs hw152 hP hD hS => ?_) (fun ux ce9 q9 H9 locs9 hux hP9 hD9 hS9 hce hcv hcl => pb_out ux (ThQ.up (Thx.same (Thx.same (Thx.same (Thx.same (Thx.same (Thx.same (Thx.same (Thx.b (Thx.b8 (Thx.b (Thx.b (Thx.f (Thx.f (Thx.f (Thx.f (Bth.thx hbb131) (by omega)) (by omega)) (by omega)) (by omega)) (by omega) (by decide)) (by omega) (by decide)) h150) (by omega) (by decide)) rfl) rfl) rfl) rfl) rfl) rfl) rfl) (show RhX (updR (updR (updR R 2 (.ref pq)) 3 (.ref mq)) 4 (va_rf lo)) (updR (updR (updR (updR (updR (updR R 2 (.ref pq)) 3 (.ref mq)) 4 (va_rf lo)) 2 (.ref pq)) 3 (.ref mq)) 4 (va_rf lo)) from fun k9 hk9 => by unfold updR; simp only [show ¬ k9 = 1 by omega, show ¬ k9 = 2 by omega, show ¬ k9 = 3 by omega, show ¬ k9 = 4 by omega, if_false]) hux) hnt hlocks hce hcv hcl hP9 hD9 hS9 (by show 0 + ((rE (g 2 q2) - rS (g 2 q2)) + 1) ≤ ((rE (g 2 q) - rS (g 2 q)) + 1); omega) (by show 0 + (6 * (rE (g 2 q2) - rS (g 2 q2)) + 6) ≤ (6 * (rE (g 2 q) - rS (g 2 q)) + 6); omega))
    obtain ⟨w, K156, B157, cs158, as159, wt160, wf161, vr162, hd163, dp164, rg165, ls166⟩ := u151
    obtain ⟨hw152, h167, h168, h169, h170, hO⟩ := hw152
    have h167 : BdE K105 K156 := h167
    have h168 : Bth (updA (updA (updA (updA B106 16 f144) 17 f145) 18 f146) 19 f147) B157 := h168
    have h169 : cs158 ≤ 10000 ∧ rg165 ≤ 625 ∧ dp164 ≤ 1000 := h169
    have h170 : vr ≤ vr162 ∧ vr162 ≤ 30 ∧ hd163 + vr = hd + vr162 := h170
    obtain rfl : v153 = none := hw152
    have hf171 : K156.1 pq = 7 := (BdE.T h167 hf115 (by decide))
    have hf172 : K156.2.2.1 18 pq = some (a 1) := (BdE.C h167 (by rw [hf115]; decide) 18).trans hf116
    have hf173 : K156.2.2.1 14 pq = some dr := (BdE.C h167 (by rw [hf115]; decide) 14).trans hf117
    have hf174 : K156.1 dr = 8 := (BdE.T h167 hf118 (by decide))
    have hf175 : K156.2.2.1 15 pq = some ml := (BdE.C h167 (by rw [hf115]; decide) 15).trans hf119
    have hf176 : K156.1 ml = 5 := (BdE.T h167 hf120 (by decide))
    have hf177 : K156.2.1 24 pq = (nI nd) := (BdE.I h167 (by rw [hf115]; decide) (by decide) (by decide)).trans hf121
    have hf178 : K156.1 q = 1 := (BdE.T h167 hf122 (by decide))
    have hf179 : K156.1 mq = 3 := (BdE.T h167 hf123 (by decide))
    have hf180 : K156.2.2.1 0 q = some q1 := (BdE.C h167 (by rw [hf122]; decide) 0).trans hf124
    have hf181 : K156.1 q1 = 1 := (BdE.T h167 hf125 (by decide))
    have hf182 : K156.2.2.1 1 q = some q2 := (BdE.C h167 (by rw [hf122]; decide) 1).trans hf126
    have hf183 : K156.1 q2 = 1 := (BdE.T h167 hf127 (by decide))
    have hf184 : K156.2.2.1 2 q = some q3 := (BdE.C h167 (by rw [hf122]; decide) 2).trans hf128
    have hf185 : K156.1 q3 = 1 := (BdE.T h167 hf129 (by decide))
    have hO : OKP G h0 a (upd (upd (upd (upd (upd (upd (upd (upd (upd (upd F 2 (nI sz)) 5 (nI cs158)) 6 (nI rg165)) 7 (nI hd163)) 8 (nI dp164)) 12 (nI vr162)) 13 as159) 14 wt160) 15 wf161) 16 ls166) (updR (updR (updR R 2 (.ref pq)) 3 (.ref mq)) 4 (va_rf lo)) Z B157 J K156 w := hO.to rfl
    refine W.widen (k := (rE (g 2 q2) - rS (g 2 q2))) (n := (6 * (rE (g 2 q2) - rS (g 2 q2)))) (by show 0 + (rE (g 2 q2) - rS (g 2 q2)) ≤ (rE (g 2 q2) - rS (g 2 q2)); omega) (by show 0 + (6 * (rE (g 2 q2) - rS (g 2 q2))) ≤ (6 * (rE (g 2 q2) - rS (g 2 q2))); omega) ?_
    refine W.eq (g2 := F0 m 52 ls []) rfl ?_
    have hbe186 := BdE.trans hbe130 h167
    have hbb187 : Bth B B157 := Bth.trans (show Thx (upd (upd (upd (upd (upd (upd (upd F 2 (nI sz)) 5 (nI cs)) 6 (nI rg)) 7 (nI hd)) 8 (nI dp)) 12 (nI vr)) 16 ls9) (upd (upd (upd (upd (upd (upd (upd (upd (upd (upd (upd F 2 (nI sz)) 5 (nI cs)) 6 (nI rg)) 7 (nI hd)) 8 (nI dp)) 12 (nI vr)) 16 ls9) 5 (nI cs143)) 13 wt109) 14 wt109) 15 wf110) B (updA (updA (updA (updA B106 16 f144) 17 f145) 18 f146) 19 f147) from (Thx.b (Thx.b8 (Thx.b (Thx.b (Thx.f (Thx.f (Thx.f (Thx.f (Bth.thx hbb131) (by omega)) (by omega)) (by omega)) (by omega)) (by omega) (by decide)) (by omega) (by decide)) h150) (by omega) (by decide))).2 h168
    have hng188 : Nng (B157 18) := h168.2 h150
    refine lv_aload_n hx hb dX0_ifStatement_52 rfl (lv_at hl 3 rfl) ?_
    refine p_get (v := .ref q3) (C := RX7) (Tc := TX7) (N := 11) (ci := 13) hx hb hq pin_wsX70 hown hE hP hO (by rw [hf178]; decide) (rep_1 hf178) rfl 8 (by decide) (hq _ pw_196) (fun _ h9 => h9) (congrArg (fun z => some (va_rf z)) hf184) dX0_ifStatement_53 ?_
    refine lv_ifnonnull (tgt := 78) hx hb dX0_ifStatement_56 (by decide) ?_
    refine lv_aload_n hx hb dX0_ifStatement_78 rfl (lv_at hl 2 rfl) ?_
    refine c_get (v := .ref (a 2)) (C := RX0) (Tc := TX0) (N := 13) (ci := 0) hx hb hq pin_wsX00 hown hE hP hO 24 (sg_24 G h0 a _ _ _ _ _) rfl 1 (by decide) (hq _ pw_5) (fun _ h9 => h9) rfl dX0_ifStatement_79 ?_
    refine lv_bipush (v := 6) hx hb dX0_ifStatement_82 (by decide) ?_
    refine lv_iconst (v := (-1)) hx hb dX0_ifStatement_84 (by decide) ?_
    refine lv_iconst (v := 0) hx hb dX0_ifStatement_85 (by decide) ?_
    have hO : OKW G h0 a (upd (upd (upd (upd (upd (upd (upd (upd (upd (upd (upd F 2 (nI sz)) 5 (nI cs158)) 6 (nI rg165)) 7 (nI hd163)) 8 (nI dp164)) 12 (nI vr162)) 13 as159) 14 wt160) 15 wf161) 16 ls166) 5 (nI cs158)) (updR (updR (updR R 2 (.ref pq)) 3 (.ref mq)) 4 (va_rf lo)) Z B157 J K156.1 (fun q99 x99 => x99 = rep G a K156 q99) w := hO.to rfl
    obtain ⟨_, qr192, hqr193⟩ := hO.2.1 13 _ (sg_13 G h0 a _ _ _ _ _)
    refine pc_V0 (G := G) (As := [.int 6, .int (-1), .int (nI 0)]) (rest := []) hx hb hml hown hq hE hX pX0_al hP hD hS hA hl.1 (K_jump l G h0 a (upd (upd (upd (upd (upd (upd (upd (upd (upd (upd F 2 (nI sz)) 5 (nI cs158)) 6 (nI rg165)) 7 (nI hd163)) 8 (nI dp164)) 12 (nI vr162)) 13 as159) 14 wt160) 15 wf161) 16 ls166) (updR (updR (updR R 2 (.ref pq)) 3 (.ref mq)) 4 (va_rf lo)) Z B157 J K156.1 (fun q99 x99 => x99 = rep G a K156 q99) w 6 (-1) 0 cs158 (by omega) (by omega) hng188 hO) (gV pw_197 pw_198 pw_199 pw_70 pw_132) hV_X1_jump qr192 1 hqr193 rfl rfl rfl (Nat.le_of_ble_eq_true rfl) dX0_ifStatement_86 ⟨(by show (rE (g 2 q2) - rS (g 2 q2)) + 0 ≤ ((rE (g 2 q) - rS (g 2 q)) + 1); omega), (by show (6 * (rE (g 2 q2) - rS (g 2 q2))) + 0 ≤ (6 * (rE (g 2 q) - rS (g 2 q)) + 6); omega)⟩ ⟨(by show 3 + 1 ≤ (5 * n + 46); omega), (by show 8 + (4 + 11) + 83 ≤ (200 * n + 1120); omega)⟩ (fun v191 u189 H locs hw190 hP hD hS => ?_)
    obtain ⟨w, cs194, f195, f196, f197, f198, r199⟩ := u189
    obtain ⟨hw190, h200, h201, hO⟩ := hw190
    have h200 : cs158 ≤ cs194 ∧ cs194 ≤ cs158 + 1 ∧ cs194 ≤ 10000 := h200
    have h201 : Nng f197 := h201
    obtain rfl : v191 = some (.int r199) := hw190
    have hO : OKP G h0 a (upd (upd (upd (upd (upd (upd (upd (upd (upd (upd F 2 (nI sz)) 5 (nI cs194)) 6 (nI rg165)) 7 (nI hd163)) 8 (nI dp164)) 12 (nI vr162)) 13 as159) 14 wt160) 15 wf161) 16 ls166) (updR (updR (updR R 2 (.ref pq)) 3 (.ref mq)) 4 (va_rf lo)) Z (updA (updA (updA (updA B157 16 f195) 17 f196) 18 f197) 19 f198) J K156 w := hO.to rfl
    refine W.widen (k := (rE (g 2 q2) - rS (g 2 q2))) (n := (6 * (rE (g 2 q2) - rS (g 2 q2)))) (by show (rE (g 2 q2) - rS (g 2 q2)) + 0 ≤ (rE (g 2 q2) - rS (g 2 q2)); omega) (by show (6 * (rE (g 2 q2) - rS (g 2 q2))) + 0 ≤ (6 * (rE (g 2 q2) - rS (g 2 q2))); omega) ?_
    refine W.eq (g2 := F0 m 89 ls [.int r199]) rfl ?_
    refine lv_istore (lv' := [(4, .int r199), (3, .int r148), (2, .int wf110), (0, .ref (a 4)), (1, .ref q)]) hx hb dX0_ifStatement_89 hl (by decide) rfl (fun ls hl => ?_)
    refine lv_aload_n hx hb dX0_ifStatement_91 rfl (lv_at hl 3 rfl) ?_
    refine c_get (v := .ref (a 2)) (C := RX0) (Tc := TX0) (N := 13) (ci := 0) hx hb hq pin_wsX00 hown hE hP hO 24 (sg_24 G h0 a _ _ _ _ _) rfl 1 (by decide) (hq _ pw_5) (fun _ h9 => h9) rfl dX0_ifStatement_92 ?_
    refine lv_iload_n hx hb dX0_ifStatement_95 rfl (lv_at hl 1 rfl) ?_
    have hO : OKW G h0 a (upd (upd (upd (upd (upd (upd (upd (upd (upd (upd (upd F 2 (nI sz)) 5 (nI cs194)) 6 (nI rg165)) 7 (nI hd163)) 8 (nI dp164)) 12 (nI vr162)) 13 as159) 14 wt160) 15 wf161) 16 ls166) 5 (nI cs194)) (updR (updR (updR R 2 (.ref pq)) 3 (.ref mq)) 4 (va_rf lo)) Z (updA (updA (updA (updA B157 16 f195) 17 f196) 18 f197) 19 f198) J K156.1 (fun q99 x99 => x99 = rep G a K156 q99) w := hO.to rfl
    obtain ⟨_, qr205, hqr206⟩ := hO.2.1 13 _ (sg_13 G h0 a _ _ _ _ _)
    refine pc_V0 (G := G) (As := [.int r148]) (rest := []) hx hb hml hown hq hE hX pX0_al hP hD hS hA hl.1 (K_land l G h0 a (upd (upd (upd (upd (upd (upd (upd (upd (upd (upd F 2 (nI sz)) 5 (nI cs194)) 6 (nI rg165)) 7 (nI hd163)) 8 (nI dp164)) 12 (nI vr162)) 13 as159) 14 wt160) 15 wf161) 16 ls166) (updR (updR (updR R 2 (.ref pq)) 3 (.ref mq)) 4 (va_rf lo)) Z (updA (updA (updA (updA B157 16 f195) 17 f196) 18 f197) 19 f198) J K156.1 (fun q99 x99 => x99 = rep G a K156 q99) w r148 cs194 (by omega) hO) (gV pw_200 pw_201 pw_202 pw_70 pw_134) hV_X1_land qr205 1 hqr206 rfl rfl rfl (Nat.le_of_ble_eq_true rfl) dX0_ifStatement_96 ⟨(by show (rE (g 2 q2) - rS (g 2 q2)) + 0 ≤ ((rE (g 2 q) - rS (g 2 q)) + 1); omega), (by show (6 * (rE (g 2 q2) - rS (g 2 q2))) + 0 ≤ (6 * (rE (g 2 q) - rS (g 2 q)) + 6); omega)⟩ ⟨(by show 2 + 1 ≤ (5 * n + 46); omega), (by show 8 + (5 + 11) + 60 ≤ (200 * n + 1120); omega)⟩ (fun v204 u202 H locs hw203 hP hD hS => ?_)
    obtain ⟨w, f207⟩ := u202
    obtain ⟨hw203, hO⟩ := hw203
    obtain rfl : v204 = none := hw203
    have hO : OKP G h0 a (upd (upd (upd (upd (upd (upd (upd (upd (upd (upd F 2 (nI sz)) 5 (nI cs194)) 6 (nI rg165)) 7 (nI hd163)) 8 (nI dp164)) 12 (nI vr162)) 13 as159) 14 wt160) 15 wf161) 16 ls166) (updR (updR (updR R 2 (.ref pq)) 3 (.ref mq)) 4 (va_rf lo)) Z (updA (updA (updA (updA B157 16 f195) 17 f207) 18 f197) 19 f198) J K156 w := hO.to rfl
    refine W.widen (k := (rE (g 2 q2) - rS (g 2 q2))) (n := (6 * (rE (g 2 q2) - rS (g 2 q2)))) (by show (rE (g 2 q2) - rS (g 2 q2)) + 0 ≤ (rE (g 2 q2) - rS (g 2 q2)); omega) (by show (6 * (rE (g 2 q2) - rS (g 2 q2))) + 0 ≤ (6 * (rE (g 2 q2) - rS (g 2 q2))); omega) ?_
    refine W.eq (g2 := F0 m 99 ls []) rfl ?_
    refine lv_aload_n hx hb dX0_ifStatement_99 rfl (lv_at hl 3 rfl) ?_
    refine c_get (v := .int as159) (C := RX0) (Tc := TX0) (N := 13) (ci := 0) hx hb hq pin_wsX00 hown hE hP hO 24 (sg_24 G h0 a _ _ _ _ _) rfl 8 (by decide) (hq _ pw_55) (fun _ h9 => h9) rfl dX0_ifStatement_100 ?_
    refine lv_istore (lv' := [(5, .int as159), (4, .int r199), (3, .int r148), (2, .int wf110), (0, .ref (a 4)), (1, .ref q)]) hx hb dX0_ifStatement_103 hl (by decide) rfl (fun ls hl => ?_)
    refine lv_aload_n hx hb dX0_ifStatement_105 rfl (lv_at hl 4 rfl) ?_
    refine lv_iload_n hx hb dX0_ifStatement_106 rfl (lv_at hl 3 rfl) ?_
    refine c_put (v := .int wf110) (ty := .int) (C := RX0) (Tc := TX0) (N := 13) (ci := 0) hx hb hq pin_wsX00 tyX0 tyX0_ok nmX0 hown hE hP hD hS hO 24 (sg_24 G h0 a _ _ _ _ _) rfl 8 (by decide) (hq _ pw_55) (fun _ h9 => h9) rfl (by decide +kernel) rfl rfl (Nat.le_of_ble_eq_true rfl) (sf_13 G h0 a _ _ _ _ _ wf110) dX0_ifStatement_107 (fun H locs w hP hD hS hO => ?_)
    refine lv_aload_n hx hb dX0_ifStatement_110 rfl (lv_at hl 4 rfl) ?_
    refine lv_aload_n hx hb dX0_ifStatement_111 rfl (lv_at hl 5 rfl) ?_
    refine p_get (v := .ref q3) (C := RX7) (Tc := TX7) (N := 11) (ci := 13) hx hb hq pin_wsX70 hown hE hP hO (by rw [hf178]; decide) (rep_1 hf178) rfl 8 (by decide) (hq _ pw_196) (fun _ h9 => h9) (congrArg (fun z => some (va_rf z)) hf184) dX0_ifStatement_112 ?_
    refine lv_iconst (v := 1) hx hb dX0_ifStatement_115 (by decide) ?_
    have hO : OKP G h0 a (upd (upd (upd (upd (upd (upd (upd (upd (upd (upd (upd (upd (upd (upd (upd (upd (upd (upd (upd (upd (upd (upd (upd F 2 (nI sz)) 5 (nI cs)) 6 (nI rg)) 7 (nI hd)) 8 (nI dp)) 12 (nI vr)) 16 ls9) 5 (nI cs194)) 6 (nI rg165)) 7 (nI hd163)) 8 (nI dp164)) 12 (nI vr162)) 13 wf110) 14 wt160) 15 wf161) 16 ls166) 2 (nI sz)) 5 (nI cs194)) 6 (nI rg165)) 7 (nI hd163)) 8 (nI dp164)) 12 (nI vr162)) 16 ls166) (updR (updR (updR (updR (updR (updR R 2 (.ref pq)) 3 (.ref mq)) 4 (va_rf lo)) 2 (.ref pq)) 3 (.ref mq)) 4 (va_rf lo)) Z (updA (updA (updA (updA B157 16 f195) 17 f207) 18 f197) 19 f198) J K156 w := hO.to rfl
    obtain ⟨_, qr211, hqr212⟩ := hO.2.1 24 _ (sg_24 G h0 a _ _ _ _ _)
    refine pn_V0 (G := G) (As := [.ref q3, .int (nI 1)]) (rest := []) hx hb hml hown hq hE hX pX0_al hP hD hS hA hl.1 ((ist (n - 1) (by omega)) h0 a (upd (upd (upd (upd (upd (upd (upd (upd (upd (upd (upd (upd (upd (upd (upd (upd F 2 (nI sz)) 5 (nI cs)) 6 (nI rg)) 7 (nI hd)) 8 (nI dp)) 12 (nI vr)) 16 ls9) 5 (nI cs194)) 6 (nI rg165)) 7 (nI hd163)) 8 (nI dp164)) 12 (nI vr162)) 13 wf110) 14 wt160) 15 wf161) 16 ls166) (updR (updR (updR R 2 (.ref pq)) 3 (.ref mq)) 4 (va_rf lo)) Z (updA (updA (updA (updA B157 16 f195) 17 f207) 18 f197) 19 f198) J K156 w pq dr ml nd nm cp it s9 q3 mq cs194 vr162 sz 1 hd163 dp164 rg165 ls166 lo g rk (by omega) (BdE.wp hbe186 hwp) (BdE.pt hbe186 hwp hps) (BdE.rko hbe186 hrk) (by omega) (by omega) h201 hf179 hf185 ⟨hcv2.1, (by have z9 := hcv2; omega)⟩ (by omega) (by omega) (by omega) (LpO.be hbe186 hlo) (by omega) hO hl0) (gV pw_300 pw_301 pw_302 pw_63 pw_323) hV_X0_statement qr211 0 hqr212 rfl rfl rfl (Nat.le_of_ble_eq_true rfl) dX0_ifStatement_116 ⟨(by show (rE (g 2 q2) - rS (g 2 q2)) + ((rE (g 2 q3) - rS (g 2 q3)) + 1) ≤ ((rE (g 2 q) - rS (g 2 q)) + 1); omega), (by show (6 * (rE (g 2 q2) - rS (g 2 q2))) + (6 * (rE (g 2 q3) - rS (g 2 q3)) + 6) ≤ (6 * (rE (g 2 q) - rS (g 2 q)) + 6); omega)⟩ ⟨(by show (5 * (n - 1) + 50) + 1 ≤ (5 * n + 46); omega), (by show 8 + (3 + 11) + (200 * (n - 1) + 1200) ≤ (200 * n + 1120); omega)⟩ (fun v210 u208 H locs hw209 hP hD hS => ?_) (fun ux ce9 q9 H9 locs9 hux hP9 hD9 hS9 hce hcv hcl => pb_out ux (ThQ.up (Thx.same (Thx.same (Thx.same (Thx.same (Thx.same (Thx.same (Thx.same (Thx.b (Thx.b8 (Thx.b (Thx.b (Thx.f (Thx.f (Thx.f (Thx.f (Thx.f (Thx.f (Thx.f (Thx.f (Thx.f (Bth.thx hbb187) (by omega)) (by omega)) (by omega)) (by omega)) (by omega)) (by omega)) (by omega)) (by omega)) (by omega)) (by omega) (by decide)) (by omega) (by decide)) h201) (by omega) (by decide)) rfl) rfl) rfl) rfl) rfl) rfl) rfl) (show RhX (updR (updR (updR R 2 (.ref pq)) 3 (.ref mq)) 4 (va_rf lo)) (updR (updR (updR (updR (updR (updR R 2 (.ref pq)) 3 (.ref mq)) 4 (va_rf lo)) 2 (.ref pq)) 3 (.ref mq)) 4 (va_rf lo)) from fun k9 hk9 => by unfold updR; simp only [show ¬ k9 = 1 by omega, show ¬ k9 = 2 by omega, show ¬ k9 = 3 by omega, show ¬ k9 = 4 by omega, if_false]) hux) hnt hlocks hce hcv hcl hP9 hD9 hS9 (by show (rE (g 2 q2) - rS (g 2 q2)) + ((rE (g 2 q3) - rS (g 2 q3)) + 1) ≤ ((rE (g 2 q) - rS (g 2 q)) + 1); omega) (by show (6 * (rE (g 2 q2) - rS (g 2 q2))) + (6 * (rE (g 2 q3) - rS (g 2 q3)) + 6) ≤ (6 * (rE (g 2 q) - rS (g 2 q)) + 6); omega))
    obtain ⟨w, K213, B214, cs215, as216, wt217, wf218, vr219, hd220, dp221, rg222, ls223⟩ := u208
    obtain ⟨hw209, h224, h225, h226, h227, hO⟩ := hw209
    have h224 : BdE K156 K213 := h224
    have h225 : Bth (updA (updA (updA (updA B157 16 f195) 17 f207) 18 f197) 19 f198) B214 := h225
    have h226 : cs215 ≤ 10000 ∧ rg222 ≤ 625 ∧ dp221 ≤ 1000 := h226
    have h227 : vr162 ≤ vr219 ∧ vr219 ≤ 30 ∧ hd220 + vr162 = hd163 + vr219 := h227
    obtain rfl : v210 = none := hw209
    have hf228 : K213.1 pq = 7 := (BdE.T h224 hf171 (by decide))
    have hf229 : K213.2.2.1 18 pq = some (a 1) := (BdE.C h224 (by rw [hf171]; decide) 18).trans hf172
    have hf230 : K213.2.2.1 14 pq = some dr := (BdE.C h224 (by rw [hf171]; decide) 14).trans hf173
    have hf231 : K213.1 dr = 8 := (BdE.T h224 hf174 (by decide))
    have hf232 : K213.2.2.1 15 pq = some ml := (BdE.C h224 (by rw [hf171]; decide) 15).trans hf175
    have hf233 : K213.1 ml = 5 := (BdE.T h224 hf176 (by decide))
    have hf234 : K213.2.1 24 pq = (nI nd) := (BdE.I h224 (by rw [hf171]; decide) (by decide) (by decide)).trans hf177
    have hf235 : K213.1 q = 1 := (BdE.T h224 hf178 (by decide))
    have hf236 : K213.1 mq = 3 := (BdE.T h224 hf179 (by decide))
    have hf237 : K213.2.2.1 0 q = some q1 := (BdE.C h224 (by rw [hf178]; decide) 0).trans hf180
    have hf238 : K213.1 q1 = 1 := (BdE.T h224 hf181 (by decide))
    have hf239 : K213.2.2.1 1 q = some q2 := (BdE.C h224 (by rw [hf178]; decide) 1).trans hf182
    have hf240 : K213.1 q2 = 1 := (BdE.T h224 hf183 (by decide))
    have hf241 : K213.2.2.1 2 q = some q3 := (BdE.C h224 (by rw [hf178]; decide) 2).trans hf184
    have hf242 : K213.1 q3 = 1 := (BdE.T h224 hf185 (by decide))
    have hO : OKP G h0 a (upd (upd (upd (upd (upd (upd (upd (upd (upd (upd F 2 (nI sz)) 5 (nI cs215)) 6 (nI rg222)) 7 (nI hd220)) 8 (nI dp221)) 12 (nI vr219)) 13 as216) 14 wt217) 15 wf218) 16 ls223) (updR (updR (updR R 2 (.ref pq)) 3 (.ref mq)) 4 (va_rf lo)) Z B214 J K213 w := hO.to rfl
    refine W.widen (k := ((rE (g 2 q2) - rS (g 2 q2)) + (rE (g 2 q3) - rS (g 2 q3)))) (n := ((6 * (rE (g 2 q2) - rS (g 2 q2))) + (6 * (rE (g 2 q3) - rS (g 2 q3))))) (by show (rE (g 2 q2) - rS (g 2 q2)) + (rE (g 2 q3) - rS (g 2 q3)) ≤ ((rE (g 2 q2) - rS (g 2 q2)) + (rE (g 2 q3) - rS (g 2 q3))); omega) (by show (6 * (rE (g 2 q2) - rS (g 2 q2))) + (6 * (rE (g 2 q3) - rS (g 2 q3))) ≤ ((6 * (rE (g 2 q2) - rS (g 2 q2))) + (6 * (rE (g 2 q3) - rS (g 2 q3)))); omega) ?_
    refine W.eq (g2 := F0 m 119 ls []) rfl ?_
    have hbe243 := BdE.trans hbe186 h224
    have hbb244 : Bth B B214 := Bth.trans (show Thx (upd (upd (upd (upd (upd (upd (upd F 2 (nI sz)) 5 (nI cs)) 6 (nI rg)) 7 (nI hd)) 8 (nI dp)) 12 (nI vr)) 16 ls9) (upd (upd (upd (upd (upd (upd (upd (upd (upd (upd (upd (upd (upd (upd (upd (upd F 2 (nI sz)) 5 (nI cs)) 6 (nI rg)) 7 (nI hd)) 8 (nI dp)) 12 (nI vr)) 16 ls9) 5 (nI cs194)) 6 (nI rg165)) 7 (nI hd163)) 8 (nI dp164)) 12 (nI vr162)) 13 wf110) 14 wt160) 15 wf161) 16 ls166) B (updA (updA (updA (updA B157 16 f195) 17 f207) 18 f197) 19 f198) from (Thx.b (Thx.b8 (Thx.b (Thx.b (Thx.f (Thx.f (Thx.f (Thx.f (Thx.f (Thx.f (Thx.f (Thx.f (Thx.f (Bth.thx hbb187) (by omega)) (by omega)) (by omega)) (by omega)) (by omega)) (by omega)) (by omega)) (by omega)) (by omega)) (by omega) (by decide)) (by omega) (by decide)) h201) (by omega) (by decide))).2 h225
    have hng245 : Nng (B214 18) := h225.2 h201
    refine lv_aload_n hx hb dX0_ifStatement_119 rfl (lv_at hl 4 rfl) ?_
    refine c_get (v := .ref (a 2)) (C := RX0) (Tc := TX0) (N := 13) (ci := 0) hx hb hq pin_wsX00 hown hE hP hO 24 (sg_24 G h0 a _ _ _ _ _) rfl 1 (by decide) (hq _ pw_5) (fun _ h9 => h9) rfl dX0_ifStatement_120 ?_
    refine lv_iload hx hb dX0_ifStatement_123 (lv_at hl 1 rfl) ?_
    have hO : OKW G h0 a (upd (upd (upd (upd (upd (upd (upd (upd (upd (upd (upd F 2 (nI sz)) 5 (nI cs215)) 6 (nI rg222)) 7 (nI hd220)) 8 (nI dp221)) 12 (nI vr219)) 13 as216) 14 wt217) 15 wf218) 16 ls223) 5 (nI cs215)) (updR (updR (updR R 2 (.ref pq)) 3 (.ref mq)) 4 (va_rf lo)) Z B214 J K213.1 (fun q99 x99 => x99 = rep G a K213 q99) w := hO.to rfl
    obtain ⟨_, qr249, hqr250⟩ := hO.2.1 13 _ (sg_13 G h0 a _ _ _ _ _)
    refine pc_V0 (G := G) (As := [.int r199]) (rest := []) hx hb hml hown hq hE hX pX0_al hP hD hS hA hl.1 (K_land l G h0 a (upd (upd (upd (upd (upd (upd (upd (upd (upd (upd F 2 (nI sz)) 5 (nI cs215)) 6 (nI rg222)) 7 (nI hd220)) 8 (nI dp221)) 12 (nI vr219)) 13 as216) 14 wt217) 15 wf218) 16 ls223) (updR (updR (updR R 2 (.ref pq)) 3 (.ref mq)) 4 (va_rf lo)) Z B214 J K213.1 (fun q99 x99 => x99 = rep G a K213 q99) w r199 cs215 (by omega) hO) (gV pw_200 pw_201 pw_202 pw_70 pw_134) hV_X1_land qr249 1 hqr250 rfl rfl rfl (Nat.le_of_ble_eq_true rfl) dX0_ifStatement_125 ⟨(by show ((rE (g 2 q2) - rS (g 2 q2)) + (rE (g 2 q3) - rS (g 2 q3))) + 0 ≤ ((rE (g 2 q) - rS (g 2 q)) + 1); omega), (by show ((6 * (rE (g 2 q2) - rS (g 2 q2))) + (6 * (rE (g 2 q3) - rS (g 2 q3)))) + 0 ≤ (6 * (rE (g 2 q) - rS (g 2 q)) + 6); omega)⟩ ⟨(by show 2 + 1 ≤ (5 * n + 46); omega), (by show 8 + (5 + 11) + 60 ≤ (200 * n + 1120); omega)⟩ (fun v248 u246 H locs hw247 hP hD hS => ?_)
    obtain ⟨w, f251⟩ := u246
    obtain ⟨hw247, hO⟩ := hw247
    obtain rfl : v248 = none := hw247
    have hO : OKP G h0 a (upd (upd (upd (upd (upd (upd (upd (upd (upd (upd F 2 (nI sz)) 5 (nI cs215)) 6 (nI rg222)) 7 (nI hd220)) 8 (nI dp221)) 12 (nI vr219)) 13 as216) 14 wt217) 15 wf218) 16 ls223) (updR (updR (updR R 2 (.ref pq)) 3 (.ref mq)) 4 (va_rf lo)) Z (updA B214 17 f251) J K213 w := hO.to rfl
    refine W.widen (k := ((rE (g 2 q2) - rS (g 2 q2)) + (rE (g 2 q3) - rS (g 2 q3)))) (n := ((6 * (rE (g 2 q2) - rS (g 2 q2))) + (6 * (rE (g 2 q3) - rS (g 2 q3))))) (by show ((rE (g 2 q2) - rS (g 2 q2)) + (rE (g 2 q3) - rS (g 2 q3))) + 0 ≤ ((rE (g 2 q2) - rS (g 2 q2)) + (rE (g 2 q3) - rS (g 2 q3))); omega) (by show ((6 * (rE (g 2 q2) - rS (g 2 q2))) + (6 * (rE (g 2 q3) - rS (g 2 q3)))) + 0 ≤ ((6 * (rE (g 2 q2) - rS (g 2 q2))) + (6 * (rE (g 2 q3) - rS (g 2 q3)))); omega) ?_
    refine W.eq (g2 := F0 m 128 ls []) rfl ?_
    refine lv_aload_n hx hb dX0_ifStatement_128 rfl (lv_at hl 4 rfl) ?_
    refine lv_dup hx hb dX0_ifStatement_129 rfl ?_
    refine c_get (v := .int as216) (C := RX0) (Tc := TX0) (N := 13) (ci := 0) hx hb hq pin_wsX00 hown hE hP hO 24 (sg_24 G h0 a _ _ _ _ _) rfl 8 (by decide) (hq _ pw_55) (fun _ h9 => h9) rfl dX0_ifStatement_130 ?_
    refine lv_iload hx hb dX0_ifStatement_133 (lv_at hl 0 rfl) ?_
    refine lv_iand hx hb dX0_ifStatement_135 ?_
    refine lv_topi (fun x252 e253 => ?_)
    refine c_put (v := .int x252) (ty := .int) (C := RX0) (Tc := TX0) (N := 13) (ci := 0) hx hb hq pin_wsX00 tyX0 tyX0_ok nmX0 hown hE hP hD hS hO 24 (sg_24 G h0 a _ _ _ _ _) rfl 8 (by decide) (hq _ pw_55) (fun _ h9 => h9) rfl (by decide +kernel) rfl rfl (Nat.le_of_ble_eq_true rfl) (sf_13 G h0 a _ _ _ _ _ x252) dX0_ifStatement_136 (fun H locs w hP hD hS hO => ?_)
    refine W_size (fun hz1 hz2 => ?_)
    refine vx_ret ?_
    have hz254 : BdE K K213 := hbe243
    have hz255 : Bth B (updA B214 17 f251) := (show Thx (upd (upd (upd (upd (upd (upd (upd F 2 (nI sz)) 5 (nI cs)) 6 (nI rg)) 7 (nI hd)) 8 (nI dp)) 12 (nI vr)) 16 ls9) (upd (upd (upd (upd (upd (upd (upd (upd (upd (upd (upd (upd (upd (upd (upd (upd F 2 (nI sz)) 5 (nI cs)) 6 (nI rg)) 7 (nI hd)) 8 (nI dp)) 12 (nI vr)) 16 ls9) 5 (nI cs215)) 6 (nI rg222)) 7 (nI hd220)) 8 (nI dp221)) 12 (nI vr219)) 13 x252) 14 wt217) 15 wf218) 16 ls223) B (updA B214 17 f251) from (Thx.b (Thx.f (Thx.f (Thx.f (Thx.f (Thx.f (Thx.f (Thx.f (Thx.f (Thx.f (Bth.thx hbb244) (by omega)) (by omega)) (by omega)) (by omega)) (by omega)) (by omega)) (by omega)) (by omega)) (by omega)) (by omega) (by decide))).2
    have hz256 : cs215 ≤ 10000 ∧ rg222 ≤ 625 ∧ dp221 ≤ 1000 := (by omega)
    have hz257 : vr ≤ vr219 ∧ vr219 ≤ 30 ∧ hd220 + vr = hd + vr219 := (by omega)
    have hO : OKP G h0 a (upd (upd (upd (upd (upd (upd (upd (upd (upd (upd F 2 (nI sz)) 5 (nI cs215)) 6 (nI rg222)) 7 (nI hd220)) 8 (nI dp221)) 12 (nI vr219)) 13 x252) 14 wt217) 15 wf218) 16 ls223) (updR (updR (updR R 2 (.ref pq)) 3 (.ref mq)) 4 (va_rf lo)) Z (updA B214 17 f251) J K213 w := hO.to rfl
    refine W.widen (k := ((rE (g 2 q) - rS (g 2 q)) + 1)) (n := (6 * (rE (g 2 q) - rS (g 2 q)) + 6)) (by omega) (by omega) ?_
    have hzz1 : H.size ≤ s.heap.size + ((rE (g 2 q) - rS (g 2 q))) := (by have z : ((rE (g 2 q2) - rS (g 2 q2)) + (rE (g 2 q3) - rS (g 2 q3))) ≤ (rE (g 2 q) - rS (g 2 q)) := (by omega); omega)
    have hzz2 : hSl H ≤ hSl s.heap + ((6 * (rE (g 2 q) - rS (g 2 q)))) := (by have z : ((6 * (rE (g 2 q2) - rS (g 2 q2))) + (6 * (rE (g 2 q3) - rS (g 2 q3)))) ≤ (6 * (rE (g 2 q) - rS (g 2 q))) := (by omega); omega)
    exact W.vret hx hb hr (fun t99 ht99 hW99 => ⟨⟨_, (w, (K213, (updA B214 17 f251), cs215, x252, wt217, wf218, vr219, hd220, dp221, rg222, ls223)), rfl, ⟨rfl, hz254, hz255, hz256, hz257, hO⟩, by rw [ht99]; exact hP, hD, by rw [ht99]; exact hzz1, by rw [ht99]; exact hzz2⟩, hS.F ht99⟩) hS.2.2 dX0_ifStatement_139
