theorem mkM_5 {G : pT} {K : PK} {q o f1 : Nat} {x1 x2 x3 : Int32} (hf : (kI (kI (kI (kC (kN K q 3 0) 5 q (some o)) 6 q x1) 7 q x2) 8 q x3).1 f1 = 0) : (mkM G K q o x1 x2 x3 f1).2.2.1 5 q = some o := by
  have hn : ¬ q = f1 := fun z => by rw [← z] at hf; have e : (kI (kI (kI (kC (kN K q 3 0) 5 q (some o)) 6 q x1) 7 q x2) 8 q x3).1 q = 3 := if_pos rfl; rw [e] at hf; exact absurd hf (by decide)
  unfold mkM addL
  show (kC (kC (kI (kN _ f1 5 0) 22 f1 0) 13 f1 (some G.2.2.2.2)) 6 q (some f1)).2.2.1 5 q = some o
  rw [kC_of (by decide), kC_ne hn]
  show (if q = f1 then _ else _) = some o
  rw [if_neg hn]
  exact kC_eq
theorem TtQ.no {kd f1 : Nat → Int32} {sz a : Nat} (h : TtQ kd sz f1 a) (h1 : ¬ tkN kd sz 67 (nI a) = 13) (h2 : ¬ tkN kd sz 67 (nI a) = 1) (h3 : ¬ tkN kd sz 67 (nI a) = 65) : False := by
  rcases h with h | h | ⟨h, _⟩
  · exact h1 h
  · exact h2 h
  · exact h3 h
theorem NwR.new1 {K K1 : PK} {g g1 : Nat → Nat → Nat} {r O k L : Nat} (h : NwR K K1 g g1 r O k L) : ∀ x : Nat, K.1 x = 0 → ¬ K1.1 x = 0 → K1.1 x = 1 := fun x h1 h2 => (h.2.2.2 x h1 h2).1
theorem WPr.nd {G : pT} {K K1 : PK} {g g1 : Nat → Nat → Nat} {r O k L : Nat} (h : WPr G K g) (hr : NwR K K1 g g1 r O k L) : WPr G K1 g1 := WPr.nodes h hr.1 hr.2.1 hr.new1
theorem mkM_7 {G : pT} {K : PK} {q o f1 : Nat} {x1 x2 x3 : Int32} (hf : (kI (kI (kI (kC (kN K q 3 0) 5 q (some o)) 6 q x1) 7 q x2) 8 q x3).1 f1 = 0) : (mkM G K q o x1 x2 x3 f1).2.2.1 7 q = none := by
  have hn : ¬ q = f1 := fun z => by rw [← z] at hf; have e : (kI (kI (kI (kC (kN K q 3 0) 5 q (some o)) 6 q x1) 7 q x2) 8 q x3).1 q = 3 := if_pos rfl; rw [e] at hf; exact absurd hf (by decide)
  unfold mkM addL
  show (kC (kC (kI (kN _ f1 5 0) 22 f1 0) 13 f1 (some G.2.2.2.2)) 6 q (some f1)).2.2.1 7 q = none
  rw [kC_of (by decide), kC_ne hn]
  show (if q = f1 then _ else _) = none
  rw [if_neg hn]
  exact (kC_of (by decide)).trans (if_pos rfl)
theorem PgS.nd {G : pT} {K K1 : PK} {g g1 : Nat → Nat → Nat} {r O k L ax pq dr ml nd nm cp s : Nat} {it : Nat → Nat} (h : PgS G K g ax pq dr ml nd nm cp it s) (hw : WPr G K g) (hr : NwR K K1 g g1 r O k L) : PgS G K1 g1 ax pq dr ml nd nm cp it s := PgS.ext h hw (fun p hp => ⟨hr.2.1.1 p hp, hr.2.1.2 p hp⟩) (fun q h1 h2 => by have z := hr.new1 q h2 (by rw [h1]; decide); rw [h1] at z; exact absurd z (by decide)) (fun q h1 h2 => by have z := hr.new1 q h2 (by rw [h1]; decide); rw [h1] at z; exact absurd z (by decide))
theorem szL_of {G : pT} {K : PK} {q es n cap : Nat} {it : Nat → Nat} (h : LsC G K q es n it cap) : szL K q = n := by
  unfold szL
  rw [h.2.1]
  exact nI_clamp (by have := h.2.2.1; omega)
theorem dX8_addField_0 : decode cX8_addField 0 = .ok (.aload_n 1, 1) := by decide +kernel
theorem dX8_addField_1 : decode cX8_addField 1 = .ok (.getfield 136, 3) := by decide +kernel
theorem dX8_addField_4 : decode cX8_addField 4 = .ok (.invokevirtual 107, 3) := by decide +kernel
theorem dX8_addField_7 : decode cX8_addField 7 = .ok (.bipush 20, 2) := by decide +kernel
theorem dX8_addField_9 : decode cX8_addField 9 = .ok (.if_icmp .lt 12, 3) := by decide +kernel
theorem dX8_addField_21 : decode cX8_addField 21 = .ok (.aload_n 1, 1) := by decide +kernel
theorem dX8_addField_22 : decode cX8_addField 22 = .ok (.getfield 136, 3) := by decide +kernel
theorem dX8_addField_25 : decode cX8_addField 25 = .ok (.aload_n 0, 1) := by decide +kernel
theorem dX8_addField_26 : decode cX8_addField 26 = .ok (.iload_n 2, 1) := by decide +kernel
theorem dX8_addField_27 : decode cX8_addField 27 = .ok (.iload_n 3, 1) := by decide +kernel
theorem dX8_addField_28 : decode cX8_addField 28 = .ok (.invokevirtual 139, 3) := by decide +kernel
theorem dX8_addField_31 : decode cX8_addField 31 = .ok (.invokevirtual 116, 3) := by decide +kernel
theorem dX8_addField_34 : decode cX8_addField 34 = .ok (.pop, 1) := by decide +kernel
theorem dX8_addField_35 : decode cX8_addField 35 = .ok (.return_, 1) := by decide +kernel
theorem dX8_addField_12 : decode cX8_addField 12 = .ok (.aload_n 0, 1) := by decide +kernel
theorem dX8_addField_13 : decode cX8_addField 13 = .ok (.getfield 7, 3) := by decide +kernel
theorem dX8_addField_16 : decode cX8_addField 16 = .ok (.iconst 2, 1) := by decide +kernel
theorem dX8_addField_17 : decode cX8_addField 17 = .ok (.iload_n 3, 1) := by decide +kernel
theorem dX8_addField_18 : decode cX8_addField 18 = .ok (.invokevirtual 60, 3) := by decide +kernel
theorem hV_X8_variable : yX8_variable.cls = RX8 ∧ yX8_variable.cls ≠ "java/lang/invoke/MethodHandle" ∧ yX8_variable.cls ≠ "java/lang/invoke/VarHandle" ∧ (parseMethodDescriptor yX8_variable.desc).map (fun d => d.parameters.length) = some 2 := by decide +kernel
theorem hV_Jx4a65c_add_9ea2d : yJx4a65c_add_9ea2d.cls = RJx4a65c ∧ yJx4a65c_add_9ea2d.cls ≠ "java/lang/invoke/MethodHandle" ∧ yJx4a65c_add_9ea2d.cls ≠ "java/lang/invoke/VarHandle" ∧ (parseMethodDescriptor yJx4a65c_add_9ea2d.desc).map (fun d => d.parameters.length) = some 1 := by decide +kernel
set_option maxHeartbeats 16000000 in
set_option maxRecDepth 100000 in
theorem P_addField (l : Launch) (G : pT) (h0 : Nat) (a : Nat → Nat) (F : Nat → Int32) (R : Nat → Value) (Z : Int64) (B : Nat → Nat → Int32) (J : Nat → Nat → Int64) (K : PK) (w : va_W) (pq : Nat) (dr : Nat) (ml : Nat) (nd : Nat) (nm : Nat) (cp : Nat) (it : Nat → Nat) (s9 : Nat) (d0 : Nat) (tk : Nat) (x1 : Int32) (at9 : Nat) (sz : Nat) (g : Nat → Nat → Nat) (hsz : sz ≤ 5000) (hat : at9 ≤ sz) (hwp : WPr G K g) (hps : PgS G K g (a 1) pq dr ml nd nm cp it s9) (hpz : PzK G K g nm it none) (hd0 : K.1 d0 = 4) (htk : tk ≤ sz) (h18k : K.2.1 18 d0 = 0) (hg5 : g 5 d0 = 0) (hO : OKP G h0 a (upd (upd F 2 (nI sz)) 9 (nI at9)) (updR R 1 (.ref pq)) Z B J K w) (hl0 : l.stackTraces = false) : PBn l G pX0 yX8_addField cX8_addField 4 none ({ frames := 8, cells := 3, slots := 100, locals := 191 }) [.ref (a 3), .ref d0, .int x1, .int (nI tk)] w (fun (v : Option Value) (u : va_W × (PK × (Nat → Nat → Nat))) => v = none ∧ (WPr G u.2.1 u.2.2) ∧ (PgS G u.2.1 u.2.2 (a 1) pq dr ml nd nm cp it (s9 + 2)) ∧ (u.2.1.1 d0 = 4) ∧ (PzK G u.2.1 u.2.2 nm it none) ∧ (u.2.1.2.1 18 d0 = 0) ∧ (u.2.2 5 d0 = 0) ∧ (NwT (B 7) sz (B 10) (B 10) K u.2.1 at9 at9) ∧ (OKP G h0 a (upd (upd F 2 (nI sz)) 9 (nI at9)) (updR R 1 (.ref pq)) Z B J u.2.1 u.1)) (fun u => u.1) (fun (u : va_W × (PK × (Nat → Nat → Nat))) => 2) (fun (u : va_W × (PK × (Nat → Nat → Nat))) => 90) (fun (u : va_W × (Nat → Int32) × (Nat → Value) × (Nat → Nat → Int32)) => ThQ G h0 a (upd (upd F 2 (nI sz)) 9 (nI at9)) (updR R 1 (.ref pq)) Z B J u) (fun u => u.1) := by
  intro sz
  refine vx_ofW (cc := cX8_addField) (maxL := 4) (ret := none) (by decide) rfl ?_
  intro p e s m args below meth c s₁ B9 hml hnt hv
  obtain ⟨rfl, hsz, hP, hD0, hE, hX⟩ := hv
  have hx := B9.exec
  have hb := B9.bytes
  have hr := B9.returns
  have hts := atoms_spec (ws := Cond.code yX8_addField cX8_addField 4 none :: pw) B9.pre
  have hq : ∀ w ∈ pw, w.before _ s = true := fun w h => hts w (List.mem_cons_of_mem _ h)
  have hown : s.vm.findClass RX8 = some m.cls := findClass_of_methodNamed B9.named
  have hlocks := B9.notSynchronized
  subst hsz
  have hD := hD0.self (sz := s.heap.size)
  have hA : ∀ q : Nat, s.heap.size ≤ q → va_A w s.heap.size q := fun q h => Or.inr h
  generalize va_A w s.heap.size = A at hD hE hA ⊢
  have hS : va_S A s.heap s.heap [] := va_S.rf
  have hl := lv_entry ([.ref (a 3), .ref d0, .int x1, .int (nI tk)]) (n := 4) (Nat.le_of_ble_eq_true rfl)
  rw [lg_entry_eq]
  generalize (lg_sl ([.ref (a 3), .ref d0, .int x1, .int (nI tk)]) ++ List.replicate (4 - (lg_sl ([.ref (a 3), .ref d0, .int x1, .int (nI tk)])).length) Slot.unset).toArray = ls at hl ⊢
  have hl : lv_has ls 4 [(0, .ref (a 3)), (1, .ref d0), (2, .int x1), (3, .int (nI tk))] := hl
  have htk0 : NwT (B 7) sz (B 10) (B 10) K K at9 at9 := NwT.nil
  obtain ⟨lf, hflf, htlf, hrlf, holf⟩ := (hwp.2.2.1 d0 hd0).1
  obtain ⟨nlf, itlf, cplf, hlclf, hnblf, hcblf⟩ := hwp.2.1 lf htlf
  rw [hrlf] at hlclf hnblf
  have hnclf := hlclf.2.2.1
  have hnblf : nlf ≤ 20 := hnblf
  have hlclf : LsC G K lf 1 nlf itlf cplf := hlclf
  refine lv_aload_n hx hb dX8_addField_0 rfl (lv_at hl 1 rfl) ?_
  refine p_get (v := .ref lf) (C := RX2) (Tc := TX2) (N := 13) (ci := 2) hx hb hq pin_wsX20 hown hE hP hO (by rw [hd0]; decide) (rep_4 hd0) rfl 7 (by decide) (hq _ pw_1057) (fun _ h9 => h9) (congrArg (fun z => some (va_rf z)) hflf) dX8_addField_1 ?_
  have hO : OKP G h0 a (upd (upd F 2 (nI sz)) 9 (nI at9)) (updR R 1 (.ref pq)) Z B J K w := hO.to rfl
  obtain ⟨qr4, hqr5⟩ := p_recv hO (by rw [htlf]; decide) (rep_5 htlf)
  refine pc_V0 (G := G) (As := []) (rest := []) hx hb hml hown hq hE hX pX0_al hP hD hS hA hl.1 (L_size l G h0 a (upd (upd F 2 (nI sz)) 9 (nI at9)) (updR R 1 (.ref pq)) Z B J K w lf 1 nlf itlf hlclf.ls hO) (gV pw_882 pw_87 pw_88 pw_32 pw_16) hV_Jx4a65c_size_8abf5 qr4 10 hqr5 rfl rfl rfl (Nat.le_of_ble_eq_true rfl) dX8_addField_4 ⟨(by show 0 + 0 ≤ 3; omega), (by show 0 + 0 ≤ 100; omega)⟩ ⟨Nat.le_of_ble_eq_true rfl, Nat.le_of_ble_eq_true rfl⟩ (fun v3 u1 H locs hw2 hP hD hS => ?_)
  obtain ⟨w, _⟩ := u1
  obtain ⟨hw2, hO⟩ := hw2
  obtain rfl : v3 = some (.int (nI nlf)) := hw2
  have hO : OKP G h0 a (upd (upd F 2 (nI sz)) 9 (nI at9)) (updR R 1 (.ref pq)) Z B J K w := hO.to rfl
  refine W.widen (k := 0) (n := 0) (Nat.le_of_ble_eq_true rfl) (Nat.le_of_ble_eq_true rfl) ?_
  refine W.eq (g2 := F0 m 7 ls [.int (nI nlf)]) rfl ?_
  refine lv_bipush (v := 20) hx hb dX8_addField_7 (by decide) ?_
  refine lv_icmp_lt (tgt := 21) hx hb dX8_addField_9 (by decide) (fun c6 => ?_) (fun c6 => ?_)
  · have n7 : nlf < 20 := (nI_ltI (a := nlf) (b := 20) (by omega) (by omega)).mp c6
    refine lv_aload_n hx hb dX8_addField_21 rfl (lv_at hl 1 rfl) ?_
    refine p_get (v := .ref lf) (C := RX2) (Tc := TX2) (N := 13) (ci := 2) hx hb hq pin_wsX20 hown hE hP hO (by rw [hd0]; decide) (rep_4 hd0) rfl 7 (by decide) (hq _ pw_1057) (fun _ h9 => h9) (congrArg (fun z => some (va_rf z)) hflf) dX8_addField_22 ?_
    refine lv_aload_n hx hb dX8_addField_25 rfl (lv_at hl 0 rfl) ?_
    refine lv_iload_n hx hb dX8_addField_26 rfl (lv_at hl 2 rfl) ?_
    refine lv_iload_n hx hb dX8_addField_27 rfl (lv_at hl 3 rfl) ?_
    have hO : OKP G h0 a (upd (upd (upd F 2 (nI sz)) 9 (nI at9)) 2 (nI sz)) (updR R 1 (.ref pq)) Z B J K w := hO.to rfl
    obtain ⟨_, qr11, hqr12⟩ := hO.2.1 23 _ (sg_23 G h0 a _ _ _ _ _)
    refine pc_V0 (G := G) (As := [.int x1, .int (nI tk)]) (rest := [.ref lf]) hx hb hml hown hq hE hX pX0_al hP hD hS hA hl.1 (P_variable l G h0 a (upd (upd F 2 (nI sz)) 9 (nI at9)) (updR R 1 (.ref pq)) Z B J K w x1 (nI tk) sz 0 (rK 0 1 0 0 0 0) g (by omega) hwp.1 (fun o9 h9 => absurd h9 (by omega)) (Itv.of (by omega)) hO) (gV pw_888 pw_889 pw_890 pw_796 pw_869) hV_X8_variable qr11 5 hqr12 rfl rfl rfl (Nat.le_of_ble_eq_true rfl) dX8_addField_28 ⟨(by show 0 + 1 ≤ 3; omega), (by show 0 + 11 ≤ 100; omega)⟩ ⟨Nat.le_of_ble_eq_true rfl, Nat.le_of_ble_eq_true rfl⟩ (fun v10 u8 H locs hw9 hP hD hS => ?_)
    obtain ⟨w, r13, K14, g15⟩ := u8
    obtain ⟨hw9, h16, h17, h18, hO⟩ := hw9
    have h16 : NwR K K14 g g15 r13 0 (rK 0 1 0 0 0 0) 1 := h16
    have h17 : K14.2.1 0 r13 = 36 := h17
    have h18 : VaT K K14 := h18
    obtain rfl : v10 = some (.ref r13) := hw9
    have hf19 : K14.1 d0 = 4 := (((h16).2.1.1 d0 (by rw [hd0]; decide)).1).trans hd0
    have hf20 : K14.2.2.1 8 d0 = some lf := (((h16).2.1.1 d0 (by rw [hd0]; decide)).2.2.1 8).trans hflf
    have hf21 : K14.1 lf = 5 := (((h16).2.1.1 lf (by rw [htlf]; decide)).1).trans htlf
    have hO : OKP G h0 a (upd (upd F 2 (nI sz)) 9 (nI at9)) (updR R 1 (.ref pq)) Z B J K14 w := hO.to rfl
    refine W.widen (k := 1) (n := 11) (by show 0 + 1 ≤ 1; omega) (by show 0 + 11 ≤ 11; omega) ?_
    refine W.eq (g2 := F0 m 31 ls [.ref r13, .ref lf]) rfl ?_
    have htk22 : NwT (B 7) sz (B 10) (B 10) K K14 at9 at9 := (NwT.call (NwT.le htk0 (show _ ≤ at9 by omega)) (h18 (B 7) (B 10) sz at9) (Nat.le_refl _))
    have hwp23 := WPr.nd hwp h16
    have hps24 := PgS.nd hps hwp h16
    have hf25 : K14.1 r13 = 1 := h16.2.2.1.2.1
    have hpz26 := PzK.nds hpz hwp h16.2.1 h16.new1
    have hlc27 : LsC G K14 lf 1 nlf itlf cplf := (LsC.wx (fun p hp => (h16.2.1.1 p hp).1) (by decide) (h16.2.1.1 lf (by rw [htlf]; decide)) (fun e he _ => h16.2.1.1 e (by rw [he]; decide)) hlclf)
    have hO : OKP G h0 a (upd (upd F 2 (nI sz)) 9 (nI at9)) (updR R 1 (.ref pq)) Z B J K14 w := hO.to rfl
    obtain ⟨qr31, hqr32⟩ := p_recv hO (by rw [hf21]; decide) (rep_5 hf21)
    refine pn_V0 (G := G) (As := [.ref r13]) (rest := []) hx hb hml hown hq hE hX pX0_al hP hD hS hA hl.1 (L_addC l G h0 a (upd (upd F 2 (nI sz)) 9 (nI at9)) (updR R 1 (.ref pq)) Z B J K14 w lf 1 nlf itlf cplf r13 hlc27 (by decide) hf25 (by omega) (by omega) hO hl0) (gV pw_885 pw_886 pw_887 pw_32 pw_868) hV_Jx4a65c_add_9ea2d qr31 10 hqr32 rfl rfl rfl (Nat.le_of_ble_eq_true rfl) dX8_addField_31 ⟨(by show 1 + 1 ≤ 3; omega), (by show 11 + (10 + nlf + nlf / 2) ≤ 100; omega)⟩ ⟨Nat.le_of_ble_eq_true rfl, Nat.le_of_ble_eq_true rfl⟩ (fun v30 u28 H locs hw29 hP hD hS => ?_) (fun ux ce9 q9 H9 locs9 hux hP9 hD9 hS9 hce hcv hcl => pb_out ux (ThQ.up Thx.rfl RhX.rfl hux) hnt hlocks hce hcv hcl hP9 hD9 hS9 (by show 1 + 1 ≤ 3; omega) (by show 11 + (10 + nlf + nlf / 2) ≤ 100; omega))
    obtain ⟨w, K33, d34⟩ := u28
    obtain ⟨hw29, h35, h36, h37, h38, h39, hO⟩ := hw29
    have h35 : LsC G K33 lf 1 (nlf + 1) (upQ itlf nlf r13) (cplf + d34) := h35
    have h36 : AdQ K14 K33 lf := h36
    have h37 : N6 K14 K33 := h37
    have h38 : cplf + d34 ≤ 10 + 2 * (nlf + 1) := h38
    have h39 : d34 ≤ 10 + nlf / 2 := h39
    obtain rfl : v30 = some (.int 1) := hw29
    have hO : OKP G h0 a (upd (upd F 2 (nI sz)) 9 (nI at9)) (updR R 1 (.ref pq)) Z B J K33 w := hO.to rfl
    refine W.widen (k := 2) (n := (11 + (4 * d34))) (by show 1 + 1 ≤ 2; omega) (by show 11 + (4 * d34) ≤ (11 + (4 * d34)); omega) ?_
    refine W.eq (g2 := F0 m 34 ls [.int 1]) rfl ?_
    have htk40 : NwT (B 7) sz (B 10) (B 10) K K33 at9 at9 := (NwT.ad htk22 h36 h37 hf21)
    have hg41 : g15 3 lf = 1 := (h16.2.1.2 lf (by rw [htlf]; decide) 3).trans hrlf
    have hwp42 : WPr G K33 g15 := WPr.add hwp23 h36 h37 hf21 (by rw [hg41]; exact h35) (by rw [hg41]; show _ ≤ 20 ∧ _; omega)
    have hps43 : PgS G K33 g15 (a 1) pq dr ml nd nm cp it (s9 + 2) := by have z9 := PgS.add hps24 hwp23 h36 h37 hf21 (fun z => by have z2 := hg41; rw [z, hps24.1.2.2.2.2.2.2.1] at z2; exact absurd z2 (by decide)) (by rw [szL_of h35, szL_of hlc27]) (by rw [hg41]; decide) (by rw [hg41]; decide) (fun z => by rw [hg41] at z; exact absurd z (by decide)); rw [hg41] at z9; exact z9
    have hf44 : K33.1 d0 = 4 := (h36.1 d0 (by rw [hf19]; decide)).1.trans hf19
    have hf45 : K33.1 lf = 5 := (h36.1 lf (by rw [hf21]; decide)).1.trans hf21
    have hf46 : K33.1 r13 = 1 := (h36.1 r13 (by rw [hf25]; decide)).1.trans hf25
    have hpzA : PzK G K33 g15 nm it none := PzK.addF hpz26 hwp23 h36 h37 hf19 (((h16.2.1.1 d0 (by rw [hd0]; decide)).2.2.1 8).trans hflf) hlc27 h35 hf25 h17 (((h16.2.1.1 d0 (by rw [hd0]; decide)).2.1 18).trans h18k) ((h16.2.1.2 d0 (by rw [hd0]; decide) 5).trans hg5) (Fl_new hwp h16.2.1 h16.new1 h16.2.2.1.1)
    have h18A : K33.2.1 18 d0 = 0 := ((AdQ.sm h36 (p := d0) (by rw [hf19]; decide) (fun z => by have z2 := hf19; rw [z, hf21] at z2; exact absurd z2 (by decide)) (by rw [hf19]; decide)).2.1 18).trans (((h16.2.1.1 d0 (by rw [hd0]; decide)).2.1 18).trans h18k)
    refine lv_pop hx hb dX8_addField_34 rfl ?_
    refine W_size (fun hz1 hz2 => ?_)
    refine vx_ret ?_
    have hz47 : WPr G K33 g15 := hwp42
    have hz48 : PgS G K33 g15 (a 1) pq dr ml nd nm cp it (s9 + 2) := hps43
    have hz49 : K33.1 d0 = 4 := hf44
    have hz50 : PzK G K33 g15 nm it none := hpzA
    have hz51 : K33.2.1 18 d0 = 0 := h18A
    have hz52 : g15 5 d0 = 0 := ((h16.2.1.2 d0 (by rw [hd0]; decide) 5).trans hg5)
    have hz53 : NwT (B 7) sz (B 10) (B 10) K K33 at9 at9 := (NwT.le htk40 (by omega))
    have hO : OKP G h0 a (upd (upd F 2 (nI sz)) 9 (nI at9)) (updR R 1 (.ref pq)) Z B J K33 w := hO.to rfl
    refine W.widen (k := 3) (n := 100) (by omega) (by omega) ?_
    have hzz1 : H.size ≤ s.heap.size + (2) := (by have z : 2 ≤ 2 := (by omega); omega)
    have hzz2 : hSl H ≤ hSl s.heap + (90) := (by have z : (11 + (4 * d34)) ≤ 90 := (by omega); omega)
    exact W.vret hx hb hr (fun t99 ht99 hW99 => ⟨⟨_, (w, (K33, g15)), rfl, ⟨rfl, hz47, hz48, hz49, hz50, hz51, hz52, hz53, hO⟩, by rw [ht99]; exact hP, hD, by rw [ht99]; exact hzz1, by rw [ht99]; exact hzz2⟩, hS.F ht99⟩) hS.2.2 dX8_addField_35
  · have n54 : ¬ (nlf < 20) := fun h9 => c6 ((nI_ltI (a := nlf) (b := 20) (by omega) (by omega)).mpr h9)
    refine lv_aload_n hx hb dX8_addField_12 rfl (lv_at hl 0 rfl) ?_
    refine c_get (v := .ref (a 1)) (C := RX8) (Tc := TX8) (N := 5) (ci := 5) hx hb hq pin_wsX80 hown hE hP hO 23 (sg_23 G h0 a _ _ _ _ _) rfl 0 (by decide) (hq _ pw_774) (fun _ h9 => h9) rfl dX8_addField_13 ?_
    refine lv_iconst (v := 2) hx hb dX8_addField_16 (by decide) ?_
    refine lv_iload_n hx hb dX8_addField_17 rfl (lv_at hl 3 rfl) ?_
    have hO : OKW G h0 a (upd (upd (upd F 2 (nI sz)) 9 (nI at9)) 2 (nI sz)) (updR R 1 (.ref pq)) Z B J K.1 (fun q99 x99 => x99 = rep G a K q99) w := hO.to rfl
    obtain ⟨_, qr58, hqr59⟩ := hO.2.1 2 _ (sg_2 G h0 a _ _ _ _ _)
    refine pn_V0 (G := G) (As := [.int 2, .int (nI tk)]) (rest := []) hx hb hml hown hq hE hX pX0_al hP hD hS hA hl.1 (K_fail l G h0 a (upd (upd F 2 (nI sz)) 9 (nI at9)) (updR R 1 (.ref pq)) Z B J K.1 (fun q99 x99 => x99 = rep G a K q99) w 2 (nI tk) sz (by omega) hO hl0) (gV pw_779 pw_65 pw_66 pw_59 pw_43) hV_X10_fail qr58 7 hqr59 rfl rfl rfl (Nat.le_of_ble_eq_true rfl) dX8_addField_18 ⟨(by show 0 + 1 ≤ 3; omega), (by show 0 + 6 ≤ 100; omega)⟩ ⟨Nat.le_of_ble_eq_true rfl, Nat.le_of_ble_eq_true rfl⟩ (fun v57 u55 H locs hw56 hP hD hS => hw56.elim) (fun ux ce9 q9 H9 locs9 hux hP9 hD9 hS9 hce hcv hcl => pb_out ux (ThQ.up (Thx.same Thx.rfl rfl) RhX.rfl hux) hnt hlocks hce hcv hcl hP9 hD9 hS9 (by show 0 + 1 ≤ 3; omega) (by show 0 + 6 ≤ 100; omega))
