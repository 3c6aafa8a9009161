theorem dX5_start_0 : decode cX5_start 0 = .ok (.aload_n 0, 1) := by decide +kernel
theorem dX5_start_1 : decode cX5_start 1 = .ok (.invokevirtual 109, 3) := by decide +kernel
theorem dX5_start_4 : decode cX5_start 4 = .ok (.aload_n 0, 1) := by decide +kernel
theorem dX5_start_5 : decode cX5_start 5 = .ok (.aload_n 1, 1) := by decide +kernel
theorem dX5_start_6 : decode cX5_start 6 = .ok (.putfield 47, 3) := by decide +kernel
theorem dX5_start_9 : decode cX5_start 9 = .ok (.aload_n 0, 1) := by decide +kernel
theorem dX5_start_10 : decode cX5_start 10 = .ok (.getfield 36, 3) := by decide +kernel
theorem dX5_start_13 : decode cX5_start 13 = .ok (.iconst 5, 1) := by decide +kernel
theorem dX5_start_14 : decode cX5_start 14 = .ok (.iload_n 2, 1) := by decide +kernel
theorem dX5_start_15 : decode cX5_start 15 = .ok (.iastore, 1) := by decide +kernel
theorem dX5_start_16 : decode cX5_start 16 = .ok (.aload_n 0, 1) := by decide +kernel
theorem dX5_start_17 : decode cX5_start 17 = .ok (.getfield 18, 3) := by decide +kernel
theorem dX5_start_20 : decode cX5_start 20 = .ok (.iload_n 3, 1) := by decide +kernel
theorem dX5_start_21 : decode cX5_start 21 = .ok (.invokevirtual 112, 3) := by decide +kernel
theorem dX5_start_24 : decode cX5_start 24 = .ok (.aload_n 0, 1) := by decide +kernel
theorem dX5_start_25 : decode cX5_start 25 = .ok (.iconst 5, 1) := by decide +kernel
theorem dX5_start_26 : decode cX5_start 26 = .ok (.putfield 116, 3) := by decide +kernel
theorem dX5_start_29 : decode cX5_start 29 = .ok (.aload_n 0, 1) := by decide +kernel
theorem dX5_start_30 : decode cX5_start 30 = .ok (.aload_n 0, 1) := by decide +kernel
theorem dX5_start_31 : decode cX5_start 31 = .ok (.getfield 47, 3) := by decide +kernel
theorem dX5_start_34 : decode cX5_start 34 = .ok (.bipush 36, 2) := by decide +kernel
theorem dX5_start_36 : decode cX5_start 36 = .ok (.invokevirtual 121, 3) := by decide +kernel
theorem dX5_start_39 : decode cX5_start 39 = .ok (.invokevirtual 125, 3) := by decide +kernel
theorem dX5_start_42 : decode cX5_start 42 = .ok (.aload_n 0, 1) := by decide +kernel
theorem dX5_start_43 : decode cX5_start 43 = .ok (.getfield 116, 3) := by decide +kernel
theorem dX5_start_46 : decode cX5_start 46 = .ok (.iconst 5, 1) := by decide +kernel
theorem dX5_start_47 : decode cX5_start 47 = .ok (.if_icmp .ne 18, 3) := by decide +kernel
theorem dX5_start_65 : decode cX5_start 65 = .ok (.return_, 1) := by decide +kernel
theorem dX5_start_50 : decode cX5_start 50 = .ok (.aload_n 0, 1) := by decide +kernel
theorem dX5_start_51 : decode cX5_start 51 = .ok (.bipush 37, 2) := by decide +kernel
theorem dX5_start_53 : decode cX5_start 53 = .ok (.iconst 0, 1) := by decide +kernel
theorem dX5_start_54 : decode cX5_start 54 = .ok (.invokevirtual 128, 3) := by decide +kernel
theorem dX5_start_57 : decode cX5_start 57 = .ok (.aload_n 0, 1) := by decide +kernel
theorem dX5_start_58 : decode cX5_start 58 = .ok (.aload_n 0, 1) := by decide +kernel
theorem dX5_start_59 : decode cX5_start 59 = .ok (.getfield 132, 3) := by decide +kernel
theorem dX5_start_62 : decode cX5_start 62 = .ok (.putfield 106, 3) := by decide +kernel
theorem hV_X5_clear : yX5_clear.cls = RX5 ∧ yX5_clear.cls ≠ "java/lang/invoke/MethodHandle" ∧ yX5_clear.cls ≠ "java/lang/invoke/VarHandle" ∧ (parseMethodDescriptor yX5_clear.desc).map (fun d => d.parameters.length) = some 0 := by decide +kernel
theorem hV_X3_start : yX3_start.cls = RX3 ∧ yX3_start.cls ≠ "java/lang/invoke/MethodHandle" ∧ yX3_start.cls ≠ "java/lang/invoke/VarHandle" ∧ (parseMethodDescriptor yX3_start.desc).map (fun d => d.parameters.length) = some 1 := by decide +kernel
set_option maxHeartbeats 40000000 in
set_option maxRecDepth 100000 in
theorem M_start (l : Launch) (G : pT) (h0 : Nat) (a : Nat → Nat) (F : Nat → Int32) (R : Nat → Value) (Z : Int64) (B : Nat → Nat → Int32) (J : Nat → Nat → Int64) (K : PK) (w : va_W) (x : Int32) (c9 : Nat) (sp : Nat) (op : Nat) (ht : Nat) (pq : Nat) (dr : Nat) (ml : Nat) (nd : Nat) (nm : Nat) (cp : Nat) (it : Nat → Nat) (s9 : Nat) (g : Nat → Nat → Nat) (rk : Nat → Nat) (cs : Nat) (hsp : (sp = 34 ∧ op = 35) ∨ (sp = 35 ∧ op = 34)) (hht : 8 ≤ ht ∧ ht ≤ 3008) (hwp : WPr G K g) (hps : PgT G K g (a 1) pq dr ml nd nm cp it s9) (hrk : RkO K rk) (hcs : cs ≤ 10000) (hc9 : c9 ≤ 3000) (hO : OKP G h0 a (upd (upd F 5 (nI cs)) 26 (nI ht)) (updR (updR R 7 (.ref (a sp))) 8 (.ref (a op))) Z B J K w) : PM l G pX0 yX5_start cX5_start 4 none ({ frames := 9, cells := 0, slots := 0, locals := 218 }) [.ref (a 5), .ref pq, .int x, .int (nI c9)] w (fun (v : Option Value) (u : va_W × (Nat × Int32 × Int32 × Int32 × Int32 × Int32 × (Nat → Nat → Int64) × Int64 × (Nat → Int32) × Nat × Nat × Nat × Int32 × Nat × Nat × Option Nat × (Nat → Int32))) => v = none ∧ (u.2.1 ≤ 32000) ∧ (8 ≤ u.2.2.2.2.2.2.2.2.2.2.2.2.1 ∧ u.2.2.2.2.2.2.2.2.2.2.2.2.1 ≤ 3008) ∧ ((u.2.2.2.2.2.2.2.2.2.2.1 = 34 ∧ u.2.2.2.2.2.2.2.2.2.2.2.1 = 35) ∨ (u.2.2.2.2.2.2.2.2.2.2.1 = 35 ∧ u.2.2.2.2.2.2.2.2.2.2.2.1 = 34)) ∧ (u.2.2.2.2.2.2.2.2.2.2.2.2.2.2.1 ≤ 32000 ∧ u.2.2.2.2.2.2.2.2.2.2.2.2.2.2.2.1 ≤ 100) ∧ (MsO K u.2.2.2.2.2.2.2.2.2.2.2.2.2.2.2.2.1 u.2.2.2.2.2.2.2.2.2.2.2.2.2.2.1) ∧ (FrO K nm it u.2.2.2.2.2.2.2.2.2.2.2.2.2.2.2.2.2 u.2.2.2.2.2.2.2.2.2.2.2.2.2.2.2.1) ∧ (OKP G h0 a (upd (upd (upd (upd (upd (upd (upd (upd (upd (upd (upd (upd F 5 (nI cs)) 18 (nI u.2.2.2.2.2.2.2.2.2.2.2.2.2.2.1)) 19 (nI u.2.1)) 20 u.2.2.2.2.2.1) 21 u.2.2.2.2.1) 22 (nI u.2.2.2.2.2.2.2.2.2.2.2.2.2.2.2.1)) 23 u.2.2.1) 24 u.2.2.2.2.2.2.1) 25 u.2.2.2.1) 26 (nI u.2.2.2.2.2.2.2.2.2.2.2.2.1)) 27 u.2.2.2.2.2.2.2.2.2.2.2.2.2.1) 28 (nI (8 + c9))) (updR (updR (updR (updR R 5 (.ref pq)) 6 (va_rf u.2.2.2.2.2.2.2.2.2.2.2.2.2.2.2.2.1)) 7 (.ref (a u.2.2.2.2.2.2.2.2.2.2.1))) 8 (.ref (a u.2.2.2.2.2.2.2.2.2.2.2.1))) u.2.2.2.2.2.2.2.2.1 (updA (updA B 30 u.2.2.2.2.2.2.2.2.2.2.2.2.2.2.2.2.2) 33 u.2.2.2.2.2.2.2.2.2.1) u.2.2.2.2.2.2.2.1 K u.1)) (fun u => u.1) := by
  intro sz
  refine Met.ofW (cc := cX5_start) (maxL := 4) (ret := none) (by decide) rfl ?_
  intro p e s m args below meth c s₁ B9 hml hv
  obtain ⟨rfl, hsz, hP, hD0, hE, hX⟩ := hv
  have hx := B9.exec
  have hb := B9.bytes
  have hr := B9.returns
  have hts := atoms_spec (ws := Cond.code yX5_start cX5_start 4 none :: pw) B9.pre
  have hq : ∀ w ∈ pw, w.before _ s = true := fun w h => hts w (List.mem_cons_of_mem _ h)
  have hown : s.vm.findClass RX5 = some m.cls := findClass_of_methodNamed B9.named
  have hlocks := B9.notSynchronized
  subst hsz
  have hD := hD0.self (sz := s.heap.size)
  have hA : ∀ q : Nat, s.heap.size ≤ q → va_A w s.heap.size q := fun q h => Or.inr h
  generalize va_A w s.heap.size = A at hD hE hA ⊢
  have hS : va_S A s.heap s.heap [] := va_S.rf
  have hl := lv_entry ([.ref (a 5), .ref pq, .int x, .int (nI c9)]) (n := 4) (Nat.le_of_ble_eq_true rfl)
  rw [lg_entry_eq]
  generalize (lg_sl ([.ref (a 5), .ref pq, .int x, .int (nI c9)]) ++ List.replicate (4 - (lg_sl ([.ref (a 5), .ref pq, .int x, .int (nI c9)])).length) Slot.unset).toArray = ls at hl ⊢
  have hl : lv_has ls 4 [(0, .ref (a 5)), (1, .ref pq), (2, .int x), (3, .int (nI c9))] := hl
  have hpg := hps.1
  have hp1 := hpg.1
  have hp2 := hpg.2.1
  have hp3 := hpg.2.2.1
  have hp4 := hpg.2.2.2.1
  have hp5 := hpg.2.2.2.2.1
  have hp6 := hpg.2.2.2.2.2.1
  have hp8 := hpg.2.2.2.2.2.2.2.1
  have hp9 := hpg.2.2.2.2.2.2.2.2
  refine lv_aload_n hx hb dX5_start_0 rfl (lv_at hl 0 rfl) ?_
  have hO : OKW G h0 a (upd (upd F 5 (nI cs)) 26 (nI ht)) (updR (updR R 7 (.ref (a sp))) 8 (.ref (a op))) Z B J K.1 (fun q99 x99 => x99 = rep G a K q99) w := hO.to rfl
  obtain ⟨_, qr4, hqr5⟩ := hO.2.1 28 _ (sg_28 G h0 a _ _ _ _ _)
  refine pc_V0 (G := G) (As := []) (rest := []) hx hb hml hown hq hE hX pX0_al hP hD hS hA hl.1 (M_clear l G h0 a (upd (upd F 5 (nI cs)) 26 (nI ht)) (updR (updR R 7 (.ref (a sp))) 8 (.ref (a op))) Z B J K.1 (fun q99 x99 => x99 = rep G a K q99) w hO) (gV pw_578 pw_579 pw_580 pw_539 pw_500) hV_X5_clear qr4 4 hqr5 rfl rfl rfl (Nat.le_of_ble_eq_true rfl) dX5_start_1 ⟨Nat.le_of_ble_eq_true rfl, Nat.le_of_ble_eq_true rfl⟩ ⟨Nat.le_of_ble_eq_true rfl, Nat.le_of_ble_eq_true rfl⟩ (fun v3 u1 H locs hw2 hP hD hS => ?_)
  obtain ⟨w, f6⟩ := u1
  obtain ⟨hw2, hO⟩ := hw2
  obtain rfl : v3 = none := hw2
  have hO : OKP G h0 a (upd (upd (upd (upd (upd (upd (upd F 5 (nI cs)) 18 0) 19 0) 20 0) 22 0) 24 0) 26 (nI ht)) (updR (updR (updR R 6 (.null)) 7 (.ref (a sp))) 8 (.ref (a op))) 0 (updA B 33 f6) J K w := hO.to rfl
  refine W.widen (k := 0) (n := 0) (Nat.le_of_ble_eq_true rfl) (Nat.le_of_ble_eq_true rfl) ?_
  refine W.eq (g2 := F0 m 4 ls []) rfl ?_
  refine lv_aload_n hx hb dX5_start_4 rfl (lv_at hl 0 rfl) ?_
  refine lv_aload_n hx hb dX5_start_5 rfl (lv_at hl 1 rfl) ?_
  refine c_put (v := .ref pq) (ty := (.object "JinjaTongue$Program")) (C := RX5) (Tc := TX5) (N := 19) (ci := 4) hx hb hq pin_wsX50 tyX5 tyX5_ok nmX5 hown hE hP hD hS hO 28 (sg_28 G h0 a _ _ _ _ _) rfl 8 (by decide) (hq _ pw_486) (fun _ h9 => h9) rfl (by decide +kernel) rfl rfl (Nat.le_of_ble_eq_true rfl) (sr_5 G h0 a _ _ _ _ _ (.ref pq)) dX5_start_6 (fun H locs w hP hD hS hO => ?_)
  refine lv_aload_n hx hb dX5_start_9 rfl (lv_at hl 0 rfl) ?_
  refine c_get (v := .ref (a 33)) (C := RX5) (Tc := TX5) (N := 19) (ci := 4) hx hb hq pin_wsX50 hown hE hP hO 28 (sg_28 G h0 a _ _ _ _ _) rfl 7 (by decide) (hq _ pw_478) (fun _ h9 => h9) rfl dX5_start_10 ?_
  refine lv_iconst (v := 5) hx hb dX5_start_13 (by decide) ?_
  refine lv_iload_n hx hb dX5_start_14 rfl (lv_at hl 2 rfl) ?_
  refine c_sti (f := f6) (n := 12) (t0 := 0) hx hb hE hP hD hS hO 36 (sg_36 G h0 a _ _ _ _ _) rfl (by unfold vp_in; decide) (sb_33 G h0 a _ _ _ _ _ _) dX5_start_15 (fun H locs w hP hD hS hO => ?_)
  refine lv_aload_n hx hb dX5_start_16 rfl (lv_at hl 0 rfl) ?_
  refine c_get (v := .ref (a 28)) (C := RX5) (Tc := TX5) (N := 19) (ci := 4) hx hb hq pin_wsX50 hown hE hP hO 28 (sg_28 G h0 a _ _ _ _ _) rfl 1 (by decide) (hq _ pw_473) (fun _ h9 => h9) rfl dX5_start_17 ?_
  refine lv_iload_n hx hb dX5_start_20 rfl (lv_at hl 3 rfl) ?_
  have hO : OKW G h0 a (upd (upd (upd (upd (upd (upd (upd F 5 (nI cs)) 18 0) 19 0) 20 0) 22 0) 24 0) 26 (nI ht)) (updR (updR (updR (updR R 5 (.ref pq)) 6 (.null)) 7 (.ref (a sp))) 8 (.ref (a op))) 0 (updA B 33 (upd f6 5 x)) J K.1 (fun q99 x99 => x99 = rep G a K q99) w := hO.to rfl
  obtain ⟨_, qr10, hqr11⟩ := hO.2.1 29 _ (sg_29 G h0 a _ _ _ _ _)
  refine pc_V0 (G := G) (As := [.int (nI c9)]) (rest := []) hx hb hml hown hq hE hX pX0_al hP hD hS hA hl.1 (K_heapStart l G h0 a (upd (upd (upd (upd (upd (upd (upd F 5 (nI cs)) 18 0) 19 0) 20 0) 22 0) 24 0) 26 (nI ht)) (updR (updR (updR (updR R 5 (.ref pq)) 6 (.null)) 7 (.ref (a sp))) 8 (.ref (a op))) 0 (updA B 33 (upd f6 5 x)) J K.1 (fun q99 x99 => x99 = rep G a K q99) w c9 (by omega) hO) (gV pw_581 pw_582 pw_583 pw_440 pw_418) hV_X3_start qr10 3 hqr11 rfl rfl rfl (Nat.le_of_ble_eq_true rfl) dX5_start_21 ⟨Nat.le_of_ble_eq_true rfl, Nat.le_of_ble_eq_true rfl⟩ ⟨Nat.le_of_ble_eq_true rfl, Nat.le_of_ble_eq_true rfl⟩ (fun v9 u7 H locs hw8 hP hD hS => ?_)
  obtain ⟨w, _⟩ := u7
  obtain ⟨hw8, hO⟩ := hw8
  obtain rfl : v9 = none := hw8
  have hO : OKP G h0 a (upd (upd (upd (upd (upd (upd (upd (upd F 5 (nI cs)) 18 0) 19 0) 20 0) 22 0) 24 0) 26 8) 28 (nI (8 + c9))) (updR (updR (updR (updR R 5 (.ref pq)) 6 (.null)) 7 (.ref (a sp))) 8 (.ref (a op))) 0 (updA B 33 (upd f6 5 x)) J K w := hO.to rfl
  refine W.widen (k := 0) (n := 0) (Nat.le_of_ble_eq_true rfl) (Nat.le_of_ble_eq_true rfl) ?_
  refine W.eq (g2 := F0 m 24 ls []) rfl ?_
  refine lv_aload_n hx hb dX5_start_24 rfl (lv_at hl 0 rfl) ?_
  refine lv_iconst (v := 5) hx hb dX5_start_25 (by decide) ?_
  refine c_put (v := .int 5) (ty := .int) (C := RX5) (Tc := TX5) (N := 19) (ci := 4) hx hb hq pin_wsX50 tyX5 tyX5_ok nmX5 hown hE hP hD hS hO 28 (sg_28 G h0 a _ _ _ _ _) rfl 16 (by decide) (hq _ pw_513) (fun _ h9 => h9) rfl (by decide +kernel) rfl rfl (Nat.le_of_ble_eq_true rfl) (sf_23 G h0 a _ _ _ _ _ 5) dX5_start_26 (fun H locs w hP hD hS hO => ?_)
  refine lv_aload_n hx hb dX5_start_29 rfl (lv_at hl 0 rfl) ?_
  refine lv_aload_n hx hb dX5_start_30 rfl (lv_at hl 0 rfl) ?_
  refine c_get (v := .ref pq) (C := RX5) (Tc := TX5) (N := 19) (ci := 4) hx hb hq pin_wsX50 hown hE hP hO 28 (sg_28 G h0 a _ _ _ _ _) rfl 8 (by decide) (hq _ pw_486) (fun _ h9 => h9) rfl dX5_start_31 ?_
  refine lv_bipush (v := 36) hx hb dX5_start_34 (by decide) ?_
  have hO : OKP G h0 a (upd (upd (upd (upd (upd (upd (upd (upd (upd F 5 (nI cs)) 18 0) 19 0) 20 0) 22 0) 23 5) 24 0) 26 8) 28 (nI (8 + c9))) (updR (updR (updR (updR R 5 (.ref pq)) 6 (.null)) 7 (.ref (a sp))) 8 (.ref (a op))) 0 (updA B 33 (upd f6 5 x)) J K w := hO.to rfl
  obtain ⟨qr15, hqr16⟩ := p_recv hO (by rw [hp1]; decide) (rep_7 hp1)
  refine pc_V0 (G := G) (As := [.int 36]) (rest := [.ref (a 5)]) hx hb hml hown hq hE hX pX0_al hP hD hS hA hl.1 (G_find l G h0 a (upd (upd (upd (upd (upd (upd (upd (upd (upd F 5 (nI cs)) 18 0) 19 0) 20 0) 22 0) 23 5) 24 0) 26 8) 28 (nI (8 + c9))) (updR (updR (updR (updR R 5 (.ref pq)) 6 (.null)) 7 (.ref (a sp))) 8 (.ref (a op))) 0 (updA B 33 (upd f6 5 x)) J K w pq dr ml nd 36 g hps.1 hps.2.1 hO) (gV pw_584 pw_585 pw_586 pw_106 pw_509) hV_X9_find qr15 6 hqr16 rfl rfl rfl (Nat.le_of_ble_eq_true rfl) dX5_start_36 ⟨Nat.le_of_ble_eq_true rfl, Nat.le_of_ble_eq_true rfl⟩ ⟨Nat.le_of_ble_eq_true rfl, Nat.le_of_ble_eq_true rfl⟩ (fun v14 u12 H locs hw13 hP hD hS => ?_)
  obtain ⟨w, r17⟩ := u12
  obtain ⟨hw13, h18, hO⟩ := hw13
  have h18 : FnQ r17 nd := h18
  obtain rfl : v14 = some (.int r17) := hw13
  have hO : OKP G h0 a (upd (upd (upd (upd (upd (upd (upd (upd (upd F 5 (nI cs)) 18 0) 19 0) 20 0) 22 0) 23 5) 24 0) 26 8) 28 (nI (8 + c9))) (updR (updR (updR (updR R 5 (.ref pq)) 6 (.null)) 7 (.ref (a sp))) 8 (.ref (a op))) 0 (updA B 33 (upd f6 5 x)) J K w := hO.to rfl
  refine W.widen (k := 0) (n := 0) (Nat.le_of_ble_eq_true rfl) (Nat.le_of_ble_eq_true rfl) ?_
  refine W.eq (g2 := F0 m 39 ls [.int r17, .ref (a 5)]) rfl ?_
  have hO : OKP G h0 a (upd (upd (upd (upd (upd (upd (upd (upd (upd (upd (upd (upd (upd (upd F 5 (nI cs)) 18 0) 19 0) 20 0) 22 0) 23 5) 24 0) 26 8) 28 (nI (8 + c9))) 5 (nI cs)) 18 (nI 0)) 19 (nI 0)) 22 (nI 0)) 26 (nI 8)) (updR (updR (updR (updR (updR (updR (updR (updR R 5 (.ref pq)) 6 (.null)) 7 (.ref (a sp))) 8 (.ref (a op))) 5 (.ref pq)) 6 (va_rf none)) 7 (.ref (a sp))) 8 (.ref (a op))) 0 (updA B 33 (upd f6 5 x)) J K w := hO.to rfl
  obtain ⟨_, qr22, hqr23⟩ := hO.2.1 28 _ (sg_28 G h0 a _ _ _ _ _)
  refine pc_V0 (G := G) (As := [.int r17]) (rest := []) hx hb hml hown hq hE hX pX0_al hP hD hS hA hl.1 (M_makeObject l G h0 a (upd (upd (upd (upd (upd (upd (upd (upd (upd F 5 (nI cs)) 18 0) 19 0) 20 0) 22 0) 23 5) 24 0) 26 8) 28 (nI (8 + c9))) (updR (updR (updR (updR R 5 (.ref pq)) 6 (.null)) 7 (.ref (a sp))) 8 (.ref (a op))) 0 (updA B 33 (upd f6 5 x)) J K w r17 0 sp op 8 pq dr ml nd nm cp it s9 g rk 0 0 none cs (by omega) hsp (by omega) hwp hps hrk (by omega) (by omega) (fun z h => by cases h) (fun j hj => absurd hj (by omega)) (by omega) hO) (gV pw_587 pw_588 pw_589 pw_539 pw_559) hV_X5_makeObject qr22 4 hqr23 rfl rfl rfl (Nat.le_of_ble_eq_true rfl) dX5_start_39 ⟨Nat.le_of_ble_eq_true rfl, Nat.le_of_ble_eq_true rfl⟩ ⟨Nat.le_of_ble_eq_true rfl, Nat.le_of_ble_eq_true rfl⟩ (fun v21 u19 H locs hw20 hP hD hS => ?_)
  obtain ⟨w, tp24, en25, rf26, ta27, J28, sp29, op30, ht31, ot32⟩ := u19
  obtain ⟨hw20, h33, h34, h35, hO⟩ := hw20
  have h33 : tp24 ≤ 32000 := h33
  have h34 : 8 ≤ ht31 ∧ ht31 ≤ 3008 := h34
  have h35 : (sp29 = 34 ∧ op30 = 35) ∨ (sp29 = 35 ∧ op30 = 34) := h35
  obtain rfl : v21 = none := hw20
  have hO : OKP G h0 a (upd (upd (upd (upd (upd (upd (upd (upd (upd (upd (upd F 5 (nI cs)) 18 0) 19 (nI tp24)) 20 0) 22 0) 23 en25) 24 0) 25 rf26) 26 (nI ht31)) 27 ot32) 28 (nI (8 + c9))) (updR (updR (updR (updR R 5 (.ref pq)) 6 (.null)) 7 (.ref (a sp29))) 8 (.ref (a op30))) 0 (updA B 33 ta27) J28 K w := hO.to rfl
  refine W.widen (k := 0) (n := 0) (Nat.le_of_ble_eq_true rfl) (Nat.le_of_ble_eq_true rfl) ?_
  refine W.eq (g2 := F0 m 42 ls []) rfl ?_
  refine lv_aload_n hx hb dX5_start_42 rfl (lv_at hl 0 rfl) ?_
  refine c_get (v := .int en25) (C := RX5) (Tc := TX5) (N := 19) (ci := 4) hx hb hq pin_wsX50 hown hE hP hO 28 (sg_28 G h0 a _ _ _ _ _) rfl 16 (by decide) (hq _ pw_513) (fun _ h9 => h9) rfl dX5_start_43 ?_
  refine lv_iconst (v := 5) hx hb dX5_start_46 (by decide) ?_
  refine lv_icmp_ne (tgt := 65) hx hb dX5_start_47 (by decide) (fun c36 => ?_) (fun c36 => ?_)
  · have hz37 : tp24 ≤ 32000 := (by omega)
    have hz38 : 8 ≤ ht31 ∧ ht31 ≤ 3008 := (by omega)
    have hz39 : (sp29 = 34 ∧ op30 = 35) ∨ (sp29 = 35 ∧ op30 = 34) := (by omega)
    have hz40 : 0 ≤ 32000 ∧ 0 ≤ 100 := (by omega)
    have hz41 : MsO K none 0 := (fun z h => by cases h)
    have hz42 : FrO K nm it (B 30) 0 := (fun j hj => absurd hj (by omega))
    have hO : OKP G h0 a (upd (upd (upd (upd (upd (upd (upd (upd (upd (upd (upd (upd F 5 (nI cs)) 18 (nI 0)) 19 (nI tp24)) 20 (0 : Int32)) 21 (F 21)) 22 (nI 0)) 23 en25) 24 (0 : Int32)) 25 rf26) 26 (nI ht31)) 27 ot32) 28 (nI (8 + c9))) (updR (updR (updR (updR R 5 (.ref pq)) 6 (va_rf none)) 7 (.ref (a sp29))) 8 (.ref (a op30))) (0 : Int64) (updA (updA B 30 (B 30)) 33 ta27) J28 K w := hO.to rfl
    exact W.vret hx hb hr (fun t99 ht99 hW99 => ⟨⟨_, (w, (tp24, en25, rf26, (F 21), (0 : Int32), (0 : Int32), J28, (0 : Int64), ta27, sp29, op30, ht31, ot32, 0, 0, none, (B 30))), rfl, ⟨rfl, hz37, hz38, hz39, hz40, hz41, hz42, hO⟩, by rw [ht99]; exact hP, hD⟩, hS.F ht99⟩) hS.2.2 dX5_start_65
  · refine lv_aload_n hx hb dX5_start_50 rfl (lv_at hl 0 rfl) ?_
    refine lv_bipush (v := 37) hx hb dX5_start_51 (by decide) ?_
    refine lv_iconst (v := 0) hx hb dX5_start_53 (by decide) ?_
    have hO : OKP G h0 a (upd (upd (upd (upd (upd (upd (upd (upd (upd (upd (upd (upd (upd (upd (upd F 5 (nI cs)) 18 0) 19 (nI tp24)) 20 0) 22 0) 23 en25) 24 0) 25 rf26) 26 (nI ht31)) 27 ot32) 28 (nI (8 + c9))) 18 (nI 0)) 19 (nI tp24)) 22 (nI 0)) 26 (nI ht31)) (updR (updR (updR (updR (updR (updR (updR (updR R 5 (.ref pq)) 6 (.null)) 7 (.ref (a sp29))) 8 (.ref (a op30))) 5 (.ref pq)) 6 (va_rf none)) 7 (.ref (a sp29))) 8 (.ref (a op30))) 0 (updA B 33 ta27) J28 K w := hO.to rfl
    obtain ⟨_, qr46, hqr47⟩ := hO.2.1 28 _ (sg_28 G h0 a _ _ _ _ _)
    refine pc_V0 (G := G) (As := [.int 37, .int (nI 0)]) (rest := []) hx hb hml hown hq hE hX pX0_al hP hD hS hA hl.1 (M_callNearest l G h0 a (upd (upd (upd (upd (upd (upd (upd (upd (upd (upd (upd F 5 (nI cs)) 18 0) 19 (nI tp24)) 20 0) 22 0) 23 en25) 24 0) 25 rf26) 26 (nI ht31)) 27 ot32) 28 (nI (8 + c9))) (updR (updR (updR (updR R 5 (.ref pq)) 6 (.null)) 7 (.ref (a sp29))) 8 (.ref (a op30))) 0 (updA B 33 ta27) J28 K w 37 0 tp24 sp29 op30 ht31 pq dr ml nd nm cp it s9 g rk 0 0 none (by omega) h35 (by omega) hwp hps hrk (by omega) (by omega) (fun z h => by cases h) (fun j hj => absurd hj (by omega)) (by omega) hO) (gV pw_590 pw_591 pw_592 pw_539 pw_577) hV_X5_callNearest qr46 4 hqr47 rfl rfl rfl (Nat.le_of_ble_eq_true rfl) dX5_start_54 ⟨Nat.le_of_ble_eq_true rfl, Nat.le_of_ble_eq_true rfl⟩ ⟨Nat.le_of_ble_eq_true rfl, Nat.le_of_ble_eq_true rfl⟩ (fun v45 u43 H locs hw44 hP hD hS => ?_)
    obtain ⟨w, tp48, en49, rf50, nx51, ta52, z53, ba54, on55, mo56, fr57⟩ := u43
    obtain ⟨hw44, h58, h59, h60, h61, hO⟩ := hw44
    have h58 : tp48 ≤ 32000 := h58
    have h59 : ba54 ≤ 32000 ∧ on55 ≤ 100 := h59
    have h60 : MsO K mo56 ba54 := h60
    have h61 : FrO K nm it fr57 on55 := h61
    obtain rfl : v45 = none := hw44
    have hO : OKP G h0 a (upd (upd (upd (upd (upd (upd (upd (upd (upd (upd (upd (upd F 5 (nI cs)) 18 (nI ba54)) 19 (nI tp48)) 20 0) 21 nx51) 22 (nI on55)) 23 en49) 24 0) 25 rf50) 26 (nI ht31)) 27 ot32) 28 (nI (8 + c9))) (updR (updR (updR (updR R 5 (.ref pq)) 6 (va_rf mo56)) 7 (.ref (a sp29))) 8 (.ref (a op30))) z53 (updA (updA B 30 fr57) 33 ta52) J28 K w := hO.to rfl
    refine W.widen (k := 0) (n := 0) (Nat.le_of_ble_eq_true rfl) (Nat.le_of_ble_eq_true rfl) ?_
    refine W.eq (g2 := F0 m 57 ls []) rfl ?_
    refine lv_aload_n hx hb dX5_start_57 rfl (lv_at hl 0 rfl) ?_
    refine lv_aload_n hx hb dX5_start_58 rfl (lv_at hl 0 rfl) ?_
    refine c_get (v := .int nx51) (C := RX5) (Tc := TX5) (N := 19) (ci := 4) hx hb hq pin_wsX50 hown hE hP hO 28 (sg_28 G h0 a _ _ _ _ _) rfl 13 (by decide) (hq _ pw_566) (fun _ h9 => h9) rfl dX5_start_59 ?_
    refine c_put (v := .int nx51) (ty := .int) (C := RX5) (Tc := TX5) (N := 19) (ci := 4) hx hb hq pin_wsX50 tyX5 tyX5_ok nmX5 hown hE hP hD hS hO 28 (sg_28 G h0 a _ _ _ _ _) rfl 12 (by decide) (hq _ pw_506) (fun _ h9 => h9) rfl (by decide +kernel) rfl rfl (Nat.le_of_ble_eq_true rfl) (sf_20 G h0 a _ _ _ _ _ nx51) dX5_start_62 (fun H locs w hP hD hS hO => ?_)
    have hz62 : tp48 ≤ 32000 := (by omega)
    have hz63 : 8 ≤ ht31 ∧ ht31 ≤ 3008 := (by omega)
    have hz64 : (sp29 = 34 ∧ op30 = 35) ∨ (sp29 = 35 ∧ op30 = 34) := (by omega)
    have hz65 : ba54 ≤ 32000 ∧ on55 ≤ 100 := (by omega)
    have hz66 : MsO K mo56 ba54 := h60
    have hz67 : FrO K nm it fr57 on55 := h61
    have hO : OKP G h0 a (upd (upd (upd (upd (upd (upd (upd (upd (upd (upd (upd (upd F 5 (nI cs)) 18 (nI ba54)) 19 (nI tp48)) 20 nx51) 21 nx51) 22 (nI on55)) 23 en49) 24 (0 : Int32)) 25 rf50) 26 (nI ht31)) 27 ot32) 28 (nI (8 + c9))) (updR (updR (updR (updR R 5 (.ref pq)) 6 (va_rf mo56)) 7 (.ref (a sp29))) 8 (.ref (a op30))) z53 (updA (updA B 30 fr57) 33 ta52) J28 K w := hO.to rfl
    exact W.vret hx hb hr (fun t99 ht99 hW99 => ⟨⟨_, (w, (tp48, en49, rf50, nx51, nx51, (0 : Int32), J28, z53, ta52, sp29, op30, ht31, ot32, ba54, on55, mo56, fr57)), rfl, ⟨rfl, hz62, hz63, hz64, hz65, hz66, hz67, hO⟩, by rw [ht99]; exact hP, hD⟩, hS.F ht99⟩) hS.2.2 dX5_start_65
