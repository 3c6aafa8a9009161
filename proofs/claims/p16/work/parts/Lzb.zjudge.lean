theorem dX0_judge_0 : decode cX0_judge 0 = .ok (.aload_n 0, 1) := by decide +kernel
theorem dX0_judge_1 : decode cX0_judge 1 = .ok (.aload_n 1, 1) := by decide +kernel
theorem dX0_judge_2 : decode cX0_judge 2 = .ok (.putfield 29, 3) := by decide +kernel
theorem dX0_judge_5 : decode cX0_judge 5 = .ok (.aload_n 0, 1) := by decide +kernel
theorem dX0_judge_6 : decode cX0_judge 6 = .ok (.getfield 15, 3) := by decide +kernel
theorem dX0_judge_9 : decode cX0_judge 9 = .ok (.invokevirtual 33, 3) := by decide +kernel
theorem dX0_judge_12 : decode cX0_judge 12 = .ok (.iconst 0, 1) := by decide +kernel
theorem dX0_judge_13 : decode cX0_judge 13 = .ok (.istore_n 2, 1) := by decide +kernel
theorem dX0_judge_14 : decode cX0_judge 14 = .ok (.iload_n 2, 1) := by decide +kernel
theorem dX0_judge_15 : decode cX0_judge 15 = .ok (.aload_n 0, 1) := by decide +kernel
theorem dX0_judge_16 : decode cX0_judge 16 = .ok (.getfield 29, 3) := by decide +kernel
theorem dX0_judge_19 : decode cX0_judge 19 = .ok (.getfield 38, 3) := by decide +kernel
theorem dX0_judge_22 : decode cX0_judge 22 = .ok (.if_icmp .ge 84, 3) := by decide +kernel
theorem dX0_judge_106 : decode cX0_judge 106 = .ok (.return_, 1) := by decide +kernel
theorem dX0_judge_25 : decode cX0_judge 25 = .ok (.aload_n 0, 1) := by decide +kernel
theorem dX0_judge_26 : decode cX0_judge 26 = .ok (.getfield 29, 3) := by decide +kernel
theorem dX0_judge_29 : decode cX0_judge 29 = .ok (.iload_n 2, 1) := by decide +kernel
theorem dX0_judge_30 : decode cX0_judge 30 = .ok (.invokevirtual 44, 3) := by decide +kernel
theorem dX0_judge_33 : decode cX0_judge 33 = .ok (.astore_n 3, 1) := by decide +kernel
theorem dX0_judge_34 : decode cX0_judge 34 = .ok (.iconst 0, 1) := by decide +kernel
theorem dX0_judge_35 : decode cX0_judge 35 = .ok (.istore 4, 2) := by decide +kernel
theorem dX0_judge_37 : decode cX0_judge 37 = .ok (.aload_n 3, 1) := by decide +kernel
theorem dX0_judge_38 : decode cX0_judge 38 = .ok (.ifnull 62, 3) := by decide +kernel
theorem dX0_judge_41 : decode cX0_judge 41 = .ok (.iload 4, 2) := by decide +kernel
theorem dX0_judge_43 : decode cX0_judge 43 = .ok (.aload_n 3, 1) := by decide +kernel
theorem dX0_judge_44 : decode cX0_judge 44 = .ok (.getfield 48, 3) := by decide +kernel
theorem dX0_judge_47 : decode cX0_judge 47 = .ok (.invokevirtual 54, 3) := by decide +kernel
theorem dX0_judge_50 : decode cX0_judge 50 = .ok (.if_icmp .ge 50, 3) := by decide +kernel
theorem dX0_judge_100 : decode cX0_judge 100 = .ok (.iinc 2 1, 3) := by decide +kernel
theorem dX0_judge_103 : decode cX0_judge 103 = .ok (.goto (-89), 3) := by decide +kernel
theorem dX0_judge_53 : decode cX0_judge 53 = .ok (.aload_n 0, 1) := by decide +kernel
theorem dX0_judge_54 : decode cX0_judge 54 = .ok (.aload_n 3, 1) := by decide +kernel
theorem dX0_judge_55 : decode cX0_judge 55 = .ok (.getfield 48, 3) := by decide +kernel
theorem dX0_judge_58 : decode cX0_judge 58 = .ok (.iload 4, 2) := by decide +kernel
theorem dX0_judge_60 : decode cX0_judge 60 = .ok (.invokevirtual 59, 3) := by decide +kernel
theorem dX0_judge_63 : decode cX0_judge 63 = .ok (.checkcast 63, 3) := by decide +kernel
theorem dX0_judge_66 : decode cX0_judge 66 = .ok (.invokevirtual 65, 3) := by decide +kernel
theorem dX0_judge_69 : decode cX0_judge 69 = .ok (.aload_n 0, 1) := by decide +kernel
theorem dX0_judge_70 : decode cX0_judge 70 = .ok (.getfield 69, 3) := by decide +kernel
theorem dX0_judge_73 : decode cX0_judge 73 = .ok (.getfield 73, 3) := by decide +kernel
theorem dX0_judge_76 : decode cX0_judge 76 = .ok (.ifnull 18, 3) := by decide +kernel
theorem dX0_judge_94 : decode cX0_judge 94 = .ok (.iinc 4 1, 3) := by decide +kernel
theorem dX0_judge_97 : decode cX0_judge 97 = .ok (.goto (-60), 3) := by decide +kernel
theorem dX0_judge_79 : decode cX0_judge 79 = .ok (.aload_n 0, 1) := by decide +kernel
theorem dX0_judge_80 : decode cX0_judge 80 = .ok (.aload_n 0, 1) := by decide +kernel
theorem dX0_judge_81 : decode cX0_judge 81 = .ok (.getfield 69, 3) := by decide +kernel
theorem dX0_judge_84 : decode cX0_judge 84 = .ok (.getfield 73, 3) := by decide +kernel
theorem dX0_judge_87 : decode cX0_judge 87 = .ok (.invokevirtual 77, 3) := by decide +kernel
theorem dX0_judge_90 : decode cX0_judge 90 = .ok (.aload_n 0, 1) := by decide +kernel
theorem dX0_judge_91 : decode cX0_judge 91 = .ok (.invokevirtual 81, 3) := by decide +kernel
theorem hV_X1_clear : yX1_clear.cls = RX1 ∧ yX1_clear.cls ≠ "java/lang/invoke/MethodHandle" ∧ yX1_clear.cls ≠ "java/lang/invoke/VarHandle" ∧ (parseMethodDescriptor yX1_clear.desc).map (fun d => d.parameters.length) = some 0 := by decide +kernel
theorem hV_X0_beginMethod : yX0_beginMethod.cls = RX0 ∧ yX0_beginMethod.cls ≠ "java/lang/invoke/MethodHandle" ∧ yX0_beginMethod.cls ≠ "java/lang/invoke/VarHandle" ∧ (parseMethodDescriptor yX0_beginMethod.desc).map (fun d => d.parameters.length) = some 1 := by decide +kernel
theorem hV_X0_endMethod : yX0_endMethod.cls = RX0 ∧ yX0_endMethod.cls ≠ "java/lang/invoke/MethodHandle" ∧ yX0_endMethod.cls ≠ "java/lang/invoke/VarHandle" ∧ (parseMethodDescriptor yX0_endMethod.desc).map (fun d => d.parameters.length) = some 0 := by decide +kernel
set_option maxHeartbeats 90000000 in
set_option maxRecDepth 100000 in
theorem Y_judge (l : Launch) (G : pT) (h0 : Nat) (a : Nat → Nat) (F : Nat → Int32) (R : Nat → Value) (Z : Int64) (B : Nat → Nat → Int32) (J : Nat → Nat → Int64) (K : PK) (w : va_W) (pq : Nat) (dr : Nat) (ml : Nat) (nd : Nat) (nm : Nat) (cp : Nat) (it : Nat → Nat) (s9 : Nat) (sz : Nat) (g : Nat → Nat → Nat) (rk : Nat → Nat) (pb : PNb) (hsz : sz ≤ 5000) (hwp : WPr G K g) (hps : PgT G K g (a 1) pq dr ml nd nm cp it s9) (hrk : RkO K rk) (hng : Nng (B 18)) (hn37 : nd ≤ 37) (hek : EkA pb K g (B 7) (B 11) sz) (hsk : SkA K g (B 11) sz nd) (hna : NaB pb G K (B 11) dr nd sz) (hmx : ∀ k i m : Nat, k < nd → MtP G K dr k i m → MtOp pb G K (B 11) sz nd nm dr k m it g) (hnu : ∀ j : Nat, j < nm → K.1 (it j) = 3 ∧ K.2.1 9 (it j) = nI j ∧ (∃ b : Nat, K.2.2.1 7 (it j) = some b) ∧ ∃ k i : Nat, k < nd ∧ MtP G K dr k i (it j)) (hnm : nm ≤ 5000) (hs98 : sumN (fw K (bl2 K g) dr) nd ≤ 4998) (hO : OKP G h0 a (upd F 2 (nI sz)) R Z B J K w) (hl0 : l.stackTraces = false) : PBn l G pX0 yX0_judge cX0_judge 5 none ({ frames := (1210), cells := (s9 + 1), slots := (6 * s9 + 6), locals := (47500) }) [.ref (a 4), .ref pq] w (fun (v : Option Value) (u : va_W × (PK × (Nat → Nat → Int32) × Nat × Nat × Nat × RX × Int32 × Int32 × Int32 × Int32 × Int32 × Int32 × Int32 × Value × Value)) => v = none ∧ (BdX K u.2.1) ∧ (MtB u.2.1) ∧ (Bth B u.2.2.1) ∧ (BeF K u.2.1) ∧ (BtR B u.2.2.1) ∧ (u.2.2.2.1 ≤ 10000) ∧ (u.2.2.2.2.1 ≤ 625 ∧ u.2.2.2.2.1 ≤ u.2.2.2.2.2.1) ∧ (RgQx u.2.2.1 u.2.2.2.2.2.2.1 u.2.2.2.2.2.1 nd) ∧ (∀ j : Nat, j < nm → JdM pb u.2.1 u.2.2.1 u.2.2.2.2.2.2.1 u.2.2.2.1 u.2.2.2.2.1 j (it j)) ∧ (OKP G h0 a (upd (upd (upd (upd (upd (upd (upd (upd (upd (upd F 2 (nI sz)) 5 (nI u.2.2.2.1)) 6 (nI u.2.2.2.2.1)) 7 u.2.2.2.2.2.2.2.2.2.2.2.1) 8 u.2.2.2.2.2.2.2.2.2.2.2.2.1) 12 u.2.2.2.2.2.2.2.2.2.2.1) 13 u.2.2.2.2.2.2.2.1) 14 u.2.2.2.2.2.2.2.2.1) 15 u.2.2.2.2.2.2.2.2.2.1) 16 u.2.2.2.2.2.2.2.2.2.2.2.2.2.1) (updR (updR (updR R 2 (.ref pq)) 3 (u.2.2.2.2.2.2.2.2.2.2.2.2.2.2.1)) 4 (u.2.2.2.2.2.2.2.2.2.2.2.2.2.2.2)) Z u.2.2.1 J u.2.1 u.1)) (fun u => u.1) (fun (u : va_W × (PK × (Nat → Nat → Int32) × Nat × Nat × Nat × RX × Int32 × Int32 × Int32 × Int32 × Int32 × Int32 × Int32 × Value × Value)) => s9) (fun (u : va_W × (PK × (Nat → Nat → Int32) × Nat × Nat × Nat × RX × Int32 × Int32 × Int32 × Int32 × Int32 × Int32 × Int32 × Value × Value)) => (6 * s9)) (fun (u : va_W × (Nat → Int32) × (Nat → Value) × (Nat → Nat → Int32)) => ThQ G h0 a (upd F 2 (nI sz)) R Z B J u) (fun u => u.1) := by
  intro sz
  refine vx_ofW (cc := cX0_judge) (maxL := 5) (ret := none) (by decide) rfl ?_
  intro p e s m args below meth c s₁ B9 hml hnt hv
  obtain ⟨rfl, hsz, hP, hD0, hE, hX⟩ := hv
  have hx := B9.exec
  have hb := B9.bytes
  have hr := B9.returns
  have hts := atoms_spec (ws := Cond.code yX0_judge cX0_judge 5 none :: pw) B9.pre
  have hq : ∀ w ∈ pw, w.before _ s = true := fun w h => hts w (List.mem_cons_of_mem _ h)
  have hown : s.vm.findClass RX0 = some m.cls := findClass_of_methodNamed B9.named
  have hlocks := B9.notSynchronized
  subst hsz
  have hD := hD0.self (sz := s.heap.size)
  have hA : ∀ q : Nat, s.heap.size ≤ q → va_A w s.heap.size q := fun q h => Or.inr h
  generalize va_A w s.heap.size = A at hD hE hA ⊢
  have hS : va_S A s.heap s.heap [] := va_S.rf
  have hl := lv_entry ([.ref (a 4), .ref pq]) (n := 5) (Nat.le_of_ble_eq_true rfl)
  rw [lg_entry_eq]
  generalize (lg_sl ([.ref (a 4), .ref pq]) ++ List.replicate (5 - (lg_sl ([.ref (a 4), .ref pq])).length) Slot.unset).toArray = ls at hl ⊢
  have hl : lv_has ls 5 [(0, .ref (a 4)), (1, .ref pq)] := hl
  have hpg := hps.1
  have hp1 := hpg.1
  have hp2 := hpg.2.1
  have hp3 := hpg.2.2.1
  have hp4 := hpg.2.2.2.1
  have hp5 := hpg.2.2.2.2.1
  have hp6 := hpg.2.2.2.2.2.1
  have hp8 := hpg.2.2.2.2.2.2.2.1
  have hp9 := hpg.2.2.2.2.2.2.2.2
  have hdr0 : ¬ K.1 dr = 0 := by rw [hpg.2.2.2.1]; decide
  have htb : sumN (fw K (bl K g) dr) nd ≤ s9 := hps.tb
  refine lv_aload_n hx hb dX0_judge_0 rfl (lv_at hl 0 rfl) ?_
  refine lv_aload_n hx hb dX0_judge_1 rfl (lv_at hl 1 rfl) ?_
  refine c_put (v := .ref pq) (ty := (.object "JinjaTongue$Program")) (C := RX0) (Tc := TX0) (N := 13) (ci := 0) hx hb hq pin_wsX00 tyX0 tyX0_ok nmX0 hown hE hP hD hS hO 24 (sg_24 G h0 a _ _ _ _ _) rfl 6 (by decide) (hq _ pw_110) (fun _ h9 => h9) rfl (by decide +kernel) rfl rfl (Nat.le_of_ble_eq_true rfl) (sr_2 G h0 a _ _ _ _ _ (.ref pq)) dX0_judge_2 (fun H locs w hP hD hS hO => ?_)
  refine lv_aload_n hx hb dX0_judge_5 rfl (lv_at hl 0 rfl) ?_
  refine c_get (v := .ref (a 2)) (C := RX0) (Tc := TX0) (N := 13) (ci := 0) hx hb hq pin_wsX00 hown hE hP hO 24 (sg_24 G h0 a _ _ _ _ _) rfl 1 (by decide) (hq _ pw_5) (fun _ h9 => h9) rfl dX0_judge_6 ?_
  have hO : OKW G h0 a (upd F 2 (nI sz)) (updR R 2 (.ref pq)) Z B J K.1 (fun q99 x99 => x99 = rep G a K q99) w := hO.to rfl
  obtain ⟨_, qr4, hqr5⟩ := hO.2.1 13 _ (sg_13 G h0 a _ _ _ _ _)
  refine pc_V0 (G := G) (As := []) (rest := []) hx hb hml hown hq hE hX pX0_al hP hD hS hA hl.1 (K_codeClear l G h0 a (upd F 2 (nI sz)) (updR R 2 (.ref pq)) Z B J K.1 (fun q99 x99 => x99 = rep G a K q99) w hO) (gV pw_367 pw_368 pw_369 pw_70 pw_10) hV_X1_clear qr4 1 hqr5 rfl rfl rfl (Nat.le_of_ble_eq_true rfl) dX0_judge_9 ⟨(by show 0 + 0 ≤ (s9 + 1); omega), (by show 0 + 0 ≤ (6 * s9 + 6); omega)⟩ ⟨(by show 2 + 1 ≤ (1210); omega), (by show 8 + (1 + 11) + 60 ≤ (47500); omega)⟩ (fun v3 u1 H locs hw2 hP hD hS => ?_)
  obtain ⟨w, _⟩ := u1
  obtain ⟨hw2, hO⟩ := hw2
  obtain rfl : v3 = none := hw2
  have hO : OKP G h0 a (upd (upd (upd F 2 (nI sz)) 5 0) 6 0) (updR R 2 (.ref pq)) Z B J K w := hO.to rfl
  refine W.widen (k := 0) (n := 0) (Nat.le_of_ble_eq_true rfl) (Nat.le_of_ble_eq_true rfl) ?_
  refine W.eq (g2 := F0 m 12 ls []) rfl ?_
  refine lv_iconst (v := 0) hx hb dX0_judge_12 (by decide) ?_
  refine lv_istore_n (lv' := [(2, .int 0), (0, .ref (a 4)), (1, .ref pq)]) hx hb dX0_judge_13 rfl hl (by decide) rfl (fun ls hl => ?_)
  have loop_k : ∀ (n_k : Nat) (k2 : Nat) (K2 : PK) (B2 : Nat → Nat → Int32) (cs2 : Nat) (rg2 : Nat) (as2 : Int32) (wt2 : Int32) (wf2 : Int32) (vr2 : Int32) (hd2 : Int32) (dp2 : Int32) (ls2 : Int32) (mv2 : Value) (lv2 : Value) (c2 : Nat) (gr2 : Nat) (Q2 : RX) (H : Heap) (locs : List Loc) (ls : Array Slot) (w : va_W), k2 ≤ nd → nd + 1 ≤ k2 + n_k → (BdX K K2) → (MtB K2) → (Bth B B2) → (Nng (B2 18)) → (BeF K K2) → (BtR B B2) → (rg2 ≤ 625 ∧ rg2 ≤ gr2 ∧ (rg2 = 625 ∨ rg2 = gr2)) → (RgQx B2 Q2 gr2 nd) → (JdO pb G K K2 B2 Q2 cs2 rg2 dr nm it k2 0 none) → (c2 ≤ sumN (fw K (bl K g) dr) k2) → (cs2 ≤ 2 * sumN (fw K (bl2 K g) dr) k2) → va_P G.1 pCl w H → va_D A w → va_S A s.heap H locs → OKP G h0 a (upd (upd (upd (upd (upd (upd (upd (upd (upd (upd F 2 (nI sz)) 5 (nI cs2)) 6 (nI rg2)) 7 hd2) 8 dp2) 12 vr2) 13 as2) 14 wt2) 15 wf2) 16 ls2) (updR (updR (updR R 2 (.ref pq)) 3 (mv2)) 4 (lv2)) Z B2 J K2 w → lv_has ls 5 [(2, .int (nI k2)), (1, .ref pq), (0, .ref (a 4))] → W p l e (headSpec (Cond.code yX0_judge cX0_judge 5 none :: pw) ({ frames := (1210), cells := (s9 + 1), slots := (6 * s9 + 6), locals := (47500) } : Room)).room s m ([.ref (a 4), .ref pq] : List Value).toArray below meth c H locs c2 (6 * c2) (vx_MQ below (pQn G A (fun (v : Option Value) (u : va_W × (PK × (Nat → Nat → Int32) × Nat × Nat × Nat × RX × Int32 × Int32 × Int32 × Int32 × Int32 × Int32 × Int32 × Value × Value)) => v = none ∧ (BdX K u.2.1) ∧ (MtB u.2.1) ∧ (Bth B u.2.2.1) ∧ (BeF K u.2.1) ∧ (BtR B u.2.2.1) ∧ (u.2.2.2.1 ≤ 10000) ∧ (u.2.2.2.2.1 ≤ 625 ∧ u.2.2.2.2.1 ≤ u.2.2.2.2.2.1) ∧ (RgQx u.2.2.1 u.2.2.2.2.2.2.1 u.2.2.2.2.2.1 nd) ∧ (∀ j : Nat, j < nm → JdM pb u.2.1 u.2.2.1 u.2.2.2.2.2.2.1 u.2.2.2.1 u.2.2.2.2.1 j (it j)) ∧ (OKP G h0 a (upd (upd (upd (upd (upd (upd (upd (upd (upd (upd F 2 (nI sz)) 5 (nI u.2.2.2.1)) 6 (nI u.2.2.2.2.1)) 7 u.2.2.2.2.2.2.2.2.2.2.2.1) 8 u.2.2.2.2.2.2.2.2.2.2.2.2.1) 12 u.2.2.2.2.2.2.2.2.2.2.1) 13 u.2.2.2.2.2.2.2.1) 14 u.2.2.2.2.2.2.2.2.1) 15 u.2.2.2.2.2.2.2.2.2.1) 16 u.2.2.2.2.2.2.2.2.2.2.2.2.2.1) (updR (updR (updR R 2 (.ref pq)) 3 (u.2.2.2.2.2.2.2.2.2.2.2.2.2.2.1)) 4 (u.2.2.2.2.2.2.2.2.2.2.2.2.2.2.2)) Z u.2.2.1 J u.2.1 u.1)) (fun u => u.1) (fun (u : va_W × (PK × (Nat → Nat → Int32) × Nat × Nat × Nat × RX × Int32 × Int32 × Int32 × Int32 × Int32 × Int32 × Int32 × Value × Value)) => s9) (fun (u : va_W × (PK × (Nat → Nat → Int32) × Nat × Nat × Nat × RX × Int32 × Int32 × Int32 × Int32 × Int32 × Int32 × Int32 × Value × Value)) => (6 * s9))) (pXX G A (fun (u : va_W × (Nat → Int32) × (Nat → Value) × (Nat → Nat → Int32)) => ThQ G h0 a (upd F 2 (nI sz)) R Z B J u) (fun u => u.1)) ([.ref (a 4), .ref pq] : List Value).toArray s ({ frames := (1210), cells := (s9 + 1), slots := (6 * s9 + 6), locals := (47500) } : Room).cells ({ frames := (1210), cells := (s9 + 1), slots := (6 * s9 + 6), locals := (47500) } : Room).slots A) (F0 m 14 ls []) := by
    intro n_k
    induction n_k with
    | zero => intro k2 K2 B2 cs2 rg2 as2 wt2 wf2 vr2 hd2 dp2 ls2 mv2 lv2 c2 gr2 Q2 H locs ls w hk_k hn_k; omega
    | succ n_k ih_k =>
      intro k2 K2 B2 cs2 rg2 as2 wt2 wf2 vr2 hd2 dp2 ls2 mv2 lv2 c2 gr2 Q2 H locs ls w hk_k hn_k hbx2 hmt2 hbb2 hng2 hbf2 hbt2 hgr2 hrq2 hjd2 hc2 hcs2 hP hD hS hO hl
      have hf6 : K2.1 pq = 7 := (BdX.T hbx2 hp1 (by decide))
      have hf7 : K2.2.2.1 18 pq = some (a 1) := (BdX.C hbx2 (by rw [hp1]; decide) 18).trans hp2
      have hf8 : K2.2.2.1 14 pq = some dr := (BdX.C hbx2 (by rw [hp1]; decide) 14).trans hp3
      have hf9 : K2.1 dr = 8 := (BdX.T hbx2 hp4 (by decide))
      have hf10 : K2.2.2.1 15 pq = some ml := (BdX.C hbx2 (by rw [hp1]; decide) 15).trans hp5
      have hf11 : K2.1 ml = 5 := (BdX.T hbx2 hp6 (by decide))
      have hf12 : K2.2.1 24 pq = (nI nd) := (BdX.I hbx2 (by rw [hp1]; decide) (by decide)).trans hp8
      have hmo2 : sumN (fw K (bl K g) dr) k2 ≤ sumN (fw K (bl K g) dr) nd := sumN_mono (by omega)
      have hmo3 : sumN (fw K (bl2 K g) dr) k2 ≤ sumN (fw K (bl2 K g) dr) nd := sumN_mono (by omega)
      refine lv_iload_n hx hb dX0_judge_14 rfl (lv_at hl 0 rfl) ?_
      refine lv_aload_n hx hb dX0_judge_15 rfl (lv_at hl 2 rfl) ?_
      refine c_get (v := .ref pq) (C := RX0) (Tc := TX0) (N := 13) (ci := 0) hx hb hq pin_wsX00 hown hE hP hO 24 (sg_24 G h0 a _ _ _ _ _) rfl 6 (by decide) (hq _ pw_110) (fun _ h9 => h9) rfl dX0_judge_16 ?_
      refine p_get (v := .int (nI nd)) (C := RX9) (Tc := TX9) (N := 5) (ci := 6) hx hb hq pin_wsX90 hown hE hP hO (by rw [hf6]; decide) (rep_7 hf6) rfl 2 (by decide) (hq _ pw_364) (fun _ h9 => h9) (congrArg (fun z => some (Value.int z)) hf12) dX0_judge_19 ?_
      refine lv_icmp_ge (tgt := 106) hx hb dX0_judge_22 (by decide) (fun c13 => ?_) (fun c13 => ?_)
      · have n14 : nd ≤ k2 := (nI_leI (a := nd) (b := k2) (by omega) (by omega)).mp c13
        refine W_size (fun hz1 hz2 => ?_)
        refine vx_ret ?_
        have hke9 : k2 = nd := by omega
        have hz15 : BdX K K2 := hbx2
        have hz16 : MtB K2 := hmt2
        have hz17 : Bth B B2 := (show Thx (upd F 2 (nI sz)) (upd (upd (upd (upd (upd (upd (upd (upd (upd (upd F 2 (nI sz)) 5 (nI cs2)) 6 (nI rg2)) 7 hd2) 8 dp2) 12 vr2) 13 as2) 14 wt2) 15 wf2) 16 ls2) B B2 from (Thx.f (Thx.f (Thx.f (Thx.f (Thx.f (Thx.f (Thx.f (Thx.f (Thx.f (Bth.thx hbb2) (by omega)) (by omega)) (by omega)) (by omega)) (by omega)) (by omega)) (by omega)) (by omega)) (by omega))).2
        have hz18 : BeF K K2 := hbf2
        have hz19 : BtR B B2 := hbt2
        have hz20 : cs2 ≤ 10000 := (by omega)
        have hz21 : rg2 ≤ 625 ∧ rg2 ≤ gr2 := (by omega)
        have hz22 : RgQx B2 Q2 gr2 nd := hrq2
        have hz23 : ∀ j : Nat, j < nm → JdM pb K2 B2 Q2 cs2 rg2 j (it j) := (fun j9 hj9 => by obtain ⟨_, _, _, k9, i9, h8, h9⟩ := hnu j9 hj9; exact hjd2 j9 k9 i9 hj9 (fun z => by cases z) h9 (Or.inl (by omega)))
        have hO : OKP G h0 a (upd (upd (upd (upd (upd (upd (upd (upd (upd (upd F 2 (nI sz)) 5 (nI cs2)) 6 (nI rg2)) 7 hd2) 8 dp2) 12 vr2) 13 as2) 14 wt2) 15 wf2) 16 ls2) (updR (updR (updR R 2 (.ref pq)) 3 (mv2)) 4 (lv2)) Z B2 J K2 w := hO.to rfl
        refine W.widen (k := (s9 + 1)) (n := (6 * s9 + 6)) (by omega) (by omega) ?_
        have hzz1 : H.size ≤ s.heap.size + (s9) := (by have z : c2 ≤ s9 := (by omega); omega)
        have hzz2 : hSl H ≤ hSl s.heap + ((6 * s9)) := (by have z : (6 * c2) ≤ (6 * s9) := (by omega); omega)
        exact W.vret hx hb hr (fun t99 ht99 hW99 => ⟨⟨_, (w, (K2, B2, cs2, rg2, gr2, Q2, as2, wt2, wf2, vr2, hd2, dp2, ls2, mv2, lv2)), rfl, ⟨rfl, hz15, hz16, hz17, hz18, hz19, hz20, hz21, hz22, hz23, hO⟩, by rw [ht99]; exact hP, hD, by rw [ht99]; exact hzz1, by rw [ht99]; exact hzz2⟩, hS.F ht99⟩) hS.2.2 dX0_judge_106
      · have n24 : ¬ (nd ≤ k2) := fun h9 => c13 ((nI_leI (a := nd) (b := k2) (by omega) (by omega)).mpr h9)
        refine lv_aload_n hx hb dX0_judge_25 rfl (lv_at hl 2 rfl) ?_
        refine c_get (v := .ref pq) (C := RX0) (Tc := TX0) (N := 13) (ci := 0) hx hb hq pin_wsX00 hown hE hP hO 24 (sg_24 G h0 a _ _ _ _ _) rfl 6 (by decide) (hq _ pw_110) (fun _ h9 => h9) rfl dX0_judge_26 ?_
        refine lv_iload_n hx hb dX0_judge_29 rfl (lv_at hl 0 rfl) ?_
        obtain ⟨d9, he0, hdT, hd99⟩ := hps.2.1 k2 (by omega)
        have hf25 : K2.1 d9 = 4 := BdX.T hbx2 hdT (by decide)
        have hO : OKP G h0 a (upd (upd (upd (upd (upd (upd (upd (upd (upd (upd F 2 (nI sz)) 5 (nI cs2)) 6 (nI rg2)) 7 hd2) 8 dp2) 12 vr2) 13 as2) 14 wt2) 15 wf2) 16 ls2) (updR (updR (updR R 2 (.ref pq)) 3 (mv2)) 4 (lv2)) Z B2 J K2 w := hO.to rfl
        obtain ⟨qr29, hqr30⟩ := p_recv hO (by rw [hf6]; decide) (rep_7 hf6)
        refine pc_V0 (G := G) (As := [.int (nI k2)]) (rest := []) hx hb hml hown hq hE hX pX0_al hP hD hS hA hl.1 (Y_decl l G h0 a (upd (upd (upd (upd (upd (upd (upd (upd (upd (upd F 2 (nI sz)) 5 (nI cs2)) 6 (nI rg2)) 7 hd2) 8 dp2) 12 vr2) 13 as2) 14 wt2) 15 wf2) 16 ls2) (updR (updR (updR R 2 (.ref pq)) 3 (mv2)) 4 (lv2)) Z B2 J K2 w pq dr ml nd k2 d9 g (BdX.pt hbx2 hwp hps).1 (BdX.pt hbx2 hwp hps).2.1 (by omega) (by rw [(hbx2.1 dr hdr0).2.2.2.2.1]; exact he0) hO) (gV pw_181 pw_182 pw_183 pw_106 pw_13) hV_X9_decl qr29 6 hqr30 rfl rfl rfl (Nat.le_of_ble_eq_true rfl) dX0_judge_30 ⟨(by show c2 + 0 ≤ (s9 + 1); omega), (by show (6 * c2) + 0 ≤ (6 * s9 + 6); omega)⟩ ⟨(by show 2 + 1 ≤ (1210); omega), (by show 8 + (2 + 11) + 60 ≤ (47500); omega)⟩ (fun v28 u26 H locs hw27 hP hD hS => ?_)
        obtain ⟨w, _⟩ := u26
        obtain ⟨hw27, hO⟩ := hw27
        obtain rfl : v28 = some (.ref d9) := hw27
        have hO : OKP G h0 a (upd (upd (upd (upd (upd (upd (upd (upd (upd (upd F 2 (nI sz)) 5 (nI cs2)) 6 (nI rg2)) 7 hd2) 8 dp2) 12 vr2) 13 as2) 14 wt2) 15 wf2) 16 ls2) (updR (updR (updR R 2 (.ref pq)) 3 (mv2)) 4 (lv2)) Z B2 J K2 w := hO.to rfl
        refine W.widen (k := c2) (n := (6 * c2)) (by show c2 + 0 ≤ c2; omega) (by show (6 * c2) + 0 ≤ (6 * c2); omega) ?_
        refine W.eq (g2 := F0 m 33 ls [.ref d9]) rfl ?_
        obtain ⟨lm, hflm, htlm, hrlm, holm⟩ := (hwp.2.2.1 d9 hdT).2.1
        obtain ⟨nlm, itlm, cplm, hlclm, hnblm, hcblm⟩ := hwp.2.1 lm htlm
        rw [hrlm] at hlclm hnblm
        have hnblm : nlm ≤ 30 := hnblm
        have hlclm : LsC G K lm 3 nlm itlm cplm := hlclm
        have hfw : fw K (bl K g) dr k2 = sumN (fun i => bl K g (itlm i)) nlm := (fw_of he0 hflm).trans (lw_of hlclm)
        have hmk : sumN (fw K (bl K g) dr) (k2 + 1) ≤ sumN (fw K (bl K g) dr) nd := sumN_mono (by omega)
        have hmq : sumN (fw K (bl K g) dr) (k2 + 1) = sumN (fw K (bl K g) dr) k2 + fw K (bl K g) dr k2 := rfl
        have hfw2 : fw K (bl2 K g) dr k2 = sumN (fun i => bl2 K g (itlm i)) nlm := (fw_of he0 hflm).trans (lw_of hlclm)
        have hmk2 : sumN (fw K (bl2 K g) dr) (k2 + 1) ≤ sumN (fw K (bl2 K g) dr) nd := sumN_mono (by omega)
        have hmq2 : sumN (fw K (bl2 K g) dr) (k2 + 1) = sumN (fw K (bl2 K g) dr) k2 + fw K (bl2 K g) dr k2 := rfl
        have hf31 : K2.1 lm = 5 := BdX.T hbx2 htlm (by decide)
        have hf32 : K2.2.2.1 9 d9 = some lm := (BdX.C hbx2 (by rw [hdT]; decide) 9).trans hflm
        refine lv_astore_n (lv' := [(3, .ref d9), (2, .int (nI k2)), (1, .ref pq), (0, .ref (a 4))]) hx hb dX0_judge_33 rfl hl (by decide) rfl (fun ls hl => ?_)
        refine lv_iconst (v := 0) hx hb dX0_judge_34 (by decide) ?_
        refine lv_istore (lv' := [(4, .int 0), (3, .ref d9), (2, .int (nI k2)), (1, .ref pq), (0, .ref (a 4))]) hx hb dX0_judge_35 hl (by decide) rfl (fun ls hl => ?_)
        have loop_i : ∀ (n_i : Nat) (i3 : Nat) (K3 : PK) (B3 : Nat → Nat → Int32) (cs3 : Nat) (rg3 : Nat) (as3 : Int32) (wt3 : Int32) (wf3 : Int32) (vr3 : Int32) (hd3 : Int32) (dp3 : Int32) (ls3 : Int32) (mv3 : Value) (lv3 : Value) (c3 : Nat) (gr3 : Nat) (Q3 : RX) (H : Heap) (locs : List Loc) (ls : Array Slot) (w : va_W), i3 ≤ nlm → nlm + 1 ≤ i3 + n_i → (BdX K K3) → (MtB K3) → (Bth B B3) → (Nng (B3 18)) → (BeF K K3) → (BtR B B3) → (rg3 ≤ 625 ∧ rg3 ≤ gr3 ∧ (rg3 = 625 ∨ rg3 = gr3)) → (RgQx B3 Q3 gr3 nd) → (JdO pb G K K3 B3 Q3 cs3 rg3 dr nm it k2 i3 none) → (c3 ≤ sumN (fw K (bl K g) dr) k2 + sumN (fun i => bl K g (itlm i)) i3) → (cs3 ≤ 2 * (sumN (fw K (bl2 K g) dr) k2 + sumN (fun i => bl2 K g (itlm i)) i3)) → va_P G.1 pCl w H → va_D A w → va_S A s.heap H locs → OKP G h0 a (upd (upd (upd (upd (upd (upd (upd (upd (upd (upd F 2 (nI sz)) 5 (nI cs3)) 6 (nI rg3)) 7 hd3) 8 dp3) 12 vr3) 13 as3) 14 wt3) 15 wf3) 16 ls3) (updR (updR (updR R 2 (.ref pq)) 3 (mv3)) 4 (lv3)) Z B3 J K3 w → lv_has ls 5 [(4, .int (nI i3)), (3, .ref d9), (2, .int (nI k2)), (1, .ref pq), (0, .ref (a 4))] → W p l e (headSpec (Cond.code yX0_judge cX0_judge 5 none :: pw) ({ frames := (1210), cells := (s9 + 1), slots := (6 * s9 + 6), locals := (47500) } : Room)).room s m ([.ref (a 4), .ref pq] : List Value).toArray below meth c H locs c3 (6 * c3) (vx_MQ below (pQn G A (fun (v : Option Value) (u : va_W × (PK × (Nat → Nat → Int32) × Nat × Nat × Nat × RX × Int32 × Int32 × Int32 × Int32 × Int32 × Int32 × Int32 × Value × Value)) => v = none ∧ (BdX K u.2.1) ∧ (MtB u.2.1) ∧ (Bth B u.2.2.1) ∧ (BeF K u.2.1) ∧ (BtR B u.2.2.1) ∧ (u.2.2.2.1 ≤ 10000) ∧ (u.2.2.2.2.1 ≤ 625 ∧ u.2.2.2.2.1 ≤ u.2.2.2.2.2.1) ∧ (RgQx u.2.2.1 u.2.2.2.2.2.2.1 u.2.2.2.2.2.1 nd) ∧ (∀ j : Nat, j < nm → JdM pb u.2.1 u.2.2.1 u.2.2.2.2.2.2.1 u.2.2.2.1 u.2.2.2.2.1 j (it j)) ∧ (OKP G h0 a (upd (upd (upd (upd (upd (upd (upd (upd (upd (upd F 2 (nI sz)) 5 (nI u.2.2.2.1)) 6 (nI u.2.2.2.2.1)) 7 u.2.2.2.2.2.2.2.2.2.2.2.1) 8 u.2.2.2.2.2.2.2.2.2.2.2.2.1) 12 u.2.2.2.2.2.2.2.2.2.2.1) 13 u.2.2.2.2.2.2.2.1) 14 u.2.2.2.2.2.2.2.2.1) 15 u.2.2.2.2.2.2.2.2.2.1) 16 u.2.2.2.2.2.2.2.2.2.2.2.2.2.1) (updR (updR (updR R 2 (.ref pq)) 3 (u.2.2.2.2.2.2.2.2.2.2.2.2.2.2.1)) 4 (u.2.2.2.2.2.2.2.2.2.2.2.2.2.2.2)) Z u.2.2.1 J u.2.1 u.1)) (fun u => u.1) (fun (u : va_W × (PK × (Nat → Nat → Int32) × Nat × Nat × Nat × RX × Int32 × Int32 × Int32 × Int32 × Int32 × Int32 × Int32 × Value × Value)) => s9) (fun (u : va_W × (PK × (Nat → Nat → Int32) × Nat × Nat × Nat × RX × Int32 × Int32 × Int32 × Int32 × Int32 × Int32 × Int32 × Value × Value)) => (6 * s9))) (pXX G A (fun (u : va_W × (Nat → Int32) × (Nat → Value) × (Nat → Nat → Int32)) => ThQ G h0 a (upd F 2 (nI sz)) R Z B J u) (fun u => u.1)) ([.ref (a 4), .ref pq] : List Value).toArray s ({ frames := (1210), cells := (s9 + 1), slots := (6 * s9 + 6), locals := (47500) } : Room).cells ({ frames := (1210), cells := (s9 + 1), slots := (6 * s9 + 6), locals := (47500) } : Room).slots A) (F0 m 37 ls []) := by
          intro n_i
          induction n_i with
          | zero => intro i3 K3 B3 cs3 rg3 as3 wt3 wf3 vr3 hd3 dp3 ls3 mv3 lv3 c3 gr3 Q3 H locs ls w hk_i hn_i; omega
          | succ n_i ih_i =>
            intro i3 K3 B3 cs3 rg3 as3 wt3 wf3 vr3 hd3 dp3 ls3 mv3 lv3 c3 gr3 Q3 H locs ls w hk_i hn_i hbx3 hmt3 hbb3 hng3 hbf3 hbt3 hgr3 hrq3 hjd3 hc3 hcs3 hP hD hS hO hl
            have hf33 : K3.1 pq = 7 := (BdX.T hbx3 hp1 (by decide))
            have hf34 : K3.2.2.1 18 pq = some (a 1) := (BdX.C hbx3 (by rw [hp1]; decide) 18).trans hp2
            have hf35 : K3.2.2.1 14 pq = some dr := (BdX.C hbx3 (by rw [hp1]; decide) 14).trans hp3
            have hf36 : K3.1 dr = 8 := (BdX.T hbx3 hp4 (by decide))
            have hf37 : K3.2.2.1 15 pq = some ml := (BdX.C hbx3 (by rw [hp1]; decide) 15).trans hp5
            have hf38 : K3.1 ml = 5 := (BdX.T hbx3 hp6 (by decide))
            have hf39 : K3.2.1 24 pq = (nI nd) := (BdX.I hbx3 (by rw [hp1]; decide) (by decide)).trans hp8
            have hf40 : K3.1 d9 = 4 := (BdX.T hbx3 hdT (by decide))
            have hf41 : K3.1 lm = 5 := (BdX.T hbx3 htlm (by decide))
            have hf42 : K3.2.2.1 9 d9 = some lm := (BdX.C hbx3 (by rw [hdT]; decide) 9).trans hflm
            have hmi3 : sumN (fun i => bl K g (itlm i)) i3 ≤ sumN (fun i => bl K g (itlm i)) nlm := sumN_mono (by omega)
            have hmi5 : sumN (fun i => bl2 K g (itlm i)) i3 ≤ sumN (fun i => bl2 K g (itlm i)) nlm := sumN_mono (by omega)
            refine lv_aload_n hx hb dX0_judge_37 rfl (lv_at hl 1 rfl) ?_
            refine lv_ifnull hx hb dX0_judge_38 ?_
            refine lv_iload hx hb dX0_judge_41 (lv_at hl 0 rfl) ?_
            refine lv_aload_n hx hb dX0_judge_43 rfl (lv_at hl 1 rfl) ?_
            refine p_get (v := .ref lm) (C := RX2) (Tc := TX2) (N := 13) (ci := 2) hx hb hq pin_wsX20 hown hE hP hO (by rw [hf40]; decide) (rep_4 hf40) rfl 8 (by decide) (hq _ pw_365) (fun _ h9 => h9) (congrArg (fun z => some (va_rf z)) hf42) dX0_judge_44 ?_
            have hO : OKP G h0 a (upd (upd (upd (upd (upd (upd (upd (upd (upd (upd F 2 (nI sz)) 5 (nI cs3)) 6 (nI rg3)) 7 hd3) 8 dp3) 12 vr3) 13 as3) 14 wt3) 15 wf3) 16 ls3) (updR (updR (updR R 2 (.ref pq)) 3 (mv3)) 4 (lv3)) Z B3 J K3 w := hO.to rfl
            obtain ⟨qr46, hqr47⟩ := p_recv hO (by rw [hf41]; decide) (rep_5 hf41)
            refine pc_V0 (G := G) (As := []) (rest := [.int (nI i3)]) hx hb hml hown hq hE hX pX0_al hP hD hS hA hl.1 (L_size l G h0 a (upd (upd (upd (upd (upd (upd (upd (upd (upd (upd F 2 (nI sz)) 5 (nI cs3)) 6 (nI rg3)) 7 hd3) 8 dp3) 12 vr3) 13 as3) 14 wt3) 15 wf3) 16 ls3) (updR (updR (updR R 2 (.ref pq)) 3 (mv3)) 4 (lv3)) Z B3 J K3 w lm 3 nlm itlm (BdX.ls hbx3 (by decide) hlclm).ls hO) (gV pw_86 pw_87 pw_88 pw_32 pw_16) hV_Jx4a65c_size_8abf5 qr46 10 hqr47 rfl rfl rfl (Nat.le_of_ble_eq_true rfl) dX0_judge_47 ⟨(by show c3 + 0 ≤ (s9 + 1); omega), (by show (6 * c3) + 0 ≤ (6 * s9 + 6); omega)⟩ ⟨(by show 2 + 1 ≤ (1210); omega), (by show 8 + (1 + 11) + 60 ≤ (47500); omega)⟩ (fun v45 u43 H locs hw44 hP hD hS => ?_)
            obtain ⟨w, _⟩ := u43
            obtain ⟨hw44, hO⟩ := hw44
            obtain rfl : v45 = some (.int (nI nlm)) := hw44
            have hO : OKP G h0 a (upd (upd (upd (upd (upd (upd (upd (upd (upd (upd F 2 (nI sz)) 5 (nI cs3)) 6 (nI rg3)) 7 hd3) 8 dp3) 12 vr3) 13 as3) 14 wt3) 15 wf3) 16 ls3) (updR (updR (updR R 2 (.ref pq)) 3 (mv3)) 4 (lv3)) Z B3 J K3 w := hO.to rfl
            refine W.widen (k := c3) (n := (6 * c3)) (by show c3 + 0 ≤ c3; omega) (by show (6 * c3) + 0 ≤ (6 * c3); omega) ?_
            refine W.eq (g2 := F0 m 50 ls [.int (nI nlm), .int (nI i3)]) rfl ?_
            refine lv_icmp_ge (tgt := 100) hx hb dX0_judge_50 (by decide) (fun c48 => ?_) (fun c48 => ?_)
            · have n49 : nlm ≤ i3 := (nI_leI (a := nlm) (b := i3) (by omega) (by omega)).mp c48
              refine lv_iinc (v := (nI (k2 + 1))) (lv' := [(2, .int (nI (k2 + 1))), (4, .int (nI i3)), (3, .ref d9), (1, .ref pq), (0, .ref (a 4))]) hx hb dX0_judge_100 hl (k := 2) rfl (nI_1 k2) (by decide) rfl (fun ls hl => ?_)
              refine lv_goto (tgt := 14) hx hb dX0_judge_103 (by decide) ?_
              have hie9 : i3 = nlm := by omega
              have hjn9 := JdO.next (by rw [hie9] at hjd3; exact hjd3) he0 hflm hlclm
              refine W.widen (k := c3) (n := (6 * c3)) (by show c3 ≤ _; omega) (by show (6 * c3) ≤ _; omega) ?_
              have hO : OKP G h0 a (upd (upd (upd (upd (upd (upd (upd (upd (upd (upd F 2 (nI sz)) 5 (nI cs3)) 6 (nI rg3)) 7 hd3) 8 dp3) 12 vr3) 13 as3) 14 wt3) 15 wf3) 16 ls3) (updR (updR (updR R 2 (.ref pq)) 3 (mv3)) 4 (lv3)) Z B3 J K3 w := hO.to rfl
              exact ih_k (k2 + 1) K3 B3 cs3 rg3 as3 wt3 wf3 vr3 hd3 dp3 ls3 mv3 lv3 c3 gr3 Q3 _ _ _ _ (by omega) (by omega) hbx3 hmt3 ((show Thx (upd F 2 (nI sz)) (upd (upd (upd (upd (upd (upd (upd (upd (upd (upd F 2 (nI sz)) 5 (nI cs3)) 6 (nI rg3)) 7 hd3) 8 dp3) 12 vr3) 13 as3) 14 wt3) 15 wf3) 16 ls3) B B3 from (Thx.f (Thx.f (Thx.f (Thx.f (Thx.f (Thx.f (Thx.f (Thx.f (Thx.f (Bth.thx hbb3) (by omega)) (by omega)) (by omega)) (by omega)) (by omega)) (by omega)) (by omega)) (by omega)) (by omega))).2) hng3 hbf3 hbt3 (by omega) hrq3 hjn9 (by omega) (by omega) hP hD hS hO (lv_sub hl [0, 3, 4] rfl)
            · have n50 : ¬ (nlm ≤ i3) := fun h9 => c48 ((nI_leI (a := nlm) (b := i3) (by omega) (by omega)).mpr h9)
              refine lv_aload_n hx hb dX0_judge_53 rfl (lv_at hl 4 rfl) ?_
              refine lv_aload_n hx hb dX0_judge_54 rfl (lv_at hl 1 rfl) ?_
              refine p_get (v := .ref lm) (C := RX2) (Tc := TX2) (N := 13) (ci := 2) hx hb hq pin_wsX20 hown hE hP hO (by rw [hf40]; decide) (rep_4 hf40) rfl 8 (by decide) (hq _ pw_365) (fun _ h9 => h9) (congrArg (fun z => some (va_rf z)) hf42) dX0_judge_55 ?_
              refine lv_iload hx hb dX0_judge_58 (lv_at hl 0 rfl) ?_
              have hO : OKP G h0 a (upd (upd (upd (upd (upd (upd (upd (upd (upd (upd F 2 (nI sz)) 5 (nI cs3)) 6 (nI rg3)) 7 hd3) 8 dp3) 12 vr3) 13 as3) 14 wt3) 15 wf3) 16 ls3) (updR (updR (updR R 2 (.ref pq)) 3 (mv3)) 4 (lv3)) Z B3 J K3 w := hO.to rfl
              obtain ⟨qr54, hqr55⟩ := p_recv hO (by rw [hf41]; decide) (rep_5 hf41)
              refine pc_V0 (G := G) (As := [.int (nI i3)]) (rest := [.ref (a 4)]) hx hb hml hown hq hE hX pX0_al hP hD hS hA hl.1 (L_get l G h0 a (upd (upd (upd (upd (upd (upd (upd (upd (upd (upd F 2 (nI sz)) 5 (nI cs3)) 6 (nI rg3)) 7 hd3) 8 dp3) 12 vr3) 13 as3) 14 wt3) 15 wf3) 16 ls3) (updR (updR (updR R 2 (.ref pq)) 3 (mv3)) 4 (lv3)) Z B3 J K3 w lm 3 nlm itlm i3 (BdX.ls hbx3 (by decide) hlclm).ls (by omega) hO) (gV pw_89 pw_90 pw_91 pw_32 pw_25) hV_Jx4a65c_get_915e3 qr54 10 hqr55 rfl rfl rfl (Nat.le_of_ble_eq_true rfl) dX0_judge_60 ⟨(by show c3 + 0 ≤ (s9 + 1); omega), (by show (6 * c3) + 0 ≤ (6 * s9 + 6); omega)⟩ ⟨(by show 4 + 1 ≤ (1210); omega), (by show 8 + (2 + 11) + 103 ≤ (47500); omega)⟩ (fun v53 u51 H locs hw52 hP hD hS => ?_)
              obtain ⟨w, _⟩ := u51
              obtain ⟨hw52, hO⟩ := hw52
              obtain rfl : v53 = some (.ref (itlm i3)) := hw52
              have hO : OKP G h0 a (upd (upd (upd (upd (upd (upd (upd (upd (upd (upd F 2 (nI sz)) 5 (nI cs3)) 6 (nI rg3)) 7 hd3) 8 dp3) 12 vr3) 13 as3) 14 wt3) 15 wf3) 16 ls3) (updR (updR (updR R 2 (.ref pq)) 3 (mv3)) 4 (lv3)) Z B3 J K3 w := hO.to rfl
              refine W.widen (k := c3) (n := (6 * c3)) (by show c3 + 0 ≤ c3; omega) (by show (6 * c3) + 0 ≤ (6 * c3); omega) ?_
              refine W.eq (g2 := F0 m 63 ls [.ref (itlm i3), .ref (a 4)]) rfl ?_
              have hf56 : K3.1 (itlm i3) = 3 := (BdX.ls hbx3 (by decide) hlclm).T (by omega)
              obtain ⟨mm, hmm⟩ : ∃ z : Nat, itlm i3 = z := ⟨_, rfl⟩
              have hmi : K.1 (itlm i3) = 3 := hlclm.itm (by omega)
              have hsi : sumN (fun i => bl K g (itlm i)) (i3 + 1) = sumN (fun i => bl K g (itlm i)) i3 + bl K g (itlm i3) := rfl
              have hmi4 : sumN (fun i => bl K g (itlm i)) (i3 + 1) ≤ sumN (fun i => bl K g (itlm i)) nlm := sumN_mono (by omega)
              have hsi2 : sumN (fun i => bl2 K g (itlm i)) (i3 + 1) = sumN (fun i => bl2 K g (itlm i)) i3 + bl2 K g (itlm i3) := rfl
              have hmi42 : sumN (fun i => bl2 K g (itlm i)) (i3 + 1) ≤ sumN (fun i => bl2 K g (itlm i)) nlm := sumN_mono (by omega)
              obtain ⟨hoc, lpp, np9, cpp, rt, itp, hlp6, hlpc, hnp8, hrt, hrv, hbody⟩ := hmx k2 i3 (itlm i3) (by omega) ⟨d9, lm, nlm, cplm, itlm, he0, hflm, hlclm, by omega, rfl⟩
              have hrl := hrv.lt hn37
              refine p_cast (C := RX6) (Tc := TX6) (N := 12) (ci := 12) hx hb hown (hq _ pw_366) hE hP hO (by rw [hf56]; decide) (rep_3 hf56) rfl dX0_judge_63 ?_
              have hO : OKP G h0 a (upd (upd (upd (upd (upd (upd (upd (upd (upd (upd (upd (upd (upd F 2 (nI sz)) 5 (nI cs3)) 6 (nI rg3)) 7 hd3) 8 dp3) 12 vr3) 13 as3) 14 wt3) 15 wf3) 16 ls3) 2 (nI sz)) 5 (nI cs3)) 6 (nI rg3)) (updR (updR (updR R 2 (.ref pq)) 3 (mv3)) 4 (lv3)) Z B3 J K3 w := hO.to rfl
              obtain ⟨_, qr60, hqr61⟩ := hO.2.1 24 _ (sg_24 G h0 a _ _ _ _ _)
              refine pn_V0 (G := G) (As := [.ref (itlm i3)]) (rest := []) hx hb hml hown hq hE hX pX0_al hP hD hS hA hl.1 (Y_beginMethod l G h0 a (upd (upd (upd (upd (upd (upd (upd (upd (upd (upd F 2 (nI sz)) 5 (nI cs3)) 6 (nI rg3)) 7 hd3) 8 dp3) 12 vr3) 13 as3) 14 wt3) 15 wf3) 16 ls3) (updR (updR (updR R 2 (.ref pq)) 3 (mv3)) 4 (lv3)) Z B3 J K3 w (itlm i3) cs3 rg3 sz nd k2 lpp np9 cpp itp g (by omega) (by omega) (by omega) (BdX.wp hbx3 hmt3 hwp) hf56 hng3 ((BdX.C hbx3 (by rw [hmi]; decide) 6).trans hlp6) (BdX.ls hbx3 (by decide) hlpc) hnp8 (by rw [hbt3 11 (by decide)]; exact hna.1.2.1) hn37 (by omega) hO hl0) (gV pw_370 pw_371 pw_372 pw_63 pw_98) hV_X0_beginMethod qr60 0 hqr61 rfl rfl rfl (Nat.le_of_ble_eq_true rfl) dX0_judge_66 ⟨(by show c3 + 1 ≤ (s9 + 1); omega), (by show (6 * c3) + 6 ≤ (6 * s9 + 6); omega)⟩ ⟨(by show 8 + 1 ≤ (1210); omega), (by show 8 + (5 + 11) + 145 ≤ (47500); omega)⟩ (fun v59 u57 H locs hw58 hP hD hS => ?_) (fun ux ce9 q9 H9 locs9 hux hP9 hD9 hS9 hce hcv hcl => pb_out ux (ThQ.up (Thx.same (Thx.same (Thx.same (Thx.f (Thx.f (Thx.f (Thx.f (Thx.f (Thx.f (Thx.f (Thx.f (Thx.f (Bth.thx hbb3) (by omega)) (by omega)) (by omega)) (by omega)) (by omega)) (by omega)) (by omega)) (by omega)) (by omega)) rfl) rfl) rfl) (show RhX R (updR (updR (updR R 2 (.ref pq)) 3 (mv3)) 4 (lv3)) from fun k9 hk9 => by unfold updR; simp only [show ¬ k9 = 1 by omega, show ¬ k9 = 2 by omega, show ¬ k9 = 3 by omega, show ¬ k9 = 4 by omega, if_false]) hux) hnt hlocks hce hcv hcl hP9 hD9 hS9 (by show c3 + 1 ≤ (s9 + 1); omega) (by show (6 * c3) + 6 ≤ (6 * s9 + 6); omega))
              obtain ⟨w, K62, B63, vr64, dp65, as66, sl67⟩ := u57
              obtain ⟨hw58, h68, h69, h70, h71, h72, h73, h74, h75, h76, hO⟩ := hw58
              have h68 : BdX K3 K62 := h68
              have h69 : MtB K62 := h69
              have h70 : Bth B3 B63 := h70
              have h71 : K62 = kI (kI K3 11 (itlm i3) (nI cs3)) 13 (itlm i3) (nI rg3) := h71
              have h72 : BvR B3 B63 := h72
              have h73 : vr64 = np9 ∧ dp65 = vr64 + 1 := h73
              have h74 : EnV (B63 26) (B63 27) nd vr64 (vr64 + 1) k2 sl67 := h74
              have h75 : PaS K3 ((B3 11)) sz k2 vr64 itp sl67 := h75
              have h76 : AsO as66 ∧ ¬ as66 = -1 := h76
              obtain rfl : v59 = none := hw58
              have hf77 : K62.1 pq = 7 := (BdX.T h68 hf33 (by decide))
              have hf78 : K62.2.2.1 18 pq = some (a 1) := (BdX.C h68 (by rw [hf33]; decide) 18).trans hf34
              have hf79 : K62.2.2.1 14 pq = some dr := (BdX.C h68 (by rw [hf33]; decide) 14).trans hf35
              have hf80 : K62.1 dr = 8 := (BdX.T h68 hf36 (by decide))
              have hf81 : K62.2.2.1 15 pq = some ml := (BdX.C h68 (by rw [hf33]; decide) 15).trans hf37
              have hf82 : K62.1 ml = 5 := (BdX.T h68 hf38 (by decide))
              have hf83 : K62.2.1 24 pq = (nI nd) := (BdX.I h68 (by rw [hf33]; decide) (by decide)).trans hf39
              have hf84 : K62.1 d9 = 4 := (BdX.T h68 hf40 (by decide))
              have hf85 : K62.1 lm = 5 := (BdX.T h68 hf41 (by decide))
              have hf86 : K62.2.2.1 9 d9 = some lm := (BdX.C h68 (by rw [hf40]; decide) 9).trans hf42
              have hf87 : K62.1 (itlm i3) = 3 := (BdX.T h68 hf56 (by decide))
              have hO : OKP G h0 a (upd (upd (upd (upd (upd (upd (upd (upd (upd (upd F 2 (nI sz)) 5 (nI cs3)) 6 (nI rg3)) 7 (nI (vr64 + 1))) 8 (nI dp65)) 12 (nI vr64)) 13 as66) 14 wt3) 15 wf3) 16 0) (updR (updR (updR R 2 (.ref pq)) 3 (.ref (itlm i3))) 4 (.null)) Z B63 J K62 w := hO.to rfl
              refine W.widen (k := c3) (n := (6 * c3)) (by show c3 + 0 ≤ c3; omega) (by show (6 * c3) + 0 ≤ (6 * c3); omega) ?_
              refine W.eq (g2 := F0 m 69 ls []) rfl ?_
              have hbx88 := BdX.trans hbx3 h68
              have hbb89 : Bth B B63 := Bth.trans (show Thx (upd F 2 (nI sz)) (upd (upd (upd (upd (upd (upd (upd (upd (upd (upd F 2 (nI sz)) 5 (nI cs3)) 6 (nI rg3)) 7 hd3) 8 dp3) 12 vr3) 13 as3) 14 wt3) 15 wf3) 16 ls3) B B3 from (Thx.f (Thx.f (Thx.f (Thx.f (Thx.f (Thx.f (Thx.f (Thx.f (Thx.f (Bth.thx hbb3) (by omega)) (by omega)) (by omega)) (by omega)) (by omega)) (by omega)) (by omega)) (by omega)) (by omega))).2 h70
              have hmt90 := h69
              have hng91 : Nng (B63 18) := h70.2 hng3
              have hbf92 : BeF K K62 := fun p9 hp9 h36 => (by rw [h71, kI_of (by decide), kI_of (by decide)]; exact hbf3 p9 hp9 h36)
              have hbt93 : BtR B B63 := BtR.trans hbt3 (BvR.bt h72)
              have hjd94 : JdO pb G K K62 B63 Q3 cs3 rg3 dr nm it k2 i3 (some (itlm i3)) := JdO.same (JdO.but hjd3) (fun x9 hx9 => ⟨congrFun (h72 16 (by decide)) x9, congrFun (h72 17 (by decide)) x9, congrFun (h72 18 (by decide)) x9, congrFun (h72 19 (by decide)) x9⟩) (RqS.rfl (g := gr3)) (by omega) (fun p9 f9 hp9 hn9 _ _ => jd_ne h71 (fun e9 => hn9 (by rw [e9]))) (Nat.le_refl _) (Nat.le_refl _)
              have hrq95 : RgQx B63 Q3 gr3 nd := RgQx.ber hrq3 (h72 20 (by decide)) (h72 21 (by decide)) (h72 22 (by decide)) (h72 23 (by decide)) (h72 24 (by decide))
              obtain ⟨ob, hob96⟩ : ∃ z : Option Nat, K62.2.2.1 7 (itlm i3) = z := ⟨_, rfl⟩
              refine W.eq (g2 := F0 m 69 ls []) rfl ?_
              refine lv_aload_n hx hb dX0_judge_69 rfl (lv_at hl 4 rfl) ?_
              refine c_get (v := .ref (itlm i3)) (C := RX0) (Tc := TX0) (N := 13) (ci := 0) hx hb hq pin_wsX00 hown hE hP hO 24 (sg_24 G h0 a _ _ _ _ _) rfl 7 (by decide) (hq _ pw_72) (fun _ h9 => h9) rfl dX0_judge_70 ?_
              rcases ho98 : K62.2.2.1 7 (itlm i3) with _ | o97
              · skip
                refine p_get (v := .null) (C := RX6) (Tc := TX6) (N := 12) (ci := 12) hx hb hq pin_wsX60 hown hE hP hO (by rw [hf87]; decide) (rep_3 hf87) rfl 5 (by decide) (hq _ pw_359) (fun _ h9 => h9) (congrArg (fun z => some (va_rf z)) ho98) dX0_judge_73 ?_
                refine lv_ifnullN (tgt := 94) hx hb dX0_judge_76 (by decide) ?_
                refine lv_iinc (v := (nI (i3 + 1))) (lv' := [(4, .int (nI (i3 + 1))), (3, .ref d9), (2, .int (nI k2)), (1, .ref pq), (0, .ref (a 4))]) hx hb dX0_judge_94 hl (k := 0) rfl (nI_1 i3) (by decide) rfl (fun ls hl => ?_)
                refine lv_goto (tgt := 37) hx hb dX0_judge_97 (by decide) ?_
                have hjn8 : JdO pb G K K62 B63 Q3 cs3 rg3 dr nm it k2 (i3 + 1) none := JdO.add hjd94 (fun j8 hj8 e8 => by obtain ⟨b8, hb8⟩ := (hnu j8 hj8).2.2.1; rw [e8] at hb8; exact absurd ((((BdX.C hbx88 (by rw [hmi]; decide) 7).symm).trans ho98).symm.trans hb8) (by intro z9; cases z9)) he0 hflm hlclm (by omega) rfl
                refine W.widen (k := c3) (n := (6 * c3)) (by show c3 ≤ _; omega) (by show (6 * c3) ≤ _; omega) ?_
                have hO : OKP G h0 a (upd (upd (upd (upd (upd (upd (upd (upd (upd (upd F 2 (nI sz)) 5 (nI cs3)) 6 (nI rg3)) 7 (nI (vr64 + 1))) 8 (nI dp65)) 12 (nI vr64)) 13 as66) 14 wt3) 15 wf3) 16 (0 : Int32)) (updR (updR (updR R 2 (.ref pq)) 3 ((Value.ref (itlm i3)))) 4 (Value.null)) Z B63 J K62 w := hO.to rfl
                exact ih_i (i3 + 1) K62 B63 cs3 rg3 as66 wt3 wf3 (nI vr64) (nI (vr64 + 1)) (nI dp65) (0 : Int32) (Value.ref (itlm i3)) Value.null c3 gr3 Q3 _ _ _ _ (by omega) (by omega) hbx88 hmt90 ((show Thx (upd F 2 (nI sz)) (upd (upd (upd (upd (upd (upd (upd (upd (upd (upd F 2 (nI sz)) 5 (nI cs3)) 6 (nI rg3)) 7 (nI (vr64 + 1))) 8 (nI dp65)) 12 (nI vr64)) 13 as66) 14 wt3) 15 wf3) 16 0) B B63 from (Thx.f (Thx.f (Thx.f (Thx.f (Thx.f (Thx.f (Thx.f (Thx.f (Thx.f (Bth.thx hbb89) (by omega)) (by omega)) (by omega)) (by omega)) (by omega)) (by omega)) (by omega)) (by omega)) (by omega))).2) hng91 hbf92 hbt93 (by omega) hrq95 hjn8 (by omega) (by omega) hP hD hS hO (lv_sub hl [0, 1, 2, 3, 4] rfl)
              · skip
                refine p_get (v := .ref o97) (C := RX6) (Tc := TX6) (N := 12) (ci := 12) hx hb hq pin_wsX60 hown hE hP hO (by rw [hf87]; decide) (rep_3 hf87) rfl 5 (by decide) (hq _ pw_359) (fun _ h9 => h9) (congrArg (fun z => some (va_rf z)) ho98) dX0_judge_73 ?_
                refine lv_ifnull hx hb dX0_judge_76 ?_
                refine lv_aload_n hx hb dX0_judge_79 rfl (lv_at hl 4 rfl) ?_
                refine lv_aload_n hx hb dX0_judge_80 rfl (lv_at hl 4 rfl) ?_
                refine c_get (v := .ref (itlm i3)) (C := RX0) (Tc := TX0) (N := 13) (ci := 0) hx hb hq pin_wsX00 hown hE hP hO 24 (sg_24 G h0 a _ _ _ _ _) rfl 7 (by decide) (hq _ pw_72) (fun _ h9 => h9) rfl dX0_judge_81 ?_
                refine p_get (v := .ref o97) (C := RX6) (Tc := TX6) (N := 12) (ci := 12) hx hb hq pin_wsX60 hown hE hP hO (by rw [hf87]; decide) (rep_3 hf87) rfl 5 (by decide) (hq _ pw_359) (fun _ h9 => h9) (congrArg (fun z => some (va_rf z)) ho98) dX0_judge_84 ?_
                have hmo := ((BdX.wp hbx88 hmt90 hwp).2.2.2 (itlm i3) hf87).2.2.1 o97 ho98
                have hbT := hmo.1
                have h70 : K.2.2.1 7 (itlm i3) = some o97 := ((BdX.C hbx88 (by rw [hmi]; decide) 7).symm).trans ho98
                have hbl : bl K g (itlm i3) = rE (g 2 o97) - rS (g 2 o97) - 2 + 4 := bl_of h70
                have hbl2 : bl2 K g (itlm i3) = rE (g 2 o97) - rS (g 2 o97) - 1 := bl2_of h70
                have htb2 : tlE g o97 = rE (g 2 o97) - rS (g 2 o97) := rfl
                obtain ⟨hb40, hb22, j9, hj9, hij, hx1, hx2, hx3, hx4⟩ := hbody o97 h70
                have hpaK : PaS K (B 11) sz k2 vr64 itp sl67 := ⟨h75.1, fun i9 hi9 => by have z9 := h75.2 i9 hi9; rw [hbt3 11 (by decide), BdX.I (q := itp i9) (f := 2) hbx3 (by rw [LsC.T hlpc (show i9 < np9 by omega)]; decide) (by decide)] at z9; exact z9⟩
                have henA := EnA.of (A := (fun _ => ((0 : Nat), (0 : Nat), (fun _ : Nat => (0 : Nat)), ([] : List Nat)))) (cs := cs3) (as0 := as66) hpaK (by rw [h73.1]; exact hx2) hn37 (show k2 < nd by omega) hna.1.2.1 (by omega) h76.2
                have hwf9 : WfA (1, vr64 + 1, sl67, []) := fun s9 hs9 h9 => by have z9 := henA.2.2.2.2.2 s9 (by first | exact hs9 | omega); rw [upS_eq] at z9; have z8 : sl67 s9 < 900 := z9; have z7 : 1000 ≤ sl67 s9 := h9; omega
                have hO : OKP G h0 a (upd (upd (upd (upd (upd (upd (upd (upd (upd (upd (upd (upd (upd (upd (upd (upd (upd (upd F 2 (nI sz)) 5 (nI cs3)) 6 (nI rg3)) 7 (nI (vr64 + 1))) 8 (nI dp65)) 12 (nI vr64)) 13 as66) 14 wt3) 15 wf3) 16 0) 2 (nI sz)) 5 (nI cs3)) 6 (nI rg3)) 7 (nI (vr64 + 1))) 8 (nI dp65)) 12 (nI vr64)) 13 as66) 16 0) (updR (updR (updR (updR (updR (updR R 2 (.ref pq)) 3 (.ref (itlm i3))) 4 (.null)) 2 (.ref pq)) 3 (.ref (itlm i3))) 4 (va_rf none)) Z B63 J K62 w := hO.to rfl
                obtain ⟨_, qr102, hqr103⟩ := hO.2.1 24 _ (sg_24 G h0 a _ _ _ _ _)
                refine pn_V0 (G := G) (As := [.ref o97]) (rest := []) hx hb hml hown hq hE hX pX0_al hP hD hS hA hl.1 (Y_block l G h0 a (upd (upd (upd (upd (upd (upd (upd (upd (upd (upd F 2 (nI sz)) 5 (nI cs3)) 6 (nI rg3)) 7 (nI (vr64 + 1))) 8 (nI dp65)) 12 (nI vr64)) 13 as66) 14 wt3) 15 wf3) 16 0) (updR (updR (updR R 2 (.ref pq)) 3 (.ref (itlm i3))) 4 (.null)) Z B63 J K62 w pq dr ml nd nm cp it s9 o97 (itlm i3) cs3 vr64 sz 231 (vr64 + 1) dp65 rg3 0 none g rk pb (upS (fun _ => ((0 : Nat), (0 : Nat), (fun _ : Nat => (0 : Nat)), ([] : List Nat))) cs3 (rcA as66, vr64 + 1, sl67, ([] : List Nat))) Q3 (fun _ => False) sl67 j9 cs3 k2 rt gr3 as66 0 sl67 ([] : List Nat) ([] : List Nat) True (by omega) (BdX.wp hbx88 hmt90 hwp) (BdX.pt hbx88 hwp hps) (BdX.rko hbx88 hrk) (by omega) (by omega) hng91 hf87 hbT ⟨hmo.2.1, hmo.2.2.1⟩ ((BdX.I hbx88 (by rw [hmi]; decide) (by decide)).trans hrt) ⟨hrv, hx3⟩ (by omega) (by omega) (by omega) (fun x9 h9 => by cases h9) (EkA.bx hbx88 (hbt93 7 (by decide)) (hbt93 11 (by decide)) hek) (OwC.bx hbx88 hmi hdr0 hoc) (NaB.bx hbx88 hbf92 hwp hps.2.1 hdr0 (hbt93 11 (by decide)) hna) h74 h76.1 (EmS.start hwf9 (by omega)) (by omega) (by omega) (by omega) (SkA.bx hbx88 (hbt93 11 (by decide)) hsk) ⟨fun z9 h9 => h9.elim, fun _ => ⟨rfl, rfl⟩, fun lq9 e9 => by cases e9⟩ hrq95 (fun _ => trivial) (fun lq9 e9 => by cases e9) hmo.2.2.2 (IhZ.all l G _) hO hl0) (gV pw_307 pw_308 pw_309 pw_63 pw_358) hV_X0_block qr102 0 hqr103 rfl rfl rfl (Nat.le_of_ble_eq_true rfl) dX0_judge_87 ⟨(by show c3 + ((rE (g 2 o97) - rS (g 2 o97) - 2) + 1) ≤ (s9 + 1); omega), (by show (6 * c3) + (6 * (rE (g 2 o97) - rS (g 2 o97) - 2) + 6) ≤ (6 * s9 + 6); omega)⟩ ⟨(by show (5 * 231 + 46) + 1 ≤ (1210); omega), (by show 8 + (5 + 11) + (200 * 231 + 1120) ≤ (47500); omega)⟩ (fun v101 u99 H locs hw100 hP hD hS => ?_) (fun ux ce9 q9 H9 locs9 hux hP9 hD9 hS9 hce hcv hcl => pb_out ux (ThQ.up (Thx.same (Thx.same (Thx.same (Thx.same (Thx.same (Thx.same (Thx.same (Thx.same (Thx.f (Thx.f (Thx.f (Thx.f (Thx.f (Thx.f (Thx.f (Thx.f (Thx.f (Bth.thx hbb89) (by omega)) (by omega)) (by omega)) (by omega)) (by omega)) (by omega)) (by omega)) (by omega)) (by omega)) rfl) rfl) rfl) rfl) rfl) rfl) rfl) rfl) (show RhX R (updR (updR (updR (updR (updR (updR R 2 (.ref pq)) 3 (.ref (itlm i3))) 4 (.null)) 2 (.ref pq)) 3 (.ref (itlm i3))) 4 (va_rf none)) from fun k9 hk9 => by unfold updR; simp only [show ¬ k9 = 1 by omega, show ¬ k9 = 2 by omega, show ¬ k9 = 3 by omega, show ¬ k9 = 4 by omega, if_false]) hux) hnt hlocks hce hcv hcl hP9 hD9 hS9 (by show c3 + ((rE (g 2 o97) - rS (g 2 o97) - 2) + 1) ≤ (s9 + 1); omega) (by show (6 * c3) + (6 * (rE (g 2 o97) - rS (g 2 o97) - 2) + 6) ≤ (6 * s9 + 6); omega))
                obtain ⟨w, K104, B105, cs106, as107, wt108, wf109, dp110, Ag111, rg112, gr113, ls114, Q115, pd116, xb117, xc118⟩ := u99
                obtain ⟨hw100, h119, h120, h121, h122, h123, h124, h125, h126, h127, h128, h129, h130, h131, h132, h133, h134, h135, hO⟩ := hw100
                have h119 : SmW B63 B105 cs3 := h119
                have h120 : BdE K62 K104 := h120
                have h121 : BeF K62 K104 := h121
                have h122 : BeL K62 K104 none := h122
                have h123 : Bth B63 B105 := h123
                have h124 : BtR B63 B105 := h124
                have h125 : cs3 ≤ cs106 ∧ cs106 + 4 ≤ cs3 + 2 * tlE g o97 := h125
                have h126 : dp65 ≤ dp110 ∧ dp110 ≤ 71 := h126
                have h127 : AsO as107 := h127
                have h128 : VrS B63 B105 vr64 := h128
                have h129 : gr3 ≤ gr113 ∧ rg112 ≤ 625 ∧ rg112 ≤ gr113 ∧ (rg112 = 625 ∨ rg112 = gr113) := h129
                have h130 : EnV (B105 26) (B105 27) nd vr64 (vr64 + 1) k2 sl67 := h130
                have h131 : StW pb.1 pb.2.1 pb.2.2.1 pb.2.2.2 (upS (fun _ => ((0 : Nat), (0 : Nat), (fun _ : Nat => (0 : Nat)), ([] : List Nat))) cs3 (rcA as66, vr64 + 1, sl67, ([] : List Nat))) Ag111 Q3 Q115 (fun _ => False) pd116 j9 dp110 cs3 cs3 cs106 as66 as107 (vr64 + 1) (vr64 + 1) sl67 sl67 gr3 gr113 (B105 16) (B105 17) (B105 18) (B105 19) [] := h131
                have h132 : LpS K104 (B105 16) (B105 17) Ag111 pd116 none cs3 cs106 (vr64 + 1) sl67 0 sl67 xb117 xc118 := h132
                have h133 : PdS (fun _ => False) pd116 ([] : List Nat) xb117 ([] : List Nat) xc118 [] cs3 cs106 := h133
                have h134 : RgQx B105 Q115 gr113 nd := h134
                have h135 : LpR K104 none True := h135
                obtain rfl : v101 = none := hw100
                have hf136 : K104.1 pq = 7 := (BdE.T h120 hf77 (by decide))
                have hf137 : K104.2.2.1 18 pq = some (a 1) := (BdE.C h120 (by rw [hf77]; decide) 18).trans hf78
                have hf138 : K104.2.2.1 14 pq = some dr := (BdE.C h120 (by rw [hf77]; decide) 14).trans hf79
                have hf139 : K104.1 dr = 8 := (BdE.T h120 hf80 (by decide))
                have hf140 : K104.2.2.1 15 pq = some ml := (BdE.C h120 (by rw [hf77]; decide) 15).trans hf81
                have hf141 : K104.1 ml = 5 := (BdE.T h120 hf82 (by decide))
                have hf142 : K104.2.1 24 pq = (nI nd) := (BdE.I h120 (by rw [hf77]; decide) (by decide) (by decide)).trans hf83
                have hf143 : K104.1 d9 = 4 := (BdE.T h120 hf84 (by decide))
                have hf144 : K104.1 lm = 5 := (BdE.T h120 hf85 (by decide))
                have hf145 : K104.2.2.1 9 d9 = some lm := (BdE.C h120 (by rw [hf84]; decide) 9).trans hf86
                have hf146 : K104.1 (itlm i3) = 3 := (BdE.T h120 hf87 (by decide))
                have hf147 : K104.2.2.1 7 (itlm i3) = some o97 := (BdE.C h120 (by rw [hf87]; decide) 7).trans ho98
                have hf148 : K104.1 o97 = 1 := (BdE.T h120 hbT (by decide))
                have hO : OKP G h0 a (upd (upd (upd (upd (upd (upd (upd (upd (upd (upd F 2 (nI sz)) 5 (nI cs106)) 6 (nI rg112)) 7 (nI (vr64 + 1))) 8 (nI dp110)) 12 (nI vr64)) 13 as107) 14 wt108) 15 wf109) 16 ls114) (updR (updR (updR R 2 (.ref pq)) 3 (.ref (itlm i3))) 4 (.null)) Z B105 J K104 w := hO.to rfl
                refine W.widen (k := (c3 + (rE (g 2 o97) - rS (g 2 o97) - 2))) (n := ((6 * c3) + (6 * (rE (g 2 o97) - rS (g 2 o97) - 2)))) (by show c3 + (rE (g 2 o97) - rS (g 2 o97) - 2) ≤ (c3 + (rE (g 2 o97) - rS (g 2 o97) - 2)); omega) (by show (6 * c3) + (6 * (rE (g 2 o97) - rS (g 2 o97) - 2)) ≤ ((6 * c3) + (6 * (rE (g 2 o97) - rS (g 2 o97) - 2))); omega) ?_
                refine W.eq (g2 := F0 m 90 ls []) rfl ?_
                have hbx149 := BdX.trans hbx88 (BdE.x h120)
                have hbb150 : Bth B B105 := Bth.trans (show Thx (upd F 2 (nI sz)) (upd (upd (upd (upd (upd (upd (upd (upd (upd (upd F 2 (nI sz)) 5 (nI cs3)) 6 (nI rg3)) 7 (nI (vr64 + 1))) 8 (nI dp65)) 12 (nI vr64)) 13 as66) 14 wt3) 15 wf3) 16 0) B B63 from (Thx.f (Thx.f (Thx.f (Thx.f (Thx.f (Thx.f (Thx.f (Thx.f (Thx.f (Bth.thx hbb89) (by omega)) (by omega)) (by omega)) (by omega)) (by omega)) (by omega)) (by omega)) (by omega)) (by omega))).2 h123
                have hmt151 := (BdE.mtb h120 hmt90)
                have hng152 : Nng (B105 18) := h123.2 hng91
                have hbf153 : BeF K K104 := fun p9 hp9 h36 => ((h121 p9 (hbx88.T hp9 (by decide)) ((BdX.I hbx88 (by rw [hp9]; decide) (by decide)).trans h36))).trans (hbf92 p9 hp9 h36)
                have hbt154 : BtR B B105 := BtR.trans hbt93 h124
                have hjd155 : JdO pb G K K104 B105 Q115 cs106 rg112 dr nm it k2 i3 (some (itlm i3)) := JdO.same hjd94 h119 h131.2.2.2.1 (by omega) (fun p9 f9 hp9 _ h11 h14 => BdE.I h120 (by rw [BdX.T hbx88 (hnu p9 hp9).1 (by decide)]; decide) (by omega) (by omega)) (by omega) (by omega)
                refine lv_aload_n hx hb dX0_judge_90 rfl (lv_at hl 4 rfl) ?_
                have hO : OKP G h0 a (upd (upd (upd (upd (upd (upd (upd (upd (upd (upd (upd (upd (upd (upd (upd (upd F 2 (nI sz)) 5 (nI cs106)) 6 (nI rg112)) 7 (nI (vr64 + 1))) 8 (nI dp110)) 12 (nI vr64)) 13 as107) 14 wt108) 15 wf109) 16 ls114) 2 (nI sz)) 5 (nI cs106)) 6 (nI rg112)) 7 (nI (vr64 + 1))) 8 (nI dp110)) 13 as107) (updR (updR (updR (updR R 2 (.ref pq)) 3 (.ref (itlm i3))) 4 (.null)) 3 (.ref (itlm i3))) Z B105 J K104 w := hO.to rfl
                obtain ⟨_, qr159, hqr160⟩ := hO.2.1 24 _ (sg_24 G h0 a _ _ _ _ _)
                refine pn_V0 (G := G) (As := []) (rest := []) hx hb hml hown hq hE hX pX0_al hP hD hS hA hl.1 (Y_endMethod l G h0 a (upd (upd (upd (upd (upd (upd (upd (upd (upd (upd F 2 (nI sz)) 5 (nI cs106)) 6 (nI rg112)) 7 (nI (vr64 + 1))) 8 (nI dp110)) 12 (nI vr64)) 13 as107) 14 wt108) 15 wf109) 16 ls114) (updR (updR (updR R 2 (.ref pq)) 3 (.ref (itlm i3))) 4 (.null)) Z B105 J K104 w (itlm i3) o97 cs106 (vr64 + 1) dp110 rg112 sz rt as107 g (by omega) (by omega) (by omega) (by omega) (BdX.wp hbx149 hmt151 hwp) hf146 hf147 hf148 hng152 ((BdX.I hbx149 (by rw [hmi]; decide) (by decide)).trans hrt) hO hl0) (gV pw_373 pw_374 pw_375 pw_63 pw_363) hV_X0_endMethod qr159 0 hqr160 rfl rfl rfl (Nat.le_of_ble_eq_true rfl) dX0_judge_91 ⟨(by show (c3 + (rE (g 2 o97) - rS (g 2 o97) - 2)) + 1 ≤ (s9 + 1); omega), (by show ((6 * c3) + (6 * (rE (g 2 o97) - rS (g 2 o97) - 2))) + 6 ≤ (6 * s9 + 6); omega)⟩ ⟨(by show 7 + 1 ≤ (1210); omega), (by show 8 + (1 + 11) + 122 ≤ (47500); omega)⟩ (fun v158 u156 H locs hw157 hP hD hS => ?_) (fun ux ce9 q9 H9 locs9 hux hP9 hD9 hS9 hce hcv hcl => pb_out ux (ThQ.up (Thx.same (Thx.same (Thx.same (Thx.same (Thx.same (Thx.same (Thx.f (Thx.f (Thx.f (Thx.f (Thx.f (Thx.f (Thx.f (Thx.f (Thx.f (Bth.thx hbb150) (by omega)) (by omega)) (by omega)) (by omega)) (by omega)) (by omega)) (by omega)) (by omega)) (by omega)) rfl) rfl) rfl) rfl) rfl) rfl) (show RhX R (updR (updR (updR (updR R 2 (.ref pq)) 3 (.ref (itlm i3))) 4 (.null)) 3 (.ref (itlm i3))) from fun k9 hk9 => by unfold updR; simp only [show ¬ k9 = 1 by omega, show ¬ k9 = 2 by omega, show ¬ k9 = 3 by omega, show ¬ k9 = 4 by omega, if_false]) hux) hnt hlocks hce hcv hcl hP9 hD9 hS9 (by show (c3 + (rE (g 2 o97) - rS (g 2 o97) - 2)) + 1 ≤ (s9 + 1); omega) (by show ((6 * c3) + (6 * (rE (g 2 o97) - rS (g 2 o97) - 2))) + 6 ≤ (6 * s9 + 6); omega))
                obtain ⟨w, K161, B162, op163⟩ := u156
                obtain ⟨hw157, h164, h165, h166, h167, h168, h169, h170, hO⟩ := hw157
                have h164 : BdX K104 K161 := h164
                have h165 : MtB K161 := h165
                have h166 : Bth B105 B162 := h166
                have h167 : K161 = kI (kI K104 12 (itlm i3) (nI dp110)) 14 (itlm i3) (nI rg112) := h167
                have h168 : BeR B105 B162 := h168
                have h169 : B162 16 = upd ((B105 16)) cs106 op163 ∧ B162 17 = upd ((B105 17)) cs106 0 ∧ B162 18 = upd ((B105 18)) cs106 0 ∧ B162 19 = upd ((B105 19)) cs106 (nI (vr64 + 1)) := h169
                have h170 : (rt = 63 ∧ op163 = 26) ∨ (¬ rt = 63 ∧ as107 = -1) := h170
                obtain rfl : v158 = none := hw157
                have hf171 : K161.1 pq = 7 := (BdX.T h164 hf136 (by decide))
                have hf172 : K161.2.2.1 18 pq = some (a 1) := (BdX.C h164 (by rw [hf136]; decide) 18).trans hf137
                have hf173 : K161.2.2.1 14 pq = some dr := (BdX.C h164 (by rw [hf136]; decide) 14).trans hf138
                have hf174 : K161.1 dr = 8 := (BdX.T h164 hf139 (by decide))
                have hf175 : K161.2.2.1 15 pq = some ml := (BdX.C h164 (by rw [hf136]; decide) 15).trans hf140
                have hf176 : K161.1 ml = 5 := (BdX.T h164 hf141 (by decide))
                have hf177 : K161.2.1 24 pq = (nI nd) := (BdX.I h164 (by rw [hf136]; decide) (by decide)).trans hf142
                have hf178 : K161.1 d9 = 4 := (BdX.T h164 hf143 (by decide))
                have hf179 : K161.1 lm = 5 := (BdX.T h164 hf144 (by decide))
                have hf180 : K161.2.2.1 9 d9 = some lm := (BdX.C h164 (by rw [hf143]; decide) 9).trans hf145
                have hf181 : K161.1 (itlm i3) = 3 := (BdX.T h164 hf146 (by decide))
                have hf182 : K161.2.2.1 7 (itlm i3) = some o97 := (BdX.C h164 (by rw [hf146]; decide) 7).trans hf147
                have hf183 : K161.1 o97 = 1 := (BdX.T h164 hf148 (by decide))
                have hO : OKP G h0 a (upd (upd (upd (upd (upd (upd (upd (upd (upd (upd F 2 (nI sz)) 5 (nI (cs106 + 1))) 6 (nI rg112)) 7 (nI (vr64 + 1))) 8 (nI dp110)) 12 (nI vr64)) 13 as107) 14 wt108) 15 wf109) 16 ls114) (updR (updR (updR R 2 (.ref pq)) 3 (.ref (itlm i3))) 4 (.null)) Z B162 J K161 w := hO.to rfl
                refine W.widen (k := (c3 + (rE (g 2 o97) - rS (g 2 o97) - 2))) (n := ((6 * c3) + (6 * (rE (g 2 o97) - rS (g 2 o97) - 2)))) (by show (c3 + (rE (g 2 o97) - rS (g 2 o97) - 2)) + 0 ≤ (c3 + (rE (g 2 o97) - rS (g 2 o97) - 2)); omega) (by show ((6 * c3) + (6 * (rE (g 2 o97) - rS (g 2 o97) - 2))) + 0 ≤ ((6 * c3) + (6 * (rE (g 2 o97) - rS (g 2 o97) - 2))); omega) ?_
                refine W.eq (g2 := F0 m 94 ls []) rfl ?_
                have hbx184 := BdX.trans hbx149 h164
                have hbb185 : Bth B B162 := Bth.trans (show Thx (upd F 2 (nI sz)) (upd (upd (upd (upd (upd (upd (upd (upd (upd (upd F 2 (nI sz)) 5 (nI cs106)) 6 (nI rg112)) 7 (nI (vr64 + 1))) 8 (nI dp110)) 12 (nI vr64)) 13 as107) 14 wt108) 15 wf109) 16 ls114) B B105 from (Thx.f (Thx.f (Thx.f (Thx.f (Thx.f (Thx.f (Thx.f (Thx.f (Thx.f (Bth.thx hbb150) (by omega)) (by omega)) (by omega)) (by omega)) (by omega)) (by omega)) (by omega)) (by omega)) (by omega))).2 h166
                have hmt186 := h165
                have hng187 : Nng (B162 18) := h166.2 hng152
                obtain ⟨A8, hst8⟩ := StW.endm h131 h170 hx3
                have hst9 : StW pb.1 pb.2.1 pb.2.2.1 pb.2.2.2 (upS (fun _ => ((0 : Nat), (0 : Nat), (fun _ : Nat => (0 : Nat)), ([] : List Nat))) cs3 (rcA as66, vr64 + 1, sl67, ([] : List Nat))) A8 Q3 Q115 (fun _ => False) pd116 j9 dp110 cs3 cs3 (cs106 + 1) as66 (-1) (vr64 + 1) (vr64 + 1) sl67 sl67 gr3 gr113 (B162 16) (B162 17) (B162 18) (B162 19) [] := by rw [h169.1, h169.2.1, h169.2.2.1, h169.2.2.2]; exact hst8
                have hxn9 := h132.2.1 rfl
                have hno9 : ∀ z9 : Nat, ¬ pd116 z9 := fun z9 h9 => by rcases h133.2.1 z9 h9 with y9 | y9 | y9 | y9; exact y9; (rw [hxn9.1] at y9; exact absurd y9 (List.not_mem_nil)); (rw [hxn9.2] at y9; exact absurd y9 (List.not_mem_nil)); exact absurd y9 (List.not_mem_nil)
                have hkk9 := jd_K h71 h120 (by rw [BdX.T hbx3 hmi (by decide)]; decide) h167
                have hjm9 : JdM pb K161 B162 Q115 (cs106 + 1) rg112 j9 (itlm i3) := JdM.of hst9 hno9 (by omega) ⟨by omega, by omega⟩ (by rw [hx1, hx4, ← h73.1]; exact henA) (by omega) (fun k9 h8 h9 => by omega) ⟨by omega, Nat.le_refl _⟩ (Nat.le_refl _) hkk9
                have hjd188 : JdO pb G K K161 B162 Q115 (cs106 + 1) rg112 dr nm it k2 (i3 + 1) none := JdO.add (JdO.same hjd155 (fun x9 hx9 => ⟨(congrFun h169.1 x9).trans (if_neg (by omega)), (congrFun h169.2.1 x9).trans (if_neg (by omega)), (congrFun h169.2.2.1 x9).trans (if_neg (by omega)), (congrFun h169.2.2.2 x9).trans (if_neg (by omega))⟩) (RqS.rfl (g := gr113)) (by omega) (fun p9 f9 hp9 hn9 _ _ => jd_ne2 h167 (fun e9 => hn9 (by rw [e9]))) (by omega) (Nat.le_refl _)) (fun j8 hj8 e8 => by have z9 : j8 = j9 := (nI_eq (by omega) (by omega)).mp ((hnu j8 hj8).2.1.symm.trans (by rw [e8, ← hij]; exact (hnu j9 hj9).2.1)); rw [z9]; exact hjm9) he0 hflm hlclm (by omega) rfl
                have hbf189 : BeF K K161 := fun p9 hp9 h36 => (by rw [h167, kI_of (by decide), kI_of (by decide)]; exact hbf153 p9 hp9 h36)
                have hbt190 : BtR B B162 := BtR.trans hbt154 (BeR.bt h168)
                have hrq191 : RgQx B162 Q115 gr113 nd := RgQx.ber h134 (h168 20 (by decide)) (h168 21 (by decide)) (h168 22 (by decide)) (h168 23 (by decide)) (h168 24 (by decide))
                refine lv_iinc (v := (nI (i3 + 1))) (lv' := [(4, .int (nI (i3 + 1))), (3, .ref d9), (2, .int (nI k2)), (1, .ref pq), (0, .ref (a 4))]) hx hb dX0_judge_94 hl (k := 0) rfl (nI_1 i3) (by decide) rfl (fun ls hl => ?_)
                refine lv_goto (tgt := 37) hx hb dX0_judge_97 (by decide) ?_
                refine W.widen (k := (c3 + bl K g (itlm i3))) (n := (6 * (c3 + bl K g (itlm i3)))) (by show (c3 + (rE (g 2 o97) - rS (g 2 o97) - 2)) ≤ _; omega) (by show ((6 * c3) + (6 * (rE (g 2 o97) - rS (g 2 o97) - 2))) ≤ _; omega) ?_
                have hO : OKP G h0 a (upd (upd (upd (upd (upd (upd (upd (upd (upd (upd F 2 (nI sz)) 5 (nI (cs106 + 1))) 6 (nI rg112)) 7 (nI (vr64 + 1))) 8 (nI dp110)) 12 (nI vr64)) 13 as107) 14 wt108) 15 wf109) 16 ls114) (updR (updR (updR R 2 (.ref pq)) 3 ((Value.ref (itlm i3)))) 4 (Value.null)) Z B162 J K161 w := hO.to rfl
                exact ih_i (i3 + 1) K161 B162 (cs106 + 1) rg112 as107 wt108 wf109 (nI vr64) (nI (vr64 + 1)) (nI dp110) ls114 (Value.ref (itlm i3)) Value.null (c3 + bl K g (itlm i3)) gr113 Q115 _ _ _ _ (by omega) (by omega) hbx184 hmt186 ((show Thx (upd F 2 (nI sz)) (upd (upd (upd (upd (upd (upd (upd (upd (upd (upd F 2 (nI sz)) 5 (nI (cs106 + 1))) 6 (nI rg112)) 7 (nI (vr64 + 1))) 8 (nI dp110)) 12 (nI vr64)) 13 as107) 14 wt108) 15 wf109) 16 ls114) B B162 from (Thx.f (Thx.f (Thx.f (Thx.f (Thx.f (Thx.f (Thx.f (Thx.f (Thx.f (Bth.thx hbb185) (by omega)) (by omega)) (by omega)) (by omega)) (by omega)) (by omega)) (by omega)) (by omega)) (by omega))).2) hng187 hbf189 hbt190 (by omega) hrq191 hjd188 (by omega) (by omega) hP hD hS hO (lv_sub hl [0, 1, 2, 3, 4] rfl)
        refine W.widen (k := c2) (n := (6 * c2)) (by show c2 ≤ _; omega) (by show (6 * c2) ≤ _; omega) ?_
        have hO : OKP G h0 a (upd (upd (upd (upd (upd (upd (upd (upd (upd (upd F 2 (nI sz)) 5 (nI cs2)) 6 (nI rg2)) 7 hd2) 8 dp2) 12 vr2) 13 as2) 14 wt2) 15 wf2) 16 ls2) (updR (updR (updR R 2 (.ref pq)) 3 (mv2)) 4 (lv2)) Z B2 J K2 w := hO.to rfl
        exact loop_i (nlm + 1) 0 K2 B2 cs2 rg2 as2 wt2 wf2 vr2 hd2 dp2 ls2 mv2 lv2 c2 gr2 Q2 _ _ _ _ (by omega) (by omega) hbx2 hmt2 ((show Thx (upd F 2 (nI sz)) (upd (upd (upd (upd (upd (upd (upd (upd (upd (upd F 2 (nI sz)) 5 (nI cs2)) 6 (nI rg2)) 7 hd2) 8 dp2) 12 vr2) 13 as2) 14 wt2) 15 wf2) 16 ls2) B B2 from (Thx.f (Thx.f (Thx.f (Thx.f (Thx.f (Thx.f (Thx.f (Thx.f (Thx.f (Bth.thx hbb2) (by omega)) (by omega)) (by omega)) (by omega)) (by omega)) (by omega)) (by omega)) (by omega)) (by omega))).2) hng2 hbf2 hbt2 (by omega) hrq2 hjd2 (by show c2 ≤ sumN (fw K (bl K g) dr) k2 + 0; omega) (by show cs2 ≤ 2 * (sumN (fw K (bl2 K g) dr) k2 + 0); omega) hP hD hS hO (lv_sub hl [0, 1, 2, 3, 4] rfl)
  refine W.widen (k := 0) (n := (6 * 0)) (by show 0 ≤ _; omega) (by show 0 ≤ _; omega) ?_
  have hO : OKP G h0 a (upd (upd (upd (upd (upd (upd (upd (upd (upd (upd F 2 (nI sz)) 5 (nI 0)) 6 (nI 0)) 7 (F 7)) 8 (F 8)) 12 (F 12)) 13 (F 13)) 14 (F 14)) 15 (F 15)) 16 (F 16)) (updR (updR (updR R 2 (.ref pq)) 3 ((R 3))) 4 ((R 4))) Z B J K w := hO.to rfl
  exact loop_k (nd + 1) 0 K B 0 0 (F 13) (F 14) (F 15) (F 12) (F 7) (F 8) (F 16) (R 3) (R 4) 0 0 ((fun _ => 0), (fun _ => 0), (fun _ => 0), (fun _ => 0), (fun _ => 0), (fun _ => 0)) _ _ _ _ (by omega) (by omega) BdX.rfl (MtB.of hwp) ((show Thx (upd F 2 (nI sz)) (upd (upd (upd F 2 (nI sz)) 5 0) 6 0) B B from (Thx.f (Thx.f Thx.rfl (by omega)) (by omega))).2) hng BeF.rfl BtR.rfl (by omega) (fun k9 h9 => absurd h9 (by omega)) JdO.nil (Nat.zero_le _) (Nat.zero_le _) hP hD hS hO (lv_sub hl [0, 2, 1] rfl)
