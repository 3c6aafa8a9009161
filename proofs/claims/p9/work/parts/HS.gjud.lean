theorem sumN_mono {f : Nat → Nat} {n m : Nat} (h : n ≤ m) : sumN f n ≤ sumN f m := by
  induction h with
  | refl => exact Nat.le_refl _
  | step _ ih => exact Nat.le_trans ih (Nat.le_add_right _ _)
theorem dX0_judge_0 : decode cX0_judge 0 = .ok (.aload_n 0, 1) := by decide +kernel
theorem dX0_judge_1 : decode cX0_judge 1 = .ok (.aload_n 1, 1) := by decide +kernel
theorem dX0_judge_2 : decode cX0_judge 2 = .ok (.putfield 29, 3) := by decide +kernel
theorem dX0_judge_5 : decode cX0_judge 5 = .ok (.aload_n 0, 1) := by decide +kernel
theorem dX0_judge_6 : decode cX0_judge 6 = .ok (.getfield 15, 3) := by decide +kernel
theorem dX0_judge_9 : decode cX0_judge 9 = .ok (.invokevirtual 33, 3) := by decide +kernel
theorem dX0_judge_12 : decode cX0_judge 12 = .ok (.iconst 0, 1) := by decide +kernel
theorem dX0_judge_13 : decode cX0_judge 13 = .ok (.istore_n 2, 1) := by decide +kernel
theorem dX0_judge_14 : decode cX0_judge 14 = .ok (.iload_n 2, 1) := by decide +kernel
theorem dX0_judge_15 : decode cX0_judge 15 = .ok (.aload_n 0, 1) := by decide +kernel
theorem dX0_judge_16 : decode cX0_judge 16 = .ok (.getfield 29, 3) := by decide +kernel
theorem dX0_judge_19 : decode cX0_judge 19 = .ok (.getfield 38, 3) := by decide +kernel
theorem dX0_judge_22 : decode cX0_judge 22 = .ok (.if_icmp .ge 84, 3) := by decide +kernel
theorem dX0_judge_106 : decode cX0_judge 106 = .ok (.return_, 1) := by decide +kernel
theorem dX0_judge_25 : decode cX0_judge 25 = .ok (.aload_n 0, 1) := by decide +kernel
theorem dX0_judge_26 : decode cX0_judge 26 = .ok (.getfield 29, 3) := by decide +kernel
theorem dX0_judge_29 : decode cX0_judge 29 = .ok (.iload_n 2, 1) := by decide +kernel
theorem dX0_judge_30 : decode cX0_judge 30 = .ok (.invokevirtual 44, 3) := by decide +kernel
theorem dX0_judge_33 : decode cX0_judge 33 = .ok (.astore_n 3, 1) := by decide +kernel
theorem dX0_judge_34 : decode cX0_judge 34 = .ok (.iconst 0, 1) := by decide +kernel
theorem dX0_judge_35 : decode cX0_judge 35 = .ok (.istore 4, 2) := by decide +kernel
theorem dX0_judge_37 : decode cX0_judge 37 = .ok (.aload_n 3, 1) := by decide +kernel
theorem dX0_judge_38 : decode cX0_judge 38 = .ok (.ifnull 62, 3) := by decide +kernel
theorem dX0_judge_100 : decode cX0_judge 100 = .ok (.iinc 2 1, 3) := by decide +kernel
theorem dX0_judge_103 : decode cX0_judge 103 = .ok (.goto (-89), 3) := by decide +kernel
theorem dX0_judge_41 : decode cX0_judge 41 = .ok (.iload 4, 2) := by decide +kernel
theorem dX0_judge_43 : decode cX0_judge 43 = .ok (.aload_n 3, 1) := by decide +kernel
theorem dX0_judge_44 : decode cX0_judge 44 = .ok (.getfield 48, 3) := by decide +kernel
theorem dX0_judge_47 : decode cX0_judge 47 = .ok (.invokevirtual 54, 3) := by decide +kernel
theorem dX0_judge_50 : decode cX0_judge 50 = .ok (.if_icmp .ge 50, 3) := by decide +kernel
theorem dX0_judge_53 : decode cX0_judge 53 = .ok (.aload_n 0, 1) := by decide +kernel
theorem dX0_judge_54 : decode cX0_judge 54 = .ok (.aload_n 3, 1) := by decide +kernel
theorem dX0_judge_55 : decode cX0_judge 55 = .ok (.getfield 48, 3) := by decide +kernel
theorem dX0_judge_58 : decode cX0_judge 58 = .ok (.iload 4, 2) := by decide +kernel
theorem dX0_judge_60 : decode cX0_judge 60 = .ok (.invokevirtual 59, 3) := by decide +kernel
theorem dX0_judge_63 : decode cX0_judge 63 = .ok (.checkcast 63, 3) := by decide +kernel
theorem dX0_judge_66 : decode cX0_judge 66 = .ok (.invokevirtual 65, 3) := by decide +kernel
theorem dX0_judge_69 : decode cX0_judge 69 = .ok (.aload_n 0, 1) := by decide +kernel
theorem dX0_judge_70 : decode cX0_judge 70 = .ok (.getfield 69, 3) := by decide +kernel
theorem dX0_judge_73 : decode cX0_judge 73 = .ok (.getfield 73, 3) := by decide +kernel
theorem dX0_judge_76 : decode cX0_judge 76 = .ok (.ifnull 18, 3) := by decide +kernel
theorem dX0_judge_94 : decode cX0_judge 94 = .ok (.iinc 4 1, 3) := by decide +kernel
theorem dX0_judge_97 : decode cX0_judge 97 = .ok (.goto (-60), 3) := by decide +kernel
theorem dX0_judge_79 : decode cX0_judge 79 = .ok (.aload_n 0, 1) := by decide +kernel
theorem dX0_judge_80 : decode cX0_judge 80 = .ok (.aload_n 0, 1) := by decide +kernel
theorem dX0_judge_81 : decode cX0_judge 81 = .ok (.getfield 69, 3) := by decide +kernel
theorem dX0_judge_84 : decode cX0_judge 84 = .ok (.getfield 73, 3) := by decide +kernel
theorem dX0_judge_87 : decode cX0_judge 87 = .ok (.invokevirtual 77, 3) := by decide +kernel
theorem dX0_judge_90 : decode cX0_judge 90 = .ok (.aload_n 0, 1) := by decide +kernel
theorem dX0_judge_91 : decode cX0_judge 91 = .ok (.invokevirtual 81, 3) := by decide +kernel
theorem hV_X1_clear : yX1_clear.cls = RX1 ∧ yX1_clear.cls ≠ "java/lang/invoke/MethodHandle" ∧ yX1_clear.cls ≠ "java/lang/invoke/VarHandle" ∧ (parseMethodDescriptor yX1_clear.desc).map (fun d => d.parameters.length) = some 0 := by decide +kernel
theorem hV_X0_beginMethod : yX0_beginMethod.cls = RX0 ∧ yX0_beginMethod.cls ≠ "java/lang/invoke/MethodHandle" ∧ yX0_beginMethod.cls ≠ "java/lang/invoke/VarHandle" ∧ (parseMethodDescriptor yX0_beginMethod.desc).map (fun d => d.parameters.length) = some 1 := by decide +kernel
theorem hV_X0_endMethod : yX0_endMethod.cls = RX0 ∧ yX0_endMethod.cls ≠ "java/lang/invoke/MethodHandle" ∧ yX0_endMethod.cls ≠ "java/lang/invoke/VarHandle" ∧ (parseMethodDescriptor yX0_endMethod.desc).map (fun d => d.parameters.length) = some 0 := by decide +kernel
set_option maxHeartbeats 60000000 in
set_option maxRecDepth 100000 in
theorem B_judge (l : Launch) (G : pT) (h0 : Nat) (a : Nat → Nat) (F : Nat → Int32) (R : Nat → Value) (Z : Int64) (B : Nat → Nat → Int32) (J : Nat → Nat → Int64) (K : PK) (w : va_W) (pq : Nat) (dr : Nat) (ml : Nat) (nd : Nat) (nm : Nat) (cp : Nat) (it : Nat → Nat) (s9 : Nat) (sz : Nat) (g : Nat → Nat → Nat) (rk : Nat → Nat) (hsz : sz ≤ 5000) (hwp : WPr G K g) (hps : PgT G K g (a 1) pq dr ml nd nm cp it s9) (hrk : RkO K rk) (hng : Nng (B 18)) (hO : OKP G h0 a (upd F 2 (nI sz)) R Z B J K w) (hl0 : l.stackTraces = false) : PBn l G pX0 yX0_judge cX0_judge 5 none ({ frames := (1210), cells := (s9 + 1), slots := (6 * s9 + 6), locals := (47500) }) [.ref (a 4), .ref pq] w (fun (v : Option Value) (u : va_W × (PK × (Nat → Nat → Int32) × Nat × Nat × Int32 × Int32 × Int32 × Int32 × Int32 × Int32 × Int32 × Value × Value)) => v = none ∧ (BdX K u.2.1) ∧ (MtB u.2.1) ∧ (Bth B u.2.2.1) ∧ (u.2.2.2.1 ≤ 10000 ∧ u.2.2.2.2.1 ≤ 625) ∧ (OKP G h0 a (upd (upd (upd (upd (upd (upd (upd (upd (upd (upd F 2 (nI sz)) 5 (nI u.2.2.2.1)) 6 (nI u.2.2.2.2.1)) 7 u.2.2.2.2.2.2.2.2.2.1) 8 u.2.2.2.2.2.2.2.2.2.2.1) 12 u.2.2.2.2.2.2.2.2.1) 13 u.2.2.2.2.2.1) 14 u.2.2.2.2.2.2.1) 15 u.2.2.2.2.2.2.2.1) 16 u.2.2.2.2.2.2.2.2.2.2.2.1) (updR (updR (updR R 2 (.ref pq)) 3 (u.2.2.2.2.2.2.2.2.2.2.2.2.1)) 4 (u.2.2.2.2.2.2.2.2.2.2.2.2.2)) Z u.2.2.1 J u.2.1 u.1)) (fun u => u.1) (fun (u : va_W × (PK × (Nat → Nat → Int32) × Nat × Nat × Int32 × Int32 × Int32 × Int32 × Int32 × Int32 × Int32 × Value × Value)) => s9) (fun (u : va_W × (PK × (Nat → Nat → Int32) × Nat × Nat × Int32 × Int32 × Int32 × Int32 × Int32 × Int32 × Int32 × Value × Value)) => (6 * s9)) (fun (u : va_W × (Nat → Int32) × (Nat → Value) × (Nat → Nat → Int32)) => ThQ G h0 a (upd F 2 (nI sz)) R Z B J u) (fun u => u.1) := by
  intro sz
  refine vx_ofW (cc := cX0_judge) (maxL := 5) (ret := none) (by decide) rfl ?_
  intro p e s m args below meth c s₁ B9 hml hnt hv
  obtain ⟨rfl, hsz, hP, hD0, hE, hX⟩ := hv
  have hx := B9.exec
  have hb := B9.bytes
  have hr := B9.returns
  have hts := atoms_spec (ws := Cond.code yX0_judge cX0_judge 5 none :: pw) B9.pre
  have hq : ∀ w ∈ pw, w.before _ s = true := fun w h => hts w (List.mem_cons_of_mem _ h)
  have hown : s.vm.findClass RX0 = some m.cls := findClass_of_methodNamed B9.named
  have hlocks := B9.notSynchronized
  subst hsz
  have hD := hD0.self (sz := s.heap.size)
  have hA : ∀ q : Nat, s.heap.size ≤ q → va_A w s.heap.size q := fun q h => Or.inr h
  generalize va_A w s.heap.size = A at hD hE hA ⊢
  have hS : va_S A s.heap s.heap [] := va_S.rf
  have hl := lv_entry ([.ref (a 4), .ref pq]) (n := 5) (Nat.le_of_ble_eq_true rfl)
  rw [lg_entry_eq]
  generalize (lg_sl ([.ref (a 4), .ref pq]) ++ List.replicate (5 - (lg_sl ([.ref (a 4), .ref pq])).length) Slot.unset).toArray = ls at hl ⊢
  have hl : lv_has ls 5 [(0, .ref (a 4)), (1, .ref pq)] := hl
  have hpg := hps.1
  have hp1 := hpg.1
  have hp2 := hpg.2.1
  have hp3 := hpg.2.2.1
  have hp4 := hpg.2.2.2.1
  have hp5 := hpg.2.2.2.2.1
  have hp6 := hpg.2.2.2.2.2.1
  have hp8 := hpg.2.2.2.2.2.2.2.1
  have hp9 := hpg.2.2.2.2.2.2.2.2
  have htb : sumN (fw K (bl K g) dr) nd ≤ s9 := hps.tb
  refine lv_aload_n hx hb dX0_judge_0 rfl (lv_at hl 0 rfl) ?_
  refine lv_aload_n hx hb dX0_judge_1 rfl (lv_at hl 1 rfl) ?_
  refine c_put (v := .ref pq) (ty := (.object "JinjaTongue$Program")) (C := RX0) (Tc := TX0) (N := 13) (ci := 0) hx hb hq pin_wsX00 tyX0 tyX0_ok nmX0 hown hE hP hD hS hO 24 (sg_24 G h0 a _ _ _ _ _) rfl 6 (by decide) (hq _ pw_110) (fun _ h9 => h9) rfl (by decide +kernel) rfl rfl (Nat.le_of_ble_eq_true rfl) (sr_2 G h0 a _ _ _ _ _ (.ref pq)) dX0_judge_2 (fun H locs w hP hD hS hO => ?_)
  refine lv_aload_n hx hb dX0_judge_5 rfl (lv_at hl 0 rfl) ?_
  refine c_get (v := .ref (a 2)) (C := RX0) (Tc := TX0) (N := 13) (ci := 0) hx hb hq pin_wsX00 hown hE hP hO 24 (sg_24 G h0 a _ _ _ _ _) rfl 1 (by decide) (hq _ pw_5) (fun _ h9 => h9) rfl dX0_judge_6 ?_
  have hO : OKW G h0 a (upd F 2 (nI sz)) (updR R 2 (.ref pq)) Z B J K.1 (fun q99 x99 => x99 = rep G a K q99) w := hO.to rfl
  obtain ⟨_, qr4, hqr5⟩ := hO.2.1 13 _ (sg_13 G h0 a _ _ _ _ _)
  refine pc_V0 (G := G) (As := []) (rest := []) hx hb hml hown hq hE hX pX0_al hP hD hS hA hl.1 (K_codeClear l G h0 a (upd F 2 (nI sz)) (updR R 2 (.ref pq)) Z B J K.1 (fun q99 x99 => x99 = rep G a K q99) w hO) (gV pw_367 pw_368 pw_369 pw_70 pw_10) hV_X1_clear qr4 1 hqr5 rfl rfl rfl (Nat.le_of_ble_eq_true rfl) dX0_judge_9 ⟨(by show 0 + 0 ≤ (s9 + 1); omega), (by show 0 + 0 ≤ (6 * s9 + 6); omega)⟩ ⟨(by show 2 + 1 ≤ (1210); omega), (by show 8 + (1 + 11) + 60 ≤ (47500); omega)⟩ (fun v3 u1 H locs hw2 hP hD hS => ?_)
  obtain ⟨w, _⟩ := u1
  obtain ⟨hw2, hO⟩ := hw2
  obtain rfl : v3 = none := hw2
  have hO : OKP G h0 a (upd (upd (upd F 2 (nI sz)) 5 0) 6 0) (updR R 2 (.ref pq)) Z B J K w := hO.to rfl
  refine W.widen (k := 0) (n := 0) (Nat.le_of_ble_eq_true rfl) (Nat.le_of_ble_eq_true rfl) ?_
  refine W.eq (g2 := F0 m 12 ls []) rfl ?_
  refine lv_iconst (v := 0) hx hb dX0_judge_12 (by decide) ?_
  refine lv_istore_n (lv' := [(2, .int 0), (0, .ref (a 4)), (1, .ref pq)]) hx hb dX0_judge_13 rfl hl (by decide) rfl (fun ls hl => ?_)
  have loop_k : ∀ (n_k : Nat) (k2 : Nat) (K2 : PK) (B2 : Nat → Nat → Int32) (cs2 : Nat) (rg2 : Nat) (as2 : Int32) (wt2 : Int32) (wf2 : Int32) (vr2 : Int32) (hd2 : Int32) (dp2 : Int32) (ls2 : Int32) (mv2 : Value) (lv2 : Value) (c2 : Nat) (H : Heap) (locs : List Loc) (ls : Array Slot) (w : va_W), k2 ≤ nd → nd + 1 ≤ k2 + n_k → (BdX K K2) → (MtB K2) → (Bth B B2) → (Nng (B2 18)) → (cs2 ≤ 10000 ∧ rg2 ≤ 625) → (c2 ≤ sumN (fw K (bl K g) dr) k2) → va_P G.1 pCl w H → va_D A w → va_S A s.heap H locs → OKP G h0 a (upd (upd (upd (upd (upd (upd (upd (upd (upd (upd F 2 (nI sz)) 5 (nI cs2)) 6 (nI rg2)) 7 hd2) 8 dp2) 12 vr2) 13 as2) 14 wt2) 15 wf2) 16 ls2) (updR (updR (updR R 2 (.ref pq)) 3 (mv2)) 4 (lv2)) Z B2 J K2 w → lv_has ls 5 [(2, .int (nI k2)), (1, .ref pq), (0, .ref (a 4))] → W p l e (headSpec (Cond.code yX0_judge cX0_judge 5 none :: pw) ({ frames := (1210), cells := (s9 + 1), slots := (6 * s9 + 6), locals := (47500) } : Room)).room s m ([.ref (a 4), .ref pq] : List Value).toArray below meth c H locs c2 (6 * c2) (vx_MQ below (pQn G A (fun (v : Option Value) (u : va_W × (PK × (Nat → Nat → Int32) × Nat × Nat × Int32 × Int32 × Int32 × Int32 × Int32 × Int32 × Int32 × Value × Value)) => v = none ∧ (BdX K u.2.1) ∧ (MtB u.2.1) ∧ (Bth B u.2.2.1) ∧ (u.2.2.2.1 ≤ 10000 ∧ u.2.2.2.2.1 ≤ 625) ∧ (OKP G h0 a (upd (upd (upd (upd (upd (upd (upd (upd (upd (upd F 2 (nI sz)) 5 (nI u.2.2.2.1)) 6 (nI u.2.2.2.2.1)) 7 u.2.2.2.2.2.2.2.2.2.1) 8 u.2.2.2.2.2.2.2.2.2.2.1) 12 u.2.2.2.2.2.2.2.2.1) 13 u.2.2.2.2.2.1) 14 u.2.2.2.2.2.2.1) 15 u.2.2.2.2.2.2.2.1) 16 u.2.2.2.2.2.2.2.2.2.2.2.1) (updR (updR (updR R 2 (.ref pq)) 3 (u.2.2.2.2.2.2.2.2.2.2.2.2.1)) 4 (u.2.2.2.2.2.2.2.2.2.2.2.2.2)) Z u.2.2.1 J u.2.1 u.1)) (fun u => u.1) (fun (u : va_W × (PK × (Nat → Nat → Int32) × Nat × Nat × Int32 × Int32 × Int32 × Int32 × Int32 × Int32 × Int32 × Value × Value)) => s9) (fun (u : va_W × (PK × (Nat → Nat → Int32) × Nat × Nat × Int32 × Int32 × Int32 × Int32 × Int32 × Int32 × Int32 × Value × Value)) => (6 * s9))) (pXX G A (fun (u : va_W × (Nat → Int32) × (Nat → Value) × (Nat → Nat → Int32)) => ThQ G h0 a (upd F 2 (nI sz)) R Z B J u) (fun u => u.1)) ([.ref (a 4), .ref pq] : List Value).toArray s ({ frames := (1210), cells := (s9 + 1), slots := (6 * s9 + 6), locals := (47500) } : Room).cells ({ frames := (1210), cells := (s9 + 1), slots := (6 * s9 + 6), locals := (47500) } : Room).slots A) (F0 m 14 ls []) := by
    intro n_k
    induction n_k with
    | zero => intro k2 K2 B2 cs2 rg2 as2 wt2 wf2 vr2 hd2 dp2 ls2 mv2 lv2 c2 H locs ls w hk_k hn_k; omega
    | succ n_k ih_k =>
      intro k2 K2 B2 cs2 rg2 as2 wt2 wf2 vr2 hd2 dp2 ls2 mv2 lv2 c2 H locs ls w hk_k hn_k hbx2 hmt2 hbb2 hng2 hcs2 hc2 hP hD hS hO hl
      have hf6 : K2.1 pq = 7 := (BdX.T hbx2 hp1 (by decide))
      have hf7 : K2.2.2.1 18 pq = some (a 1) := (BdX.C hbx2 (by rw [hp1]; decide) 18).trans hp2
      have hf8 : K2.2.2.1 14 pq = some dr := (BdX.C hbx2 (by rw [hp1]; decide) 14).trans hp3
      have hf9 : K2.1 dr = 8 := (BdX.T hbx2 hp4 (by decide))
      have hf10 : K2.2.2.1 15 pq = some ml := (BdX.C hbx2 (by rw [hp1]; decide) 15).trans hp5
      have hf11 : K2.1 ml = 5 := (BdX.T hbx2 hp6 (by decide))
      have hf12 : K2.2.1 24 pq = (nI nd) := (BdX.I hbx2 (by rw [hp1]; decide) (by decide)).trans hp8
      have hmo2 : sumN (fw K (bl K g) dr) k2 ≤ sumN (fw K (bl K g) dr) nd := sumN_mono (by omega)
      refine lv_iload_n hx hb dX0_judge_14 rfl (lv_at hl 0 rfl) ?_
      refine lv_aload_n hx hb dX0_judge_15 rfl (lv_at hl 2 rfl) ?_
      refine c_get (v := .ref pq) (C := RX0) (Tc := TX0) (N := 13) (ci := 0) hx hb hq pin_wsX00 hown hE hP hO 24 (sg_24 G h0 a _ _ _ _ _) rfl 6 (by decide) (hq _ pw_110) (fun _ h9 => h9) rfl dX0_judge_16 ?_
      refine p_get (v := .int (nI nd)) (C := RX9) (Tc := TX9) (N := 5) (ci := 6) hx hb hq pin_wsX90 hown hE hP hO (by rw [hf6]; decide) (rep_7 hf6) rfl 2 (by decide) (hq _ pw_364) (fun _ h9 => h9) (congrArg (fun z => some (Value.int z)) hf12) dX0_judge_19 ?_
      refine lv_icmp_ge (tgt := 106) hx hb dX0_judge_22 (by decide) (fun c13 => ?_) (fun c13 => ?_)
      · have n14 : nd ≤ k2 := (nI_leI (a := nd) (b := k2) (by omega) (by omega)).mp c13
        refine W_size (fun hz1 hz2 => ?_)
        refine vx_ret ?_
        have hz15 : BdX K K2 := hbx2
        have hz16 : MtB K2 := hmt2
        have hz17 : Bth B B2 := (show Thx (upd F 2 (nI sz)) (upd (upd (upd (upd (upd (upd (upd (upd (upd (upd F 2 (nI sz)) 5 (nI cs2)) 6 (nI rg2)) 7 hd2) 8 dp2) 12 vr2) 13 as2) 14 wt2) 15 wf2) 16 ls2) B B2 from (Thx.f (Thx.f (Thx.f (Thx.f (Thx.f (Thx.f (Thx.f (Thx.f (Thx.f (Bth.thx hbb2) (by omega)) (by omega)) (by omega)) (by omega)) (by omega)) (by omega)) (by omega)) (by omega)) (by omega))).2
        have hz18 : cs2 ≤ 10000 ∧ rg2 ≤ 625 := (by omega)
        have hO : OKP G h0 a (upd (upd (upd (upd (upd (upd (upd (upd (upd (upd F 2 (nI sz)) 5 (nI cs2)) 6 (nI rg2)) 7 hd2) 8 dp2) 12 vr2) 13 as2) 14 wt2) 15 wf2) 16 ls2) (updR (updR (updR R 2 (.ref pq)) 3 (mv2)) 4 (lv2)) Z B2 J K2 w := hO.to rfl
        refine W.widen (k := (s9 + 1)) (n := (6 * s9 + 6)) (by omega) (by omega) ?_
        have hzz1 : H.size ≤ s.heap.size + (s9) := (by have z : c2 ≤ s9 := (by omega); omega)
        have hzz2 : hSl H ≤ hSl s.heap + ((6 * s9)) := (by have z : (6 * c2) ≤ (6 * s9) := (by omega); omega)
        exact W.vret hx hb hr (fun t99 ht99 hW99 => ⟨⟨_, (w, (K2, B2, cs2, rg2, as2, wt2, wf2, vr2, hd2, dp2, ls2, mv2, lv2)), rfl, ⟨rfl, hz15, hz16, hz17, hz18, hO⟩, by rw [ht99]; exact hP, hD, by rw [ht99]; exact hzz1, by rw [ht99]; exact hzz2⟩, hS.F ht99⟩) hS.2.2 dX0_judge_106
      · have n19 : ¬ (nd ≤ k2) := fun h9 => c13 ((nI_leI (a := nd) (b := k2) (by omega) (by omega)).mpr h9)
        refine lv_aload_n hx hb dX0_judge_25 rfl (lv_at hl 2 rfl) ?_
        refine c_get (v := .ref pq) (C := RX0) (Tc := TX0) (N := 13) (ci := 0) hx hb hq pin_wsX00 hown hE hP hO 24 (sg_24 G h0 a _ _ _ _ _) rfl 6 (by decide) (hq _ pw_110) (fun _ h9 => h9) rfl dX0_judge_26 ?_
        refine lv_iload_n hx hb dX0_judge_29 rfl (lv_at hl 0 rfl) ?_
        have hO : OKP G h0 a (upd (upd (upd (upd (upd (upd (upd (upd (upd (upd F 2 (nI sz)) 5 (nI cs2)) 6 (nI rg2)) 7 hd2) 8 dp2) 12 vr2) 13 as2) 14 wt2) 15 wf2) 16 ls2) (updR (updR (updR R 2 (.ref pq)) 3 (mv2)) 4 (lv2)) Z B2 J K2 w := hO.to rfl
        obtain ⟨qr23, hqr24⟩ := p_recv hO (by rw [hf6]; decide) (rep_7 hf6)
        refine pc_V0 (G := G) (As := [.int (nI k2)]) (rest := []) hx hb hml hown hq hE hX pX0_al hP hD hS hA hl.1 (G_decl l G h0 a (upd (upd (upd (upd (upd (upd (upd (upd (upd (upd F 2 (nI sz)) 5 (nI cs2)) 6 (nI rg2)) 7 hd2) 8 dp2) 12 vr2) 13 as2) 14 wt2) 15 wf2) 16 ls2) (updR (updR (updR R 2 (.ref pq)) 3 (mv2)) 4 (lv2)) Z B2 J K2 w pq dr ml nd (nI k2) g (BdX.pt hbx2 hwp hps).1 (BdX.pt hbx2 hwp hps).2.1 hO) (gV pw_181 pw_182 pw_183 pw_106 pw_13) hV_X9_decl qr23 6 hqr24 rfl rfl rfl (Nat.le_of_ble_eq_true rfl) dX0_judge_30 ⟨(by show c2 + 0 ≤ (s9 + 1); omega), (by show (6 * c2) + 0 ≤ (6 * s9 + 6); omega)⟩ ⟨(by show 2 + 1 ≤ (1210); omega), (by show 8 + (2 + 11) + 60 ≤ (47500); omega)⟩ (fun v22 u20 H locs hw21 hP hD hS => ?_)
        obtain ⟨w, o25⟩ := u20
        obtain ⟨hw21, h26, h27, hO⟩ := hw21
        have h26 : DoN K2 o25 := h26
        have h27 : DoK K2 dr nd (nI k2) o25 := h27
        obtain rfl : v22 = some ((va_rf o25)) := hw21
        have hO : OKP G h0 a (upd (upd (upd (upd (upd (upd (upd (upd (upd (upd F 2 (nI sz)) 5 (nI cs2)) 6 (nI rg2)) 7 hd2) 8 dp2) 12 vr2) 13 as2) 14 wt2) 15 wf2) 16 ls2) (updR (updR (updR R 2 (.ref pq)) 3 (mv2)) 4 (lv2)) Z B2 J K2 w := hO.to rfl
        refine W.widen (k := c2) (n := (6 * c2)) (by show c2 + 0 ≤ c2; omega) (by show (6 * c2) + 0 ≤ (6 * c2); omega) ?_
        refine W.eq (g2 := F0 m 33 ls [(va_rf o25)]) rfl ?_
        rcases o25 with _ | d28
        · have hl : lv_has ls 5 [(2, .int (nI k2)), (1, .ref pq), (0, .ref (a 4))] := hl
          refine W.eq (g2 := F0 m 33 ls [.null]) rfl ?_
          refine lv_astore_nN (lv' := [(3, .null), (2, .int (nI k2)), (1, .ref pq), (0, .ref (a 4))]) hx hb dX0_judge_33 rfl hl (by decide) rfl (fun ls hl => ?_)
          refine lv_iconst (v := 0) hx hb dX0_judge_34 (by decide) ?_
          refine lv_istore (lv' := [(4, .int 0), (3, .null), (2, .int (nI k2)), (1, .ref pq), (0, .ref (a 4))]) hx hb dX0_judge_35 hl (by decide) rfl (fun ls hl => ?_)
          refine lv_aload_nN hx hb dX0_judge_37 rfl (lv_at hl 1 rfl) ?_
          refine lv_ifnullN (tgt := 100) hx hb dX0_judge_38 (by decide) ?_
          refine lv_iinc (v := (nI (k2 + 1))) (lv' := [(2, .int (nI (k2 + 1))), (4, .int 0), (3, .null), (1, .ref pq), (0, .ref (a 4))]) hx hb dX0_judge_100 hl (k := 2) rfl (nI_1 k2) (by decide) rfl (fun ls hl => ?_)
          refine lv_goto (tgt := 14) hx hb dX0_judge_103 (by decide) ?_
          have hsk : sumN (fw K (bl K g) dr) (k2 + 1) = sumN (fw K (bl K g) dr) k2 + fw K (bl K g) dr k2 := rfl
          refine W.widen (k := c2) (n := (6 * c2)) (by show c2 ≤ _; omega) (by show (6 * c2) ≤ _; omega) ?_
          have hO : OKP G h0 a (upd (upd (upd (upd (upd (upd (upd (upd (upd (upd F 2 (nI sz)) 5 (nI cs2)) 6 (nI rg2)) 7 hd2) 8 dp2) 12 vr2) 13 as2) 14 wt2) 15 wf2) 16 ls2) (updR (updR (updR R 2 (.ref pq)) 3 (mv2)) 4 (lv2)) Z B2 J K2 w := hO.to rfl
          exact ih_k (k2 + 1) K2 B2 cs2 rg2 as2 wt2 wf2 vr2 hd2 dp2 ls2 mv2 lv2 c2 _ _ _ _ (by omega) (by omega) hbx2 hmt2 ((show Thx (upd F 2 (nI sz)) (upd (upd (upd (upd (upd (upd (upd (upd (upd (upd F 2 (nI sz)) 5 (nI cs2)) 6 (nI rg2)) 7 hd2) 8 dp2) 12 vr2) 13 as2) 14 wt2) 15 wf2) 16 ls2) B B2 from (Thx.f (Thx.f (Thx.f (Thx.f (Thx.f (Thx.f (Thx.f (Thx.f (Thx.f (Bth.thx hbb2) (by omega)) (by omega)) (by omega)) (by omega)) (by omega)) (by omega)) (by omega)) (by omega)) (by omega))).2) hng2 (by omega) (by omega) hP hD hS hO (lv_sub hl [0, 3, 4] rfl)
        · have hl : lv_has ls 5 [(2, .int (nI k2)), (1, .ref pq), (0, .ref (a 4))] := hl
          refine W.eq (g2 := F0 m 33 ls [.ref d28]) rfl ?_
          have hf29 : K2.1 d28 = 4 := h26 d28 rfl
          obtain ⟨k9, hk9, hn9, he9⟩ := h27 d28 rfl
          have hk9e : k2 = k9 := (nI_clamp (by omega)).symm.trans ((congrArg Int32.toNatClampNeg hn9).trans (nI_clamp (by omega)))
          subst hk9e
          have he0 : K.2.2.2.2.1 dr k2 = some d28 := by rw [← (hbx2.1 dr (by rw [hpg.2.2.2.1]; decide)).2.2.2.2.1]; exact he9
          have hdT : K.1 d28 = 4 := (BdX.old hbx2 hf29 (by decide) (by decide)).2
          obtain ⟨lm, hflm, htlm, hrlm, holm⟩ := (hwp.2.2.1 d28 hdT).2.1
          obtain ⟨nlm, itlm, cplm, hlclm, hnblm, hcblm⟩ := hwp.2.1 lm htlm
          rw [hrlm] at hlclm hnblm
          have hnblm : nlm ≤ 30 := hnblm
          have hlclm : LsC G K lm 3 nlm itlm cplm := hlclm
          have hfw : fw K (bl K g) dr k2 = sumN (fun i => bl K g (itlm i)) nlm := (fw_of he0 hflm).trans (lw_of hlclm)
          have hmk : sumN (fw K (bl K g) dr) (k2 + 1) ≤ sumN (fw K (bl K g) dr) nd := sumN_mono (by omega)
          have hmq : sumN (fw K (bl K g) dr) (k2 + 1) = sumN (fw K (bl K g) dr) k2 + fw K (bl K g) dr k2 := rfl
          have hf30 : K2.1 lm = 5 := BdX.T hbx2 htlm (by decide)
          have hf31 : K2.2.2.1 9 d28 = some lm := (BdX.C hbx2 (by rw [hdT]; decide) 9).trans hflm
          refine lv_astore_n (lv' := [(3, .ref d28), (2, .int (nI k2)), (1, .ref pq), (0, .ref (a 4))]) hx hb dX0_judge_33 rfl hl (by decide) rfl (fun ls hl => ?_)
          refine lv_iconst (v := 0) hx hb dX0_judge_34 (by decide) ?_
          refine lv_istore (lv' := [(4, .int 0), (3, .ref d28), (2, .int (nI k2)), (1, .ref pq), (0, .ref (a 4))]) hx hb dX0_judge_35 hl (by decide) rfl (fun ls hl => ?_)
          have loop_i : ∀ (n_i : Nat) (i3 : Nat) (K3 : PK) (B3 : Nat → Nat → Int32) (cs3 : Nat) (rg3 : Nat) (as3 : Int32) (wt3 : Int32) (wf3 : Int32) (vr3 : Int32) (hd3 : Int32) (dp3 : Int32) (ls3 : Int32) (mv3 : Value) (lv3 : Value) (c3 : Nat) (H : Heap) (locs : List Loc) (ls : Array Slot) (w : va_W), i3 ≤ nlm → nlm + 1 ≤ i3 + n_i → (BdX K K3) → (MtB K3) → (Bth B B3) → (Nng (B3 18)) → (cs3 ≤ 10000 ∧ rg3 ≤ 625) → (c3 ≤ sumN (fw K (bl K g) dr) k2 + sumN (fun i => bl K g (itlm i)) i3) → va_P G.1 pCl w H → va_D A w → va_S A s.heap H locs → OKP G h0 a (upd (upd (upd (upd (upd (upd (upd (upd (upd (upd F 2 (nI sz)) 5 (nI cs3)) 6 (nI rg3)) 7 hd3) 8 dp3) 12 vr3) 13 as3) 14 wt3) 15 wf3) 16 ls3) (updR (updR (updR R 2 (.ref pq)) 3 (mv3)) 4 (lv3)) Z B3 J K3 w → lv_has ls 5 [(4, .int (nI i3)), (3, .ref d28), (2, .int (nI k2)), (1, .ref pq), (0, .ref (a 4))] → W p l e (headSpec (Cond.code yX0_judge cX0_judge 5 none :: pw) ({ frames := (1210), cells := (s9 + 1), slots := (6 * s9 + 6), locals := (47500) } : Room)).room s m ([.ref (a 4), .ref pq] : List Value).toArray below meth c H locs c3 (6 * c3) (vx_MQ below (pQn G A (fun (v : Option Value) (u : va_W × (PK × (Nat → Nat → Int32) × Nat × Nat × Int32 × Int32 × Int32 × Int32 × Int32 × Int32 × Int32 × Value × Value)) => v = none ∧ (BdX K u.2.1) ∧ (MtB u.2.1) ∧ (Bth B u.2.2.1) ∧ (u.2.2.2.1 ≤ 10000 ∧ u.2.2.2.2.1 ≤ 625) ∧ (OKP G h0 a (upd (upd (upd (upd (upd (upd (upd (upd (upd (upd F 2 (nI sz)) 5 (nI u.2.2.2.1)) 6 (nI u.2.2.2.2.1)) 7 u.2.2.2.2.2.2.2.2.2.1) 8 u.2.2.2.2.2.2.2.2.2.2.1) 12 u.2.2.2.2.2.2.2.2.1) 13 u.2.2.2.2.2.1) 14 u.2.2.2.2.2.2.1) 15 u.2.2.2.2.2.2.2.1) 16 u.2.2.2.2.2.2.2.2.2.2.2.1) (updR (updR (updR R 2 (.ref pq)) 3 (u.2.2.2.2.2.2.2.2.2.2.2.2.1)) 4 (u.2.2.2.2.2.2.2.2.2.2.2.2.2)) Z u.2.2.1 J u.2.1 u.1)) (fun u => u.1) (fun (u : va_W × (PK × (Nat → Nat → Int32) × Nat × Nat × Int32 × Int32 × Int32 × Int32 × Int32 × Int32 × Int32 × Value × Value)) => s9) (fun (u : va_W × (PK × (Nat → Nat → Int32) × Nat × Nat × Int32 × Int32 × Int32 × Int32 × Int32 × Int32 × Int32 × Value × Value)) => (6 * s9))) (pXX G A (fun (u : va_W × (Nat → Int32) × (Nat → Value) × (Nat → Nat → Int32)) => ThQ G h0 a (upd F 2 (nI sz)) R Z B J u) (fun u => u.1)) ([.ref (a 4), .ref pq] : List Value).toArray s ({ frames := (1210), cells := (s9 + 1), slots := (6 * s9 + 6), locals := (47500) } : Room).cells ({ frames := (1210), cells := (s9 + 1), slots := (6 * s9 + 6), locals := (47500) } : Room).slots A) (F0 m 37 ls []) := by
            intro n_i
            induction n_i with
            | zero => intro i3 K3 B3 cs3 rg3 as3 wt3 wf3 vr3 hd3 dp3 ls3 mv3 lv3 c3 H locs ls w hk_i hn_i; omega
            | succ n_i ih_i =>
              intro i3 K3 B3 cs3 rg3 as3 wt3 wf3 vr3 hd3 dp3 ls3 mv3 lv3 c3 H locs ls w hk_i hn_i hbx3 hmt3 hbb3 hng3 hcs3 hc3 hP hD hS hO hl
              have hf32 : K3.1 pq = 7 := (BdX.T hbx3 hp1 (by decide))
              have hf33 : K3.2.2.1 18 pq = some (a 1) := (BdX.C hbx3 (by rw [hp1]; decide) 18).trans hp2
              have hf34 : K3.2.2.1 14 pq = some dr := (BdX.C hbx3 (by rw [hp1]; decide) 14).trans hp3
              have hf35 : K3.1 dr = 8 := (BdX.T hbx3 hp4 (by decide))
              have hf36 : K3.2.2.1 15 pq = some ml := (BdX.C hbx3 (by rw [hp1]; decide) 15).trans hp5
              have hf37 : K3.1 ml = 5 := (BdX.T hbx3 hp6 (by decide))
              have hf38 : K3.2.1 24 pq = (nI nd) := (BdX.I hbx3 (by rw [hp1]; decide) (by decide)).trans hp8
              have hf39 : K3.1 d28 = 4 := (BdX.T hbx3 hdT (by decide))
              have hf40 : K3.1 lm = 5 := (BdX.T hbx3 htlm (by decide))
              have hf41 : K3.2.2.1 9 d28 = some lm := (BdX.C hbx3 (by rw [hdT]; decide) 9).trans hflm
              have hmi3 : sumN (fun i => bl K g (itlm i)) i3 ≤ sumN (fun i => bl K g (itlm i)) nlm := sumN_mono (by omega)
              refine lv_aload_n hx hb dX0_judge_37 rfl (lv_at hl 1 rfl) ?_
              refine lv_ifnull hx hb dX0_judge_38 ?_
              refine lv_iload hx hb dX0_judge_41 (lv_at hl 0 rfl) ?_
              refine lv_aload_n hx hb dX0_judge_43 rfl (lv_at hl 1 rfl) ?_
              refine p_get (v := .ref lm) (C := RX2) (Tc := TX2) (N := 13) (ci := 2) hx hb hq pin_wsX20 hown hE hP hO (by rw [hf39]; decide) (rep_4 hf39) rfl 8 (by decide) (hq _ pw_365) (fun _ h9 => h9) (congrArg (fun z => some (va_rf z)) hf41) dX0_judge_44 ?_
              have hO : OKP G h0 a (upd (upd (upd (upd (upd (upd (upd (upd (upd (upd F 2 (nI sz)) 5 (nI cs3)) 6 (nI rg3)) 7 hd3) 8 dp3) 12 vr3) 13 as3) 14 wt3) 15 wf3) 16 ls3) (updR (updR (updR R 2 (.ref pq)) 3 (mv3)) 4 (lv3)) Z B3 J K3 w := hO.to rfl
              obtain ⟨qr45, hqr46⟩ := p_recv hO (by rw [hf40]; decide) (rep_5 hf40)
              refine pc_V0 (G := G) (As := []) (rest := [.int (nI i3)]) hx hb hml hown hq hE hX pX0_al hP hD hS hA hl.1 (L_size l G h0 a (upd (upd (upd (upd (upd (upd (upd (upd (upd (upd F 2 (nI sz)) 5 (nI cs3)) 6 (nI rg3)) 7 hd3) 8 dp3) 12 vr3) 13 as3) 14 wt3) 15 wf3) 16 ls3) (updR (updR (updR R 2 (.ref pq)) 3 (mv3)) 4 (lv3)) Z B3 J K3 w lm 3 nlm itlm (BdX.ls hbx3 (by decide) hlclm).ls hO) (gV pw_86 pw_87 pw_88 pw_32 pw_16) hV_Jx4a65c_size_8abf5 qr45 10 hqr46 rfl rfl rfl (Nat.le_of_ble_eq_true rfl) dX0_judge_47 ⟨(by show c3 + 0 ≤ (s9 + 1); omega), (by show (6 * c3) + 0 ≤ (6 * s9 + 6); omega)⟩ ⟨(by show 2 + 1 ≤ (1210); omega), (by show 8 + (1 + 11) + 60 ≤ (47500); omega)⟩ (fun v44 u42 H locs hw43 hP hD hS => ?_)
              obtain ⟨w, _⟩ := u42
              obtain ⟨hw43, hO⟩ := hw43
              obtain rfl : v44 = some (.int (nI nlm)) := hw43
              have hO : OKP G h0 a (upd (upd (upd (upd (upd (upd (upd (upd (upd (upd F 2 (nI sz)) 5 (nI cs3)) 6 (nI rg3)) 7 hd3) 8 dp3) 12 vr3) 13 as3) 14 wt3) 15 wf3) 16 ls3) (updR (updR (updR R 2 (.ref pq)) 3 (mv3)) 4 (lv3)) Z B3 J K3 w := hO.to rfl
              refine W.widen (k := c3) (n := (6 * c3)) (by show c3 + 0 ≤ c3; omega) (by show (6 * c3) + 0 ≤ (6 * c3); omega) ?_
              refine W.eq (g2 := F0 m 50 ls [.int (nI nlm), .int (nI i3)]) rfl ?_
              refine lv_icmp_ge (tgt := 100) hx hb dX0_judge_50 (by decide) (fun c47 => ?_) (fun c47 => ?_)
              · have n48 : nlm ≤ i3 := (nI_leI (a := nlm) (b := i3) (by omega) (by omega)).mp c47
                refine lv_iinc (v := (nI (k2 + 1))) (lv' := [(2, .int (nI (k2 + 1))), (4, .int (nI i3)), (3, .ref d28), (1, .ref pq), (0, .ref (a 4))]) hx hb dX0_judge_100 hl (k := 2) rfl (nI_1 k2) (by decide) rfl (fun ls hl => ?_)
                refine lv_goto (tgt := 14) hx hb dX0_judge_103 (by decide) ?_
                have hsk : sumN (fw K (bl K g) dr) (k2 + 1) = sumN (fw K (bl K g) dr) k2 + fw K (bl K g) dr k2 := rfl
                refine W.widen (k := c3) (n := (6 * c3)) (by show c3 ≤ _; omega) (by show (6 * c3) ≤ _; omega) ?_
                have hO : OKP G h0 a (upd (upd (upd (upd (upd (upd (upd (upd (upd (upd F 2 (nI sz)) 5 (nI cs3)) 6 (nI rg3)) 7 hd3) 8 dp3) 12 vr3) 13 as3) 14 wt3) 15 wf3) 16 ls3) (updR (updR (updR R 2 (.ref pq)) 3 (mv3)) 4 (lv3)) Z B3 J K3 w := hO.to rfl
                exact ih_k (k2 + 1) K3 B3 cs3 rg3 as3 wt3 wf3 vr3 hd3 dp3 ls3 mv3 lv3 c3 _ _ _ _ (by omega) (by omega) hbx3 hmt3 ((show Thx (upd F 2 (nI sz)) (upd (upd (upd (upd (upd (upd (upd (upd (upd (upd F 2 (nI sz)) 5 (nI cs3)) 6 (nI rg3)) 7 hd3) 8 dp3) 12 vr3) 13 as3) 14 wt3) 15 wf3) 16 ls3) B B3 from (Thx.f (Thx.f (Thx.f (Thx.f (Thx.f (Thx.f (Thx.f (Thx.f (Thx.f (Bth.thx hbb3) (by omega)) (by omega)) (by omega)) (by omega)) (by omega)) (by omega)) (by omega)) (by omega)) (by omega))).2) hng3 (by omega) (by omega) hP hD hS hO (lv_sub hl [0, 3, 4] rfl)
              · have n49 : ¬ (nlm ≤ i3) := fun h9 => c47 ((nI_leI (a := nlm) (b := i3) (by omega) (by omega)).mpr h9)
                refine lv_aload_n hx hb dX0_judge_53 rfl (lv_at hl 4 rfl) ?_
                refine lv_aload_n hx hb dX0_judge_54 rfl (lv_at hl 1 rfl) ?_
                refine p_get (v := .ref lm) (C := RX2) (Tc := TX2) (N := 13) (ci := 2) hx hb hq pin_wsX20 hown hE hP hO (by rw [hf39]; decide) (rep_4 hf39) rfl 8 (by decide) (hq _ pw_365) (fun _ h9 => h9) (congrArg (fun z => some (va_rf z)) hf41) dX0_judge_55 ?_
                refine lv_iload hx hb dX0_judge_58 (lv_at hl 0 rfl) ?_
                have hO : OKP G h0 a (upd (upd (upd (upd (upd (upd (upd (upd (upd (upd F 2 (nI sz)) 5 (nI cs3)) 6 (nI rg3)) 7 hd3) 8 dp3) 12 vr3) 13 as3) 14 wt3) 15 wf3) 16 ls3) (updR (updR (updR R 2 (.ref pq)) 3 (mv3)) 4 (lv3)) Z B3 J K3 w := hO.to rfl
                obtain ⟨qr53, hqr54⟩ := p_recv hO (by rw [hf40]; decide) (rep_5 hf40)
                refine pc_V0 (G := G) (As := [.int (nI i3)]) (rest := [.ref (a 4)]) hx hb hml hown hq hE hX pX0_al hP hD hS hA hl.1 (L_get l G h0 a (upd (upd (upd (upd (upd (upd (upd (upd (upd (upd F 2 (nI sz)) 5 (nI cs3)) 6 (nI rg3)) 7 hd3) 8 dp3) 12 vr3) 13 as3) 14 wt3) 15 wf3) 16 ls3) (updR (updR (updR R 2 (.ref pq)) 3 (mv3)) 4 (lv3)) Z B3 J K3 w lm 3 nlm itlm i3 (BdX.ls hbx3 (by decide) hlclm).ls (by omega) hO) (gV pw_89 pw_90 pw_91 pw_32 pw_25) hV_Jx4a65c_get_915e3 qr53 10 hqr54 rfl rfl rfl (Nat.le_of_ble_eq_true rfl) dX0_judge_60 ⟨(by show c3 + 0 ≤ (s9 + 1); omega), (by show (6 * c3) + 0 ≤ (6 * s9 + 6); omega)⟩ ⟨(by show 4 + 1 ≤ (1210); omega), (by show 8 + (2 + 11) + 103 ≤ (47500); omega)⟩ (fun v52 u50 H locs hw51 hP hD hS => ?_)
                obtain ⟨w, _⟩ := u50
                obtain ⟨hw51, hO⟩ := hw51
                obtain rfl : v52 = some (.ref (itlm i3)) := hw51
                have hO : OKP G h0 a (upd (upd (upd (upd (upd (upd (upd (upd (upd (upd F 2 (nI sz)) 5 (nI cs3)) 6 (nI rg3)) 7 hd3) 8 dp3) 12 vr3) 13 as3) 14 wt3) 15 wf3) 16 ls3) (updR (updR (updR R 2 (.ref pq)) 3 (mv3)) 4 (lv3)) Z B3 J K3 w := hO.to rfl
                refine W.widen (k := c3) (n := (6 * c3)) (by show c3 + 0 ≤ c3; omega) (by show (6 * c3) + 0 ≤ (6 * c3); omega) ?_
                refine W.eq (g2 := F0 m 63 ls [.ref (itlm i3), .ref (a 4)]) rfl ?_
                have hf55 : K3.1 (itlm i3) = 3 := (BdX.ls hbx3 (by decide) hlclm).T (by omega)
                have hmi : K.1 (itlm i3) = 3 := hlclm.itm (by omega)
                have hsi : sumN (fun i => bl K g (itlm i)) (i3 + 1) = sumN (fun i => bl K g (itlm i)) i3 + bl K g (itlm i3) := rfl
                have hmi4 : sumN (fun i => bl K g (itlm i)) (i3 + 1) ≤ sumN (fun i => bl K g (itlm i)) nlm := sumN_mono (by omega)
                refine p_cast (C := RX6) (Tc := TX6) (N := 12) (ci := 12) hx hb hown (hq _ pw_366) hE hP hO (by rw [hf55]; decide) (rep_3 hf55) rfl dX0_judge_63 ?_
                have hO : OKP G h0 a (upd (upd (upd (upd (upd (upd (upd (upd (upd (upd (upd (upd (upd F 2 (nI sz)) 5 (nI cs3)) 6 (nI rg3)) 7 hd3) 8 dp3) 12 vr3) 13 as3) 14 wt3) 15 wf3) 16 ls3) 2 (nI sz)) 5 (nI cs3)) 6 (nI rg3)) (updR (updR (updR R 2 (.ref pq)) 3 (mv3)) 4 (lv3)) Z B3 J K3 w := hO.to rfl
                obtain ⟨_, qr59, hqr60⟩ := hO.2.1 24 _ (sg_24 G h0 a _ _ _ _ _)
                refine pn_V0 (G := G) (As := [.ref (itlm i3)]) (rest := []) hx hb hml hown hq hE hX pX0_al hP hD hS hA hl.1 (B_beginMethod l G h0 a (upd (upd (upd (upd (upd (upd (upd (upd (upd (upd F 2 (nI sz)) 5 (nI cs3)) 6 (nI rg3)) 7 hd3) 8 dp3) 12 vr3) 13 as3) 14 wt3) 15 wf3) 16 ls3) (updR (updR (updR R 2 (.ref pq)) 3 (mv3)) 4 (lv3)) Z B3 J K3 w (itlm i3) cs3 rg3 sz g (by omega) (by omega) (by omega) (BdX.wp hbx3 hmt3 hwp) hf55 hng3 hO hl0) (gV pw_370 pw_371 pw_372 pw_63 pw_98) hV_X0_beginMethod qr59 0 hqr60 rfl rfl rfl (Nat.le_of_ble_eq_true rfl) dX0_judge_66 ⟨(by show c3 + 1 ≤ (s9 + 1); omega), (by show (6 * c3) + 6 ≤ (6 * s9 + 6); omega)⟩ ⟨(by show 8 + 1 ≤ (1210); omega), (by show 8 + (5 + 11) + 145 ≤ (47500); omega)⟩ (fun v58 u56 H locs hw57 hP hD hS => ?_) (fun ux ce9 q9 H9 locs9 hux hP9 hD9 hS9 hce hcv hcl => pb_out ux (ThQ.up (Thx.same (Thx.same (Thx.same (Thx.f (Thx.f (Thx.f (Thx.f (Thx.f (Thx.f (Thx.f (Thx.f (Thx.f (Bth.thx hbb3) (by omega)) (by omega)) (by omega)) (by omega)) (by omega)) (by omega)) (by omega)) (by omega)) (by omega)) rfl) rfl) rfl) (show RhX R (updR (updR (updR R 2 (.ref pq)) 3 (mv3)) 4 (lv3)) from fun k9 hk9 => by unfold updR; simp only [show ¬ k9 = 1 by omega, show ¬ k9 = 2 by omega, show ¬ k9 = 3 by omega, show ¬ k9 = 4 by omega, if_false]) hux) hnt hlocks hce hcv hcl hP9 hD9 hS9 (by show c3 + 1 ≤ (s9 + 1); omega) (by show (6 * c3) + 6 ≤ (6 * s9 + 6); omega))
                obtain ⟨w, K61, B62, vr63, dp64, as65⟩ := u56
                obtain ⟨hw57, h66, h67, h68, h69, hO⟩ := hw57
                have h66 : BdX K3 K61 := h66
                have h67 : MtB K61 := h67
                have h68 : Bth B3 B62 := h68
                have h69 : vr63 ≤ 30 ∧ dp64 ≤ 1000 := h69
                obtain rfl : v58 = none := hw57
                have hf70 : K61.1 pq = 7 := (BdX.T h66 hf32 (by decide))
                have hf71 : K61.2.2.1 18 pq = some (a 1) := (BdX.C h66 (by rw [hf32]; decide) 18).trans hf33
                have hf72 : K61.2.2.1 14 pq = some dr := (BdX.C h66 (by rw [hf32]; decide) 14).trans hf34
                have hf73 : K61.1 dr = 8 := (BdX.T h66 hf35 (by decide))
                have hf74 : K61.2.2.1 15 pq = some ml := (BdX.C h66 (by rw [hf32]; decide) 15).trans hf36
                have hf75 : K61.1 ml = 5 := (BdX.T h66 hf37 (by decide))
                have hf76 : K61.2.1 24 pq = (nI nd) := (BdX.I h66 (by rw [hf32]; decide) (by decide)).trans hf38
                have hf77 : K61.1 d28 = 4 := (BdX.T h66 hf39 (by decide))
                have hf78 : K61.1 lm = 5 := (BdX.T h66 hf40 (by decide))
                have hf79 : K61.2.2.1 9 d28 = some lm := (BdX.C h66 (by rw [hf39]; decide) 9).trans hf41
                have hf80 : K61.1 (itlm i3) = 3 := (BdX.T h66 hf55 (by decide))
                have hO : OKP G h0 a (upd (upd (upd (upd (upd (upd (upd (upd (upd (upd F 2 (nI sz)) 5 (nI cs3)) 6 (nI rg3)) 7 (nI (vr63 + 1))) 8 (nI dp64)) 12 (nI vr63)) 13 as65) 14 wt3) 15 wf3) 16 0) (updR (updR (updR R 2 (.ref pq)) 3 (.ref (itlm i3))) 4 (.null)) Z B62 J K61 w := hO.to rfl
                refine W.widen (k := c3) (n := (6 * c3)) (by show c3 + 0 ≤ c3; omega) (by show (6 * c3) + 0 ≤ (6 * c3); omega) ?_
                refine W.eq (g2 := F0 m 69 ls []) rfl ?_
                have hbx81 := BdX.trans hbx3 h66
                have hbb82 : Bth B B62 := Bth.trans (show Thx (upd F 2 (nI sz)) (upd (upd (upd (upd (upd (upd (upd (upd (upd (upd F 2 (nI sz)) 5 (nI cs3)) 6 (nI rg3)) 7 hd3) 8 dp3) 12 vr3) 13 as3) 14 wt3) 15 wf3) 16 ls3) B B3 from (Thx.f (Thx.f (Thx.f (Thx.f (Thx.f (Thx.f (Thx.f (Thx.f (Thx.f (Bth.thx hbb3) (by omega)) (by omega)) (by omega)) (by omega)) (by omega)) (by omega)) (by omega)) (by omega)) (by omega))).2 h68
                have hmt83 := h67
                have hng84 : Nng (B62 18) := h68.2 hng3
                obtain ⟨ob, hob85⟩ : ∃ z : Option Nat, K61.2.2.1 7 (itlm i3) = z := ⟨_, rfl⟩
                refine W.eq (g2 := F0 m 69 ls []) rfl ?_
                refine lv_aload_n hx hb dX0_judge_69 rfl (lv_at hl 4 rfl) ?_
                refine c_get (v := .ref (itlm i3)) (C := RX0) (Tc := TX0) (N := 13) (ci := 0) hx hb hq pin_wsX00 hown hE hP hO 24 (sg_24 G h0 a _ _ _ _ _) rfl 7 (by decide) (hq _ pw_72) (fun _ h9 => h9) rfl dX0_judge_70 ?_
                rcases ho87 : K61.2.2.1 7 (itlm i3) with _ | o86
                · skip
                  refine p_get (v := .null) (C := RX6) (Tc := TX6) (N := 12) (ci := 12) hx hb hq pin_wsX60 hown hE hP hO (by rw [hf80]; decide) (rep_3 hf80) rfl 5 (by decide) (hq _ pw_359) (fun _ h9 => h9) (congrArg (fun z => some (va_rf z)) ho87) dX0_judge_73 ?_
                  refine lv_ifnullN (tgt := 94) hx hb dX0_judge_76 (by decide) ?_
                  refine lv_iinc (v := (nI (i3 + 1))) (lv' := [(4, .int (nI (i3 + 1))), (3, .ref d28), (2, .int (nI k2)), (1, .ref pq), (0, .ref (a 4))]) hx hb dX0_judge_94 hl (k := 0) rfl (nI_1 i3) (by decide) rfl (fun ls hl => ?_)
                  refine lv_goto (tgt := 37) hx hb dX0_judge_97 (by decide) ?_
                  refine W.widen (k := c3) (n := (6 * c3)) (by show c3 ≤ _; omega) (by show (6 * c3) ≤ _; omega) ?_
                  have hO : OKP G h0 a (upd (upd (upd (upd (upd (upd (upd (upd (upd (upd F 2 (nI sz)) 5 (nI cs3)) 6 (nI rg3)) 7 (nI (vr63 + 1))) 8 (nI dp64)) 12 (nI vr63)) 13 as65) 14 wt3) 15 wf3) 16 (0 : Int32)) (updR (updR (updR R 2 (.ref pq)) 3 ((Value.ref (itlm i3)))) 4 (Value.null)) Z B62 J K61 w := hO.to rfl
                  exact ih_i (i3 + 1) K61 B62 cs3 rg3 as65 wt3 wf3 (nI vr63) (nI (vr63 + 1)) (nI dp64) (0 : Int32) (Value.ref (itlm i3)) Value.null c3 _ _ _ _ (by omega) (by omega) hbx81 hmt83 ((show Thx (upd F 2 (nI sz)) (upd (upd (upd (upd (upd (upd (upd (upd (upd (upd F 2 (nI sz)) 5 (nI cs3)) 6 (nI rg3)) 7 (nI (vr63 + 1))) 8 (nI dp64)) 12 (nI vr63)) 13 as65) 14 wt3) 15 wf3) 16 0) B B62 from (Thx.f (Thx.f (Thx.f (Thx.f (Thx.f (Thx.f (Thx.f (Thx.f (Thx.f (Bth.thx hbb82) (by omega)) (by omega)) (by omega)) (by omega)) (by omega)) (by omega)) (by omega)) (by omega)) (by omega))).2) hng84 (by omega) (by omega) hP hD hS hO (lv_sub hl [0, 1, 2, 3, 4] rfl)
                · skip
                  refine p_get (v := .ref o86) (C := RX6) (Tc := TX6) (N := 12) (ci := 12) hx hb hq pin_wsX60 hown hE hP hO (by rw [hf80]; decide) (rep_3 hf80) rfl 5 (by decide) (hq _ pw_359) (fun _ h9 => h9) (congrArg (fun z => some (va_rf z)) ho87) dX0_judge_73 ?_
                  refine lv_ifnull hx hb dX0_judge_76 ?_
                  refine lv_aload_n hx hb dX0_judge_79 rfl (lv_at hl 4 rfl) ?_
                  refine lv_aload_n hx hb dX0_judge_80 rfl (lv_at hl 4 rfl) ?_
                  refine c_get (v := .ref (itlm i3)) (C := RX0) (Tc := TX0) (N := 13) (ci := 0) hx hb hq pin_wsX00 hown hE hP hO 24 (sg_24 G h0 a _ _ _ _ _) rfl 7 (by decide) (hq _ pw_72) (fun _ h9 => h9) rfl dX0_judge_81 ?_
                  refine p_get (v := .ref o86) (C := RX6) (Tc := TX6) (N := 12) (ci := 12) hx hb hq pin_wsX60 hown hE hP hO (by rw [hf80]; decide) (rep_3 hf80) rfl 5 (by decide) (hq _ pw_359) (fun _ h9 => h9) (congrArg (fun z => some (va_rf z)) ho87) dX0_judge_84 ?_
                  have hmo := ((BdX.wp hbx81 hmt83 hwp).2.2.2 (itlm i3) hf80).2.2.1 o86 ho87
                  have hbT := hmo.1
                  have hbl : bl K g (itlm i3) = rE (g 2 o86) - rS (g 2 o86) - 2 := bl_of (((BdX.C hbx81 (by rw [hmi]; decide) 7).symm).trans ho87)
                  have hO : OKP G h0 a (upd (upd (upd (upd (upd (upd (upd (upd (upd (upd (upd (upd (upd (upd (upd (upd (upd F 2 (nI sz)) 5 (nI cs3)) 6 (nI rg3)) 7 (nI (vr63 + 1))) 8 (nI dp64)) 12 (nI vr63)) 13 as65) 14 wt3) 15 wf3) 16 0) 2 (nI sz)) 5 (nI cs3)) 6 (nI rg3)) 7 (nI (vr63 + 1))) 8 (nI dp64)) 12 (nI vr63)) 16 0) (updR (updR (updR (updR (updR (updR R 2 (.ref pq)) 3 (.ref (itlm i3))) 4 (.null)) 2 (.ref pq)) 3 (.ref (itlm i3))) 4 (va_rf none)) Z B62 J K61 w := hO.to rfl
                  obtain ⟨_, qr91, hqr92⟩ := hO.2.1 24 _ (sg_24 G h0 a _ _ _ _ _)
                  refine pn_V0 (G := G) (As := [.ref o86]) (rest := []) hx hb hml hown hq hE hX pX0_al hP hD hS hA hl.1 (B_block l G h0 a (upd (upd (upd (upd (upd (upd (upd (upd (upd (upd F 2 (nI sz)) 5 (nI cs3)) 6 (nI rg3)) 7 (nI (vr63 + 1))) 8 (nI dp64)) 12 (nI vr63)) 13 as65) 14 wt3) 15 wf3) 16 0) (updR (updR (updR R 2 (.ref pq)) 3 (.ref (itlm i3))) 4 (.null)) Z B62 J K61 w pq dr ml nd nm cp it s9 o86 (itlm i3) cs3 vr63 sz 231 (vr63 + 1) dp64 rg3 0 none g rk (by omega) (BdX.wp hbx81 hmt83 hwp) (BdX.pt hbx81 hwp hps) (BdX.rko hbx81 hrk) (by omega) (by omega) hng84 hf80 hbT ⟨hmo.2.1, hmo.2.2.1⟩ (by omega) (by omega) (by omega) (fun x9 h9 => by cases h9) hmo.2.2.2 (IhT.all l G _) (IhV.all l G _) hO hl0) (gV pw_307 pw_308 pw_309 pw_63 pw_358) hV_X0_block qr91 0 hqr92 rfl rfl rfl (Nat.le_of_ble_eq_true rfl) dX0_judge_87 ⟨(by show c3 + ((rE (g 2 o86) - rS (g 2 o86) - 2) + 1) ≤ (s9 + 1); omega), (by show (6 * c3) + (6 * (rE (g 2 o86) - rS (g 2 o86) - 2) + 6) ≤ (6 * s9 + 6); omega)⟩ ⟨(by show (5 * 231 + 46) + 1 ≤ (1210); omega), (by show 8 + (5 + 11) + (200 * 231 + 1120) ≤ (47500); omega)⟩ (fun v90 u88 H locs hw89 hP hD hS => ?_) (fun ux ce9 q9 H9 locs9 hux hP9 hD9 hS9 hce hcv hcl => pb_out ux (ThQ.up (Thx.same (Thx.same (Thx.same (Thx.same (Thx.same (Thx.same (Thx.same (Thx.f (Thx.f (Thx.f (Thx.f (Thx.f (Thx.f (Thx.f (Thx.f (Thx.f (Bth.thx hbb82) (by omega)) (by omega)) (by omega)) (by omega)) (by omega)) (by omega)) (by omega)) (by omega)) (by omega)) rfl) rfl) rfl) rfl) rfl) rfl) rfl) (show RhX R (updR (updR (updR (updR (updR (updR R 2 (.ref pq)) 3 (.ref (itlm i3))) 4 (.null)) 2 (.ref pq)) 3 (.ref (itlm i3))) 4 (va_rf none)) from fun k9 hk9 => by unfold updR; simp only [show ¬ k9 = 1 by omega, show ¬ k9 = 2 by omega, show ¬ k9 = 3 by omega, show ¬ k9 = 4 by omega, if_false]) hux) hnt hlocks hce hcv hcl hP9 hD9 hS9 (by show c3 + ((rE (g 2 o86) - rS (g 2 o86) - 2) + 1) ≤ (s9 + 1); omega) (by show (6 * c3) + (6 * (rE (g 2 o86) - rS (g 2 o86) - 2) + 6) ≤ (6 * s9 + 6); omega))
                  obtain ⟨w, K93, B94, cs95, as96, wt97, wf98, dp99, rg100, ls101⟩ := u88
                  obtain ⟨hw89, h102, h103, h104, hO⟩ := hw89
                  have h102 : BdE K61 K93 := h102
                  have h103 : Bth B62 B94 := h103
                  have h104 : cs95 ≤ 10000 ∧ rg100 ≤ 625 ∧ dp99 ≤ 1000 := h104
                  obtain rfl : v90 = none := hw89
                  have hf105 : K93.1 pq = 7 := (BdE.T h102 hf70 (by decide))
                  have hf106 : K93.2.2.1 18 pq = some (a 1) := (BdE.C h102 (by rw [hf70]; decide) 18).trans hf71
                  have hf107 : K93.2.2.1 14 pq = some dr := (BdE.C h102 (by rw [hf70]; decide) 14).trans hf72
                  have hf108 : K93.1 dr = 8 := (BdE.T h102 hf73 (by decide))
                  have hf109 : K93.2.2.1 15 pq = some ml := (BdE.C h102 (by rw [hf70]; decide) 15).trans hf74
                  have hf110 : K93.1 ml = 5 := (BdE.T h102 hf75 (by decide))
                  have hf111 : K93.2.1 24 pq = (nI nd) := (BdE.I h102 (by rw [hf70]; decide) (by decide) (by decide)).trans hf76
                  have hf112 : K93.1 d28 = 4 := (BdE.T h102 hf77 (by decide))
                  have hf113 : K93.1 lm = 5 := (BdE.T h102 hf78 (by decide))
                  have hf114 : K93.2.2.1 9 d28 = some lm := (BdE.C h102 (by rw [hf77]; decide) 9).trans hf79
                  have hf115 : K93.1 (itlm i3) = 3 := (BdE.T h102 hf80 (by decide))
                  have hf116 : K93.2.2.1 7 (itlm i3) = some o86 := (BdE.C h102 (by rw [hf80]; decide) 7).trans ho87
                  have hf117 : K93.1 o86 = 1 := (BdE.T h102 hbT (by decide))
                  have hO : OKP G h0 a (upd (upd (upd (upd (upd (upd (upd (upd (upd (upd F 2 (nI sz)) 5 (nI cs95)) 6 (nI rg100)) 7 (nI (vr63 + 1))) 8 (nI dp99)) 12 (nI vr63)) 13 as96) 14 wt97) 15 wf98) 16 ls101) (updR (updR (updR R 2 (.ref pq)) 3 (.ref (itlm i3))) 4 (.null)) Z B94 J K93 w := hO.to rfl
                  refine W.widen (k := (c3 + (rE (g 2 o86) - rS (g 2 o86) - 2))) (n := ((6 * c3) + (6 * (rE (g 2 o86) - rS (g 2 o86) - 2)))) (by show c3 + (rE (g 2 o86) - rS (g 2 o86) - 2) ≤ (c3 + (rE (g 2 o86) - rS (g 2 o86) - 2)); omega) (by show (6 * c3) + (6 * (rE (g 2 o86) - rS (g 2 o86) - 2)) ≤ ((6 * c3) + (6 * (rE (g 2 o86) - rS (g 2 o86) - 2))); omega) ?_
                  refine W.eq (g2 := F0 m 90 ls []) rfl ?_
                  have hbx118 := BdX.trans hbx81 (BdE.x h102)
                  have hbb119 : Bth B B94 := Bth.trans (show Thx (upd F 2 (nI sz)) (upd (upd (upd (upd (upd (upd (upd (upd (upd (upd F 2 (nI sz)) 5 (nI cs3)) 6 (nI rg3)) 7 (nI (vr63 + 1))) 8 (nI dp64)) 12 (nI vr63)) 13 as65) 14 wt3) 15 wf3) 16 0) B B62 from (Thx.f (Thx.f (Thx.f (Thx.f (Thx.f (Thx.f (Thx.f (Thx.f (Thx.f (Bth.thx hbb82) (by omega)) (by omega)) (by omega)) (by omega)) (by omega)) (by omega)) (by omega)) (by omega)) (by omega))).2 h103
                  have hmt120 := (BdE.mtb h102 hmt83)
                  have hng121 : Nng (B94 18) := h103.2 hng84
                  refine lv_aload_n hx hb dX0_judge_90 rfl (lv_at hl 4 rfl) ?_
                  have hO : OKP G h0 a (upd (upd (upd (upd (upd (upd (upd (upd (upd (upd (upd (upd (upd (upd F 2 (nI sz)) 5 (nI cs95)) 6 (nI rg100)) 7 (nI (vr63 + 1))) 8 (nI dp99)) 12 (nI vr63)) 13 as96) 14 wt97) 15 wf98) 16 ls101) 2 (nI sz)) 5 (nI cs95)) 6 (nI rg100)) 8 (nI dp99)) (updR (updR (updR (updR R 2 (.ref pq)) 3 (.ref (itlm i3))) 4 (.null)) 3 (.ref (itlm i3))) Z B94 J K93 w := hO.to rfl
                  obtain ⟨_, qr125, hqr126⟩ := hO.2.1 24 _ (sg_24 G h0 a _ _ _ _ _)
                  refine pn_V0 (G := G) (As := []) (rest := []) hx hb hml hown hq hE hX pX0_al hP hD hS hA hl.1 (B_endMethod l G h0 a (upd (upd (upd (upd (upd (upd (upd (upd (upd (upd F 2 (nI sz)) 5 (nI cs95)) 6 (nI rg100)) 7 (nI (vr63 + 1))) 8 (nI dp99)) 12 (nI vr63)) 13 as96) 14 wt97) 15 wf98) 16 ls101) (updR (updR (updR R 2 (.ref pq)) 3 (.ref (itlm i3))) 4 (.null)) Z B94 J K93 w (itlm i3) o86 cs95 dp99 rg100 sz g (by omega) (by omega) (by omega) (by omega) (BdX.wp hbx118 hmt120 hwp) hf115 hf116 hf117 hng121 hO hl0) (gV pw_373 pw_374 pw_375 pw_63 pw_363) hV_X0_endMethod qr125 0 hqr126 rfl rfl rfl (Nat.le_of_ble_eq_true rfl) dX0_judge_91 ⟨(by show (c3 + (rE (g 2 o86) - rS (g 2 o86) - 2)) + 1 ≤ (s9 + 1); omega), (by show ((6 * c3) + (6 * (rE (g 2 o86) - rS (g 2 o86) - 2))) + 6 ≤ (6 * s9 + 6); omega)⟩ ⟨(by show 7 + 1 ≤ (1210); omega), (by show 8 + (1 + 11) + 122 ≤ (47500); omega)⟩ (fun v124 u122 H locs hw123 hP hD hS => ?_) (fun ux ce9 q9 H9 locs9 hux hP9 hD9 hS9 hce hcv hcl => pb_out ux (ThQ.up (Thx.same (Thx.same (Thx.same (Thx.same (Thx.f (Thx.f (Thx.f (Thx.f (Thx.f (Thx.f (Thx.f (Thx.f (Thx.f (Bth.thx hbb119) (by omega)) (by omega)) (by omega)) (by omega)) (by omega)) (by omega)) (by omega)) (by omega)) (by omega)) rfl) rfl) rfl) rfl) (show RhX R (updR (updR (updR (updR R 2 (.ref pq)) 3 (.ref (itlm i3))) 4 (.null)) 3 (.ref (itlm i3))) from fun k9 hk9 => by unfold updR; simp only [show ¬ k9 = 1 by omega, show ¬ k9 = 2 by omega, show ¬ k9 = 3 by omega, show ¬ k9 = 4 by omega, if_false]) hux) hnt hlocks hce hcv hcl hP9 hD9 hS9 (by show (c3 + (rE (g 2 o86) - rS (g 2 o86) - 2)) + 1 ≤ (s9 + 1); omega) (by show ((6 * c3) + (6 * (rE (g 2 o86) - rS (g 2 o86) - 2))) + 6 ≤ (6 * s9 + 6); omega))
                  obtain ⟨w, K127, B128, cs129⟩ := u122
                  obtain ⟨hw123, h130, h131, h132, h133, hO⟩ := hw123
                  have h130 : BdX K93 K127 := h130
                  have h131 : MtB K127 := h131
                  have h132 : Bth B94 B128 := h132
                  have h133 : cs129 ≤ 10000 := h133
                  obtain rfl : v124 = none := hw123
                  have hf134 : K127.1 pq = 7 := (BdX.T h130 hf105 (by decide))
                  have hf135 : K127.2.2.1 18 pq = some (a 1) := (BdX.C h130 (by rw [hf105]; decide) 18).trans hf106
                  have hf136 : K127.2.2.1 14 pq = some dr := (BdX.C h130 (by rw [hf105]; decide) 14).trans hf107
                  have hf137 : K127.1 dr = 8 := (BdX.T h130 hf108 (by decide))
                  have hf138 : K127.2.2.1 15 pq = some ml := (BdX.C h130 (by rw [hf105]; decide) 15).trans hf109
                  have hf139 : K127.1 ml = 5 := (BdX.T h130 hf110 (by decide))
                  have hf140 : K127.2.1 24 pq = (nI nd) := (BdX.I h130 (by rw [hf105]; decide) (by decide)).trans hf111
                  have hf141 : K127.1 d28 = 4 := (BdX.T h130 hf112 (by decide))
                  have hf142 : K127.1 lm = 5 := (BdX.T h130 hf113 (by decide))
                  have hf143 : K127.2.2.1 9 d28 = some lm := (BdX.C h130 (by rw [hf112]; decide) 9).trans hf114
                  have hf144 : K127.1 (itlm i3) = 3 := (BdX.T h130 hf115 (by decide))
                  have hf145 : K127.2.2.1 7 (itlm i3) = some o86 := (BdX.C h130 (by rw [hf115]; decide) 7).trans hf116
                  have hf146 : K127.1 o86 = 1 := (BdX.T h130 hf117 (by decide))
                  have hO : OKP G h0 a (upd (upd (upd (upd (upd (upd (upd (upd (upd (upd F 2 (nI sz)) 5 (nI cs129)) 6 (nI rg100)) 7 (nI (vr63 + 1))) 8 (nI dp99)) 12 (nI vr63)) 13 as96) 14 wt97) 15 wf98) 16 ls101) (updR (updR (updR R 2 (.ref pq)) 3 (.ref (itlm i3))) 4 (.null)) Z B128 J K127 w := hO.to rfl
                  refine W.widen (k := (c3 + (rE (g 2 o86) - rS (g 2 o86) - 2))) (n := ((6 * c3) + (6 * (rE (g 2 o86) - rS (g 2 o86) - 2)))) (by show (c3 + (rE (g 2 o86) - rS (g 2 o86) - 2)) + 0 ≤ (c3 + (rE (g 2 o86) - rS (g 2 o86) - 2)); omega) (by show ((6 * c3) + (6 * (rE (g 2 o86) - rS (g 2 o86) - 2))) + 0 ≤ ((6 * c3) + (6 * (rE (g 2 o86) - rS (g 2 o86) - 2))); omega) ?_
                  refine W.eq (g2 := F0 m 94 ls []) rfl ?_
                  have hbx147 := BdX.trans hbx118 h130
                  have hbb148 : Bth B B128 := Bth.trans (show Thx (upd F 2 (nI sz)) (upd (upd (upd (upd (upd (upd (upd (upd (upd (upd F 2 (nI sz)) 5 (nI cs95)) 6 (nI rg100)) 7 (nI (vr63 + 1))) 8 (nI dp99)) 12 (nI vr63)) 13 as96) 14 wt97) 15 wf98) 16 ls101) B B94 from (Thx.f (Thx.f (Thx.f (Thx.f (Thx.f (Thx.f (Thx.f (Thx.f (Thx.f (Bth.thx hbb119) (by omega)) (by omega)) (by omega)) (by omega)) (by omega)) (by omega)) (by omega)) (by omega)) (by omega))).2 h132
                  have hmt149 := h131
                  have hng150 : Nng (B128 18) := h132.2 hng121
                  refine lv_iinc (v := (nI (i3 + 1))) (lv' := [(4, .int (nI (i3 + 1))), (3, .ref d28), (2, .int (nI k2)), (1, .ref pq), (0, .ref (a 4))]) hx hb dX0_judge_94 hl (k := 0) rfl (nI_1 i3) (by decide) rfl (fun ls hl => ?_)
                  refine lv_goto (tgt := 37) hx hb dX0_judge_97 (by decide) ?_
                  refine W.widen (k := (c3 + bl K g (itlm i3))) (n := (6 * (c3 + bl K g (itlm i3)))) (by show (c3 + (rE (g 2 o86) - rS (g 2 o86) - 2)) ≤ _; omega) (by show ((6 * c3) + (6 * (rE (g 2 o86) - rS (g 2 o86) - 2))) ≤ _; omega) ?_
                  have hO : OKP G h0 a (upd (upd (upd (upd (upd (upd (upd (upd (upd (upd F 2 (nI sz)) 5 (nI cs129)) 6 (nI rg100)) 7 (nI (vr63 + 1))) 8 (nI dp99)) 12 (nI vr63)) 13 as96) 14 wt97) 15 wf98) 16 ls101) (updR (updR (updR R 2 (.ref pq)) 3 ((Value.ref (itlm i3)))) 4 (Value.null)) Z B128 J K127 w := hO.to rfl
                  exact ih_i (i3 + 1) K127 B128 cs129 rg100 as96 wt97 wf98 (nI vr63) (nI (vr63 + 1)) (nI dp99) ls101 (Value.ref (itlm i3)) Value.null (c3 + bl K g (itlm i3)) _ _ _ _ (by omega) (by omega) hbx147 hmt149 ((show Thx (upd F 2 (nI sz)) (upd (upd (upd (upd (upd (upd (upd (upd (upd (upd F 2 (nI sz)) 5 (nI cs129)) 6 (nI rg100)) 7 (nI (vr63 + 1))) 8 (nI dp99)) 12 (nI vr63)) 13 as96) 14 wt97) 15 wf98) 16 ls101) B B128 from (Thx.f (Thx.f (Thx.f (Thx.f (Thx.f (Thx.f (Thx.f (Thx.f (Thx.f (Bth.thx hbb148) (by omega)) (by omega)) (by omega)) (by omega)) (by omega)) (by omega)) (by omega)) (by omega)) (by omega))).2) hng150 (by omega) (by omega) hP hD hS hO (lv_sub hl [0, 1, 2, 3, 4] rfl)
          refine W.widen (k := c2) (n := (6 * c2)) (by show c2 ≤ _; omega) (by show (6 * c2) ≤ _; omega) ?_
          have hO : OKP G h0 a (upd (upd (upd (upd (upd (upd (upd (upd (upd (upd F 2 (nI sz)) 5 (nI cs2)) 6 (nI rg2)) 7 hd2) 8 dp2) 12 vr2) 13 as2) 14 wt2) 15 wf2) 16 ls2) (updR (updR (updR R 2 (.ref pq)) 3 (mv2)) 4 (lv2)) Z B2 J K2 w := hO.to rfl
          exact loop_i (nlm + 1) 0 K2 B2 cs2 rg2 as2 wt2 wf2 vr2 hd2 dp2 ls2 mv2 lv2 c2 _ _ _ _ (by omega) (by omega) hbx2 hmt2 ((show Thx (upd F 2 (nI sz)) (upd (upd (upd (upd (upd (upd (upd (upd (upd (upd F 2 (nI sz)) 5 (nI cs2)) 6 (nI rg2)) 7 hd2) 8 dp2) 12 vr2) 13 as2) 14 wt2) 15 wf2) 16 ls2) B B2 from (Thx.f (Thx.f (Thx.f (Thx.f (Thx.f (Thx.f (Thx.f (Thx.f (Thx.f (Bth.thx hbb2) (by omega)) (by omega)) (by omega)) (by omega)) (by omega)) (by omega)) (by omega)) (by omega)) (by omega))).2) hng2 (by omega) (by show c2 ≤ sumN (fw K (bl K g) dr) k2 + 0; omega) hP hD hS hO (lv_sub hl [0, 1, 2, 3, 4] rfl)
  refine W.widen (k := 0) (n := (6 * 0)) (by show 0 ≤ _; omega) (by show 0 ≤ _; omega) ?_
  have hO : OKP G h0 a (upd (upd (upd (upd (upd (upd (upd (upd (upd (upd F 2 (nI sz)) 5 (nI 0)) 6 (nI 0)) 7 (F 7)) 8 (F 8)) 12 (F 12)) 13 (F 13)) 14 (F 14)) 15 (F 15)) 16 (F 16)) (updR (updR (updR R 2 (.ref pq)) 3 ((R 3))) 4 ((R 4))) Z B J K w := hO.to rfl
  exact loop_k (nd + 1) 0 K B 0 0 (F 13) (F 14) (F 15) (F 12) (F 7) (F 8) (F 16) (R 3) (R 4) 0 _ _ _ _ (by omega) (by omega) BdX.rfl (MtB.of hwp) ((show Thx (upd F 2 (nI sz)) (upd (upd (upd F 2 (nI sz)) 5 0) 6 0) B B from (Thx.f (Thx.f Thx.rfl (by omega)) (by omega))).2) hng (by omega) (Nat.zero_le _) hP hD hS hO (lv_sub hl [0, 2, 1] rfl)
