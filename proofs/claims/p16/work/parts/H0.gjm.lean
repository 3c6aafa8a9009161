def RpQ (x1 : Int32) (K1 : PK) (pq : Nat) : Prop := x1 = 6 → ¬ K1.2.1 25 pq = 2147483647
theorem odd_ne {r : Int32} (h : (6 : Int32) + 16 * r = 2147483647) : False := by
  have h1 : (16 : Int32) * r = 2147483641 := by
    have z := congrArg (fun y => y - 6) h
    have e : (6 : Int32) + 16 * r - 6 = 16 * r := by rw [Int32.add_comm, Int32.add_sub_cancel]
    have z2 : (6 : Int32) + 16 * r - 6 = 2147483647 - 6 := z
    rw [e] at z2
    exact z2.trans (by decide)
  have h2 := congrArg (fun y => (268435456 : Int32) * y) h1
  have h3 : (268435456 : Int32) * (16 * r) = 0 := by
    rw [← Int32.mul_assoc, show (268435456 : Int32) * 16 = 0 by decide, Int32.zero_mul]
  exact absurd (h3.symm.trans h2) (by decide)
theorem min_ring {a b m r x : Int32} (e1 : m = 16 * r) (e2 : b = 6 + m) (e3 : x = if b < a then b else a) : ¬ x = 2147483647 := fun h => by
  have hb : ¬ b = 2147483647 := fun z => odd_ne (r := r) (by rw [← e1, ← e2]; exact z)
  rw [h] at e3
  have mx : ∀ y : Int32, ¬ (2147483647 : Int32) < y := fun y z => by
    have z1 := Int32.lt_iff_toInt_lt.mp z
    have z2 : y.toInt < 2 ^ 31 := Int32.toInt_lt y
    have z3 : (2147483647 : Int32).toInt = 2147483647 := by decide
    omega
  by_cases z : b < a
  · rw [if_pos z] at e3; exact hb e3.symm
  · rw [if_neg z] at e3
    rw [← e3] at z
    refine hb (Int32.toInt_inj.mp ?_)
    have z1 : ¬ b.toInt < (2147483647 : Int32).toInt := fun w => z (Int32.lt_iff_toInt_lt.mpr w)
    have z2 : b.toInt < 2 ^ 31 := Int32.toInt_lt b
    have z3 : (2147483647 : Int32).toInt = 2147483647 := by decide
    omega
theorem dX9_report_0 : decode cX9_report 0 = .ok (.aload_n 0, 1) := by decide +kernel
theorem dX9_report_1 : decode cX9_report 1 = .ok (.aload_n 0, 1) := by decide +kernel
theorem dX9_report_2 : decode cX9_report 2 = .ok (.getfield 38, 3) := by decide +kernel
theorem dX9_report_5 : decode cX9_report 5 = .ok (.iload_n 1, 1) := by decide +kernel
theorem dX9_report_6 : decode cX9_report 6 = .ok (.bipush 16, 2) := by decide +kernel
theorem dX9_report_8 : decode cX9_report 8 = .ok (.aload_n 0, 1) := by decide +kernel
theorem dX9_report_9 : decode cX9_report 9 = .ok (.getfield 9, 3) := by decide +kernel
theorem dX9_report_12 : decode cX9_report 12 = .ok (.iload_n 2, 1) := by decide +kernel
theorem dX9_report_13 : decode cX9_report 13 = .ok (.invokevirtual 97, 3) := by decide +kernel
theorem dX9_report_16 : decode cX9_report 16 = .ok (.imul, 1) := by decide +kernel
theorem dX9_report_17 : decode cX9_report 17 = .ok (.iadd, 1) := by decide +kernel
theorem dX9_report_18 : decode cX9_report 18 = .ok (.invokestatic 100, 3) := by decide +kernel
theorem dX9_report_21 : decode cX9_report 21 = .ok (.putfield 38, 3) := by decide +kernel
theorem dX9_report_24 : decode cX9_report 24 = .ok (.return_, 1) := by decide +kernel
theorem hV_X10_placeAt : yX10_placeAt.cls = RX10 ∧ yX10_placeAt.cls ≠ "java/lang/invoke/MethodHandle" ∧ yX10_placeAt.cls ≠ "java/lang/invoke/VarHandle" ∧ (parseMethodDescriptor yX10_placeAt.desc).map (fun d => d.parameters.length) = some 1 := by decide +kernel
set_option maxHeartbeats 16000000 in
set_option maxRecDepth 100000 in
theorem G_report (l : Launch) (G : pT) (h0 : Nat) (a : Nat → Nat) (F : Nat → Int32) (R : Nat → Value) (Z : Int64) (B : Nat → Nat → Int32) (J : Nat → Nat → Int64) (K : PK) (w : va_W) (pq : Nat) (dr : Nat) (ml : Nat) (nd : Nat) (nm : Nat) (cp : Nat) (it : Nat → Nat) (s9 : Nat) (x1 : Int32) (x2 : Int32) (sz : Nat) (g : Nat → Nat → Nat) (hsz : sz ≤ 5000) (hwp : WPr G K g) (hps : PgT G K g (a 1) pq dr ml nd nm cp it s9) (hO : OKP G h0 a (upd F 2 (nI sz)) R Z B J K w) : PM l G pX0 yX9_report cX9_report 3 none ({ frames := 3, cells := 0, slots := 0, locals := 81 }) [.ref pq, .int x1, .int x2] w (fun (v : Option Value) (u : va_W × (PK)) => v = none ∧ (LgK K u.2 pq) ∧ (RpQ x1 u.2 pq) ∧ (OKP G h0 a (upd F 2 (nI sz)) R Z B J u.2 u.1)) (fun u => u.1) := by
  intro sz
  refine Met.ofW (cc := cX9_report) (maxL := 3) (ret := none) (by decide) rfl ?_
  intro p e s m args below meth c s₁ B9 hml hv
  obtain ⟨rfl, hsz, hP, hD0, hE, hX⟩ := hv
  have hx := B9.exec
  have hb := B9.bytes
  have hr := B9.returns
  have hts := atoms_spec (ws := Cond.code yX9_report cX9_report 3 none :: pw) B9.pre
  have hq : ∀ w ∈ pw, w.before _ s = true := fun w h => hts w (List.mem_cons_of_mem _ h)
  have hown : s.vm.findClass RX9 = some m.cls := findClass_of_methodNamed B9.named
  have hlocks := B9.notSynchronized
  subst hsz
  have hD := hD0.self (sz := s.heap.size)
  have hA : ∀ q : Nat, s.heap.size ≤ q → va_A w s.heap.size q := fun q h => Or.inr h
  generalize va_A w s.heap.size = A at hD hE hA ⊢
  have hS : va_S A s.heap s.heap [] := va_S.rf
  have hl := lv_entry ([.ref pq, .int x1, .int x2]) (n := 3) (Nat.le_of_ble_eq_true rfl)
  rw [lg_entry_eq]
  generalize (lg_sl ([.ref pq, .int x1, .int x2]) ++ List.replicate (3 - (lg_sl ([.ref pq, .int x1, .int x2])).length) Slot.unset).toArray = ls at hl ⊢
  have hl : lv_has ls 3 [(0, .ref pq), (1, .int x1), (2, .int x2)] := hl
  have hp1 := hps.1.1
  have hp2 := hps.1.2.1
  have hp3 := hps.1.2.2.1
  have hp4 := hps.1.2.2.2.1
  have hp5 := hps.1.2.2.2.2.1
  have hp6 := hps.1.2.2.2.2.2.1
  have hp8 := hps.1.2.2.2.2.2.2.2.1
  have hp9 := hps.1.2.2.2.2.2.2.2.2
  refine lv_aload_n hx hb dX9_report_0 rfl (lv_at hl 0 rfl) ?_
  refine lv_aload_n hx hb dX9_report_1 rfl (lv_at hl 0 rfl) ?_
  refine p_get (v := .int (K.2.1 25 pq)) (C := RX9) (Tc := TX9) (N := 5) (ci := 6) hx hb hq pin_wsX90 hown hE hP hO (by rw [hp1]; decide) (rep_7 hp1) rfl 4 (by decide) (hq _ pw_1080) (fun _ h9 => h9) rfl dX9_report_2 ?_
  refine lv_iload_n hx hb dX9_report_5 rfl (lv_at hl 1 rfl) ?_
  refine lv_bipush (v := 16) hx hb dX9_report_6 (by decide) ?_
  refine lv_aload_n hx hb dX9_report_8 rfl (lv_at hl 0 rfl) ?_
  refine p_get (v := .ref (a 1)) (C := RX9) (Tc := TX9) (N := 5) (ci := 6) hx hb hq pin_wsX90 hown hE hP hO (by rw [hp1]; decide) (rep_7 hp1) rfl 0 (by decide) (hq _ pw_784) (fun _ h9 => h9) (congrArg (fun z => some (va_rf z)) hp2) dX9_report_9 ?_
  refine lv_iload_n hx hb dX9_report_12 rfl (lv_at hl 2 rfl) ?_
  have hO : OKW G h0 a (upd (upd F 2 (nI sz)) 2 (nI sz)) R Z B J K.1 (fun q99 x99 => x99 = rep G a K q99) w := hO.to rfl
  obtain ⟨_, qr4, hqr5⟩ := hO.2.1 2 _ (sg_2 G h0 a _ _ _ _ _)
  refine pc_V0 (G := G) (As := [.int x2]) (rest := [.int 16, .int x1, .int (K.2.1 25 pq), .ref pq]) hx hb hml hown hq hE hX pX0_al hP hD hS hA hl.1 (K_placeAt l G h0 a (upd F 2 (nI sz)) R Z B J K.1 (fun q99 x99 => x99 = rep G a K q99) w x2 sz (by omega) hO) (gV pw_1086 pw_1087 pw_1088 pw_59 pw_1083) hV_X10_placeAt qr4 7 hqr5 rfl rfl rfl (Nat.le_of_ble_eq_true rfl) dX9_report_13 ⟨Nat.le_of_ble_eq_true rfl, Nat.le_of_ble_eq_true rfl⟩ ⟨Nat.le_of_ble_eq_true rfl, Nat.le_of_ble_eq_true rfl⟩ (fun v3 u1 H locs hw2 hP hD hS => ?_)
  obtain ⟨w, r6⟩ := u1
  obtain ⟨hw2, hO⟩ := hw2
  obtain rfl : v3 = some (.int r6) := hw2
  have hO : OKP G h0 a (upd F 2 (nI sz)) R Z B J K w := hO.to rfl
  refine W.widen (k := 0) (n := 0) (Nat.le_of_ble_eq_true rfl) (Nat.le_of_ble_eq_true rfl) ?_
  refine W.eq (g2 := F0 m 16 ls [.int r6, .int 16, .int x1, .int (K.2.1 25 pq), .ref pq]) rfl ?_
  refine lv_imul hx hb dX9_report_16 ?_
  refine lv_topi (fun x7 e8 => ?_)
  refine lv_iadd hx hb dX9_report_17 ?_
  refine lv_topi (fun x9 e10 => ?_)
  refine va_mmin (own := RX9) hx hb (by rw [hml]; exact hl.1.symm) hown (hq _ pw_1085) (hq _ pw_420) (hq _ pw_52) (hq _ pw_421) (Nat.le_of_ble_eq_true rfl) (Nat.le_of_ble_eq_true rfl) (Nat.le_of_ble_eq_true rfl) (Nat.le_of_ble_eq_true rfl) dX9_report_18 ?_
  refine lv_topi (fun x11 e12 => ?_)
  refine p_put (v := .int x11) (ty := .int) (C := RX9) (Tc := TX9) (N := 5) (ci := 6) (K' := (kI K 25 pq x11)) hx hb hq pin_wsX90 tyX9 tyX9_ok nmX9 hown hE hP hD hS hO (by rw [hp1]; decide) (rep_7 hp1) rfl 4 (by decide) (hq _ pw_1080) (fun _ h9 => h9) rfl (by decide +kernel) rfl rfl (Nat.le_of_ble_eq_true rfl) rfl (by rw [rep_7 (show (kI K 25 pq x11).1 pq = 7 from hp1), pi_25] <;> rfl) (fun p9 hp9 => rep_kI hp9) dX9_report_21 (fun H locs w hP hD hS hO => ?_)
  obtain ⟨K13, hK14⟩ : ∃ z : PK, z = (kI K 25 pq x11) := ⟨_, rfl⟩
  rw [← hK14] at hO
  have hf15 : K13.1 pq = 7 := (by rw [hK14]; exact hp1)
  have hf16 : K13.2.2.1 18 pq = some (a 1) := (by rw [hK14]; exact hp2)
  have hf17 : K13.2.2.1 14 pq = some dr := (by rw [hK14]; exact hp3)
  have hf18 : K13.1 dr = 8 := (by rw [hK14]; exact hp4)
  have hf19 : K13.2.2.1 15 pq = some ml := (by rw [hK14]; exact hp5)
  have hf20 : K13.1 ml = 5 := (by rw [hK14]; exact hp6)
  have hf21 : K13.2.1 24 pq = (nI nd) := (by rw [hK14]; exact (kI_of (by decide)).trans hp8)
  have hf22 : K13.2.1 25 pq = x11 := by rw [hK14]; exact kI_eq
  have hz23 : LgK K K13 pq := ⟨_, hK14⟩
  have hz24 : RpQ x1 K13 pq := (fun h6 => by rw [hK14, kI_eq]; exact min_ring e8 (by rw [e10, h6]) e12)
  have hO : OKP G h0 a (upd F 2 (nI sz)) R Z B J K13 w := hO.to rfl
  exact W.vret hx hb hr (fun t99 ht99 hW99 => ⟨⟨_, (w, K13), rfl, ⟨rfl, hz23, hz24, hO⟩, by rw [ht99]; exact hP, hD⟩, hS.F ht99⟩) hS.2.2 dX9_report_24
theorem dX9_judgeMembers_0 : decode cX9_judgeMembers 0 = .ok (.iconst 0, 1) := by decide +kernel
theorem dX9_judgeMembers_1 : decode cX9_judgeMembers 1 = .ok (.istore_n 2, 1) := by decide +kernel
theorem dX9_judgeMembers_2 : decode cX9_judgeMembers 2 = .ok (.iload_n 2, 1) := by decide +kernel
theorem dX9_judgeMembers_3 : decode cX9_judgeMembers 3 = .ok (.aload_n 1, 1) := by decide +kernel
theorem dX9_judgeMembers_4 : decode cX9_judgeMembers 4 = .ok (.getfield 134, 3) := by decide +kernel
theorem dX9_judgeMembers_7 : decode cX9_judgeMembers 7 = .ok (.invokevirtual 45, 3) := by decide +kernel
theorem dX9_judgeMembers_10 : decode cX9_judgeMembers 10 = .ok (.if_icmp .ge 72, 3) := by decide +kernel
theorem dX9_judgeMembers_82 : decode cX9_judgeMembers 82 = .ok (.iconst 0, 1) := by decide +kernel
theorem dX9_judgeMembers_83 : decode cX9_judgeMembers 83 = .ok (.istore_n 2, 1) := by decide +kernel
theorem dX9_judgeMembers_84 : decode cX9_judgeMembers 84 = .ok (.iload_n 2, 1) := by decide +kernel
theorem dX9_judgeMembers_85 : decode cX9_judgeMembers 85 = .ok (.aload_n 1, 1) := by decide +kernel
theorem dX9_judgeMembers_86 : decode cX9_judgeMembers 86 = .ok (.getfield 141, 3) := by decide +kernel
theorem dX9_judgeMembers_89 : decode cX9_judgeMembers 89 = .ok (.invokevirtual 45, 3) := by decide +kernel
theorem dX9_judgeMembers_92 : decode cX9_judgeMembers 92 = .ok (.if_icmp .ge 42, 3) := by decide +kernel
theorem dX9_judgeMembers_134 : decode cX9_judgeMembers 134 = .ok (.return_, 1) := by decide +kernel
theorem dX9_judgeMembers_95 : decode cX9_judgeMembers 95 = .ok (.aload_n 1, 1) := by decide +kernel
theorem dX9_judgeMembers_96 : decode cX9_judgeMembers 96 = .ok (.getfield 141, 3) := by decide +kernel
theorem dX9_judgeMembers_99 : decode cX9_judgeMembers 99 = .ok (.iload_n 2, 1) := by decide +kernel
theorem dX9_judgeMembers_100 : decode cX9_judgeMembers 100 = .ok (.invokevirtual 48, 3) := by decide +kernel
theorem dX9_judgeMembers_103 : decode cX9_judgeMembers 103 = .ok (.checkcast 52, 3) := by decide +kernel
theorem dX9_judgeMembers_106 : decode cX9_judgeMembers 106 = .ok (.astore_n 3, 1) := by decide +kernel
theorem dX9_judgeMembers_107 : decode cX9_judgeMembers 107 = .ok (.aload_n 1, 1) := by decide +kernel
theorem dX9_judgeMembers_108 : decode cX9_judgeMembers 108 = .ok (.aload_n 3, 1) := by decide +kernel
theorem dX9_judgeMembers_109 : decode cX9_judgeMembers 109 = .ok (.getfield 142, 3) := by decide +kernel
theorem dX9_judgeMembers_112 : decode cX9_judgeMembers 112 = .ok (.invokevirtual 143, 3) := by decide +kernel
theorem dX9_judgeMembers_115 : decode cX9_judgeMembers 115 = .ok (.aload_n 3, 1) := by decide +kernel
theorem dX9_judgeMembers_116 : decode cX9_judgeMembers 116 = .ok (.if_acmp .eq 12, 3) := by decide +kernel
theorem dX9_judgeMembers_128 : decode cX9_judgeMembers 128 = .ok (.iinc 2 1, 3) := by decide +kernel
theorem dX9_judgeMembers_131 : decode cX9_judgeMembers 131 = .ok (.goto (-47), 3) := by decide +kernel
theorem dX9_judgeMembers_119 : decode cX9_judgeMembers 119 = .ok (.aload_n 0, 1) := by decide +kernel
theorem dX9_judgeMembers_120 : decode cX9_judgeMembers 120 = .ok (.iconst 3, 1) := by decide +kernel
theorem dX9_judgeMembers_121 : decode cX9_judgeMembers 121 = .ok (.aload_n 3, 1) := by decide +kernel
theorem dX9_judgeMembers_122 : decode cX9_judgeMembers 122 = .ok (.getfield 147, 3) := by decide +kernel
theorem dX9_judgeMembers_125 : decode cX9_judgeMembers 125 = .ok (.invokevirtual 87, 3) := by decide +kernel
theorem dX9_judgeMembers_13 : decode cX9_judgeMembers 13 = .ok (.iconst 0, 1) := by decide +kernel
theorem dX9_judgeMembers_14 : decode cX9_judgeMembers 14 = .ok (.istore_n 3, 1) := by decide +kernel
theorem dX9_judgeMembers_15 : decode cX9_judgeMembers 15 = .ok (.iload_n 3, 1) := by decide +kernel
theorem dX9_judgeMembers_16 : decode cX9_judgeMembers 16 = .ok (.iload_n 2, 1) := by decide +kernel
theorem dX9_judgeMembers_17 : decode cX9_judgeMembers 17 = .ok (.if_icmp .ge 59, 3) := by decide +kernel
theorem dX9_judgeMembers_76 : decode cX9_judgeMembers 76 = .ok (.iinc 2 1, 3) := by decide +kernel
theorem dX9_judgeMembers_79 : decode cX9_judgeMembers 79 = .ok (.goto (-77), 3) := by decide +kernel
theorem dX9_judgeMembers_20 : decode cX9_judgeMembers 20 = .ok (.aload_n 1, 1) := by decide +kernel
theorem dX9_judgeMembers_21 : decode cX9_judgeMembers 21 = .ok (.getfield 134, 3) := by decide +kernel
theorem dX9_judgeMembers_24 : decode cX9_judgeMembers 24 = .ok (.iload_n 2, 1) := by decide +kernel
theorem dX9_judgeMembers_25 : decode cX9_judgeMembers 25 = .ok (.invokevirtual 48, 3) := by decide +kernel
theorem dX9_judgeMembers_28 : decode cX9_judgeMembers 28 = .ok (.checkcast 137, 3) := by decide +kernel
theorem dX9_judgeMembers_31 : decode cX9_judgeMembers 31 = .ok (.getfield 139, 3) := by decide +kernel
theorem dX9_judgeMembers_34 : decode cX9_judgeMembers 34 = .ok (.aload_n 1, 1) := by decide +kernel
theorem dX9_judgeMembers_35 : decode cX9_judgeMembers 35 = .ok (.getfield 134, 3) := by decide +kernel
theorem dX9_judgeMembers_38 : decode cX9_judgeMembers 38 = .ok (.iload_n 3, 1) := by decide +kernel
theorem dX9_judgeMembers_39 : decode cX9_judgeMembers 39 = .ok (.invokevirtual 48, 3) := by decide +kernel
theorem dX9_judgeMembers_42 : decode cX9_judgeMembers 42 = .ok (.checkcast 137, 3) := by decide +kernel
theorem dX9_judgeMembers_45 : decode cX9_judgeMembers 45 = .ok (.getfield 139, 3) := by decide +kernel
theorem dX9_judgeMembers_48 : decode cX9_judgeMembers 48 = .ok (.if_icmp .ne 22, 3) := by decide +kernel
theorem dX9_judgeMembers_70 : decode cX9_judgeMembers 70 = .ok (.iinc 3 1, 3) := by decide +kernel
theorem dX9_judgeMembers_73 : decode cX9_judgeMembers 73 = .ok (.goto (-58), 3) := by decide +kernel
theorem dX9_judgeMembers_51 : decode cX9_judgeMembers 51 = .ok (.aload_n 0, 1) := by decide +kernel
theorem dX9_judgeMembers_52 : decode cX9_judgeMembers 52 = .ok (.iconst 3, 1) := by decide +kernel
theorem dX9_judgeMembers_53 : decode cX9_judgeMembers 53 = .ok (.aload_n 1, 1) := by decide +kernel
theorem dX9_judgeMembers_54 : decode cX9_judgeMembers 54 = .ok (.getfield 134, 3) := by decide +kernel
theorem dX9_judgeMembers_57 : decode cX9_judgeMembers 57 = .ok (.iload_n 2, 1) := by decide +kernel
theorem dX9_judgeMembers_58 : decode cX9_judgeMembers 58 = .ok (.invokevirtual 48, 3) := by decide +kernel
theorem dX9_judgeMembers_61 : decode cX9_judgeMembers 61 = .ok (.checkcast 137, 3) := by decide +kernel
theorem dX9_judgeMembers_64 : decode cX9_judgeMembers 64 = .ok (.getfield 140, 3) := by decide +kernel
theorem dX9_judgeMembers_67 : decode cX9_judgeMembers 67 = .ok (.invokevirtual 87, 3) := by decide +kernel
theorem hV_X9_report : yX9_report.cls = RX9 ∧ yX9_report.cls ≠ "java/lang/invoke/MethodHandle" ∧ yX9_report.cls ≠ "java/lang/invoke/VarHandle" ∧ (parseMethodDescriptor yX9_report.desc).map (fun d => d.parameters.length) = some 2 := by decide +kernel