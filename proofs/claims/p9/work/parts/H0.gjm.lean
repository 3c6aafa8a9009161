def RpQ (x1 : Int32) (K1 : PK) (pq : Nat) : Prop := x1 = 6 → ¬ K1.2.1 25 pq = 2147483647
theorem odd_ne {r : Int32} (h : (6 : Int32) + 16 * r = 2147483647) : False := by
  have h1 : (16 : Int32) * r = 2147483641 := by
    have z := congrArg (fun y => y - 6) h
    have e : (6 : Int32) + 16 * r - 6 = 16 * r := by rw [Int32.add_comm, Int32.add_sub_cancel]
    have z2 : (6 : Int32) + 16 * r - 6 = 2147483647 - 6 := z
    rw [e] at z2
    exact z2.trans (by decide)
  have h2 := congrArg (fun y => (268435456 : Int32) * y) h1
  have h3 : (268435456 : Int32) * (16 * r) = 0 := by
    rw [← Int32.mul_assoc, show (268435456 : Int32) * 16 = 0 by decide, Int32.zero_mul]
  exact absurd (h3.symm.trans h2) (by decide)
theorem min_ring {a b m r x : Int32} (e1 : m = 16 * r) (e2 : b = 6 + m) (e3 : x = if b < a then b else a) : ¬ x = 2147483647 := fun h => by
  have hb : ¬ b = 2147483647 := fun z => odd_ne (r := r) (by rw [← e1, ← e2]; exact z)
  rw [h] at e3
  have mx : ∀ y : Int32, ¬ (2147483647 : Int32) < y := fun y z => by
    have z1 := Int32.lt_iff_toInt_lt.mp z
    have z2 : y.toInt < 2 ^ 31 := Int32.toInt_lt y
    have z3 : (2147483647 : Int32).toInt = 2147483647 := by decide
    omega
  by_cases z : b < a
  · rw [if_pos z] at e3; exact hb e3.symm
  · rw [if_neg z] at e3
    rw [← e3] at z
    refine hb (Int32.toInt_inj.mp ?_)
    have z1 : ¬ b.toInt < (2147483647 : Int32).toInt := fun w => z (Int32.lt_iff_toInt_lt.mpr w)
    have z2 : b.toInt < 2 ^ 31 := Int32.toInt_lt b
    have z3 : (2147483647 : Int32).toInt = 2147483647 := by decide
    omega
theorem dX9_report_0 : decode cX9_report 0 = .ok (.aload_n 0, 1) := by decide +kernel
theorem dX9_report_1 : decode cX9_report 1 = .ok (.aload_n 0, 1) := by decide +kernel
theorem dX9_report_2 : decode cX9_report 2 = .ok (.getfield 38, 3) := by decide +kernel
theorem dX9_report_5 : decode cX9_report 5 = .ok (.iload_n 1, 1) := by decide +kernel
theorem dX9_report_6 : decode cX9_report 6 = .ok (.bipush 16, 2) := by decide +kernel
theorem dX9_report_8 : decode cX9_report 8 = .ok (.aload_n 0, 1) := by decide +kernel
theorem dX9_report_9 : decode cX9_report 9 = .ok (.getfield 9, 3) := by decide +kernel
theorem dX9_report_12 : decode cX9_report 12 = .ok (.iload_n 2, 1) := by decide +kernel
theorem dX9_report_13 : decode cX9_report 13 = .ok (.invokevirtual 97, 3) := by decide +kernel
theorem dX9_report_16 : decode cX9_report 16 = .ok (.imul, 1) := by decide +kernel
theorem dX9_report_17 : decode cX9_report 17 = .ok (.iadd, 1) := by decide +kernel
theorem dX9_report_18 : decode cX9_report 18 = .ok (.invokestatic 100, 3) := by decide +kernel
theorem dX9_report_21 : decode cX9_report 21 = .ok (.putfield 38, 3) := by decide +kernel
theorem dX9_report_24 : decode cX9_report 24 = .ok (.return_, 1) := by decide +kernel
theorem hV_X10_placeAt : yX10_placeAt.cls = RX10 ∧ yX10_placeAt.cls ≠ "java/lang/invoke/MethodHandle" ∧ yX10_placeAt.cls ≠ "java/lang/invoke/VarHandle" ∧ (parseMethodDescriptor yX10_placeAt.desc).map (fun d => d.parameters.length) = some 1 := by decide +kernel
set_option maxHeartbeats 16000000 in
set_option maxRecDepth 100000 in
theorem G_report (l : Launch) (G : pT) (h0 : Nat) (a : Nat → Nat) (F : Nat → Int32) (R : Nat → Value) (Z : Int64) (B : Nat → Nat → Int32) (J : Nat → Nat → Int64) (K : PK) (w : va_W) (pq : Nat) (dr : Nat) (ml : Nat) (nd : Nat) (nm : Nat) (cp : Nat) (it : Nat → Nat) (s9 : Nat) (x1 : Int32) (x2 : Int32) (sz : Nat) (g : Nat → Nat → Nat) (hsz : sz ≤ 5000) (hwp : WPr G K g) (hps : PgT G K g (a 1) pq dr ml nd nm cp it s9) (hO : OKP G h0 a (upd F 2 (nI sz)) R Z B J K w) : PM l G pX0 yX9_report cX9_report 3 none ({ frames := 3, cells := 0, slots := 0, locals := 81 }) [.ref pq, .int x1, .int x2] w (fun (v : Option Value) (u : va_W × (PK)) => v = none ∧ (LgK K u.2 pq) ∧ (RpQ x1 u.2 pq) ∧ (OKP G h0 a (upd F 2 (nI sz)) R Z B J u.2 u.1)) (fun u => u.1) := by
  intro sz
  refine Met.ofW (cc := cX9_report) (maxL := 3) (ret := none) (by decide) rfl ?_
  intro p e s m args below meth c s₁ B9 hml hv
  obtain ⟨rfl, hsz, hP, hD0, hE, hX⟩ := hv
  have hx := B9.exec
  have hb := B9.bytes
  have hr := B9.returns
  have hts := atoms_spec (ws := Cond.code yX9_report cX9_report 3 none :: pw) B9.pre
  have hq : ∀ w ∈ pw, w.before _ s = true := fun w h => hts w (List.mem_cons_of_mem _ h)
  have hown : s.vm.findClass RX9 = some m.cls := findClass_of_methodNamed B9.named
  have hlocks := B9.notSynchronized
  subst hsz
  have hD := hD0.self (sz := s.heap.size)
  have hA : ∀ q : Nat, s.heap.size ≤ q → va_A w s.heap.size q := fun q h => Or.inr h
  generalize va_A w s.heap.size = A at hD hE hA ⊢
  have hS : va_S A s.heap s.heap [] := va_S.rf
  have hl := lv_entry ([.ref pq, .int x1, .int x2]) (n := 3) (Nat.le_of_ble_eq_true rfl)
  rw [lg_entry_eq]
  generalize (lg_sl ([.ref pq, .int x1, .int x2]) ++ List.replicate (3 - (lg_sl ([.ref pq, .int x1, .int x2])).length) Slot.unset).toArray = ls at hl ⊢
  have hl : lv_has ls 3 [(0, .ref pq), (1, .int x1), (2, .int x2)] := hl
  have hp1 := hps.1.1
  have hp2 := hps.1.2.1
  have hp3 := hps.1.2.2.1
  have hp4 := hps.1.2.2.2.1
  have hp5 := hps.1.2.2.2.2.1
  have hp6 := hps.1.2.2.2.2.2.1
  have hp8 := hps.1.2.2.2.2.2.2.2.1
  have hp9 := hps.1.2.2.2.2.2.2.2.2
  refine lv_aload_n hx hb dX9_report_0 rfl (lv_at hl 0 rfl) ?_
  refine lv_aload_n hx hb dX9_report_1 rfl (lv_at hl 0 rfl) ?_
  refine p_get (v := .int (K.2.1 25 pq)) (C := RX9) (Tc := TX9) (N := 5) (ci := 6) hx hb hq pin_wsX90 hown hE hP hO (by rw [hp1]; decide) (rep_7 hp1) rfl 4 (by decide) (hq _ pw_1080) (fun _ h9 => h9) rfl dX9_report_2 ?_
  refine lv_iload_n hx hb dX9_report_5 rfl (lv_at hl 1 rfl) ?_
  refine lv_bipush (v := 16) hx hb dX9_report_6 (by decide) ?_
  refine lv_aload_n hx hb dX9_report_8 rfl (lv_at hl 0 rfl) ?_
  refine p_get (v := .ref (a 1)) (C := RX9) (Tc := TX9) (N := 5) (ci := 6) hx hb hq pin_wsX90 hown hE hP hO (by rw [hp1]; decide) (rep_7 hp1) rfl 0 (by decide) (hq _ pw_784) (fun _ h9 => h9) (congrArg (fun z => some (va_rf z)) hp2) dX9_report_9 ?_
  refine lv_iload_n hx hb dX9_report_12 rfl (lv_at hl 2 rfl) ?_
  have hO : OKW G h0 a (upd (upd F 2 (nI sz)) 2 (nI sz)) R Z B J K.1 (fun q99 x99 => x99 = rep G a K q99) w := hO.to rfl
  obtain ⟨_, qr4, hqr5⟩ := hO.2.1 2 _ (sg_2 G h0 a _ _ _ _ _)
  refine pc_V0 (G := G) (As := [.int x2]) (rest := [.int 16, .int x1, .int (K.2.1 25 pq), .ref pq]) hx hb hml hown hq hE hX pX0_al hP hD hS hA hl.1 (K_placeAt l G h0 a (upd F 2 (nI sz)) R Z B J K.1 (fun q99 x99 => x99 = rep G a K q99) w x2 sz (by omega) hO) (gV pw_1086 pw_1087 pw_1088 pw_59 pw_1083) hV_X10_placeAt qr4 7 hqr5 rfl rfl rfl (Nat.le_of_ble_eq_true rfl) dX9_report_13 ⟨Nat.le_of_ble_eq_true rfl, Nat.le_of_ble_eq_true rfl⟩ ⟨Nat.le_of_ble_eq_true rfl, Nat.le_of_ble_eq_true rfl⟩ (fun v3 u1 H locs hw2 hP hD hS => ?_)
  obtain ⟨w, r6⟩ := u1
  obtain ⟨hw2, hO⟩ := hw2
  obtain rfl : v3 = some (.int r6) := hw2
  have hO : OKP G h0 a (upd F 2 (nI sz)) R Z B J K w := hO.to rfl
  refine W.widen (k := 0) (n := 0) (Nat.le_of_ble_eq_true rfl) (Nat.le_of_ble_eq_true rfl) ?_
  refine W.eq (g2 := F0 m 16 ls [.int r6, .int 16, .int x1, .int (K.2.1 25 pq), .ref pq]) rfl ?_
  refine lv_imul hx hb dX9_report_16 ?_
  refine lv_topi (fun x7 e8 => ?_)
  refine lv_iadd hx hb dX9_report_17 ?_
  refine lv_topi (fun x9 e10 => ?_)
  refine va_mmin (own := RX9) hx hb (by rw [hml]; exact hl.1.symm) hown (hq _ pw_1085) (hq _ pw_420) (hq _ pw_52) (hq _ pw_421) (Nat.le_of_ble_eq_true rfl) (Nat.le_of_ble_eq_true rfl) (Nat.le_of_ble_eq_true rfl) (Nat.le_of_ble_eq_true rfl) dX9_report_18 ?_
  refine lv_topi (fun x11 e12 => ?_)
  refine p_put (v := .int x11) (ty := .int) (C := RX9) (Tc := TX9) (N := 5) (ci := 6) (K' := (kI K 25 pq x11)) hx hb hq pin_wsX90 tyX9 tyX9_ok nmX9 hown hE hP hD hS hO (by rw [hp1]; decide) (rep_7 hp1) rfl 4 (by decide) (hq _ pw_1080) (fun _ h9 => h9) rfl (by decide +kernel) rfl rfl (Nat.le_of_ble_eq_true rfl) rfl (by rw [rep_7 (show (kI K 25 pq x11).1 pq = 7 from hp1), pi_25] <;> rfl) (fun p9 hp9 => rep_kI hp9) dX9_report_21 (fun H locs w hP hD hS hO => ?_)
  obtain ⟨K13, hK14⟩ : ∃ z : PK, z = (kI K 25 pq x11) := ⟨_, rfl⟩
  rw [← hK14] at hO
  have hf15 : K13.1 pq = 7 := (by rw [hK14]; exact hp1)
  have hf16 : K13.2.2.1 18 pq = some (a 1) := (by rw [hK14]; exact hp2)
  have hf17 : K13.2.2.1 14 pq = some dr := (by rw [hK14]; exact hp3)
  have hf18 : K13.1 dr = 8 := (by rw [hK14]; exact hp4)
  have hf19 : K13.2.2.1 15 pq = some ml := (by rw [hK14]; exact hp5)
  have hf20 : K13.1 ml = 5 := (by rw [hK14]; exact hp6)
  have hf21 : K13.2.1 24 pq = (nI nd) := (by rw [hK14]; exact (kI_of (by decide)).trans hp8)
  have hf22 : K13.2.1 25 pq = x11 := by rw [hK14]; exact kI_eq
  have hz23 : LgK K K13 pq := ⟨_, hK14⟩
  have hz24 : RpQ x1 K13 pq := (fun h6 => by rw [hK14, kI_eq]; exact min_ring e8 (by rw [e10, h6]) e12)
  have hO : OKP G h0 a (upd F 2 (nI sz)) R Z B J K13 w := hO.to rfl
  exact W.vret hx hb hr (fun t99 ht99 hW99 => ⟨⟨_, (w, K13), rfl, ⟨rfl, hz23, hz24, hO⟩, by rw [ht99]; exact hP, hD⟩, hS.F ht99⟩) hS.2.2 dX9_report_24
theorem dX9_judgeMembers_0 : decode cX9_judgeMembers 0 = .ok (.iconst 0, 1) := by decide +kernel
theorem dX9_judgeMembers_1 : decode cX9_judgeMembers 1 = .ok (.istore_n 2, 1) := by decide +kernel
theorem dX9_judgeMembers_2 : decode cX9_judgeMembers 2 = .ok (.iload_n 2, 1) := by decide +kernel
theorem dX9_judgeMembers_3 : decode cX9_judgeMembers 3 = .ok (.aload_n 1, 1) := by decide +kernel
theorem dX9_judgeMembers_4 : decode cX9_judgeMembers 4 = .ok (.getfield 134, 3) := by decide +kernel
theorem dX9_judgeMembers_7 : decode cX9_judgeMembers 7 = .ok (.invokevirtual 45, 3) := by decide +kernel
theorem dX9_judgeMembers_10 : decode cX9_judgeMembers 10 = .ok (.if_icmp .ge 72, 3) := by decide +kernel
theorem dX9_judgeMembers_82 : decode cX9_judgeMembers 82 = .ok (.iconst 0, 1) := by decide +kernel
theorem dX9_judgeMembers_83 : decode cX9_judgeMembers 83 = .ok (.istore_n 2, 1) := by decide +kernel
theorem dX9_judgeMembers_84 : decode cX9_judgeMembers 84 = .ok (.iload_n 2, 1) := by decide +kernel
theorem dX9_judgeMembers_85 : decode cX9_judgeMembers 85 = .ok (.aload_n 1, 1) := by decide +kernel
theorem dX9_judgeMembers_86 : decode cX9_judgeMembers 86 = .ok (.getfield 141, 3) := by decide +kernel
theorem dX9_judgeMembers_89 : decode cX9_judgeMembers 89 = .ok (.invokevirtual 45, 3) := by decide +kernel
theorem dX9_judgeMembers_92 : decode cX9_judgeMembers 92 = .ok (.if_icmp .ge 42, 3) := by decide +kernel
theorem dX9_judgeMembers_134 : decode cX9_judgeMembers 134 = .ok (.return_, 1) := by decide +kernel
theorem dX9_judgeMembers_95 : decode cX9_judgeMembers 95 = .ok (.aload_n 1, 1) := by decide +kernel
theorem dX9_judgeMembers_96 : decode cX9_judgeMembers 96 = .ok (.getfield 141, 3) := by decide +kernel
theorem dX9_judgeMembers_99 : decode cX9_judgeMembers 99 = .ok (.iload_n 2, 1) := by decide +kernel
theorem dX9_judgeMembers_100 : decode cX9_judgeMembers 100 = .ok (.invokevirtual 48, 3) := by decide +kernel
theorem dX9_judgeMembers_103 : decode cX9_judgeMembers 103 = .ok (.checkcast 52, 3) := by decide +kernel
theorem dX9_judgeMembers_106 : decode cX9_judgeMembers 106 = .ok (.astore_n 3, 1) := by decide +kernel
theorem dX9_judgeMembers_107 : decode cX9_judgeMembers 107 = .ok (.aload_n 1, 1) := by decide +kernel
theorem dX9_judgeMembers_108 : decode cX9_judgeMembers 108 = .ok (.aload_n 3, 1) := by decide +kernel
theorem dX9_judgeMembers_109 : decode cX9_judgeMembers 109 = .ok (.getfield 142, 3) := by decide +kernel
theorem dX9_judgeMembers_112 : decode cX9_judgeMembers 112 = .ok (.invokevirtual 143, 3) := by decide +kernel
theorem dX9_judgeMembers_115 : decode cX9_judgeMembers 115 = .ok (.aload_n 3, 1) := by decide +kernel
theorem dX9_judgeMembers_116 : decode cX9_judgeMembers 116 = .ok (.if_acmp .eq 12, 3) := by decide +kernel
theorem dX9_judgeMembers_128 : decode cX9_judgeMembers 128 = .ok (.iinc 2 1, 3) := by decide +kernel
theorem dX9_judgeMembers_131 : decode cX9_judgeMembers 131 = .ok (.goto (-47), 3) := by decide +kernel
theorem dX9_judgeMembers_119 : decode cX9_judgeMembers 119 = .ok (.aload_n 0, 1) := by decide +kernel
theorem dX9_judgeMembers_120 : decode cX9_judgeMembers 120 = .ok (.iconst 3, 1) := by decide +kernel
theorem dX9_judgeMembers_121 : decode cX9_judgeMembers 121 = .ok (.aload_n 3, 1) := by decide +kernel
theorem dX9_judgeMembers_122 : decode cX9_judgeMembers 122 = .ok (.getfield 147, 3) := by decide +kernel
theorem dX9_judgeMembers_125 : decode cX9_judgeMembers 125 = .ok (.invokevirtual 87, 3) := by decide +kernel
theorem dX9_judgeMembers_13 : decode cX9_judgeMembers 13 = .ok (.iconst 0, 1) := by decide +kernel
theorem dX9_judgeMembers_14 : decode cX9_judgeMembers 14 = .ok (.istore_n 3, 1) := by decide +kernel
theorem dX9_judgeMembers_15 : decode cX9_judgeMembers 15 = .ok (.iload_n 3, 1) := by decide +kernel
theorem dX9_judgeMembers_16 : decode cX9_judgeMembers 16 = .ok (.iload_n 2, 1) := by decide +kernel
theorem dX9_judgeMembers_17 : decode cX9_judgeMembers 17 = .ok (.if_icmp .ge 59, 3) := by decide +kernel
theorem dX9_judgeMembers_76 : decode cX9_judgeMembers 76 = .ok (.iinc 2 1, 3) := by decide +kernel
theorem dX9_judgeMembers_79 : decode cX9_judgeMembers 79 = .ok (.goto (-77), 3) := by decide +kernel
theorem dX9_judgeMembers_20 : decode cX9_judgeMembers 20 = .ok (.aload_n 1, 1) := by decide +kernel
theorem dX9_judgeMembers_21 : decode cX9_judgeMembers 21 = .ok (.getfield 134, 3) := by decide +kernel
theorem dX9_judgeMembers_24 : decode cX9_judgeMembers 24 = .ok (.iload_n 2, 1) := by decide +kernel
theorem dX9_judgeMembers_25 : decode cX9_judgeMembers 25 = .ok (.invokevirtual 48, 3) := by decide +kernel
theorem dX9_judgeMembers_28 : decode cX9_judgeMembers 28 = .ok (.checkcast 137, 3) := by decide +kernel
theorem dX9_judgeMembers_31 : decode cX9_judgeMembers 31 = .ok (.getfield 139, 3) := by decide +kernel
theorem dX9_judgeMembers_34 : decode cX9_judgeMembers 34 = .ok (.aload_n 1, 1) := by decide +kernel
theorem dX9_judgeMembers_35 : decode cX9_judgeMembers 35 = .ok (.getfield 134, 3) := by decide +kernel
theorem dX9_judgeMembers_38 : decode cX9_judgeMembers 38 = .ok (.iload_n 3, 1) := by decide +kernel
theorem dX9_judgeMembers_39 : decode cX9_judgeMembers 39 = .ok (.invokevirtual 48, 3) := by decide +kernel
theorem dX9_judgeMembers_42 : decode cX9_judgeMembers 42 = .ok (.checkcast 137, 3) := by decide +kernel
theorem dX9_judgeMembers_45 : decode cX9_judgeMembers 45 = .ok (.getfield 139, 3) := by decide +kernel
theorem dX9_judgeMembers_48 : decode cX9_judgeMembers 48 = .ok (.if_icmp .ne 22, 3) := by decide +kernel
theorem dX9_judgeMembers_70 : decode cX9_judgeMembers 70 = .ok (.iinc 3 1, 3) := by decide +kernel
theorem dX9_judgeMembers_73 : decode cX9_judgeMembers 73 = .ok (.goto (-58), 3) := by decide +kernel
theorem dX9_judgeMembers_51 : decode cX9_judgeMembers 51 = .ok (.aload_n 0, 1) := by decide +kernel
theorem dX9_judgeMembers_52 : decode cX9_judgeMembers 52 = .ok (.iconst 3, 1) := by decide +kernel
theorem dX9_judgeMembers_53 : decode cX9_judgeMembers 53 = .ok (.aload_n 1, 1) := by decide +kernel
theorem dX9_judgeMembers_54 : decode cX9_judgeMembers 54 = .ok (.getfield 134, 3) := by decide +kernel
theorem dX9_judgeMembers_57 : decode cX9_judgeMembers 57 = .ok (.iload_n 2, 1) := by decide +kernel
theorem dX9_judgeMembers_58 : decode cX9_judgeMembers 58 = .ok (.invokevirtual 48, 3) := by decide +kernel
theorem dX9_judgeMembers_61 : decode cX9_judgeMembers 61 = .ok (.checkcast 137, 3) := by decide +kernel
theorem dX9_judgeMembers_64 : decode cX9_judgeMembers 64 = .ok (.getfield 140, 3) := by decide +kernel
theorem dX9_judgeMembers_67 : decode cX9_judgeMembers 67 = .ok (.invokevirtual 87, 3) := by decide +kernel
theorem hV_X9_report : yX9_report.cls = RX9 ∧ yX9_report.cls ≠ "java/lang/invoke/MethodHandle" ∧ yX9_report.cls ≠ "java/lang/invoke/VarHandle" ∧ (parseMethodDescriptor yX9_report.desc).map (fun d => d.parameters.length) = some 2 := by decide +kernel
set_option maxHeartbeats 16000000 in
set_option maxRecDepth 100000 in
theorem G_judgeMembers (l : Launch) (G : pT) (h0 : Nat) (a : Nat → Nat) (F : Nat → Int32) (R : Nat → Value) (Z : Int64) (B : Nat → Nat → Int32) (J : Nat → Nat → Int64) (K : PK) (w : va_W) (pq : Nat) (dr : Nat) (ml : Nat) (nd : Nat) (nm : Nat) (cp : Nat) (it : Nat → Nat) (s9 : Nat) (d0 : Nat) (sz : Nat) (g : Nat → Nat → Nat) (hsz : sz ≤ 5000) (hwp : WPr G K g) (hps : PgT G K g (a 1) pq dr ml nd nm cp it s9) (hd0 : K.1 d0 = 4) (hO : OKP G h0 a (upd F 2 (nI sz)) R Z B J K w) : PM l G pX0 yX9_judgeMembers cX9_judgeMembers 4 none ({ frames := 6, cells := 0, slots := 0, locals := 146 }) [.ref pq, .ref d0] w (fun (v : Option Value) (u : va_W × (PK)) => v = none ∧ (LgK K u.2 pq) ∧ (OKP G h0 a (upd F 2 (nI sz)) R Z B J u.2 u.1)) (fun u => u.1) := by
  intro sz
  refine Met.ofW (cc := cX9_judgeMembers) (maxL := 4) (ret := none) (by decide) rfl ?_
  intro p e s m args below meth c s₁ B9 hml hv
  obtain ⟨rfl, hsz, hP, hD0, hE, hX⟩ := hv
  have hx := B9.exec
  have hb := B9.bytes
  have hr := B9.returns
  have hts := atoms_spec (ws := Cond.code yX9_judgeMembers cX9_judgeMembers 4 none :: pw) B9.pre
  have hq : ∀ w ∈ pw, w.before _ s = true := fun w h => hts w (List.mem_cons_of_mem _ h)
  have hown : s.vm.findClass RX9 = some m.cls := findClass_of_methodNamed B9.named
  have hlocks := B9.notSynchronized
  subst hsz
  have hD := hD0.self (sz := s.heap.size)
  have hA : ∀ q : Nat, s.heap.size ≤ q → va_A w s.heap.size q := fun q h => Or.inr h
  generalize va_A w s.heap.size = A at hD hE hA ⊢
  have hS : va_S A s.heap s.heap [] := va_S.rf
  have hl := lv_entry ([.ref pq, .ref d0]) (n := 4) (Nat.le_of_ble_eq_true rfl)
  rw [lg_entry_eq]
  generalize (lg_sl ([.ref pq, .ref d0]) ++ List.replicate (4 - (lg_sl ([.ref pq, .ref d0])).length) Slot.unset).toArray = ls at hl ⊢
  have hl : lv_has ls 4 [(0, .ref pq), (1, .ref d0)] := hl
  have hp1 := hps.1.1
  have hp2 := hps.1.2.1
  have hp3 := hps.1.2.2.1
  have hp4 := hps.1.2.2.2.1
  have hp5 := hps.1.2.2.2.2.1
  have hp6 := hps.1.2.2.2.2.2.1
  have hp8 := hps.1.2.2.2.2.2.2.2.1
  have hp9 := hps.1.2.2.2.2.2.2.2.2
  obtain ⟨lf, hflf, htlf, hrlf, holf⟩ := (hwp.2.2.1 d0 hd0).1
  obtain ⟨nlf, itlf, cplf, hlclf, hnblf, hcblf⟩ := hwp.2.1 lf htlf
  rw [hrlf] at hlclf hnblf
  have hnclf := hlclf.2.2.1
  have hnblf : nlf ≤ 20 := hnblf
  have hlclf : LsC G K lf 1 nlf itlf cplf := hlclf
  obtain ⟨lm, hflm, htlm, hrlm, holm⟩ := (hwp.2.2.1 d0 hd0).2.1
  obtain ⟨nlm, itlm, cplm, hlclm, hnblm, hcblm⟩ := hwp.2.1 lm htlm
  rw [hrlm] at hlclm hnblm
  have hnclm := hlclm.2.2.1
  have hnblm : nlm ≤ 30 := hnblm
  have hlclm : LsC G K lm 3 nlm itlm cplm := hlclm
  refine lv_iconst (v := 0) hx hb dX9_judgeMembers_0 (by decide) ?_
  refine lv_istore_n (lv' := [(2, .int 0), (0, .ref pq), (1, .ref d0)]) hx hb dX9_judgeMembers_1 rfl hl (by decide) rfl (fun ls hl => ?_)
  have loop_2 : ∀ (n_2 : Nat) (i2 : Nat) (K2 : PK) (H : Heap) (locs : List Loc) (ls : Array Slot) (w : va_W), i2 ≤ nlf → nlf + 1 ≤ i2 + n_2 → (LgK K K2 pq) → va_P G.1 pCl w H → va_D A w → va_S A s.heap H locs → OKP G h0 a (upd F 2 (nI sz)) R Z B J K2 w → lv_has ls 4 [(2, .int (nI i2)), (1, .ref d0), (0, .ref pq)] → W p l e (headSpec (Cond.code yX9_judgeMembers cX9_judgeMembers 4 none :: pw) ({ frames := 6, cells := 0, slots := 0, locals := 146 } : Room)).room s m ([.ref pq, .ref d0] : List Value).toArray below meth c H locs 0 0 (MQ below (pQ G A (fun (v : Option Value) (u : va_W × (PK)) => v = none ∧ (LgK K u.2 pq) ∧ (OKP G h0 a (upd F 2 (nI sz)) R Z B J u.2 u.1)) (fun u => u.1)) ([.ref pq, .ref d0] : List Value).toArray s ({ frames := 6, cells := 0, slots := 0, locals := 146 } : Room).cells ({ frames := 6, cells := 0, slots := 0, locals := 146 } : Room).slots A) (F0 m 2 ls []) := by
    intro n_2
    induction n_2 with
    | zero => intro i2 K2 H locs ls w hk_2 hn_2; omega
    | succ n_2 ih_2 =>
      intro i2 K2 H locs ls w hk_2 hn_2 hlg2 hP hD hS hO hl
      refine lv_iload_n hx hb dX9_judgeMembers_2 rfl (lv_at hl 0 rfl) ?_
      refine lv_aload_n hx hb dX9_judgeMembers_3 rfl (lv_at hl 1 rfl) ?_
      refine p_get (v := .ref lf) (C := RX2) (Tc := TX2) (N := 13) (ci := 2) hx hb hq pin_wsX20 hown hE hP hO (by rw [((LgK.T hlg2 d0).trans hd0)]; decide) (rep_4 ((LgK.T hlg2 d0).trans hd0)) rfl 7 (by decide) (hq _ pw_1089) (fun _ h9 => h9) (congrArg (fun z => some (va_rf z)) ((LgK.C hlg2 8 d0).trans hflf)) dX9_judgeMembers_4 ?_
      have hO : OKP G h0 a (upd F 2 (nI sz)) R Z B J K2 w := hO.to rfl
      obtain ⟨qr4, hqr5⟩ := p_recv hO (by rw [((LgK.T hlg2 lf).trans htlf)]; decide) (rep_5 ((LgK.T hlg2 lf).trans htlf))
      refine pc_V0 (G := G) (As := []) (rest := [.int (nI i2)]) hx hb hml hown hq hE hX pX0_al hP hD hS hA hl.1 (L_size l G h0 a (upd F 2 (nI sz)) R Z B J K2 w lf 1 nlf itlf (LgK.ls hlg2 hlclf).ls hO) (gV pw_516 pw_87 pw_88 pw_32 pw_16) hV_Jx4a65c_size_8abf5 qr4 10 hqr5 rfl rfl rfl (Nat.le_of_ble_eq_true rfl) dX9_judgeMembers_7 ⟨Nat.le_of_ble_eq_true rfl, Nat.le_of_ble_eq_true rfl⟩ ⟨Nat.le_of_ble_eq_true rfl, Nat.le_of_ble_eq_true rfl⟩ (fun v3 u1 H locs hw2 hP hD hS => ?_)
      obtain ⟨w, _⟩ := u1
      obtain ⟨hw2, hO⟩ := hw2
      obtain rfl : v3 = some (.int (nI nlf)) := hw2
      have hO : OKP G h0 a (upd F 2 (nI sz)) R Z B J K2 w := hO.to rfl
      refine W.widen (k := 0) (n := 0) (Nat.le_of_ble_eq_true rfl) (Nat.le_of_ble_eq_true rfl) ?_
      refine W.eq (g2 := F0 m 10 ls [.int (nI nlf), .int (nI i2)]) rfl ?_
      refine lv_icmp_ge (tgt := 82) hx hb dX9_judgeMembers_10 (by decide) (fun c6 => ?_) (fun c6 => ?_)
      · have n7 : nlf ≤ i2 := (nI_leI (a := nlf) (b := i2) (by omega) (by omega)).mp c6
        refine lv_iconst (v := 0) hx hb dX9_judgeMembers_82 (by decide) ?_
        refine lv_istore_n (lv' := [(2, .int 0), (1, .ref d0), (0, .ref pq)]) hx hb dX9_judgeMembers_83 rfl hl (by decide) rfl (fun ls hl => ?_)
        have loop_4 : ∀ (n_4 : Nat) (i4 : Nat) (K4 : PK) (H : Heap) (locs : List Loc) (ls : Array Slot) (w : va_W), i4 ≤ nlm → nlm + 1 ≤ i4 + n_4 → (LgK K K4 pq) → va_P G.1 pCl w H → va_D A w → va_S A s.heap H locs → OKP G h0 a (upd F 2 (nI sz)) R Z B J K4 w → lv_has ls 4 [(2, .int (nI i4)), (1, .ref d0), (0, .ref pq)] → W p l e (headSpec (Cond.code yX9_judgeMembers cX9_judgeMembers 4 none :: pw) ({ frames := 6, cells := 0, slots := 0, locals := 146 } : Room)).room s m ([.ref pq, .ref d0] : List Value).toArray below meth c H locs 0 0 (MQ below (pQ G A (fun (v : Option Value) (u : va_W × (PK)) => v = none ∧ (LgK K u.2 pq) ∧ (OKP G h0 a (upd F 2 (nI sz)) R Z B J u.2 u.1)) (fun u => u.1)) ([.ref pq, .ref d0] : List Value).toArray s ({ frames := 6, cells := 0, slots := 0, locals := 146 } : Room).cells ({ frames := 6, cells := 0, slots := 0, locals := 146 } : Room).slots A) (F0 m 84 ls []) := by
          intro n_4
          induction n_4 with
          | zero => intro i4 K4 H locs ls w hk_4 hn_4; omega
          | succ n_4 ih_4 =>
            intro i4 K4 H locs ls w hk_4 hn_4 hlg4 hP hD hS hO hl
            refine lv_iload_n hx hb dX9_judgeMembers_84 rfl (lv_at hl 0 rfl) ?_
            refine lv_aload_n hx hb dX9_judgeMembers_85 rfl (lv_at hl 1 rfl) ?_
            refine p_get (v := .ref lm) (C := RX2) (Tc := TX2) (N := 13) (ci := 2) hx hb hq pin_wsX20 hown hE hP hO (by rw [((LgK.T hlg4 d0).trans hd0)]; decide) (rep_4 ((LgK.T hlg4 d0).trans hd0)) rfl 8 (by decide) (hq _ pw_1093) (fun _ h9 => h9) (congrArg (fun z => some (va_rf z)) ((LgK.C hlg4 9 d0).trans hflm)) dX9_judgeMembers_86 ?_
            have hO : OKP G h0 a (upd F 2 (nI sz)) R Z B J K4 w := hO.to rfl
            obtain ⟨qr11, hqr12⟩ := p_recv hO (by rw [((LgK.T hlg4 lm).trans htlm)]; decide) (rep_5 ((LgK.T hlg4 lm).trans htlm))
            refine pc_V0 (G := G) (As := []) (rest := [.int (nI i4)]) hx hb hml hown hq hE hX pX0_al hP hD hS hA hl.1 (L_size l G h0 a (upd F 2 (nI sz)) R Z B J K4 w lm 3 nlm itlm (LgK.ls hlg4 hlclm).ls hO) (gV pw_516 pw_87 pw_88 pw_32 pw_16) hV_Jx4a65c_size_8abf5 qr11 10 hqr12 rfl rfl rfl (Nat.le_of_ble_eq_true rfl) dX9_judgeMembers_89 ⟨Nat.le_of_ble_eq_true rfl, Nat.le_of_ble_eq_true rfl⟩ ⟨Nat.le_of_ble_eq_true rfl, Nat.le_of_ble_eq_true rfl⟩ (fun v10 u8 H locs hw9 hP hD hS => ?_)
            obtain ⟨w, _⟩ := u8
            obtain ⟨hw9, hO⟩ := hw9
            obtain rfl : v10 = some (.int (nI nlm)) := hw9
            have hO : OKP G h0 a (upd F 2 (nI sz)) R Z B J K4 w := hO.to rfl
            refine W.widen (k := 0) (n := 0) (Nat.le_of_ble_eq_true rfl) (Nat.le_of_ble_eq_true rfl) ?_
            refine W.eq (g2 := F0 m 92 ls [.int (nI nlm), .int (nI i4)]) rfl ?_
            refine lv_icmp_ge (tgt := 134) hx hb dX9_judgeMembers_92 (by decide) (fun c13 => ?_) (fun c13 => ?_)
            · have n14 : nlm ≤ i4 := (nI_leI (a := nlm) (b := i4) (by omega) (by omega)).mp c13
              have hz15 : LgK K K4 pq := hlg4
              have hO : OKP G h0 a (upd F 2 (nI sz)) R Z B J K4 w := hO.to rfl
              exact W.vret hx hb hr (fun t99 ht99 hW99 => ⟨⟨_, (w, K4), rfl, ⟨rfl, hz15, hO⟩, by rw [ht99]; exact hP, hD⟩, hS.F ht99⟩) hS.2.2 dX9_judgeMembers_134
            · have n16 : ¬ (nlm ≤ i4) := fun h9 => c13 ((nI_leI (a := nlm) (b := i4) (by omega) (by omega)).mpr h9)
              refine lv_aload_n hx hb dX9_judgeMembers_95 rfl (lv_at hl 1 rfl) ?_
              refine p_get (v := .ref lm) (C := RX2) (Tc := TX2) (N := 13) (ci := 2) hx hb hq pin_wsX20 hown hE hP hO (by rw [((LgK.T hlg4 d0).trans hd0)]; decide) (rep_4 ((LgK.T hlg4 d0).trans hd0)) rfl 8 (by decide) (hq _ pw_1093) (fun _ h9 => h9) (congrArg (fun z => some (va_rf z)) ((LgK.C hlg4 9 d0).trans hflm)) dX9_judgeMembers_96 ?_
              refine lv_iload_n hx hb dX9_judgeMembers_99 rfl (lv_at hl 0 rfl) ?_
              have hO : OKP G h0 a (upd F 2 (nI sz)) R Z B J K4 w := hO.to rfl
              obtain ⟨qr20, hqr21⟩ := p_recv hO (by rw [((LgK.T hlg4 lm).trans htlm)]; decide) (rep_5 ((LgK.T hlg4 lm).trans htlm))
              refine pc_V0 (G := G) (As := [.int (nI i4)]) (rest := []) hx hb hml hown hq hE hX pX0_al hP hD hS hA hl.1 (L_get l G h0 a (upd F 2 (nI sz)) R Z B J K4 w lm 3 nlm itlm i4 (LgK.ls hlg4 hlclm).ls (by omega) hO) (gV pw_517 pw_90 pw_91 pw_32 pw_25) hV_Jx4a65c_get_915e3 qr20 10 hqr21 rfl rfl rfl (Nat.le_of_ble_eq_true rfl) dX9_judgeMembers_100 ⟨Nat.le_of_ble_eq_true rfl, Nat.le_of_ble_eq_true rfl⟩ ⟨Nat.le_of_ble_eq_true rfl, Nat.le_of_ble_eq_true rfl⟩ (fun v19 u17 H locs hw18 hP hD hS => ?_)
              obtain ⟨w, _⟩ := u17
              obtain ⟨hw18, hO⟩ := hw18
              obtain rfl : v19 = some (.ref (itlm i4)) := hw18
              have hO : OKP G h0 a (upd F 2 (nI sz)) R Z B J K4 w := hO.to rfl
              refine W.widen (k := 0) (n := 0) (Nat.le_of_ble_eq_true rfl) (Nat.le_of_ble_eq_true rfl) ?_
              refine W.eq (g2 := F0 m 103 ls [.ref (itlm i4)]) rfl ?_
              have hf22 : K.1 (itlm i4) = 3 := hlclm.T (by omega)
              refine p_cast (C := RX6) (Tc := TX6) (N := 12) (ci := 12) hx hb hown (hq _ pw_515) hE hP hO (by rw [((LgK.T hlg4 (itlm i4)).trans hf22)]; decide) (rep_3 ((LgK.T hlg4 (itlm i4)).trans hf22)) rfl dX9_judgeMembers_103 ?_
              refine lv_astore_n (lv' := [(3, .ref (itlm i4)), (2, .int (nI i4)), (1, .ref d0), (0, .ref pq)]) hx hb dX9_judgeMembers_106 rfl hl (by decide) rfl (fun ls hl => ?_)
              refine lv_aload_n hx hb dX9_judgeMembers_107 rfl (lv_at hl 2 rfl) ?_
              refine lv_aload_n hx hb dX9_judgeMembers_108 rfl (lv_at hl 0 rfl) ?_
              refine p_get (v := .int (K4.2.1 6 (itlm i4))) (C := RX6) (Tc := TX6) (N := 12) (ci := 12) hx hb hq pin_wsX60 hown hE hP hO (by rw [((LgK.T hlg4 (itlm i4)).trans hf22)]; decide) (rep_3 ((LgK.T hlg4 (itlm i4)).trans hf22)) rfl 1 (by decide) (hq _ pw_1094) (fun _ h9 => h9) rfl dX9_judgeMembers_109 ?_
              have hO : OKP G h0 a (upd F 2 (nI sz)) R Z B J K4 w := hO.to rfl
              obtain ⟨qr26, hqr27⟩ := p_recv hO (by rw [((LgK.T hlg4 d0).trans hd0)]; decide) (rep_4 ((LgK.T hlg4 d0).trans hd0))
              refine pc_V0 (G := G) (As := [.int (K4.2.1 6 (itlm i4))]) (rest := []) hx hb hml hown hq hE hX pX0_al hP hD hS hA hl.1 (O_own l G h0 a (upd F 2 (nI sz)) R Z B J K4 w d0 (K4.2.1 6 (itlm i4)) g ((LgK.T hlg4 d0).trans hd0) (LgK.wp hlg4 hwp) hO) (gV pw_1099 pw_152 pw_153 pw_146 pw_149) hV_X2_own qr26 2 hqr27 rfl rfl rfl (Nat.le_of_ble_eq_true rfl) dX9_judgeMembers_112 ⟨Nat.le_of_ble_eq_true rfl, Nat.le_of_ble_eq_true rfl⟩ ⟨Nat.le_of_ble_eq_true rfl, Nat.le_of_ble_eq_true rfl⟩ (fun v25 u23 H locs hw24 hP hD hS => ?_)
              obtain ⟨w, o28⟩ := u23
              obtain ⟨hw24, h29, hO⟩ := hw24
              have h29 : MoN K4 o28 := h29
              obtain rfl : v25 = some ((va_rf o28)) := hw24
              have hO : OKP G h0 a (upd F 2 (nI sz)) R Z B J K4 w := hO.to rfl
              refine W.widen (k := 0) (n := 0) (Nat.le_of_ble_eq_true rfl) (Nat.le_of_ble_eq_true rfl) ?_
              refine W.eq (g2 := F0 m 115 ls [(va_rf o28)]) rfl ?_
              rcases o28 with _ | d30
              · have hl : lv_has ls 4 [(3, .ref (itlm i4)), (2, .int (nI i4)), (1, .ref d0), (0, .ref pq)] := hl
                refine W.eq (g2 := F0 m 115 ls [.null]) rfl ?_
                refine lv_aload_n hx hb dX9_judgeMembers_115 rfl (lv_at hl 0 rfl) ?_
                refine lv_acmp_eq (rx := none) (ry := (some (itlm i4))) (tgt := 128) hx hb dX9_judgeMembers_116 (by decide) (fun c31 => ?_) (fun c31 => ?_)
                · skip
                  refine lv_iinc (v := (nI (i4 + 1))) (lv' := [(2, .int (nI (i4 + 1))), (3, .ref (itlm i4)), (1, .ref d0), (0, .ref pq)]) hx hb dX9_judgeMembers_128 hl (k := 1) rfl (nI_1 i4) (by decide) rfl (fun ls hl => ?_)
                  refine lv_goto (tgt := 84) hx hb dX9_judgeMembers_131 (by decide) ?_
                  have hO : OKP G h0 a (upd F 2 (nI sz)) R Z B J K4 w := hO.to rfl
                  exact ih_4 (i4 + 1) K4 _ _ _ _ (by omega) (by omega) hlg4 hP hD hS hO (lv_sub hl [0, 2, 3] rfl)
                · skip
                  refine lv_aload_n hx hb dX9_judgeMembers_119 rfl (lv_at hl 3 rfl) ?_
                  refine lv_iconst (v := 3) hx hb dX9_judgeMembers_120 (by decide) ?_
                  refine lv_aload_n hx hb dX9_judgeMembers_121 rfl (lv_at hl 0 rfl) ?_
                  refine p_get (v := .int (K4.2.1 7 (itlm i4))) (C := RX6) (Tc := TX6) (N := 12) (ci := 12) hx hb hq pin_wsX60 hown hE hP hO (by rw [((LgK.T hlg4 (itlm i4)).trans hf22)]; decide) (rep_3 ((LgK.T hlg4 (itlm i4)).trans hf22)) rfl 2 (by decide) (hq _ pw_1095) (fun _ h9 => h9) rfl dX9_judgeMembers_122 ?_
                  have hO : OKP G h0 a (upd (upd F 2 (nI sz)) 2 (nI sz)) R Z B J K4 w := hO.to rfl
                  obtain ⟨qr35, hqr36⟩ := p_recv hO (by rw [((LgK.T hlg4 pq).trans hp1)]; decide) (rep_7 ((LgK.T hlg4 pq).trans hp1))
                  refine pc_V0 (G := G) (As := [.int 3, .int (K4.2.1 7 (itlm i4))]) (rest := []) hx hb hml hown hq hE hX pX0_al hP hD hS hA hl.1 (G_report l G h0 a (upd F 2 (nI sz)) R Z B J K4 w pq dr ml nd nm cp it s9 3 (K4.2.1 7 (itlm i4)) sz g (by omega) (LgK.wp hlg4 hwp) (LgK.ps hlg4 hps) hO) (gV pw_1096 pw_1097 pw_1098 pw_106 pw_1084) hV_X9_report qr35 6 hqr36 rfl rfl rfl (Nat.le_of_ble_eq_true rfl) dX9_judgeMembers_125 ⟨Nat.le_of_ble_eq_true rfl, Nat.le_of_ble_eq_true rfl⟩ ⟨Nat.le_of_ble_eq_true rfl, Nat.le_of_ble_eq_true rfl⟩ (fun v34 u32 H locs hw33 hP hD hS => ?_)
                  obtain ⟨w, K37⟩ := u32
                  obtain ⟨hw33, h38, h39, hO⟩ := hw33
                  have h38 : LgK K4 K37 pq := h38
                  have h39 : RpQ 3 K37 pq := h39
                  obtain rfl : v34 = none := hw33
                  have hO : OKP G h0 a (upd F 2 (nI sz)) R Z B J K37 w := hO.to rfl
                  refine W.widen (k := 0) (n := 0) (Nat.le_of_ble_eq_true rfl) (Nat.le_of_ble_eq_true rfl) ?_
                  refine W.eq (g2 := F0 m 128 ls []) rfl ?_
                  have hlg40 : LgK K K37 pq := LgK.trans hlg4 h38
                  refine lv_iinc (v := (nI (i4 + 1))) (lv' := [(2, .int (nI (i4 + 1))), (3, .ref (itlm i4)), (1, .ref d0), (0, .ref pq)]) hx hb dX9_judgeMembers_128 hl (k := 1) rfl (nI_1 i4) (by decide) rfl (fun ls hl => ?_)
                  refine lv_goto (tgt := 84) hx hb dX9_judgeMembers_131 (by decide) ?_
                  have hO : OKP G h0 a (upd F 2 (nI sz)) R Z B J K37 w := hO.to rfl
                  exact ih_4 (i4 + 1) K37 _ _ _ _ (by omega) (by omega) hlg40 hP hD hS hO (lv_sub hl [0, 2, 3] rfl)
              · have hl : lv_has ls 4 [(3, .ref (itlm i4)), (2, .int (nI i4)), (1, .ref d0), (0, .ref pq)] := hl
                refine W.eq (g2 := F0 m 115 ls [.ref d30]) rfl ?_
                have hf41 : K.1 d30 = 3 := (LgK.T hlg4 d30).symm.trans (h29 d30 rfl)
                refine lv_aload_n hx hb dX9_judgeMembers_115 rfl (lv_at hl 0 rfl) ?_
                refine lv_acmp_eq (rx := (some d30)) (ry := (some (itlm i4))) (tgt := 128) hx hb dX9_judgeMembers_116 (by decide) (fun c42 => ?_) (fun c42 => ?_)
                · skip
                  refine lv_iinc (v := (nI (i4 + 1))) (lv' := [(2, .int (nI (i4 + 1))), (3, .ref (itlm i4)), (1, .ref d0), (0, .ref pq)]) hx hb dX9_judgeMembers_128 hl (k := 1) rfl (nI_1 i4) (by decide) rfl (fun ls hl => ?_)
                  refine lv_goto (tgt := 84) hx hb dX9_judgeMembers_131 (by decide) ?_
                  have hO : OKP G h0 a (upd F 2 (nI sz)) R Z B J K4 w := hO.to rfl
                  exact ih_4 (i4 + 1) K4 _ _ _ _ (by omega) (by omega) hlg4 hP hD hS hO (lv_sub hl [0, 2, 3] rfl)
                · skip
                  refine lv_aload_n hx hb dX9_judgeMembers_119 rfl (lv_at hl 3 rfl) ?_
                  refine lv_iconst (v := 3) hx hb dX9_judgeMembers_120 (by decide) ?_
                  refine lv_aload_n hx hb dX9_judgeMembers_121 rfl (lv_at hl 0 rfl) ?_
                  refine p_get (v := .int (K4.2.1 7 (itlm i4))) (C := RX6) (Tc := TX6) (N := 12) (ci := 12) hx hb hq pin_wsX60 hown hE hP hO (by rw [((LgK.T hlg4 (itlm i4)).trans hf22)]; decide) (rep_3 ((LgK.T hlg4 (itlm i4)).trans hf22)) rfl 2 (by decide) (hq _ pw_1095) (fun _ h9 => h9) rfl dX9_judgeMembers_122 ?_
                  have hO : OKP G h0 a (upd (upd F 2 (nI sz)) 2 (nI sz)) R Z B J K4 w := hO.to rfl
                  obtain ⟨qr46, hqr47⟩ := p_recv hO (by rw [((LgK.T hlg4 pq).trans hp1)]; decide) (rep_7 ((LgK.T hlg4 pq).trans hp1))
                  refine pc_V0 (G := G) (As := [.int 3, .int (K4.2.1 7 (itlm i4))]) (rest := []) hx hb hml hown hq hE hX pX0_al hP hD hS hA hl.1 (G_report l G h0 a (upd F 2 (nI sz)) R Z B J K4 w pq dr ml nd nm cp it s9 3 (K4.2.1 7 (itlm i4)) sz g (by omega) (LgK.wp hlg4 hwp) (LgK.ps hlg4 hps) hO) (gV pw_1096 pw_1097 pw_1098 pw_106 pw_1084) hV_X9_report qr46 6 hqr47 rfl rfl rfl (Nat.le_of_ble_eq_true rfl) dX9_judgeMembers_125 ⟨Nat.le_of_ble_eq_true rfl, Nat.le_of_ble_eq_true rfl⟩ ⟨Nat.le_of_ble_eq_true rfl, Nat.le_of_ble_eq_true rfl⟩ (fun v45 u43 H locs hw44 hP hD hS => ?_)
                  obtain ⟨w, K48⟩ := u43
                  obtain ⟨hw44, h49, h50, hO⟩ := hw44
                  have h49 : LgK K4 K48 pq := h49
                  have h50 : RpQ 3 K48 pq := h50
                  obtain rfl : v45 = none := hw44
                  have hO : OKP G h0 a (upd F 2 (nI sz)) R Z B J K48 w := hO.to rfl
                  refine W.widen (k := 0) (n := 0) (Nat.le_of_ble_eq_true rfl) (Nat.le_of_ble_eq_true rfl) ?_
                  refine W.eq (g2 := F0 m 128 ls []) rfl ?_
                  have hlg51 : LgK K K48 pq := LgK.trans hlg4 h49
                  refine lv_iinc (v := (nI (i4 + 1))) (lv' := [(2, .int (nI (i4 + 1))), (3, .ref (itlm i4)), (1, .ref d0), (0, .ref pq)]) hx hb dX9_judgeMembers_128 hl (k := 1) rfl (nI_1 i4) (by decide) rfl (fun ls hl => ?_)
                  refine lv_goto (tgt := 84) hx hb dX9_judgeMembers_131 (by decide) ?_
                  have hO : OKP G h0 a (upd F 2 (nI sz)) R Z B J K48 w := hO.to rfl
                  exact ih_4 (i4 + 1) K48 _ _ _ _ (by omega) (by omega) hlg51 hP hD hS hO (lv_sub hl [0, 2, 3] rfl)
        have hO : OKP G h0 a (upd F 2 (nI sz)) R Z B J K2 w := hO.to rfl
        exact loop_4 (nlm + 1) 0 K2 _ _ _ _ (by omega) (by omega) hlg2 hP hD hS hO (lv_sub hl [0, 1, 2] rfl)
      · have n52 : ¬ (nlf ≤ i2) := fun h9 => c6 ((nI_leI (a := nlf) (b := i2) (by omega) (by omega)).mpr h9)
        refine lv_iconst (v := 0) hx hb dX9_judgeMembers_13 (by decide) ?_
        refine lv_istore_n (lv' := [(3, .int 0), (2, .int (nI i2)), (1, .ref d0), (0, .ref pq)]) hx hb dX9_judgeMembers_14 rfl hl (by decide) rfl (fun ls hl => ?_)
        have loop_3 : ∀ (n_3 : Nat) (i3 : Nat) (K3 : PK) (H : Heap) (locs : List Loc) (ls : Array Slot) (w : va_W), i3 ≤ i2 → i2 + 1 ≤ i3 + n_3 → (LgK K K3 pq) → va_P G.1 pCl w H → va_D A w → va_S A s.heap H locs → OKP G h0 a (upd F 2 (nI sz)) R Z B J K3 w → lv_has ls 4 [(3, .int (nI i3)), (2, .int (nI i2)), (1, .ref d0), (0, .ref pq)] → W p l e (headSpec (Cond.code yX9_judgeMembers cX9_judgeMembers 4 none :: pw) ({ frames := 6, cells := 0, slots := 0, locals := 146 } : Room)).room s m ([.ref pq, .ref d0] : List Value).toArray below meth c H locs 0 0 (MQ below (pQ G A (fun (v : Option Value) (u : va_W × (PK)) => v = none ∧ (LgK K u.2 pq) ∧ (OKP G h0 a (upd F 2 (nI sz)) R Z B J u.2 u.1)) (fun u => u.1)) ([.ref pq, .ref d0] : List Value).toArray s ({ frames := 6, cells := 0, slots := 0, locals := 146 } : Room).cells ({ frames := 6, cells := 0, slots := 0, locals := 146 } : Room).slots A) (F0 m 15 ls []) := by
          intro n_3
          induction n_3 with
          | zero => intro i3 K3 H locs ls w hk_3 hn_3; omega
          | succ n_3 ih_3 =>
            intro i3 K3 H locs ls w hk_3 hn_3 hlg3 hP hD hS hO hl
            refine lv_iload_n hx hb dX9_judgeMembers_15 rfl (lv_at hl 0 rfl) ?_
            refine lv_iload_n hx hb dX9_judgeMembers_16 rfl (lv_at hl 1 rfl) ?_
            refine lv_icmp_ge (tgt := 76) hx hb dX9_judgeMembers_17 (by decide) (fun c53 => ?_) (fun c53 => ?_)
            · have n54 : i2 ≤ i3 := (nI_leI (a := i2) (b := i3) (by omega) (by omega)).mp c53
              refine lv_iinc (v := (nI (i2 + 1))) (lv' := [(2, .int (nI (i2 + 1))), (3, .int (nI i3)), (1, .ref d0), (0, .ref pq)]) hx hb dX9_judgeMembers_76 hl (k := 1) rfl (nI_1 i2) (by decide) rfl (fun ls hl => ?_)
              refine lv_goto (tgt := 2) hx hb dX9_judgeMembers_79 (by decide) ?_
              have hO : OKP G h0 a (upd F 2 (nI sz)) R Z B J K3 w := hO.to rfl
              exact ih_2 (i2 + 1) K3 _ _ _ _ (by omega) (by omega) hlg3 hP hD hS hO (lv_sub hl [0, 2, 3] rfl)
            · have n55 : ¬ (i2 ≤ i3) := fun h9 => c53 ((nI_leI (a := i2) (b := i3) (by omega) (by omega)).mpr h9)
              refine lv_aload_n hx hb dX9_judgeMembers_20 rfl (lv_at hl 2 rfl) ?_
              refine p_get (v := .ref lf) (C := RX2) (Tc := TX2) (N := 13) (ci := 2) hx hb hq pin_wsX20 hown hE hP hO (by rw [((LgK.T hlg3 d0).trans hd0)]; decide) (rep_4 ((LgK.T hlg3 d0).trans hd0)) rfl 7 (by decide) (hq _ pw_1089) (fun _ h9 => h9) (congrArg (fun z => some (va_rf z)) ((LgK.C hlg3 8 d0).trans hflf)) dX9_judgeMembers_21 ?_
              refine lv_iload_n hx hb dX9_judgeMembers_24 rfl (lv_at hl 1 rfl) ?_
              have hO : OKP G h0 a (upd F 2 (nI sz)) R Z B J K3 w := hO.to rfl
              obtain ⟨qr59, hqr60⟩ := p_recv hO (by rw [((LgK.T hlg3 lf).trans htlf)]; decide) (rep_5 ((LgK.T hlg3 lf).trans htlf))
              refine pc_V0 (G := G) (As := [.int (nI i2)]) (rest := []) hx hb hml hown hq hE hX pX0_al hP hD hS hA hl.1 (L_get l G h0 a (upd F 2 (nI sz)) R Z B J K3 w lf 1 nlf itlf i2 (LgK.ls hlg3 hlclf).ls (by omega) hO) (gV pw_517 pw_90 pw_91 pw_32 pw_25) hV_Jx4a65c_get_915e3 qr59 10 hqr60 rfl rfl rfl (Nat.le_of_ble_eq_true rfl) dX9_judgeMembers_25 ⟨Nat.le_of_ble_eq_true rfl, Nat.le_of_ble_eq_true rfl⟩ ⟨Nat.le_of_ble_eq_true rfl, Nat.le_of_ble_eq_true rfl⟩ (fun v58 u56 H locs hw57 hP hD hS => ?_)
              obtain ⟨w, _⟩ := u56
              obtain ⟨hw57, hO⟩ := hw57
              obtain rfl : v58 = some (.ref (itlf i2)) := hw57
              have hO : OKP G h0 a (upd F 2 (nI sz)) R Z B J K3 w := hO.to rfl
              refine W.widen (k := 0) (n := 0) (Nat.le_of_ble_eq_true rfl) (Nat.le_of_ble_eq_true rfl) ?_
              refine W.eq (g2 := F0 m 28 ls [.ref (itlf i2)]) rfl ?_
              have hf61 : K.1 (itlf i2) = 1 := hlclf.T (by omega)
              refine p_cast (C := RX7) (Tc := TX7) (N := 11) (ci := 13) hx hb hown (hq _ pw_1090) hE hP hO (by rw [((LgK.T hlg3 (itlf i2)).trans hf61)]; decide) (rep_1 ((LgK.T hlg3 (itlf i2)).trans hf61)) rfl dX9_judgeMembers_28 ?_
              refine p_get (v := .int (K3.2.1 3 (itlf i2))) (C := RX7) (Tc := TX7) (N := 11) (ci := 13) hx hb hq pin_wsX70 hown hE hP hO (by rw [((LgK.T hlg3 (itlf i2)).trans hf61)]; decide) (rep_1 ((LgK.T hlg3 (itlf i2)).trans hf61)) rfl 3 (by decide) (hq _ pw_1091) (fun _ h9 => h9) rfl dX9_judgeMembers_31 ?_
              refine lv_aload_n hx hb dX9_judgeMembers_34 rfl (lv_at hl 2 rfl) ?_
              refine p_get (v := .ref lf) (C := RX2) (Tc := TX2) (N := 13) (ci := 2) hx hb hq pin_wsX20 hown hE hP hO (by rw [((LgK.T hlg3 d0).trans hd0)]; decide) (rep_4 ((LgK.T hlg3 d0).trans hd0)) rfl 7 (by decide) (hq _ pw_1089) (fun _ h9 => h9) (congrArg (fun z => some (va_rf z)) ((LgK.C hlg3 8 d0).trans hflf)) dX9_judgeMembers_35 ?_
              refine lv_iload_n hx hb dX9_judgeMembers_38 rfl (lv_at hl 0 rfl) ?_
              have hO : OKP G h0 a (upd F 2 (nI sz)) R Z B J K3 w := hO.to rfl
              obtain ⟨qr65, hqr66⟩ := p_recv hO (by rw [((LgK.T hlg3 lf).trans htlf)]; decide) (rep_5 ((LgK.T hlg3 lf).trans htlf))
              refine pc_V0 (G := G) (As := [.int (nI i3)]) (rest := [.int (K3.2.1 3 (itlf i2))]) hx hb hml hown hq hE hX pX0_al hP hD hS hA hl.1 (L_get l G h0 a (upd F 2 (nI sz)) R Z B J K3 w lf 1 nlf itlf i3 (LgK.ls hlg3 hlclf).ls (by omega) hO) (gV pw_517 pw_90 pw_91 pw_32 pw_25) hV_Jx4a65c_get_915e3 qr65 10 hqr66 rfl rfl rfl (Nat.le_of_ble_eq_true rfl) dX9_judgeMembers_39 ⟨Nat.le_of_ble_eq_true rfl, Nat.le_of_ble_eq_true rfl⟩ ⟨Nat.le_of_ble_eq_true rfl, Nat.le_of_ble_eq_true rfl⟩ (fun v64 u62 H locs hw63 hP hD hS => ?_)
              obtain ⟨w, _⟩ := u62
              obtain ⟨hw63, hO⟩ := hw63
              obtain rfl : v64 = some (.ref (itlf i3)) := hw63
              have hO : OKP G h0 a (upd F 2 (nI sz)) R Z B J K3 w := hO.to rfl
              refine W.widen (k := 0) (n := 0) (Nat.le_of_ble_eq_true rfl) (Nat.le_of_ble_eq_true rfl) ?_
              refine W.eq (g2 := F0 m 42 ls [.ref (itlf i3), .int (K3.2.1 3 (itlf i2))]) rfl ?_
              have hf67 : K.1 (itlf i3) = 1 := hlclf.T (by omega)
              refine p_cast (C := RX7) (Tc := TX7) (N := 11) (ci := 13) hx hb hown (hq _ pw_1090) hE hP hO (by rw [((LgK.T hlg3 (itlf i3)).trans hf67)]; decide) (rep_1 ((LgK.T hlg3 (itlf i3)).trans hf67)) rfl dX9_judgeMembers_42 ?_
              refine p_get (v := .int (K3.2.1 3 (itlf i3))) (C := RX7) (Tc := TX7) (N := 11) (ci := 13) hx hb hq pin_wsX70 hown hE hP hO (by rw [((LgK.T hlg3 (itlf i3)).trans hf67)]; decide) (rep_1 ((LgK.T hlg3 (itlf i3)).trans hf67)) rfl 3 (by decide) (hq _ pw_1091) (fun _ h9 => h9) rfl dX9_judgeMembers_45 ?_
              refine lv_icmp_ne (tgt := 70) hx hb dX9_judgeMembers_48 (by decide) (fun c68 => ?_) (fun c68 => ?_)
              · refine lv_iinc (v := (nI (i3 + 1))) (lv' := [(3, .int (nI (i3 + 1))), (2, .int (nI i2)), (1, .ref d0), (0, .ref pq)]) hx hb dX9_judgeMembers_70 hl (k := 0) rfl (nI_1 i3) (by decide) rfl (fun ls hl => ?_)
                refine lv_goto (tgt := 15) hx hb dX9_judgeMembers_73 (by decide) ?_
                have hO : OKP G h0 a (upd F 2 (nI sz)) R Z B J K3 w := hO.to rfl
                exact ih_3 (i3 + 1) K3 _ _ _ _ (by omega) (by omega) hlg3 hP hD hS hO (lv_sub hl [0, 1, 2, 3] rfl)
              · refine lv_aload_n hx hb dX9_judgeMembers_51 rfl (lv_at hl 3 rfl) ?_
                refine lv_iconst (v := 3) hx hb dX9_judgeMembers_52 (by decide) ?_
                refine lv_aload_n hx hb dX9_judgeMembers_53 rfl (lv_at hl 2 rfl) ?_
                refine p_get (v := .ref lf) (C := RX2) (Tc := TX2) (N := 13) (ci := 2) hx hb hq pin_wsX20 hown hE hP hO (by rw [((LgK.T hlg3 d0).trans hd0)]; decide) (rep_4 ((LgK.T hlg3 d0).trans hd0)) rfl 7 (by decide) (hq _ pw_1089) (fun _ h9 => h9) (congrArg (fun z => some (va_rf z)) ((LgK.C hlg3 8 d0).trans hflf)) dX9_judgeMembers_54 ?_
                refine lv_iload_n hx hb dX9_judgeMembers_57 rfl (lv_at hl 1 rfl) ?_
                have hO : OKP G h0 a (upd F 2 (nI sz)) R Z B J K3 w := hO.to rfl
                obtain ⟨qr72, hqr73⟩ := p_recv hO (by rw [((LgK.T hlg3 lf).trans htlf)]; decide) (rep_5 ((LgK.T hlg3 lf).trans htlf))
                refine pc_V0 (G := G) (As := [.int (nI i2)]) (rest := [.int 3, .ref pq]) hx hb hml hown hq hE hX pX0_al hP hD hS hA hl.1 (L_get l G h0 a (upd F 2 (nI sz)) R Z B J K3 w lf 1 nlf itlf i2 (LgK.ls hlg3 hlclf).ls (by omega) hO) (gV pw_517 pw_90 pw_91 pw_32 pw_25) hV_Jx4a65c_get_915e3 qr72 10 hqr73 rfl rfl rfl (Nat.le_of_ble_eq_true rfl) dX9_judgeMembers_58 ⟨Nat.le_of_ble_eq_true rfl, Nat.le_of_ble_eq_true rfl⟩ ⟨Nat.le_of_ble_eq_true rfl, Nat.le_of_ble_eq_true rfl⟩ (fun v71 u69 H locs hw70 hP hD hS => ?_)
                obtain ⟨w, _⟩ := u69
                obtain ⟨hw70, hO⟩ := hw70
                obtain rfl : v71 = some (.ref (itlf i2)) := hw70
                have hO : OKP G h0 a (upd F 2 (nI sz)) R Z B J K3 w := hO.to rfl
                refine W.widen (k := 0) (n := 0) (Nat.le_of_ble_eq_true rfl) (Nat.le_of_ble_eq_true rfl) ?_
                refine W.eq (g2 := F0 m 61 ls [.ref (itlf i2), .int 3, .ref pq]) rfl ?_
                have hf74 : K.1 (itlf i2) = 1 := hlclf.T (by omega)
                refine p_cast (C := RX7) (Tc := TX7) (N := 11) (ci := 13) hx hb hown (hq _ pw_1090) hE hP hO (by rw [((LgK.T hlg3 (itlf i2)).trans hf74)]; decide) (rep_1 ((LgK.T hlg3 (itlf i2)).trans hf74)) rfl dX9_judgeMembers_61 ?_
                refine p_get (v := .int (K3.2.1 1 (itlf i2))) (C := RX7) (Tc := TX7) (N := 11) (ci := 13) hx hb hq pin_wsX70 hown hE hP hO (by rw [((LgK.T hlg3 (itlf i2)).trans hf74)]; decide) (rep_1 ((LgK.T hlg3 (itlf i2)).trans hf74)) rfl 1 (by decide) (hq _ pw_1092) (fun _ h9 => h9) rfl dX9_judgeMembers_64 ?_
                have hO : OKP G h0 a (upd (upd F 2 (nI sz)) 2 (nI sz)) R Z B J K3 w := hO.to rfl
                obtain ⟨qr78, hqr79⟩ := p_recv hO (by rw [((LgK.T hlg3 pq).trans hp1)]; decide) (rep_7 ((LgK.T hlg3 pq).trans hp1))
                refine pc_V0 (G := G) (As := [.int 3, .int (K3.2.1 1 (itlf i2))]) (rest := []) hx hb hml hown hq hE hX pX0_al hP hD hS hA hl.1 (G_report l G h0 a (upd F 2 (nI sz)) R Z B J K3 w pq dr ml nd nm cp it s9 3 (K3.2.1 1 (itlf i2)) sz g (by omega) (LgK.wp hlg3 hwp) (LgK.ps hlg3 hps) hO) (gV pw_1096 pw_1097 pw_1098 pw_106 pw_1084) hV_X9_report qr78 6 hqr79 rfl rfl rfl (Nat.le_of_ble_eq_true rfl) dX9_judgeMembers_67 ⟨Nat.le_of_ble_eq_true rfl, Nat.le_of_ble_eq_true rfl⟩ ⟨Nat.le_of_ble_eq_true rfl, Nat.le_of_ble_eq_true rfl⟩ (fun v77 u75 H locs hw76 hP hD hS => ?_)
                obtain ⟨w, K80⟩ := u75
                obtain ⟨hw76, h81, h82, hO⟩ := hw76
                have h81 : LgK K3 K80 pq := h81
                have h82 : RpQ 3 K80 pq := h82
                obtain rfl : v77 = none := hw76
                have hO : OKP G h0 a (upd F 2 (nI sz)) R Z B J K80 w := hO.to rfl
                refine W.widen (k := 0) (n := 0) (Nat.le_of_ble_eq_true rfl) (Nat.le_of_ble_eq_true rfl) ?_
                refine W.eq (g2 := F0 m 70 ls []) rfl ?_
                have hlg83 : LgK K K80 pq := LgK.trans hlg3 h81
                refine lv_iinc (v := (nI (i3 + 1))) (lv' := [(3, .int (nI (i3 + 1))), (2, .int (nI i2)), (1, .ref d0), (0, .ref pq)]) hx hb dX9_judgeMembers_70 hl (k := 0) rfl (nI_1 i3) (by decide) rfl (fun ls hl => ?_)
                refine lv_goto (tgt := 15) hx hb dX9_judgeMembers_73 (by decide) ?_
                have hO : OKP G h0 a (upd F 2 (nI sz)) R Z B J K80 w := hO.to rfl
                exact ih_3 (i3 + 1) K80 _ _ _ _ (by omega) (by omega) hlg83 hP hD hS hO (lv_sub hl [0, 1, 2, 3] rfl)
        have hO : OKP G h0 a (upd F 2 (nI sz)) R Z B J K2 w := hO.to rfl
        exact loop_3 (i2 + 1) 0 K2 _ _ _ _ (by omega) (by omega) hlg2 hP hD hS hO (lv_sub hl [0, 1, 2, 3] rfl)
  have hO : OKP G h0 a (upd F 2 (nI sz)) R Z B J K w := hO.to rfl
  exact loop_2 (nlf + 1) 0 K _ _ _ _ (by omega) (by omega) LgK.rfl hP hD hS hO (lv_sub hl [0, 2, 1] rfl)
