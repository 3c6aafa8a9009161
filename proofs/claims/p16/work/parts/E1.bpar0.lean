/-- a TYPE's first token -/
def TtQ (kd : Nat → Int32) (sz : Nat) (f1 : Nat → Int32) (a : Nat) : Prop := tkN kd sz 67 (nI a) = 13 ∨ tkN kd sz 67 (nI a) = 1 ∨ (tkN kd sz 67 (nI a) = 65 ∧ f1 a = 1)
theorem tJ_ne {x : Int32} {n : Nat} (hn : n < 2 ^ 31) (h : ¬ x = nI n) : ¬ x.toInt = (n : Int) := fun q => h (Int32.toInt_inj.mp (by rw [q, nI_toInt hn]))
theorem sw_out64 {x : Int32} (h0 : ¬ x = 0) (h1 : ¬ x = 1) (h2 : ¬ x = 2) (h3 : ¬ x = 3) (h4 : ¬ x = 4) (h5 : ¬ x = 5) (h6 : ¬ x = 6) (h7 : ¬ x = 7) (h8 : ¬ x = 8) (h9 : ¬ x = 9) (h10 : ¬ x = 10) (h11 : ¬ x = 11) (h12 : ¬ x = 12) (h13 : ¬ x = 13) (h14 : ¬ x = 14) (h15 : ¬ x = 15) (h16 : ¬ x = 16) (h17 : ¬ x = 17) (h18 : ¬ x = 18) (h19 : ¬ x = 19) (h20 : ¬ x = 20) (h21 : ¬ x = 21) (h22 : ¬ x = 22) (h23 : ¬ x = 23) (h24 : ¬ x = 24) (h25 : ¬ x = 25) (h26 : ¬ x = 26) (h27 : ¬ x = 27) (h28 : ¬ x = 28) (h29 : ¬ x = 29) (h30 : ¬ x = 30) (h31 : ¬ x = 31) (h32 : ¬ x = 32) (h33 : ¬ x = 33) (h34 : ¬ x = 34) (h35 : ¬ x = 35) (h36 : ¬ x = 36) (h37 : ¬ x = 37) (h38 : ¬ x = 38) (h39 : ¬ x = 39) (h40 : ¬ x = 40) (h41 : ¬ x = 41) (h42 : ¬ x = 42) (h43 : ¬ x = 43) (h44 : ¬ x = 44) (h45 : ¬ x = 45) (h46 : ¬ x = 46) (h47 : ¬ x = 47) (h48 : ¬ x = 48) (h49 : ¬ x = 49) (h50 : ¬ x = 50) (h51 : ¬ x = 51) (h52 : ¬ x = 52) (h53 : ¬ x = 53) (h54 : ¬ x = 54) (h55 : ¬ x = 55) (h56 : ¬ x = 56) (h57 : ¬ x = 57) (h58 : ¬ x = 58) (h59 : ¬ x = 59) (h60 : ¬ x = 60) (h61 : ¬ x = 61) (h62 : ¬ x = 62) (h63 : ¬ x = 63) (h64 : ¬ x = 64) : x.toInt < 0 ∨ 64 < x.toInt := by
  have a0 : ¬ x.toInt = 0 := tJ_ne (n := 0) (by decide) h0
  have a1 : ¬ x.toInt = 1 := tJ_ne (n := 1) (by decide) h1
  have a2 : ¬ x.toInt = 2 := tJ_ne (n := 2) (by decide) h2
  have a3 : ¬ x.toInt = 3 := tJ_ne (n := 3) (by decide) h3
  have a4 : ¬ x.toInt = 4 := tJ_ne (n := 4) (by decide) h4
  have a5 : ¬ x.toInt = 5 := tJ_ne (n := 5) (by decide) h5
  have a6 : ¬ x.toInt = 6 := tJ_ne (n := 6) (by decide) h6
  have a7 : ¬ x.toInt = 7 := tJ_ne (n := 7) (by decide) h7
  have a8 : ¬ x.toInt = 8 := tJ_ne (n := 8) (by decide) h8
  have a9 : ¬ x.toInt = 9 := tJ_ne (n := 9) (by decide) h9
  have a10 : ¬ x.toInt = 10 := tJ_ne (n := 10) (by decide) h10
  have a11 : ¬ x.toInt = 11 := tJ_ne (n := 11) (by decide) h11
  have a12 : ¬ x.toInt = 12 := tJ_ne (n := 12) (by decide) h12
  have a13 : ¬ x.toInt = 13 := tJ_ne (n := 13) (by decide) h13
  have a14 : ¬ x.toInt = 14 := tJ_ne (n := 14) (by decide) h14
  have a15 : ¬ x.toInt = 15 := tJ_ne (n := 15) (by decide) h15
  have a16 : ¬ x.toInt = 16 := tJ_ne (n := 16) (by decide) h16
  have a17 : ¬ x.toInt = 17 := tJ_ne (n := 17) (by decide) h17
  have a18 : ¬ x.toInt = 18 := tJ_ne (n := 18) (by decide) h18
  have a19 : ¬ x.toInt = 19 := tJ_ne (n := 19) (by decide) h19
  have a20 : ¬ x.toInt = 20 := tJ_ne (n := 20) (by decide) h20
  have a21 : ¬ x.toInt = 21 := tJ_ne (n := 21) (by decide) h21
  have a22 : ¬ x.toInt = 22 := tJ_ne (n := 22) (by decide) h22
  have a23 : ¬ x.toInt = 23 := tJ_ne (n := 23) (by decide) h23
  have a24 : ¬ x.toInt = 24 := tJ_ne (n := 24) (by decide) h24
  have a25 : ¬ x.toInt = 25 := tJ_ne (n := 25) (by decide) h25
  have a26 : ¬ x.toInt = 26 := tJ_ne (n := 26) (by decide) h26
  have a27 : ¬ x.toInt = 27 := tJ_ne (n := 27) (by decide) h27
  have a28 : ¬ x.toInt = 28 := tJ_ne (n := 28) (by decide) h28
  have a29 : ¬ x.toInt = 29 := tJ_ne (n := 29) (by decide) h29
  have a30 : ¬ x.toInt = 30 := tJ_ne (n := 30) (by decide) h30
  have a31 : ¬ x.toInt = 31 := tJ_ne (n := 31) (by decide) h31
  have a32 : ¬ x.toInt = 32 := tJ_ne (n := 32) (by decide) h32
  have a33 : ¬ x.toInt = 33 := tJ_ne (n := 33) (by decide) h33
  have a34 : ¬ x.toInt = 34 := tJ_ne (n := 34) (by decide) h34
  have a35 : ¬ x.toInt = 35 := tJ_ne (n := 35) (by decide) h35
  have a36 : ¬ x.toInt = 36 := tJ_ne (n := 36) (by decide) h36
  have a37 : ¬ x.toInt = 37 := tJ_ne (n := 37) (by decide) h37
  have a38 : ¬ x.toInt = 38 := tJ_ne (n := 38) (by decide) h38
  have a39 : ¬ x.toInt = 39 := tJ_ne (n := 39) (by decide) h39
  have a40 : ¬ x.toInt = 40 := tJ_ne (n := 40) (by decide) h40
  have a41 : ¬ x.toInt = 41 := tJ_ne (n := 41) (by decide) h41
  have a42 : ¬ x.toInt = 42 := tJ_ne (n := 42) (by decide) h42
  have a43 : ¬ x.toInt = 43 := tJ_ne (n := 43) (by decide) h43
  have a44 : ¬ x.toInt = 44 := tJ_ne (n := 44) (by decide) h44
  have a45 : ¬ x.toInt = 45 := tJ_ne (n := 45) (by decide) h45
  have a46 : ¬ x.toInt = 46 := tJ_ne (n := 46) (by decide) h46
  have a47 : ¬ x.toInt = 47 := tJ_ne (n := 47) (by decide) h47
  have a48 : ¬ x.toInt = 48 := tJ_ne (n := 48) (by decide) h48
  have a49 : ¬ x.toInt = 49 := tJ_ne (n := 49) (by decide) h49
  have a50 : ¬ x.toInt = 50 := tJ_ne (n := 50) (by decide) h50
  have a51 : ¬ x.toInt = 51 := tJ_ne (n := 51) (by decide) h51
  have a52 : ¬ x.toInt = 52 := tJ_ne (n := 52) (by decide) h52
  have a53 : ¬ x.toInt = 53 := tJ_ne (n := 53) (by decide) h53
  have a54 : ¬ x.toInt = 54 := tJ_ne (n := 54) (by decide) h54
  have a55 : ¬ x.toInt = 55 := tJ_ne (n := 55) (by decide) h55
  have a56 : ¬ x.toInt = 56 := tJ_ne (n := 56) (by decide) h56
  have a57 : ¬ x.toInt = 57 := tJ_ne (n := 57) (by decide) h57
  have a58 : ¬ x.toInt = 58 := tJ_ne (n := 58) (by decide) h58
  have a59 : ¬ x.toInt = 59 := tJ_ne (n := 59) (by decide) h59
  have a60 : ¬ x.toInt = 60 := tJ_ne (n := 60) (by decide) h60
  have a61 : ¬ x.toInt = 61 := tJ_ne (n := 61) (by decide) h61
  have a62 : ¬ x.toInt = 62 := tJ_ne (n := 62) (by decide) h62
  have a63 : ¬ x.toInt = 63 := tJ_ne (n := 63) (by decide) h63
  have a64 : ¬ x.toInt = 64 := tJ_ne (n := 64) (by decide) h64
  omega
theorem dX8_takeType_0 : decode cX8_takeType 0 = .ok (.aload_n 0, 1) := by decide +kernel
theorem dX8_takeType_1 : decode cX8_takeType 1 = .ok (.getfield 7, 3) := by decide +kernel
theorem dX8_takeType_4 : decode cX8_takeType 4 = .ok (.aload_n 0, 1) := by decide +kernel
theorem dX8_takeType_5 : decode cX8_takeType 5 = .ok (.getfield 17, 3) := by decide +kernel
theorem dX8_takeType_8 : decode cX8_takeType 8 = .ok (.invokevirtual 57, 3) := by decide +kernel
theorem dX8_takeType_11 : decode cX8_takeType 11 = .ok (.istore_n 2, 1) := by decide +kernel
theorem dX8_takeType_12 : decode cX8_takeType 12 = .ok (.iload_n 2, 1) := by decide +kernel
theorem dX8_takeType_13 : decode cX8_takeType 13 = .ok (.bipush 65, 2) := by decide +kernel
theorem dX8_takeType_15 : decode cX8_takeType 15 = .ok (.if_icmp .ne 18, 3) := by decide +kernel
theorem dX8_takeType_33 : decode cX8_takeType 33 = .ok (.iload_n 2, 1) := by decide +kernel
theorem dX8_takeType_34 : decode cX8_takeType 34 = .ok (.bipush 13, 2) := by decide +kernel
theorem dX8_takeType_36 : decode cX8_takeType 36 = .ok (.if_icmp .eq 20, 3) := by decide +kernel
theorem dX8_takeType_56 : decode cX8_takeType 56 = .ok (.aload_n 0, 1) := by decide +kernel
theorem dX8_takeType_57 : decode cX8_takeType 57 = .ok (.getfield 17, 3) := by decide +kernel
theorem dX8_takeType_60 : decode cX8_takeType 60 = .ok (.istore_n 3, 1) := by decide +kernel
theorem dX8_takeType_61 : decode cX8_takeType 61 = .ok (.aload_n 0, 1) := by decide +kernel
theorem dX8_takeType_62 : decode cX8_takeType 62 = .ok (.dup, 1) := by decide +kernel
theorem dX8_takeType_63 : decode cX8_takeType 63 = .ok (.getfield 17, 3) := by decide +kernel
theorem dX8_takeType_66 : decode cX8_takeType 66 = .ok (.iconst 1, 1) := by decide +kernel
theorem dX8_takeType_67 : decode cX8_takeType 67 = .ok (.iadd, 1) := by decide +kernel
theorem dX8_takeType_68 : decode cX8_takeType 68 = .ok (.putfield 17, 3) := by decide +kernel
theorem dX8_takeType_71 : decode cX8_takeType 71 = .ok (.iload_n 1, 1) := by decide +kernel
theorem dX8_takeType_72 : decode cX8_takeType 72 = .ok (.ifCond .eq 61, 3) := by decide +kernel
theorem dX8_takeType_133 : decode cX8_takeType 133 = .ok (.iload_n 3, 1) := by decide +kernel
theorem dX8_takeType_134 : decode cX8_takeType 134 = .ok (.ireturn, 1) := by decide +kernel
theorem dX8_takeType_75 : decode cX8_takeType 75 = .ok (.aload_n 0, 1) := by decide +kernel
theorem dX8_takeType_76 : decode cX8_takeType 76 = .ok (.getfield 7, 3) := by decide +kernel
theorem dX8_takeType_79 : decode cX8_takeType 79 = .ok (.aload_n 0, 1) := by decide +kernel
theorem dX8_takeType_80 : decode cX8_takeType 80 = .ok (.getfield 17, 3) := by decide +kernel
theorem dX8_takeType_83 : decode cX8_takeType 83 = .ok (.invokevirtual 57, 3) := by decide +kernel
theorem dX8_takeType_86 : decode cX8_takeType 86 = .ok (.bipush 36, 2) := by decide +kernel
theorem dX8_takeType_88 : decode cX8_takeType 88 = .ok (.if_icmp .ne 45, 3) := by decide +kernel
theorem dX8_takeType_91 : decode cX8_takeType 91 = .ok (.aload_n 0, 1) := by decide +kernel
theorem dX8_takeType_92 : decode cX8_takeType 92 = .ok (.getfield 7, 3) := by decide +kernel
theorem dX8_takeType_95 : decode cX8_takeType 95 = .ok (.aload_n 0, 1) := by decide +kernel
theorem dX8_takeType_96 : decode cX8_takeType 96 = .ok (.getfield 17, 3) := by decide +kernel
theorem dX8_takeType_99 : decode cX8_takeType 99 = .ok (.iconst 1, 1) := by decide +kernel
theorem dX8_takeType_100 : decode cX8_takeType 100 = .ok (.iadd, 1) := by decide +kernel
theorem dX8_takeType_101 : decode cX8_takeType 101 = .ok (.invokevirtual 57, 3) := by decide +kernel
theorem dX8_takeType_104 : decode cX8_takeType 104 = .ok (.bipush 37, 2) := by decide +kernel
theorem dX8_takeType_106 : decode cX8_takeType 106 = .ok (.if_icmp .eq 17, 3) := by decide +kernel
theorem dX8_takeType_123 : decode cX8_takeType 123 = .ok (.aload_n 0, 1) := by decide +kernel
theorem dX8_takeType_124 : decode cX8_takeType 124 = .ok (.dup, 1) := by decide +kernel
theorem dX8_takeType_125 : decode cX8_takeType 125 = .ok (.getfield 17, 3) := by decide +kernel
theorem dX8_takeType_128 : decode cX8_takeType 128 = .ok (.iconst 2, 1) := by decide +kernel
theorem dX8_takeType_129 : decode cX8_takeType 129 = .ok (.iadd, 1) := by decide +kernel
theorem dX8_takeType_130 : decode cX8_takeType 130 = .ok (.putfield 17, 3) := by decide +kernel
theorem dX8_takeType_109 : decode cX8_takeType 109 = .ok (.aload_n 0, 1) := by decide +kernel
theorem dX8_takeType_110 : decode cX8_takeType 110 = .ok (.getfield 7, 3) := by decide +kernel
theorem dX8_takeType_113 : decode cX8_takeType 113 = .ok (.iconst 1, 1) := by decide +kernel
theorem dX8_takeType_114 : decode cX8_takeType 114 = .ok (.aload_n 0, 1) := by decide +kernel
theorem dX8_takeType_115 : decode cX8_takeType 115 = .ok (.getfield 17, 3) := by decide +kernel
theorem dX8_takeType_118 : decode cX8_takeType 118 = .ok (.iconst 1, 1) := by decide +kernel
theorem dX8_takeType_119 : decode cX8_takeType 119 = .ok (.iadd, 1) := by decide +kernel
theorem dX8_takeType_120 : decode cX8_takeType 120 = .ok (.invokevirtual 60, 3) := by decide +kernel
theorem dX8_takeType_39 : decode cX8_takeType 39 = .ok (.iload_n 2, 1) := by decide +kernel
theorem dX8_takeType_40 : decode cX8_takeType 40 = .ok (.iconst 1, 1) := by decide +kernel
theorem dX8_takeType_41 : decode cX8_takeType 41 = .ok (.if_icmp .eq 15, 3) := by decide +kernel
theorem dX8_takeType_44 : decode cX8_takeType 44 = .ok (.aload_n 0, 1) := by decide +kernel
theorem dX8_takeType_45 : decode cX8_takeType 45 = .ok (.getfield 7, 3) := by decide +kernel
theorem dX8_takeType_48 : decode cX8_takeType 48 = .ok (.iconst 1, 1) := by decide +kernel
theorem dX8_takeType_49 : decode cX8_takeType 49 = .ok (.aload_n 0, 1) := by decide +kernel
theorem dX8_takeType_50 : decode cX8_takeType 50 = .ok (.getfield 17, 3) := by decide +kernel
theorem dX8_takeType_53 : decode cX8_takeType 53 = .ok (.invokevirtual 60, 3) := by decide +kernel
theorem dX8_takeType_18 : decode cX8_takeType 18 = .ok (.aload_n 0, 1) := by decide +kernel
theorem dX8_takeType_19 : decode cX8_takeType 19 = .ok (.getfield 7, 3) := by decide +kernel
theorem dX8_takeType_22 : decode cX8_takeType 22 = .ok (.aload_n 0, 1) := by decide +kernel
theorem dX8_takeType_23 : decode cX8_takeType 23 = .ok (.getfield 17, 3) := by decide +kernel
theorem dX8_takeType_26 : decode cX8_takeType 26 = .ok (.iconst 1, 1) := by decide +kernel
theorem dX8_takeType_27 : decode cX8_takeType 27 = .ok (.invokevirtual 64, 3) := by decide +kernel
theorem dX8_takeType_30 : decode cX8_takeType 30 = .ok (.goto 26, 3) := by decide +kernel
theorem hV_X10_giveRole : yX10_giveRole.cls = RX10 ∧ yX10_giveRole.cls ≠ "java/lang/invoke/MethodHandle" ∧ yX10_giveRole.cls ≠ "java/lang/invoke/VarHandle" ∧ (parseMethodDescriptor yX10_giveRole.desc).map (fun d => d.parameters.length) = some 2 := by decide +kernel
set_option maxHeartbeats 6000000 in
set_option maxRecDepth 100000 in
theorem P_takeType (l : Launch) (G : pT) (h0 : Nat) (a : Nat → Nat) (F : Nat → Int32) (R : Nat → Value) (Z : Int64) (B : Nat → Nat → Int32) (J : Nat → Nat → Int64) (T : Nat → Nat) (Pi : Nat → va_E → Prop) (w : va_W) (x : Int32) (at9 : Nat) (sz : Nat) (hsz : sz ≤ 5000) (hat : at9 ≤ sz) (hO : OKW G h0 a (upd (upd F 2 (nI sz)) 9 (nI at9)) R Z B J T Pi w) (hl0 : l.stackTraces = false) : PBn l G pX0 yX8_takeType cX8_takeType 4 (some .int) ({ frames := 7, cells := 1, slots := 6, locals := 122 }) [.ref (a 3), .int x] w (fun (v : Option Value) (u : va_W × (Nat × (Nat → Int32))) => v = some (.int (nI at9)) ∧ (at9 + 1 ≤ u.2.1 ∧ u.2.1 ≤ sz) ∧ (RoS (B 10) u.2.2 at9) ∧ (TtQ (B 7) sz u.2.2 at9) ∧ ((x : Int32) = 0 → u.2.1 = at9 + 1) ∧ (OKW G h0 a (upd (upd F 2 (nI sz)) 9 (nI u.2.1)) R Z (updA B 10 u.2.2) J T Pi u.1)) (fun u => u.1) (fun (u : va_W × (Nat × (Nat → Int32))) => 0) (fun (u : va_W × (Nat × (Nat → Int32))) => 0) (fun (u : va_W × (Nat → Int32) × (Nat → Value) × (Nat → Nat → Int32)) => ThQ G h0 a (upd (upd F 2 (nI sz)) 9 (nI at9)) R Z B J u) (fun u => u.1) := by
  intro sz
  refine vx_ofW (cc := cX8_takeType) (maxL := 4) (ret := (some .int)) (by decide) rfl ?_
  intro p e s m args below meth c s₁ B9 hml hnt hv
  obtain ⟨rfl, hsz, hP, hD0, hE, hX⟩ := hv
  have hx := B9.exec
  have hb := B9.bytes
  have hr := B9.returns
  have hts := atoms_spec (ws := Cond.code yX8_takeType cX8_takeType 4 (some .int) :: pw) B9.pre
  have hq : ∀ w ∈ pw, w.before _ s = true := fun w h => hts w (List.mem_cons_of_mem _ h)
  have hown : s.vm.findClass RX8 = some m.cls := findClass_of_methodNamed B9.named
  have hlocks := B9.notSynchronized
  subst hsz
  have hD := hD0.self (sz := s.heap.size)
  have hA : ∀ q : Nat, s.heap.size ≤ q → va_A w s.heap.size q := fun q h => Or.inr h
  generalize va_A w s.heap.size = A at hD hE hA ⊢
  have hS : va_S A s.heap s.heap [] := va_S.rf
  have hl := lv_entry ([.ref (a 3), .int x]) (n := 4) (Nat.le_of_ble_eq_true rfl)
  rw [lg_entry_eq]
  generalize (lg_sl ([.ref (a 3), .int x]) ++ List.replicate (4 - (lg_sl ([.ref (a 3), .int x])).length) Slot.unset).toArray = ls at hl ⊢
  have hl : lv_has ls 4 [(0, .ref (a 3)), (1, .int x)] := hl
  refine lv_aload_n hx hb dX8_takeType_0 rfl (lv_at hl 0 rfl) ?_
  refine c_get (v := .ref (a 1)) (C := RX8) (Tc := TX8) (N := 5) (ci := 5) hx hb hq pin_wsX80 hown hE hP hO 23 (sg_23 G h0 a _ _ _ _ _) rfl 0 (by decide) (hq _ pw_774) (fun _ h9 => h9) rfl dX8_takeType_1 ?_
  refine lv_aload_n hx hb dX8_takeType_4 rfl (lv_at hl 0 rfl) ?_
  refine c_get (v := .int (nI at9)) (C := RX8) (Tc := TX8) (N := 5) (ci := 5) hx hb hq pin_wsX80 hown hE hP hO 23 (sg_23 G h0 a _ _ _ _ _) rfl 2 (by decide) (hq _ pw_776) (fun _ h9 => h9) rfl dX8_takeType_5 ?_
  have hO : OKW G h0 a (upd (upd (upd F 2 (nI sz)) 9 (nI at9)) 2 (nI sz)) R Z B J T Pi w := hO.to rfl
  obtain ⟨_, qr4, hqr5⟩ := hO.2.1 2 _ (sg_2 G h0 a _ _ _ _ _)
  refine pc_V0 (G := G) (As := [.int (nI at9)]) (rest := []) hx hb hml hown hq hE hX pX0_al hP hD hS hA hl.1 (K_kindX l G h0 a (upd (upd F 2 (nI sz)) 9 (nI at9)) R Z B J T Pi w (nI at9) sz (by omega) hO) (gV pw_777 pw_193 pw_194 pw_59 pw_126) hV_X10_kindAt qr4 7 hqr5 rfl rfl rfl (Nat.le_of_ble_eq_true rfl) dX8_takeType_8 ⟨(by show 0 + 0 ≤ 1; omega), (by show 0 + 0 ≤ 6; omega)⟩ ⟨Nat.le_of_ble_eq_true rfl, Nat.le_of_ble_eq_true rfl⟩ (fun v3 u1 H locs hw2 hP hD hS => ?_)
  obtain ⟨w, r6⟩ := u1
  obtain ⟨hw2, h7, h8, hO⟩ := hw2
  have h7 : r6 = 67 ∨ ∃ t : Nat, (nI at9) = nI t ∧ t < sz := h7
  have h8 : r6 = tkN ((B 7)) sz 67 (nI at9) := h8
  obtain rfl : v3 = some (.int r6) := hw2
  have hO : OKW G h0 a (upd (upd F 2 (nI sz)) 9 (nI at9)) R Z B J T Pi w := hO.to rfl
  refine W.widen (k := 0) (n := 0) (Nat.le_of_ble_eq_true rfl) (Nat.le_of_ble_eq_true rfl) ?_
  refine W.eq (g2 := F0 m 11 ls [.int r6]) rfl ?_
  refine lv_istore_n (lv' := [(2, .int r6), (0, .ref (a 3)), (1, .int x)]) hx hb dX8_takeType_11 rfl hl (by decide) rfl (fun ls hl => ?_)
  refine lv_iload_n hx hb dX8_takeType_12 rfl (lv_at hl 0 rfl) ?_
  refine lv_bipush (v := 65) hx hb dX8_takeType_13 (by decide) ?_
  refine lv_icmp_ne (tgt := 33) hx hb dX8_takeType_15 (by decide) (fun c9 => ?_) (fun c9 => ?_)
  · refine lv_iload_n hx hb dX8_takeType_33 rfl (lv_at hl 0 rfl) ?_
    refine lv_bipush (v := 13) hx hb dX8_takeType_34 (by decide) ?_
    refine lv_icmp_eq (tgt := 56) hx hb dX8_takeType_36 (by decide) (fun c10 => ?_) (fun c10 => ?_)
    · have htk56 := tok_in h7 c10 (by decide : ¬ (13 : Int32) = 67) (by omega) hsz
      refine lv_aload_n hx hb dX8_takeType_56 rfl (lv_at hl 1 rfl) ?_
      refine c_get (v := .int (nI at9)) (C := RX8) (Tc := TX8) (N := 5) (ci := 5) hx hb hq pin_wsX80 hown hE hP hO 23 (sg_23 G h0 a _ _ _ _ _) rfl 2 (by decide) (hq _ pw_776) (fun _ h9 => h9) rfl dX8_takeType_57 ?_
      refine lv_istore_n (lv' := [(3, .int (nI at9)), (2, .int r6), (0, .ref (a 3)), (1, .int x)]) hx hb dX8_takeType_60 rfl hl (by decide) rfl (fun ls hl => ?_)
      refine lv_aload_n hx hb dX8_takeType_61 rfl (lv_at hl 2 rfl) ?_
      refine lv_dup hx hb dX8_takeType_62 rfl ?_
      refine c_get (v := .int (nI at9)) (C := RX8) (Tc := TX8) (N := 5) (ci := 5) hx hb hq pin_wsX80 hown hE hP hO 23 (sg_23 G h0 a _ _ _ _ _) rfl 2 (by decide) (hq _ pw_776) (fun _ h9 => h9) rfl dX8_takeType_63 ?_
      refine lv_iconst (v := 1) hx hb dX8_takeType_66 (by decide) ?_
      refine lv_iadd hx hb dX8_takeType_67 ?_
      refine lv_topi (fun x11 e12 => ?_)
      obtain rfl : x11 = nI (at9 + 1) := e12.trans (nI_add (at9) (1))
      refine c_put (v := .int (nI (at9 + 1))) (ty := .int) (C := RX8) (Tc := TX8) (N := 5) (ci := 5) hx hb hq pin_wsX80 tyX8 tyX8_ok nmX8 hown hE hP hD hS hO 23 (sg_23 G h0 a _ _ _ _ _) rfl 2 (by decide) (hq _ pw_776) (fun _ h9 => h9) rfl (by decide +kernel) rfl rfl (Nat.le_of_ble_eq_true rfl) (sf_9 G h0 a _ _ _ _ _ (nI (at9 + 1))) dX8_takeType_68 (fun H locs w hP hD hS hO => ?_)
      refine lv_iload_n hx hb dX8_takeType_71 rfl (lv_at hl 3 rfl) ?_
      refine lv_if_eq (tgt := 133) hx hb dX8_takeType_72 (by decide) (fun c13 => ?_) (fun c13 => ?_)
      · refine lv_iload_n hx hb dX8_takeType_133 rfl (lv_at hl 0 rfl) ?_
        refine W_size (fun hz1 hz2 => ?_)
        refine vx_ret ?_
        have hz14 : at9 + 1 ≤ (at9 + 1) ∧ (at9 + 1) ≤ sz := (by omega)
        have hz15 : RoS (B 10) (B 10) at9 := (fun _ _ => rfl)
        have hz16 : TtQ (B 7) sz (B 10) at9 := (Or.inl (h8.symm.trans c10))
        have hz17 : (x : Int32) = 0 → (at9 + 1) = at9 + 1 := (fun _ => by omega)
        have hO : OKW G h0 a (upd (upd F 2 (nI sz)) 9 (nI (at9 + 1))) R Z (updA B 10 (B 10)) J T Pi w := hO.to rfl
        refine W.widen (k := 1) (n := 6) (by omega) (by omega) ?_
        have hzz1 : H.size ≤ s.heap.size + (0) := (by have z : 0 ≤ 0 := (by omega); omega)
        have hzz2 : hSl H ≤ hSl s.heap + (0) := (by have z : 0 ≤ 0 := (by omega); omega)
        exact W.iret (v := (nI at9)) hx hb hr (fun t99 ht99 hW99 => ⟨⟨_, (w, ((at9 + 1), (B 10))), rfl, ⟨rfl, hz14, hz15, hz16, hz17, hO⟩, by rw [ht99]; exact hP, hD, by rw [ht99]; exact hzz1, by rw [ht99]; exact hzz2⟩, hS.F ht99⟩) hS.2.2 dX8_takeType_134
      · refine lv_aload_n hx hb dX8_takeType_75 rfl (lv_at hl 2 rfl) ?_
        refine c_get (v := .ref (a 1)) (C := RX8) (Tc := TX8) (N := 5) (ci := 5) hx hb hq pin_wsX80 hown hE hP hO 23 (sg_23 G h0 a _ _ _ _ _) rfl 0 (by decide) (hq _ pw_774) (fun _ h9 => h9) rfl dX8_takeType_76 ?_
        refine lv_aload_n hx hb dX8_takeType_79 rfl (lv_at hl 2 rfl) ?_
        refine c_get (v := .int (nI (at9 + 1))) (C := RX8) (Tc := TX8) (N := 5) (ci := 5) hx hb hq pin_wsX80 hown hE hP hO 23 (sg_23 G h0 a _ _ _ _ _) rfl 2 (by decide) (hq _ pw_776) (fun _ h9 => h9) rfl dX8_takeType_80 ?_
        have hO : OKW G h0 a (upd (upd (upd F 2 (nI sz)) 9 (nI (at9 + 1))) 2 (nI sz)) R Z B J T Pi w := hO.to rfl
        obtain ⟨_, qr21, hqr22⟩ := hO.2.1 2 _ (sg_2 G h0 a _ _ _ _ _)
        refine pc_V0 (G := G) (As := [.int (nI (at9 + 1))]) (rest := []) hx hb hml hown hq hE hX pX0_al hP hD hS hA hl.1 (K_kindX l G h0 a (upd (upd F 2 (nI sz)) 9 (nI (at9 + 1))) R Z B J T Pi w (nI (at9 + 1)) sz (by omega) hO) (gV pw_777 pw_193 pw_194 pw_59 pw_126) hV_X10_kindAt qr21 7 hqr22 rfl rfl rfl (Nat.le_of_ble_eq_true rfl) dX8_takeType_83 ⟨(by show 0 + 0 ≤ 1; omega), (by show 0 + 0 ≤ 6; omega)⟩ ⟨Nat.le_of_ble_eq_true rfl, Nat.le_of_ble_eq_true rfl⟩ (fun v20 u18 H locs hw19 hP hD hS => ?_)
        obtain ⟨w, r23⟩ := u18
        obtain ⟨hw19, h24, h25, hO⟩ := hw19
        have h24 : r23 = 67 ∨ ∃ t : Nat, (nI (at9 + 1)) = nI t ∧ t < sz := h24
        have h25 : r23 = tkN ((B 7)) sz 67 (nI (at9 + 1)) := h25
        obtain rfl : v20 = some (.int r23) := hw19
        have hO : OKW G h0 a (upd (upd F 2 (nI sz)) 9 (nI (at9 + 1))) R Z B J T Pi w := hO.to rfl
        refine W.widen (k := 0) (n := 0) (Nat.le_of_ble_eq_true rfl) (Nat.le_of_ble_eq_true rfl) ?_
        refine W.eq (g2 := F0 m 86 ls [.int r23]) rfl ?_
        refine lv_bipush (v := 36) hx hb dX8_takeType_86 (by decide) ?_
        refine lv_icmp_ne (tgt := 133) hx hb dX8_takeType_88 (by decide) (fun c26 => ?_) (fun c26 => ?_)
        · refine lv_iload_n hx hb dX8_takeType_133 rfl (lv_at hl 0 rfl) ?_
          refine W_size (fun hz1 hz2 => ?_)
          refine vx_ret ?_
          have hz27 : at9 + 1 ≤ (at9 + 1) ∧ (at9 + 1) ≤ sz := (by omega)
          have hz28 : RoS (B 10) (B 10) at9 := (fun _ _ => rfl)
          have hz29 : TtQ (B 7) sz (B 10) at9 := (Or.inl (h8.symm.trans c10))
          have hz30 : (x : Int32) = 0 → (at9 + 1) = at9 + 1 := (fun z => absurd z c13)
          have hO : OKW G h0 a (upd (upd F 2 (nI sz)) 9 (nI (at9 + 1))) R Z (updA B 10 (B 10)) J T Pi w := hO.to rfl
          refine W.widen (k := 1) (n := 6) (by omega) (by omega) ?_
          have hzz1 : H.size ≤ s.heap.size + (0) := (by have z : 0 ≤ 0 := (by omega); omega)
          have hzz2 : hSl H ≤ hSl s.heap + (0) := (by have z : 0 ≤ 0 := (by omega); omega)
          exact W.iret (v := (nI at9)) hx hb hr (fun t99 ht99 hW99 => ⟨⟨_, (w, ((at9 + 1), (B 10))), rfl, ⟨rfl, hz27, hz28, hz29, hz30, hO⟩, by rw [ht99]; exact hP, hD, by rw [ht99]; exact hzz1, by rw [ht99]; exact hzz2⟩, hS.F ht99⟩) hS.2.2 dX8_takeType_134
        · refine lv_aload_n hx hb dX8_takeType_91 rfl (lv_at hl 2 rfl) ?_
          refine c_get (v := .ref (a 1)) (C := RX8) (Tc := TX8) (N := 5) (ci := 5) hx hb hq pin_wsX80 hown hE hP hO 23 (sg_23 G h0 a _ _ _ _ _) rfl 0 (by decide) (hq _ pw_774) (fun _ h9 => h9) rfl dX8_takeType_92 ?_
          refine lv_aload_n hx hb dX8_takeType_95 rfl (lv_at hl 2 rfl) ?_
          refine c_get (v := .int (nI (at9 + 1))) (C := RX8) (Tc := TX8) (N := 5) (ci := 5) hx hb hq pin_wsX80 hown hE hP hO 23 (sg_23 G h0 a _ _ _ _ _) rfl 2 (by decide) (hq _ pw_776) (fun _ h9 => h9) rfl dX8_takeType_96 ?_
          refine lv_iconst (v := 1) hx hb dX8_takeType_99 (by decide) ?_
          refine lv_iadd hx hb dX8_takeType_100 ?_
          refine lv_topi (fun x31 e32 => ?_)
          obtain rfl : x31 = nI ((at9 + 1) + 1) := e32.trans (nI_add ((at9 + 1)) (1))
          have hO : OKW G h0 a (upd (upd (upd F 2 (nI sz)) 9 (nI (at9 + 1))) 2 (nI sz)) R Z B J T Pi w := hO.to rfl
          obtain ⟨_, qr36, hqr37⟩ := hO.2.1 2 _ (sg_2 G h0 a _ _ _ _ _)
          refine pc_V0 (G := G) (As := [.int (nI ((at9 + 1) + 1))]) (rest := []) hx hb hml hown hq hE hX pX0_al hP hD hS hA hl.1 (K_kindX l G h0 a (upd (upd F 2 (nI sz)) 9 (nI (at9 + 1))) R Z B J T Pi w (nI ((at9 + 1) + 1)) sz (by omega) hO) (gV pw_777 pw_193 pw_194 pw_59 pw_126) hV_X10_kindAt qr36 7 hqr37 rfl rfl rfl (Nat.le_of_ble_eq_true rfl) dX8_takeType_101 ⟨(by show 0 + 0 ≤ 1; omega), (by show 0 + 0 ≤ 6; omega)⟩ ⟨Nat.le_of_ble_eq_true rfl, Nat.le_of_ble_eq_true rfl⟩ (fun v35 u33 H locs hw34 hP hD hS => ?_)
          obtain ⟨w, r38⟩ := u33
          obtain ⟨hw34, h39, h40, hO⟩ := hw34
          have h39 : r38 = 67 ∨ ∃ t : Nat, (nI ((at9 + 1) + 1)) = nI t ∧ t < sz := h39
          have h40 : r38 = tkN ((B 7)) sz 67 (nI ((at9 + 1) + 1)) := h40
          obtain rfl : v35 = some (.int r38) := hw34
          have hO : OKW G h0 a (upd (upd F 2 (nI sz)) 9 (nI (at9 + 1))) R Z B J T Pi w := hO.to rfl
          refine W.widen (k := 0) (n := 0) (Nat.le_of_ble_eq_true rfl) (Nat.le_of_ble_eq_true rfl) ?_
          refine W.eq (g2 := F0 m 104 ls [.int r38]) rfl ?_
          refine lv_bipush (v := 37) hx hb dX8_takeType_104 (by decide) ?_
          refine lv_icmp_eq (tgt := 123) hx hb dX8_takeType_106 (by decide) (fun c41 => ?_) (fun c41 => ?_)
          · have htk123 := tok_in h39 c41 (by decide : ¬ (37 : Int32) = 67) (by omega) hsz
            refine lv_aload_n hx hb dX8_takeType_123 rfl (lv_at hl 2 rfl) ?_
            refine lv_dup hx hb dX8_takeType_124 rfl ?_
            refine c_get (v := .int (nI (at9 + 1))) (C := RX8) (Tc := TX8) (N := 5) (ci := 5) hx hb hq pin_wsX80 hown hE hP hO 23 (sg_23 G h0 a _ _ _ _ _) rfl 2 (by decide) (hq _ pw_776) (fun _ h9 => h9) rfl dX8_takeType_125 ?_
            refine lv_iconst (v := 2) hx hb dX8_takeType_128 (by decide) ?_
            refine lv_iadd hx hb dX8_takeType_129 ?_
            refine lv_topi (fun x42 e43 => ?_)
            obtain rfl : x42 = nI ((at9 + 1) + 2) := e43.trans (nI_add ((at9 + 1)) (2))
            refine c_put (v := .int (nI ((at9 + 1) + 2))) (ty := .int) (C := RX8) (Tc := TX8) (N := 5) (ci := 5) hx hb hq pin_wsX80 tyX8 tyX8_ok nmX8 hown hE hP hD hS hO 23 (sg_23 G h0 a _ _ _ _ _) rfl 2 (by decide) (hq _ pw_776) (fun _ h9 => h9) rfl (by decide +kernel) rfl rfl (Nat.le_of_ble_eq_true rfl) (sf_9 G h0 a _ _ _ _ _ (nI ((at9 + 1) + 2))) dX8_takeType_130 (fun H locs w hP hD hS hO => ?_)
            refine lv_iload_n hx hb dX8_takeType_133 rfl (lv_at hl 0 rfl) ?_
            refine W_size (fun hz1 hz2 => ?_)
            refine vx_ret ?_
            have hz44 : at9 + 1 ≤ ((at9 + 1) + 2) ∧ ((at9 + 1) + 2) ≤ sz := (by omega)
            have hz45 : RoS (B 10) (B 10) at9 := (fun _ _ => rfl)
            have hz46 : TtQ (B 7) sz (B 10) at9 := (Or.inl (h8.symm.trans c10))
            have hz47 : (x : Int32) = 0 → ((at9 + 1) + 2) = at9 + 1 := (fun z => absurd z c13)
            have hO : OKW G h0 a (upd (upd F 2 (nI sz)) 9 (nI ((at9 + 1) + 2))) R Z (updA B 10 (B 10)) J T Pi w := hO.to rfl
            refine W.widen (k := 1) (n := 6) (by omega) (by omega) ?_
            have hzz1 : H.size ≤ s.heap.size + (0) := (by have z : 0 ≤ 0 := (by omega); omega)
            have hzz2 : hSl H ≤ hSl s.heap + (0) := (by have z : 0 ≤ 0 := (by omega); omega)
            exact W.iret (v := (nI at9)) hx hb hr (fun t99 ht99 hW99 => ⟨⟨_, (w, (((at9 + 1) + 2), (B 10))), rfl, ⟨rfl, hz44, hz45, hz46, hz47, hO⟩, by rw [ht99]; exact hP, hD, by rw [ht99]; exact hzz1, by rw [ht99]; exact hzz2⟩, hS.F ht99⟩) hS.2.2 dX8_takeType_134
          · refine lv_aload_n hx hb dX8_takeType_109 rfl (lv_at hl 2 rfl) ?_
            refine c_get (v := .ref (a 1)) (C := RX8) (Tc := TX8) (N := 5) (ci := 5) hx hb hq pin_wsX80 hown hE hP hO 23 (sg_23 G h0 a _ _ _ _ _) rfl 0 (by decide) (hq _ pw_774) (fun _ h9 => h9) rfl dX8_takeType_110 ?_
            refine lv_iconst (v := 1) hx hb dX8_takeType_113 (by decide) ?_
            refine lv_aload_n hx hb dX8_takeType_114 rfl (lv_at hl 2 rfl) ?_
            refine c_get (v := .int (nI (at9 + 1))) (C := RX8) (Tc := TX8) (N := 5) (ci := 5) hx hb hq pin_wsX80 hown hE hP hO 23 (sg_23 G h0 a _ _ _ _ _) rfl 2 (by decide) (hq _ pw_776) (fun _ h9 => h9) rfl dX8_takeType_115 ?_
            refine lv_iconst (v := 1) hx hb dX8_takeType_118 (by decide) ?_
            refine lv_iadd hx hb dX8_takeType_119 ?_
            refine lv_topi (fun x48 e49 => ?_)
            obtain rfl : x48 = nI ((at9 + 1) + 1) := e49.trans (nI_add ((at9 + 1)) (1))
            have hO : OKW G h0 a (upd (upd (upd (upd F 2 (nI sz)) 9 (nI at9)) 9 (nI (at9 + 1))) 2 (nI sz)) R Z B J T Pi w := hO.to rfl
            obtain ⟨_, qr53, hqr54⟩ := hO.2.1 2 _ (sg_2 G h0 a _ _ _ _ _)
            refine pn_V0 (G := G) (As := [.int 1, .int (nI ((at9 + 1) + 1))]) (rest := []) hx hb hml hown hq hE hX pX0_al hP hD hS hA hl.1 (K_fail l G h0 a (upd (upd (upd F 2 (nI sz)) 9 (nI at9)) 9 (nI (at9 + 1))) R Z B J T Pi w 1 (nI ((at9 + 1) + 1)) sz (by omega) hO hl0) (gV pw_779 pw_65 pw_66 pw_59 pw_43) hV_X10_fail qr53 7 hqr54 rfl rfl rfl (Nat.le_of_ble_eq_true rfl) dX8_takeType_120 ⟨(by show 0 + 1 ≤ 1; omega), (by show 0 + 6 ≤ 6; omega)⟩ ⟨Nat.le_of_ble_eq_true rfl, Nat.le_of_ble_eq_true rfl⟩ (fun v52 u50 H locs hw51 hP hD hS => hw51.elim) (fun ux ce9 q9 H9 locs9 hux hP9 hD9 hS9 hce hcv hcl => pb_out ux (ThQ.up (Thx.same (Thx.f Thx.rfl (by omega)) rfl) RhX.rfl hux) hnt hlocks hce hcv hcl hP9 hD9 hS9 (by show 0 + 1 ≤ 1; omega) (by show 0 + 6 ≤ 6; omega))
    · refine lv_iload_n hx hb dX8_takeType_39 rfl (lv_at hl 0 rfl) ?_
      refine lv_iconst (v := 1) hx hb dX8_takeType_40 (by decide) ?_
      refine lv_icmp_eq (tgt := 56) hx hb dX8_takeType_41 (by decide) (fun c55 => ?_) (fun c55 => ?_)
      · have htk56 := tok_in h7 c55 (by decide : ¬ (1 : Int32) = 67) (by omega) hsz
        refine lv_aload_n hx hb dX8_takeType_56 rfl (lv_at hl 1 rfl) ?_
        refine c_get (v := .int (nI at9)) (C := RX8) (Tc := TX8) (N := 5) (ci := 5) hx hb hq pin_wsX80 hown hE hP hO 23 (sg_23 G h0 a _ _ _ _ _) rfl 2 (by decide) (hq _ pw_776) (fun _ h9 => h9) rfl dX8_takeType_57 ?_
        refine lv_istore_n (lv' := [(3, .int (nI at9)), (2, .int r6), (0, .ref (a 3)), (1, .int x)]) hx hb dX8_takeType_60 rfl hl (by decide) rfl (fun ls hl => ?_)
        refine lv_aload_n hx hb dX8_takeType_61 rfl (lv_at hl 2 rfl) ?_
        refine lv_dup hx hb dX8_takeType_62 rfl ?_
        refine c_get (v := .int (nI at9)) (C := RX8) (Tc := TX8) (N := 5) (ci := 5) hx hb hq pin_wsX80 hown hE hP hO 23 (sg_23 G h0 a _ _ _ _ _) rfl 2 (by decide) (hq _ pw_776) (fun _ h9 => h9) rfl dX8_takeType_63 ?_
        refine lv_iconst (v := 1) hx hb dX8_takeType_66 (by decide) ?_
        refine lv_iadd hx hb dX8_takeType_67 ?_
        refine lv_topi (fun x56 e57 => ?_)
        obtain rfl : x56 = nI (at9 + 1) := e57.trans (nI_add (at9) (1))
        refine c_put (v := .int (nI (at9 + 1))) (ty := .int) (C := RX8) (Tc := TX8) (N := 5) (ci := 5) hx hb hq pin_wsX80 tyX8 tyX8_ok nmX8 hown hE hP hD hS hO 23 (sg_23 G h0 a _ _ _ _ _) rfl 2 (by decide) (hq _ pw_776) (fun _ h9 => h9) rfl (by decide +kernel) rfl rfl (Nat.le_of_ble_eq_true rfl) (sf_9 G h0 a _ _ _ _ _ (nI (at9 + 1))) dX8_takeType_68 (fun H locs w hP hD hS hO => ?_)
        refine lv_iload_n hx hb dX8_takeType_71 rfl (lv_at hl 3 rfl) ?_
        refine lv_if_eq (tgt := 133) hx hb dX8_takeType_72 (by decide) (fun c58 => ?_) (fun c58 => ?_)
        · refine lv_iload_n hx hb dX8_takeType_133 rfl (lv_at hl 0 rfl) ?_
          refine W_size (fun hz1 hz2 => ?_)
          refine vx_ret ?_
          have hz59 : at9 + 1 ≤ (at9 + 1) ∧ (at9 + 1) ≤ sz := (by omega)
          have hz60 : RoS (B 10) (B 10) at9 := (fun _ _ => rfl)
          have hz61 : TtQ (B 7) sz (B 10) at9 := (Or.inr (Or.inl (h8.symm.trans c55)))
          have hz62 : (x : Int32) = 0 → (at9 + 1) = at9 + 1 := (fun _ => by omega)
          have hO : OKW G h0 a (upd (upd F 2 (nI sz)) 9 (nI (at9 + 1))) R Z (updA B 10 (B 10)) J T Pi w := hO.to rfl
          refine W.widen (k := 1) (n := 6) (by omega) (by omega) ?_
          have hzz1 : H.size ≤ s.heap.size + (0) := (by have z : 0 ≤ 0 := (by omega); omega)
          have hzz2 : hSl H ≤ hSl s.heap + (0) := (by have z : 0 ≤ 0 := (by omega); omega)
          exact W.iret (v := (nI at9)) hx hb hr (fun t99 ht99 hW99 => ⟨⟨_, (w, ((at9 + 1), (B 10))), rfl, ⟨rfl, hz59, hz60, hz61, hz62, hO⟩, by rw [ht99]; exact hP, hD, by rw [ht99]; exact hzz1, by rw [ht99]; exact hzz2⟩, hS.F ht99⟩) hS.2.2 dX8_takeType_134
        · refine lv_aload_n hx hb dX8_takeType_75 rfl (lv_at hl 2 rfl) ?_
          refine c_get (v := .ref (a 1)) (C := RX8) (Tc := TX8) (N := 5) (ci := 5) hx hb hq pin_wsX80 hown hE hP hO 23 (sg_23 G h0 a _ _ _ _ _) rfl 0 (by decide) (hq _ pw_774) (fun _ h9 => h9) rfl dX8_takeType_76 ?_
          refine lv_aload_n hx hb dX8_takeType_79 rfl (lv_at hl 2 rfl) ?_
          refine c_get (v := .int (nI (at9 + 1))) (C := RX8) (Tc := TX8) (N := 5) (ci := 5) hx hb hq pin_wsX80 hown hE hP hO 23 (sg_23 G h0 a _ _ _ _ _) rfl 2 (by decide) (hq _ pw_776) (fun _ h9 => h9) rfl dX8_takeType_80 ?_
          have hO : OKW G h0 a (upd (upd (upd F 2 (nI sz)) 9 (nI (at9 + 1))) 2 (nI sz)) R Z B J T Pi w := hO.to rfl
          obtain ⟨_, qr66, hqr67⟩ := hO.2.1 2 _ (sg_2 G h0 a _ _ _ _ _)
          refine pc_V0 (G := G) (As := [.int (nI (at9 + 1))]) (rest := []) hx hb hml hown hq hE hX pX0_al hP hD hS hA hl.1 (K_kindX l G h0 a (upd (upd F 2 (nI sz)) 9 (nI (at9 + 1))) R Z B J T Pi w (nI (at9 + 1)) sz (by omega) hO) (gV pw_777 pw_193 pw_194 pw_59 pw_126) hV_X10_kindAt qr66 7 hqr67 rfl rfl rfl (Nat.le_of_ble_eq_true rfl) dX8_takeType_83 ⟨(by show 0 + 0 ≤ 1; omega), (by show 0 + 0 ≤ 6; omega)⟩ ⟨Nat.le_of_ble_eq_true rfl, Nat.le_of_ble_eq_true rfl⟩ (fun v65 u63 H locs hw64 hP hD hS => ?_)
          obtain ⟨w, r68⟩ := u63
          obtain ⟨hw64, h69, h70, hO⟩ := hw64
          have h69 : r68 = 67 ∨ ∃ t : Nat, (nI (at9 + 1)) = nI t ∧ t < sz := h69
          have h70 : r68 = tkN ((B 7)) sz 67 (nI (at9 + 1)) := h70
          obtain rfl : v65 = some (.int r68) := hw64
          have hO : OKW G h0 a (upd (upd F 2 (nI sz)) 9 (nI (at9 + 1))) R Z B J T Pi w := hO.to rfl
          refine W.widen (k := 0) (n := 0) (Nat.le_of_ble_eq_true rfl) (Nat.le_of_ble_eq_true rfl) ?_
          refine W.eq (g2 := F0 m 86 ls [.int r68]) rfl ?_
          refine lv_bipush (v := 36) hx hb dX8_takeType_86 (by decide) ?_
          refine lv_icmp_ne (tgt := 133) hx hb dX8_takeType_88 (by decide) (fun c71 => ?_) (fun c71 => ?_)
          · refine lv_iload_n hx hb dX8_takeType_133 rfl (lv_at hl 0 rfl) ?_
            refine W_size (fun hz1 hz2 => ?_)
            refine vx_ret ?_
            have hz72 : at9 + 1 ≤ (at9 + 1) ∧ (at9 + 1) ≤ sz := (by omega)
            have hz73 : RoS (B 10) (B 10) at9 := (fun _ _ => rfl)
            have hz74 : TtQ (B 7) sz (B 10) at9 := (Or.inr (Or.inl (h8.symm.trans c55)))
            have hz75 : (x : Int32) = 0 → (at9 + 1) = at9 + 1 := (fun z => absurd z c58)
            have hO : OKW G h0 a (upd (upd F 2 (nI sz)) 9 (nI (at9 + 1))) R Z (updA B 10 (B 10)) J T Pi w := hO.to rfl
            refine W.widen (k := 1) (n := 6) (by omega) (by omega) ?_
            have hzz1 : H.size ≤ s.heap.size + (0) := (by have z : 0 ≤ 0 := (by omega); omega)
            have hzz2 : hSl H ≤ hSl s.heap + (0) := (by have z : 0 ≤ 0 := (by omega); omega)
            exact W.iret (v := (nI at9)) hx hb hr (fun t99 ht99 hW99 => ⟨⟨_, (w, ((at9 + 1), (B 10))), rfl, ⟨rfl, hz72, hz73, hz74, hz75, hO⟩, by rw [ht99]; exact hP, hD, by rw [ht99]; exact hzz1, by rw [ht99]; exact hzz2⟩, hS.F ht99⟩) hS.2.2 dX8_takeType_134
          · refine lv_aload_n hx hb dX8_takeType_91 rfl (lv_at hl 2 rfl) ?_
            refine c_get (v := .ref (a 1)) (C := RX8) (Tc := TX8) (N := 5) (ci := 5) hx hb hq pin_wsX80 hown hE hP hO 23 (sg_23 G h0 a _ _ _ _ _) rfl 0 (by decide) (hq _ pw_774) (fun _ h9 => h9) rfl dX8_takeType_92 ?_
            refine lv_aload_n hx hb dX8_takeType_95 rfl (lv_at hl 2 rfl) ?_
            refine c_get (v := .int (nI (at9 + 1))) (C := RX8) (Tc := TX8) (N := 5) (ci := 5) hx hb hq pin_wsX80 hown hE hP hO 23 (sg_23 G h0 a _ _ _ _ _) rfl 2 (by decide) (hq _ pw_776) (fun _ h9 => h9) rfl dX8_takeType_96 ?_
            refine lv_iconst (v := 1) hx hb dX8_takeType_99 (by decide) ?_
            refine lv_iadd hx hb dX8_takeType_100 ?_
            refine lv_topi (fun x76 e77 => ?_)
            obtain rfl : x76 = nI ((at9 + 1) + 1) := e77.trans (nI_add ((at9 + 1)) (1))
            have hO : OKW G h0 a (upd (upd (upd F 2 (nI sz)) 9 (nI (at9 + 1))) 2 (nI sz)) R Z B J T Pi w := hO.to rfl
            obtain ⟨_, qr81, hqr82⟩ := hO.2.1 2 _ (sg_2 G h0 a _ _ _ _ _)
            refine pc_V0 (G := G) (As := [.int (nI ((at9 + 1) + 1))]) (rest := []) hx hb hml hown hq hE hX pX0_al hP hD hS hA hl.1 (K_kindX l G h0 a (upd (upd F 2 (nI sz)) 9 (nI (at9 + 1))) R Z B J T Pi w (nI ((at9 + 1) + 1)) sz (by omega) hO) (gV pw_777 pw_193 pw_194 pw_59 pw_126) hV_X10_kindAt qr81 7 hqr82 rfl rfl rfl (Nat.le_of_ble_eq_true rfl) dX8_takeType_101 ⟨(by show 0 + 0 ≤ 1; omega), (by show 0 + 0 ≤ 6; omega)⟩ ⟨Nat.le_of_ble_eq_true rfl, Nat.le_of_ble_eq_true rfl⟩ (fun v80 u78 H locs hw79 hP hD hS => ?_)
            obtain ⟨w, r83⟩ := u78
            obtain ⟨hw79, h84, h85, hO⟩ := hw79
            have h84 : r83 = 67 ∨ ∃ t : Nat, (nI ((at9 + 1) + 1)) = nI t ∧ t < sz := h84
            have h85 : r83 = tkN ((B 7)) sz 67 (nI ((at9 + 1) + 1)) := h85
            obtain rfl : v80 = some (.int r83) := hw79
            have hO : OKW G h0 a (upd (upd F 2 (nI sz)) 9 (nI (at9 + 1))) R Z B J T Pi w := hO.to rfl
            refine W.widen (k := 0) (n := 0) (Nat.le_of_ble_eq_true rfl) (Nat.le_of_ble_eq_true rfl) ?_
            refine W.eq (g2 := F0 m 104 ls [.int r83]) rfl ?_
            refine lv_bipush (v := 37) hx hb dX8_takeType_104 (by decide) ?_
            refine lv_icmp_eq (tgt := 123) hx hb dX8_takeType_106 (by decide) (fun c86 => ?_) (fun c86 => ?_)
            · have htk123 := tok_in h84 c86 (by decide : ¬ (37 : Int32) = 67) (by omega) hsz
              refine lv_aload_n hx hb dX8_takeType_123 rfl (lv_at hl 2 rfl) ?_
              refine lv_dup hx hb dX8_takeType_124 rfl ?_
              refine c_get (v := .int (nI (at9 + 1))) (C := RX8) (Tc := TX8) (N := 5) (ci := 5) hx hb hq pin_wsX80 hown hE hP hO 23 (sg_23 G h0 a _ _ _ _ _) rfl 2 (by decide) (hq _ pw_776) (fun _ h9 => h9) rfl dX8_takeType_125 ?_
              refine lv_iconst (v := 2) hx hb dX8_takeType_128 (by decide) ?_
              refine lv_iadd hx hb dX8_takeType_129 ?_
              refine lv_topi (fun x87 e88 => ?_)
              obtain rfl : x87 = nI ((at9 + 1) + 2) := e88.trans (nI_add ((at9 + 1)) (2))
              refine c_put (v := .int (nI ((at9 + 1) + 2))) (ty := .int) (C := RX8) (Tc := TX8) (N := 5) (ci := 5) hx hb hq pin_wsX80 tyX8 tyX8_ok nmX8 hown hE hP hD hS hO 23 (sg_23 G h0 a _ _ _ _ _) rfl 2 (by decide) (hq _ pw_776) (fun _ h9 => h9) rfl (by decide +kernel) rfl rfl (Nat.le_of_ble_eq_true rfl) (sf_9 G h0 a _ _ _ _ _ (nI ((at9 + 1) + 2))) dX8_takeType_130 (fun H locs w hP hD hS hO => ?_)
              refine lv_iload_n hx hb dX8_takeType_133 rfl (lv_at hl 0 rfl) ?_
              refine W_size (fun hz1 hz2 => ?_)
              refine vx_ret ?_
              have hz89 : at9 + 1 ≤ ((at9 + 1) + 2) ∧ ((at9 + 1) + 2) ≤ sz := (by omega)
              have hz90 : RoS (B 10) (B 10) at9 := (fun _ _ => rfl)
              have hz91 : TtQ (B 7) sz (B 10) at9 := (Or.inr (Or.inl (h8.symm.trans c55)))
              have hz92 : (x : Int32) = 0 → ((at9 + 1) + 2) = at9 + 1 := (fun z => absurd z c58)
              have hO : OKW G h0 a (upd (upd F 2 (nI sz)) 9 (nI ((at9 + 1) + 2))) R Z (updA B 10 (B 10)) J T Pi w := hO.to rfl
              refine W.widen (k := 1) (n := 6) (by omega) (by omega) ?_
              have hzz1 : H.size ≤ s.heap.size + (0) := (by have z : 0 ≤ 0 := (by omega); omega)
              have hzz2 : hSl H ≤ hSl s.heap + (0) := (by have z : 0 ≤ 0 := (by omega); omega)
              exact W.iret (v := (nI at9)) hx hb hr (fun t99 ht99 hW99 => ⟨⟨_, (w, (((at9 + 1) + 2), (B 10))), rfl, ⟨rfl, hz89, hz90, hz91, hz92, hO⟩, by rw [ht99]; exact hP, hD, by rw [ht99]; exact hzz1, by rw [ht99]; exact hzz2⟩, hS.F ht99⟩) hS.2.2 dX8_takeType_134
            · refine lv_aload_n hx hb dX8_takeType_109 rfl (lv_at hl 2 rfl) ?_
              refine c_get (v := .ref (a 1)) (C := RX8) (Tc := TX8) (N := 5) (ci := 5) hx hb hq pin_wsX80 hown hE hP hO 23 (sg_23 G h0 a _ _ _ _ _) rfl 0 (by decide) (hq _ pw_774) (fun _ h9 => h9) rfl dX8_takeType_110 ?_
              refine lv_iconst (v := 1) hx hb dX8_takeType_113 (by decide) ?_
              refine lv_aload_n hx hb dX8_takeType_114 rfl (lv_at hl 2 rfl) ?_
              refine c_get (v := .int (nI (at9 + 1))) (C := RX8) (Tc := TX8) (N := 5) (ci := 5) hx hb hq pin_wsX80 hown hE hP hO 23 (sg_23 G h0 a _ _ _ _ _) rfl 2 (by decide) (hq _ pw_776) (fun _ h9 => h9) rfl dX8_takeType_115 ?_
              refine lv_iconst (v := 1) hx hb dX8_takeType_118 (by decide) ?_
              refine lv_iadd hx hb dX8_takeType_119 ?_
              refine lv_topi (fun x93 e94 => ?_)
              obtain rfl : x93 = nI ((at9 + 1) + 1) := e94.trans (nI_add ((at9 + 1)) (1))
              have hO : OKW G h0 a (upd (upd (upd (upd F 2 (nI sz)) 9 (nI at9)) 9 (nI (at9 + 1))) 2 (nI sz)) R Z B J T Pi w := hO.to rfl
              obtain ⟨_, qr98, hqr99⟩ := hO.2.1 2 _ (sg_2 G h0 a _ _ _ _ _)
              refine pn_V0 (G := G) (As := [.int 1, .int (nI ((at9 + 1) + 1))]) (rest := []) hx hb hml hown hq hE hX pX0_al hP hD hS hA hl.1 (K_fail l G h0 a (upd (upd (upd F 2 (nI sz)) 9 (nI at9)) 9 (nI (at9 + 1))) R Z B J T Pi w 1 (nI ((at9 + 1) + 1)) sz (by omega) hO hl0) (gV pw_779 pw_65 pw_66 pw_59 pw_43) hV_X10_fail qr98 7 hqr99 rfl rfl rfl (Nat.le_of_ble_eq_true rfl) dX8_takeType_120 ⟨(by show 0 + 1 ≤ 1; omega), (by show 0 + 6 ≤ 6; omega)⟩ ⟨Nat.le_of_ble_eq_true rfl, Nat.le_of_ble_eq_true rfl⟩ (fun v97 u95 H locs hw96 hP hD hS => hw96.elim) (fun ux ce9 q9 H9 locs9 hux hP9 hD9 hS9 hce hcv hcl => pb_out ux (ThQ.up (Thx.same (Thx.f Thx.rfl (by omega)) rfl) RhX.rfl hux) hnt hlocks hce hcv hcl hP9 hD9 hS9 (by show 0 + 1 ≤ 1; omega) (by show 0 + 6 ≤ 6; omega))
      · refine lv_aload_n hx hb dX8_takeType_44 rfl (lv_at hl 1 rfl) ?_
        refine c_get (v := .ref (a 1)) (C := RX8) (Tc := TX8) (N := 5) (ci := 5) hx hb hq pin_wsX80 hown hE hP hO 23 (sg_23 G h0 a _ _ _ _ _) rfl 0 (by decide) (hq _ pw_774) (fun _ h9 => h9) rfl dX8_takeType_45 ?_
        refine lv_iconst (v := 1) hx hb dX8_takeType_48 (by decide) ?_
        refine lv_aload_n hx hb dX8_takeType_49 rfl (lv_at hl 1 rfl) ?_
        refine c_get (v := .int (nI at9)) (C := RX8) (Tc := TX8) (N := 5) (ci := 5) hx hb hq pin_wsX80 hown hE hP hO 23 (sg_23 G h0 a _ _ _ _ _) rfl 2 (by decide) (hq _ pw_776) (fun _ h9 => h9) rfl dX8_takeType_50 ?_
        have hO : OKW G h0 a (upd (upd (upd F 2 (nI sz)) 9 (nI at9)) 2 (nI sz)) R Z B J T Pi w := hO.to rfl
        obtain ⟨_, qr103, hqr104⟩ := hO.2.1 2 _ (sg_2 G h0 a _ _ _ _ _)
        refine pn_V0 (G := G) (As := [.int 1, .int (nI at9)]) (rest := []) hx hb hml hown hq hE hX pX0_al hP hD hS hA hl.1 (K_fail l G h0 a (upd (upd F 2 (nI sz)) 9 (nI at9)) R Z B J T Pi w 1 (nI at9) sz (by omega) hO hl0) (gV pw_779 pw_65 pw_66 pw_59 pw_43) hV_X10_fail qr103 7 hqr104 rfl rfl rfl (Nat.le_of_ble_eq_true rfl) dX8_takeType_53 ⟨(by show 0 + 1 ≤ 1; omega), (by show 0 + 6 ≤ 6; omega)⟩ ⟨Nat.le_of_ble_eq_true rfl, Nat.le_of_ble_eq_true rfl⟩ (fun v102 u100 H locs hw101 hP hD hS => hw101.elim) (fun ux ce9 q9 H9 locs9 hux hP9 hD9 hS9 hce hcv hcl => pb_out ux (ThQ.up (Thx.same Thx.rfl rfl) RhX.rfl hux) hnt hlocks hce hcv hcl hP9 hD9 hS9 (by show 0 + 1 ≤ 1; omega) (by show 0 + 6 ≤ 6; omega))
  · have htk18 := tok_in h7 c9 (by decide : ¬ (65 : Int32) = 67) (by omega) hsz
    refine lv_aload_n hx hb dX8_takeType_18 rfl (lv_at hl 1 rfl) ?_
    refine c_get (v := .ref (a 1)) (C := RX8) (Tc := TX8) (N := 5) (ci := 5) hx hb hq pin_wsX80 hown hE hP hO 23 (sg_23 G h0 a _ _ _ _ _) rfl 0 (by decide) (hq _ pw_774) (fun _ h9 => h9) rfl dX8_takeType_19 ?_
    refine lv_aload_n hx hb dX8_takeType_22 rfl (lv_at hl 1 rfl) ?_
    refine c_get (v := .int (nI at9)) (C := RX8) (Tc := TX8) (N := 5) (ci := 5) hx hb hq pin_wsX80 hown hE hP hO 23 (sg_23 G h0 a _ _ _ _ _) rfl 2 (by decide) (hq _ pw_776) (fun _ h9 => h9) rfl dX8_takeType_23 ?_
    refine lv_iconst (v := 1) hx hb dX8_takeType_26 (by decide) ?_
    have hO : OKW G h0 a (upd (upd (upd F 2 (nI sz)) 9 (nI at9)) 2 (nI sz)) R Z B J T Pi w := hO.to rfl
    obtain ⟨_, qr108, hqr109⟩ := hO.2.1 2 _ (sg_2 G h0 a _ _ _ _ _)
    refine pc_V0 (G := G) (As := [.int (nI at9), .int 1]) (rest := []) hx hb hml hown hq hE hX pX0_al hP hD hS hA hl.1 (K_giveRoleX l G h0 a (upd (upd F 2 (nI sz)) 9 (nI at9)) R Z B J T Pi w at9 1 sz (by omega) (by omega) (by first | decide | rfl) hO) (gV pw_822 pw_823 pw_824 pw_59 pw_819) hV_X10_giveRole qr108 7 hqr109 rfl rfl rfl (Nat.le_of_ble_eq_true rfl) dX8_takeType_27 ⟨(by show 0 + 0 ≤ 1; omega), (by show 0 + 0 ≤ 6; omega)⟩ ⟨Nat.le_of_ble_eq_true rfl, Nat.le_of_ble_eq_true rfl⟩ (fun v107 u105 H locs hw106 hP hD hS => ?_)
    obtain ⟨w, _⟩ := u105
    obtain ⟨hw106, hO⟩ := hw106
    obtain rfl : v107 = none := hw106
    have hO : OKW G h0 a (upd (upd F 2 (nI sz)) 9 (nI at9)) R Z (updA B 10 (upd ((B 10)) at9 1)) J T Pi w := hO.to rfl
    refine W.widen (k := 0) (n := 0) (Nat.le_of_ble_eq_true rfl) (Nat.le_of_ble_eq_true rfl) ?_
    refine W.eq (g2 := F0 m 30 ls []) rfl ?_
    refine lv_goto (tgt := 56) hx hb dX8_takeType_30 (by decide) ?_
    refine lv_aload_n hx hb dX8_takeType_56 rfl (lv_at hl 1 rfl) ?_
    refine c_get (v := .int (nI at9)) (C := RX8) (Tc := TX8) (N := 5) (ci := 5) hx hb hq pin_wsX80 hown hE hP hO 23 (sg_23 G h0 a _ _ _ _ _) rfl 2 (by decide) (hq _ pw_776) (fun _ h9 => h9) rfl dX8_takeType_57 ?_
    refine lv_istore_n (lv' := [(3, .int (nI at9)), (2, .int r6), (0, .ref (a 3)), (1, .int x)]) hx hb dX8_takeType_60 rfl hl (by decide) rfl (fun ls hl => ?_)
    refine lv_aload_n hx hb dX8_takeType_61 rfl (lv_at hl 2 rfl) ?_
    refine lv_dup hx hb dX8_takeType_62 rfl ?_
    refine c_get (v := .int (nI at9)) (C := RX8) (Tc := TX8) (N := 5) (ci := 5) hx hb hq pin_wsX80 hown hE hP hO 23 (sg_23 G h0 a _ _ _ _ _) rfl 2 (by decide) (hq _ pw_776) (fun _ h9 => h9) rfl dX8_takeType_63 ?_
    refine lv_iconst (v := 1) hx hb dX8_takeType_66 (by decide) ?_
    refine lv_iadd hx hb dX8_takeType_67 ?_
    refine lv_topi (fun x110 e111 => ?_)
    obtain rfl : x110 = nI (at9 + 1) := e111.trans (nI_add (at9) (1))
    refine c_put (v := .int (nI (at9 + 1))) (ty := .int) (C := RX8) (Tc := TX8) (N := 5) (ci := 5) hx hb hq pin_wsX80 tyX8 tyX8_ok nmX8 hown hE hP hD hS hO 23 (sg_23 G h0 a _ _ _ _ _) rfl 2 (by decide) (hq _ pw_776) (fun _ h9 => h9) rfl (by decide +kernel) rfl rfl (Nat.le_of_ble_eq_true rfl) (sf_9 G h0 a _ _ _ _ _ (nI (at9 + 1))) dX8_takeType_68 (fun H locs w hP hD hS hO => ?_)
    refine lv_iload_n hx hb dX8_takeType_71 rfl (lv_at hl 3 rfl) ?_
    refine lv_if_eq (tgt := 133) hx hb dX8_takeType_72 (by decide) (fun c112 => ?_) (fun c112 => ?_)
    · refine lv_iload_n hx hb dX8_takeType_133 rfl (lv_at hl 0 rfl) ?_
      refine W_size (fun hz1 hz2 => ?_)
      refine vx_ret ?_
      have hz113 : at9 + 1 ≤ (at9 + 1) ∧ (at9 + 1) ≤ sz := (by omega)
      have hz114 : RoS (B 10) (upd ((B 10)) at9 1) at9 := (RoS.upd (fun _ _ => rfl) (Nat.le_refl _))
      have hz115 : TtQ (B 7) sz (upd ((B 10)) at9 1) at9 := (Or.inr (Or.inr ⟨(h8.symm.trans c9), upd_eq⟩))
      have hz116 : (x : Int32) = 0 → (at9 + 1) = at9 + 1 := (fun _ => by omega)
      have hO : OKW G h0 a (upd (upd F 2 (nI sz)) 9 (nI (at9 + 1))) R Z (updA B 10 (upd ((B 10)) at9 1)) J T Pi w := hO.to rfl
      refine W.widen (k := 1) (n := 6) (by omega) (by omega) ?_
      have hzz1 : H.size ≤ s.heap.size + (0) := (by have z : 0 ≤ 0 := (by omega); omega)
      have hzz2 : hSl H ≤ hSl s.heap + (0) := (by have z : 0 ≤ 0 := (by omega); omega)
      exact W.iret (v := (nI at9)) hx hb hr (fun t99 ht99 hW99 => ⟨⟨_, (w, ((at9 + 1), (upd ((B 10)) at9 1))), rfl, ⟨rfl, hz113, hz114, hz115, hz116, hO⟩, by rw [ht99]; exact hP, hD, by rw [ht99]; exact hzz1, by rw [ht99]; exact hzz2⟩, hS.F ht99⟩) hS.2.2 dX8_takeType_134
    · refine lv_aload_n hx hb dX8_takeType_75 rfl (lv_at hl 2 rfl) ?_
      refine c_get (v := .ref (a 1)) (C := RX8) (Tc := TX8) (N := 5) (ci := 5) hx hb hq pin_wsX80 hown hE hP hO 23 (sg_23 G h0 a _ _ _ _ _) rfl 0 (by decide) (hq _ pw_774) (fun _ h9 => h9) rfl dX8_takeType_76 ?_
      refine lv_aload_n hx hb dX8_takeType_79 rfl (lv_at hl 2 rfl) ?_
      refine c_get (v := .int (nI (at9 + 1))) (C := RX8) (Tc := TX8) (N := 5) (ci := 5) hx hb hq pin_wsX80 hown hE hP hO 23 (sg_23 G h0 a _ _ _ _ _) rfl 2 (by decide) (hq _ pw_776) (fun _ h9 => h9) rfl dX8_takeType_80 ?_
      have hO : OKW G h0 a (upd (upd (upd F 2 (nI sz)) 9 (nI (at9 + 1))) 2 (nI sz)) R Z (updA B 10 (upd ((B 10)) at9 1)) J T Pi w := hO.to rfl
      obtain ⟨_, qr120, hqr121⟩ := hO.2.1 2 _ (sg_2 G h0 a _ _ _ _ _)
      refine pc_V0 (G := G) (As := [.int (nI (at9 + 1))]) (rest := []) hx hb hml hown hq hE hX pX0_al hP hD hS hA hl.1 (K_kindX l G h0 a (upd (upd F 2 (nI sz)) 9 (nI (at9 + 1))) R Z (updA B 10 (upd ((B 10)) at9 1)) J T Pi w (nI (at9 + 1)) sz (by omega) hO) (gV pw_777 pw_193 pw_194 pw_59 pw_126) hV_X10_kindAt qr120 7 hqr121 rfl rfl rfl (Nat.le_of_ble_eq_true rfl) dX8_takeType_83 ⟨(by show 0 + 0 ≤ 1; omega), (by show 0 + 0 ≤ 6; omega)⟩ ⟨Nat.le_of_ble_eq_true rfl, Nat.le_of_ble_eq_true rfl⟩ (fun v119 u117 H locs hw118 hP hD hS => ?_)
      obtain ⟨w, r122⟩ := u117
      obtain ⟨hw118, h123, h124, hO⟩ := hw118
      have h123 : r122 = 67 ∨ ∃ t : Nat, (nI (at9 + 1)) = nI t ∧ t < sz := h123
      have h124 : r122 = tkN ((B 7)) sz 67 (nI (at9 + 1)) := h124
      obtain rfl : v119 = some (.int r122) := hw118
      have hO : OKW G h0 a (upd (upd F 2 (nI sz)) 9 (nI (at9 + 1))) R Z (updA B 10 (upd ((B 10)) at9 1)) J T Pi w := hO.to rfl
      refine W.widen (k := 0) (n := 0) (Nat.le_of_ble_eq_true rfl) (Nat.le_of_ble_eq_true rfl) ?_
      refine W.eq (g2 := F0 m 86 ls [.int r122]) rfl ?_
      refine lv_bipush (v := 36) hx hb dX8_takeType_86 (by decide) ?_
      refine lv_icmp_ne (tgt := 133) hx hb dX8_takeType_88 (by decide) (fun c125 => ?_) (fun c125 => ?_)
      · refine lv_iload_n hx hb dX8_takeType_133 rfl (lv_at hl 0 rfl) ?_
        refine W_size (fun hz1 hz2 => ?_)
        refine vx_ret ?_
        have hz126 : at9 + 1 ≤ (at9 + 1) ∧ (at9 + 1) ≤ sz := (by omega)
        have hz127 : RoS (B 10) (upd ((B 10)) at9 1) at9 := (RoS.upd (fun _ _ => rfl) (Nat.le_refl _))
        have hz128 : TtQ (B 7) sz (upd ((B 10)) at9 1) at9 := (Or.inr (Or.inr ⟨(h8.symm.trans c9), upd_eq⟩))
        have hz129 : (x : Int32) = 0 → (at9 + 1) = at9 + 1 := (fun z => absurd z c112)
        have hO : OKW G h0 a (upd (upd F 2 (nI sz)) 9 (nI (at9 + 1))) R Z (updA B 10 (upd ((B 10)) at9 1)) J T Pi w := hO.to rfl
        refine W.widen (k := 1) (n := 6) (by omega) (by omega) ?_
        have hzz1 : H.size ≤ s.heap.size + (0) := (by have z : 0 ≤ 0 := (by omega); omega)
        have hzz2 : hSl H ≤ hSl s.heap + (0) := (by have z : 0 ≤ 0 := (by omega); omega)
        exact W.iret (v := (nI at9)) hx hb hr (fun t99 ht99 hW99 => ⟨⟨_, (w, ((at9 + 1), (upd ((B 10)) at9 1))), rfl, ⟨rfl, hz126, hz127, hz128, hz129, hO⟩, by rw [ht99]; exact hP, hD, by rw [ht99]; exact hzz1, by rw [ht99]; exact hzz2⟩, hS.F ht99⟩) hS.2.2 dX8_takeType_134
      · refine lv_aload_n hx hb dX8_takeType_91 rfl (lv_at hl 2 rfl) ?_
        refine c_get (v := .ref (a 1)) (C := RX8) (Tc := TX8) (N := 5) (ci := 5) hx hb hq pin_wsX80 hown hE hP hO 23 (sg_23 G h0 a _ _ _ _ _) rfl 0 (by decide) (hq _ pw_774) (fun _ h9 => h9) rfl dX8_takeType_92 ?_
        refine lv_aload_n hx hb dX8_takeType_95 rfl (lv_at hl 2 rfl) ?_
        refine c_get (v := .int (nI (at9 + 1))) (C := RX8) (Tc := TX8) (N := 5) (ci := 5) hx hb hq pin_wsX80 hown hE hP hO 23 (sg_23 G h0 a _ _ _ _ _) rfl 2 (by decide) (hq _ pw_776) (fun _ h9 => h9) rfl dX8_takeType_96 ?_
        refine lv_iconst (v := 1) hx hb dX8_takeType_99 (by decide) ?_
        refine lv_iadd hx hb dX8_takeType_100 ?_
        refine lv_topi (fun x130 e131 => ?_)
        obtain rfl : x130 = nI ((at9 + 1) + 1) := e131.trans (nI_add ((at9 + 1)) (1))
        have hO : OKW G h0 a (upd (upd (upd F 2 (nI sz)) 9 (nI (at9 + 1))) 2 (nI sz)) R Z (updA B 10 (upd ((B 10)) at9 1)) J T Pi w := hO.to rfl
        obtain ⟨_, qr135, hqr136⟩ := hO.2.1 2 _ (sg_2 G h0 a _ _ _ _ _)
        refine pc_V0 (G := G) (As := [.int (nI ((at9 + 1) + 1))]) (rest := []) hx hb hml hown hq hE hX pX0_al hP hD hS hA hl.1 (K_kindX l G h0 a (upd (upd F 2 (nI sz)) 9 (nI (at9 + 1))) R Z (updA B 10 (upd ((B 10)) at9 1)) J T Pi w (nI ((at9 + 1) + 1)) sz (by omega) hO) (gV pw_777 pw_193 pw_194 pw_59 pw_126) hV_X10_kindAt qr135 7 hqr136 rfl rfl rfl (Nat.le_of_ble_eq_true rfl) dX8_takeType_101 ⟨(by show 0 + 0 ≤ 1; omega), (by show 0 + 0 ≤ 6; omega)⟩ ⟨Nat.le_of_ble_eq_true rfl, Nat.le_of_ble_eq_true rfl⟩ (fun v134 u132 H locs hw133 hP hD hS => ?_)
        obtain ⟨w, r137⟩ := u132
        obtain ⟨hw133, h138, h139, hO⟩ := hw133
        have h138 : r137 = 67 ∨ ∃ t : Nat, (nI ((at9 + 1) + 1)) = nI t ∧ t < sz := h138
        have h139 : r137 = tkN ((B 7)) sz 67 (nI ((at9 + 1) + 1)) := h139
        obtain rfl : v134 = some (.int r137) := hw133
        have hO : OKW G h0 a (upd (upd F 2 (nI sz)) 9 (nI (at9 + 1))) R Z (updA B 10 (upd ((B 10)) at9 1)) J T Pi w := hO.to rfl
        refine W.widen (k := 0) (n := 0) (Nat.le_of_ble_eq_true rfl) (Nat.le_of_ble_eq_true rfl) ?_
        refine W.eq (g2 := F0 m 104 ls [.int r137]) rfl ?_
        refine lv_bipush (v := 37) hx hb dX8_takeType_104 (by decide) ?_
        refine lv_icmp_eq (tgt := 123) hx hb dX8_takeType_106 (by decide) (fun c140 => ?_) (fun c140 => ?_)
        · have htk123 := tok_in h138 c140 (by decide : ¬ (37 : Int32) = 67) (by omega) hsz
          refine lv_aload_n hx hb dX8_takeType_123 rfl (lv_at hl 2 rfl) ?_
          refine lv_dup hx hb dX8_takeType_124 rfl ?_
          refine c_get (v := .int (nI (at9 + 1))) (C := RX8) (Tc := TX8) (N := 5) (ci := 5) hx hb hq pin_wsX80 hown hE hP hO 23 (sg_23 G h0 a _ _ _ _ _) rfl 2 (by decide) (hq _ pw_776) (fun _ h9 => h9) rfl dX8_takeType_125 ?_
          refine lv_iconst (v := 2) hx hb dX8_takeType_128 (by decide) ?_
          refine lv_iadd hx hb dX8_takeType_129 ?_
          refine lv_topi (fun x141 e142 => ?_)
          obtain rfl : x141 = nI ((at9 + 1) + 2) := e142.trans (nI_add ((at9 + 1)) (2))
          refine c_put (v := .int (nI ((at9 + 1) + 2))) (ty := .int) (C := RX8) (Tc := TX8) (N := 5) (ci := 5) hx hb hq pin_wsX80 tyX8 tyX8_ok nmX8 hown hE hP hD hS hO 23 (sg_23 G h0 a _ _ _ _ _) rfl 2 (by decide) (hq _ pw_776) (fun _ h9 => h9) rfl (by decide +kernel) rfl rfl (Nat.le_of_ble_eq_true rfl) (sf_9 G h0 a _ _ _ _ _ (nI ((at9 + 1) + 2))) dX8_takeType_130 (fun H locs w hP hD hS hO => ?_)
          refine lv_iload_n hx hb dX8_takeType_133 rfl (lv_at hl 0 rfl) ?_
          refine W_size (fun hz1 hz2 => ?_)
          refine vx_ret ?_
          have hz143 : at9 + 1 ≤ ((at9 + 1) + 2) ∧ ((at9 + 1) + 2) ≤ sz := (by omega)
          have hz144 : RoS (B 10) (upd ((B 10)) at9 1) at9 := (RoS.upd (fun _ _ => rfl) (Nat.le_refl _))
          have hz145 : TtQ (B 7) sz (upd ((B 10)) at9 1) at9 := (Or.inr (Or.inr ⟨(h8.symm.trans c9), upd_eq⟩))
          have hz146 : (x : Int32) = 0 → ((at9 + 1) + 2) = at9 + 1 := (fun z => absurd z c112)
          have hO : OKW G h0 a (upd (upd F 2 (nI sz)) 9 (nI ((at9 + 1) + 2))) R Z (updA B 10 (upd ((B 10)) at9 1)) J T Pi w := hO.to rfl
          refine W.widen (k := 1) (n := 6) (by omega) (by omega) ?_
          have hzz1 : H.size ≤ s.heap.size + (0) := (by have z : 0 ≤ 0 := (by omega); omega)
          have hzz2 : hSl H ≤ hSl s.heap + (0) := (by have z : 0 ≤ 0 := (by omega); omega)
          exact W.iret (v := (nI at9)) hx hb hr (fun t99 ht99 hW99 => ⟨⟨_, (w, (((at9 + 1) + 2), (upd ((B 10)) at9 1))), rfl, ⟨rfl, hz143, hz144, hz145, hz146, hO⟩, by rw [ht99]; exact hP, hD, by rw [ht99]; exact hzz1, by rw [ht99]; exact hzz2⟩, hS.F ht99⟩) hS.2.2 dX8_takeType_134
        · refine lv_aload_n hx hb dX8_takeType_109 rfl (lv_at hl 2 rfl) ?_
          refine c_get (v := .ref (a 1)) (C := RX8) (Tc := TX8) (N := 5) (ci := 5) hx hb hq pin_wsX80 hown hE hP hO 23 (sg_23 G h0 a _ _ _ _ _) rfl 0 (by decide) (hq _ pw_774) (fun _ h9 => h9) rfl dX8_takeType_110 ?_
          refine lv_iconst (v := 1) hx hb dX8_takeType_113 (by decide) ?_
          refine lv_aload_n hx hb dX8_takeType_114 rfl (lv_at hl 2 rfl) ?_
          refine c_get (v := .int (nI (at9 + 1))) (C := RX8) (Tc := TX8) (N := 5) (ci := 5) hx hb hq pin_wsX80 hown hE hP hO 23 (sg_23 G h0 a _ _ _ _ _) rfl 2 (by decide) (hq _ pw_776) (fun _ h9 => h9) rfl dX8_takeType_115 ?_
          refine lv_iconst (v := 1) hx hb dX8_takeType_118 (by decide) ?_
          refine lv_iadd hx hb dX8_takeType_119 ?_
          refine lv_topi (fun x147 e148 => ?_)
          obtain rfl : x147 = nI ((at9 + 1) + 1) := e148.trans (nI_add ((at9 + 1)) (1))
          have hO : OKW G h0 a (upd (upd (upd (upd F 2 (nI sz)) 9 (nI at9)) 9 (nI (at9 + 1))) 2 (nI sz)) R Z (updA B 10 (upd ((B 10)) at9 1)) J T Pi w := hO.to rfl
          obtain ⟨_, qr152, hqr153⟩ := hO.2.1 2 _ (sg_2 G h0 a _ _ _ _ _)
          refine pn_V0 (G := G) (As := [.int 1, .int (nI ((at9 + 1) + 1))]) (rest := []) hx hb hml hown hq hE hX pX0_al hP hD hS hA hl.1 (K_fail l G h0 a (upd (upd (upd F 2 (nI sz)) 9 (nI at9)) 9 (nI (at9 + 1))) R Z (updA B 10 (upd ((B 10)) at9 1)) J T Pi w 1 (nI ((at9 + 1) + 1)) sz (by omega) hO hl0) (gV pw_779 pw_65 pw_66 pw_59 pw_43) hV_X10_fail qr152 7 hqr153 rfl rfl rfl (Nat.le_of_ble_eq_true rfl) dX8_takeType_120 ⟨(by show 0 + 1 ≤ 1; omega), (by show 0 + 6 ≤ 6; omega)⟩ ⟨Nat.le_of_ble_eq_true rfl, Nat.le_of_ble_eq_true rfl⟩ (fun v151 u149 H locs hw150 hP hD hS => hw150.elim) (fun ux ce9 q9 H9 locs9 hux hP9 hD9 hS9 hce hcv hcl => pb_out ux (ThQ.up (Thx.same (Thx.b (Thx.f Thx.rfl (by omega)) (by omega) (by decide)) rfl) RhX.rfl hux) hnt hlocks hce hcv hcl hP9 hD9 hS9 (by show 0 + 1 ≤ 1; omega) (by show 0 + 6 ≤ 6; omega))
theorem dX8_openBracket_0 : decode cX8_openBracket 0 = .ok (.aload_n 0, 1) := by decide +kernel
theorem dX8_openBracket_1 : decode cX8_openBracket 1 = .ok (.getfield 7, 3) := by decide +kernel
theorem dX8_openBracket_4 : decode cX8_openBracket 4 = .ok (.aload_n 0, 1) := by decide +kernel
theorem dX8_openBracket_5 : decode cX8_openBracket 5 = .ok (.getfield 17, 3) := by decide +kernel
theorem dX8_openBracket_8 : decode cX8_openBracket 8 = .ok (.invokevirtual 57, 3) := by decide +kernel
theorem dX8_openBracket_11 : decode cX8_openBracket 11 = .ok (.iload_n 1, 1) := by decide +kernel
theorem dX8_openBracket_12 : decode cX8_openBracket 12 = .ok (.if_icmp .eq 15, 3) := by decide +kernel
theorem dX8_openBracket_27 : decode cX8_openBracket 27 = .ok (.aload_n 0, 1) := by decide +kernel
theorem dX8_openBracket_28 : decode cX8_openBracket 28 = .ok (.dup, 1) := by decide +kernel
theorem dX8_openBracket_29 : decode cX8_openBracket 29 = .ok (.getfield 21, 3) := by decide +kernel
theorem dX8_openBracket_32 : decode cX8_openBracket 32 = .ok (.iconst 1, 1) := by decide +kernel
theorem dX8_openBracket_33 : decode cX8_openBracket 33 = .ok (.iadd, 1) := by decide +kernel
theorem dX8_openBracket_34 : decode cX8_openBracket 34 = .ok (.putfield 21, 3) := by decide +kernel
theorem dX8_openBracket_37 : decode cX8_openBracket 37 = .ok (.aload_n 0, 1) := by decide +kernel
theorem dX8_openBracket_38 : decode cX8_openBracket 38 = .ok (.getfield 21, 3) := by decide +kernel
theorem dX8_openBracket_41 : decode cX8_openBracket 41 = .ok (.bipush 20, 2) := by decide +kernel
theorem dX8_openBracket_43 : decode cX8_openBracket 43 = .ok (.if_icmp .le 15, 3) := by decide +kernel
theorem dX8_openBracket_58 : decode cX8_openBracket 58 = .ok (.aload_n 0, 1) := by decide +kernel
theorem dX8_openBracket_59 : decode cX8_openBracket 59 = .ok (.dup, 1) := by decide +kernel
theorem dX8_openBracket_60 : decode cX8_openBracket 60 = .ok (.getfield 17, 3) := by decide +kernel
theorem dX8_openBracket_63 : decode cX8_openBracket 63 = .ok (.iconst 1, 1) := by decide +kernel
theorem dX8_openBracket_64 : decode cX8_openBracket 64 = .ok (.iadd, 1) := by decide +kernel
theorem dX8_openBracket_65 : decode cX8_openBracket 65 = .ok (.putfield 17, 3) := by decide +kernel
theorem dX8_openBracket_68 : decode cX8_openBracket 68 = .ok (.return_, 1) := by decide +kernel
theorem dX8_openBracket_46 : decode cX8_openBracket 46 = .ok (.aload_n 0, 1) := by decide +kernel
theorem dX8_openBracket_47 : decode cX8_openBracket 47 = .ok (.getfield 7, 3) := by decide +kernel
theorem dX8_openBracket_50 : decode cX8_openBracket 50 = .ok (.iconst 2, 1) := by decide +kernel
theorem dX8_openBracket_51 : decode cX8_openBracket 51 = .ok (.aload_n 0, 1) := by decide +kernel
theorem dX8_openBracket_52 : decode cX8_openBracket 52 = .ok (.getfield 17, 3) := by decide +kernel
theorem dX8_openBracket_55 : decode cX8_openBracket 55 = .ok (.invokevirtual 60, 3) := by decide +kernel
theorem dX8_openBracket_15 : decode cX8_openBracket 15 = .ok (.aload_n 0, 1) := by decide +kernel
theorem dX8_openBracket_16 : decode cX8_openBracket 16 = .ok (.getfield 7, 3) := by decide +kernel
theorem dX8_openBracket_19 : decode cX8_openBracket 19 = .ok (.iconst 1, 1) := by decide +kernel
theorem dX8_openBracket_20 : decode cX8_openBracket 20 = .ok (.aload_n 0, 1) := by decide +kernel
theorem dX8_openBracket_21 : decode cX8_openBracket 21 = .ok (.getfield 17, 3) := by decide +kernel
theorem dX8_openBracket_24 : decode cX8_openBracket 24 = .ok (.invokevirtual 60, 3) := by decide +kernel
set_option maxHeartbeats 2000000 in
set_option maxRecDepth 100000 in
theorem P_openBracket (l : Launch) (G : pT) (h0 : Nat) (a : Nat → Nat) (F : Nat → Int32) (R : Nat → Value) (Z : Int64) (B : Nat → Nat → Int32) (J : Nat → Nat → Int64) (T : Nat → Nat) (Pi : Nat → va_E → Prop) (w : va_W) (x : Int32) (dp : Nat) (at9 : Nat) (sz : Nat) (hsz : sz ≤ 5000) (hat : at9 ≤ sz) (hx9 : ¬ x = 67) (hdp : dp ≤ 20) (hO : OKW G h0 a (upd (upd (upd F 2 (nI sz)) 9 (nI at9)) 10 (nI dp)) R Z B J T Pi w) (hl0 : l.stackTraces = false) : PBn l G pX0 yX8_openBracket cX8_openBracket 2 none ({ frames := 7, cells := 1, slots := 6, locals := 122 }) [.ref (a 3), .int x] w (fun (v : Option Value) (u : va_W × (Unit)) => v = none ∧ (at9 + 1 ≤ sz ∧ dp + 1 ≤ 20) ∧ (tkN (B 7) sz 67 (nI at9) = x) ∧ (OKW G h0 a (upd (upd (upd F 2 (nI sz)) 9 (nI (at9 + 1))) 10 (nI (dp + 1))) R Z B J T Pi u.1)) (fun u => u.1) (fun (u : va_W × (Unit)) => 0) (fun (u : va_W × (Unit)) => 0) (fun (u : va_W × (Nat → Int32) × (Nat → Value) × (Nat → Nat → Int32)) => ThQ G h0 a (upd (upd (upd F 2 (nI sz)) 9 (nI at9)) 10 (nI dp)) R Z B J u) (fun u => u.1) := by
  intro sz
  refine vx_ofW (cc := cX8_openBracket) (maxL := 2) (ret := none) (by decide) rfl ?_
  intro p e s m args below meth c s₁ B9 hml hnt hv
  obtain ⟨rfl, hsz, hP, hD0, hE, hX⟩ := hv
  have hx := B9.exec
  have hb := B9.bytes
  have hr := B9.returns
  have hts := atoms_spec (ws := Cond.code yX8_openBracket cX8_openBracket 2 none :: pw) B9.pre
  have hq : ∀ w ∈ pw, w.before _ s = true := fun w h => hts w (List.mem_cons_of_mem _ h)
  have hown : s.vm.findClass RX8 = some m.cls := findClass_of_methodNamed B9.named
  have hlocks := B9.notSynchronized
  subst hsz
  have hD := hD0.self (sz := s.heap.size)
  have hA : ∀ q : Nat, s.heap.size ≤ q → va_A w s.heap.size q := fun q h => Or.inr h
  generalize va_A w s.heap.size = A at hD hE hA ⊢
  have hS : va_S A s.heap s.heap [] := va_S.rf
  have hl := lv_entry ([.ref (a 3), .int x]) (n := 2) (Nat.le_of_ble_eq_true rfl)
  rw [lg_entry_eq]
  generalize (lg_sl ([.ref (a 3), .int x]) ++ List.replicate (2 - (lg_sl ([.ref (a 3), .int x])).length) Slot.unset).toArray = ls at hl ⊢
  have hl : lv_has ls 2 [(0, .ref (a 3)), (1, .int x)] := hl
  refine lv_aload_n hx hb dX8_openBracket_0 rfl (lv_at hl 0 rfl) ?_
  refine c_get (v := .ref (a 1)) (C := RX8) (Tc := TX8) (N := 5) (ci := 5) hx hb hq pin_wsX80 hown hE hP hO 23 (sg_23 G h0 a _ _ _ _ _) rfl 0 (by decide) (hq _ pw_774) (fun _ h9 => h9) rfl dX8_openBracket_1 ?_
  refine lv_aload_n hx hb dX8_openBracket_4 rfl (lv_at hl 0 rfl) ?_
  refine c_get (v := .int (nI at9)) (C := RX8) (Tc := TX8) (N := 5) (ci := 5) hx hb hq pin_wsX80 hown hE hP hO 23 (sg_23 G h0 a _ _ _ _ _) rfl 2 (by decide) (hq _ pw_776) (fun _ h9 => h9) rfl dX8_openBracket_5 ?_
  have hO : OKW G h0 a (upd (upd (upd (upd F 2 (nI sz)) 9 (nI at9)) 10 (nI dp)) 2 (nI sz)) R Z B J T Pi w := hO.to rfl
  obtain ⟨_, qr4, hqr5⟩ := hO.2.1 2 _ (sg_2 G h0 a _ _ _ _ _)
  refine pc_V0 (G := G) (As := [.int (nI at9)]) (rest := []) hx hb hml hown hq hE hX pX0_al hP hD hS hA hl.1 (K_kindX l G h0 a (upd (upd (upd F 2 (nI sz)) 9 (nI at9)) 10 (nI dp)) R Z B J T Pi w (nI at9) sz (by omega) hO) (gV pw_777 pw_193 pw_194 pw_59 pw_126) hV_X10_kindAt qr4 7 hqr5 rfl rfl rfl (Nat.le_of_ble_eq_true rfl) dX8_openBracket_8 ⟨(by show 0 + 0 ≤ 1; omega), (by show 0 + 0 ≤ 6; omega)⟩ ⟨Nat.le_of_ble_eq_true rfl, Nat.le_of_ble_eq_true rfl⟩ (fun v3 u1 H locs hw2 hP hD hS => ?_)
  obtain ⟨w, r6⟩ := u1
  obtain ⟨hw2, h7, h8, hO⟩ := hw2
  have h7 : r6 = 67 ∨ ∃ t : Nat, (nI at9) = nI t ∧ t < sz := h7
  have h8 : r6 = tkN ((B 7)) sz 67 (nI at9) := h8
  obtain rfl : v3 = some (.int r6) := hw2
  have hO : OKW G h0 a (upd (upd (upd F 2 (nI sz)) 9 (nI at9)) 10 (nI dp)) R Z B J T Pi w := hO.to rfl
  refine W.widen (k := 0) (n := 0) (Nat.le_of_ble_eq_true rfl) (Nat.le_of_ble_eq_true rfl) ?_
  refine W.eq (g2 := F0 m 11 ls [.int r6]) rfl ?_
  refine lv_iload_n hx hb dX8_openBracket_11 rfl (lv_at hl 1 rfl) ?_
  refine lv_icmp_eq (tgt := 27) hx hb dX8_openBracket_12 (by decide) (fun c9 => ?_) (fun c9 => ?_)
  · have htk := tok_in h7 c9 hx9 (by omega) hsz
    refine lv_aload_n hx hb dX8_openBracket_27 rfl (lv_at hl 0 rfl) ?_
    refine lv_dup hx hb dX8_openBracket_28 rfl ?_
    refine c_get (v := .int (nI dp)) (C := RX8) (Tc := TX8) (N := 5) (ci := 5) hx hb hq pin_wsX80 hown hE hP hO 23 (sg_23 G h0 a _ _ _ _ _) rfl 3 (by decide) (hq _ pw_901) (fun _ h9 => h9) rfl dX8_openBracket_29 ?_
    refine lv_iconst (v := 1) hx hb dX8_openBracket_32 (by decide) ?_
    refine lv_iadd hx hb dX8_openBracket_33 ?_
    refine lv_topi (fun x10 e11 => ?_)
    obtain rfl : x10 = nI (dp + 1) := e11.trans (nI_add (dp) (1))
    refine c_put (v := .int (nI (dp + 1))) (ty := .int) (C := RX8) (Tc := TX8) (N := 5) (ci := 5) hx hb hq pin_wsX80 tyX8 tyX8_ok nmX8 hown hE hP hD hS hO 23 (sg_23 G h0 a _ _ _ _ _) rfl 3 (by decide) (hq _ pw_901) (fun _ h9 => h9) rfl (by decide +kernel) rfl rfl (Nat.le_of_ble_eq_true rfl) (sf_10 G h0 a _ _ _ _ _ (nI (dp + 1))) dX8_openBracket_34 (fun H locs w hP hD hS hO => ?_)
    refine lv_aload_n hx hb dX8_openBracket_37 rfl (lv_at hl 0 rfl) ?_
    refine c_get (v := .int (nI (dp + 1))) (C := RX8) (Tc := TX8) (N := 5) (ci := 5) hx hb hq pin_wsX80 hown hE hP hO 23 (sg_23 G h0 a _ _ _ _ _) rfl 3 (by decide) (hq _ pw_901) (fun _ h9 => h9) rfl dX8_openBracket_38 ?_
    refine lv_bipush (v := 20) hx hb dX8_openBracket_41 (by decide) ?_
    refine lv_icmp_le (tgt := 58) hx hb dX8_openBracket_43 (by decide) (fun c12 => ?_) (fun c12 => ?_)
    · have n13 : (dp + 1) ≤ 20 := (nI_leI (a := (dp + 1)) (b := 20) (by omega) (by omega)).mp c12
      refine lv_aload_n hx hb dX8_openBracket_58 rfl (lv_at hl 0 rfl) ?_
      refine lv_dup hx hb dX8_openBracket_59 rfl ?_
      refine c_get (v := .int (nI at9)) (C := RX8) (Tc := TX8) (N := 5) (ci := 5) hx hb hq pin_wsX80 hown hE hP hO 23 (sg_23 G h0 a _ _ _ _ _) rfl 2 (by decide) (hq _ pw_776) (fun _ h9 => h9) rfl dX8_openBracket_60 ?_
      refine lv_iconst (v := 1) hx hb dX8_openBracket_63 (by decide) ?_
      refine lv_iadd hx hb dX8_openBracket_64 ?_
      refine lv_topi (fun x14 e15 => ?_)
      obtain rfl : x14 = nI (at9 + 1) := e15.trans (nI_add (at9) (1))
      refine c_put (v := .int (nI (at9 + 1))) (ty := .int) (C := RX8) (Tc := TX8) (N := 5) (ci := 5) hx hb hq pin_wsX80 tyX8 tyX8_ok nmX8 hown hE hP hD hS hO 23 (sg_23 G h0 a _ _ _ _ _) rfl 2 (by decide) (hq _ pw_776) (fun _ h9 => h9) rfl (by decide +kernel) rfl rfl (Nat.le_of_ble_eq_true rfl) (sf_9 G h0 a _ _ _ _ _ (nI (at9 + 1))) dX8_openBracket_65 (fun H locs w hP hD hS hO => ?_)
      refine W_size (fun hz1 hz2 => ?_)
      refine vx_ret ?_
      have hz16 : at9 + 1 ≤ sz ∧ dp + 1 ≤ 20 := (by omega)
      have hz17 : tkN (B 7) sz 67 (nI at9) = x := (h8.symm.trans c9)
      have hO : OKW G h0 a (upd (upd (upd F 2 (nI sz)) 9 (nI (at9 + 1))) 10 (nI (dp + 1))) R Z B J T Pi w := hO.to rfl
      refine W.widen (k := 1) (n := 6) (by omega) (by omega) ?_
      have hzz1 : H.size ≤ s.heap.size + (0) := (by have z : 0 ≤ 0 := (by omega); omega)
      have hzz2 : hSl H ≤ hSl s.heap + (0) := (by have z : 0 ≤ 0 := (by omega); omega)
      exact W.vret hx hb hr (fun t99 ht99 hW99 => ⟨⟨_, (w, ()), rfl, ⟨rfl, hz16, hz17, hO⟩, by rw [ht99]; exact hP, hD, by rw [ht99]; exact hzz1, by rw [ht99]; exact hzz2⟩, hS.F ht99⟩) hS.2.2 dX8_openBracket_68
    · have n18 : ¬ ((dp + 1) ≤ 20) := fun h9 => c12 ((nI_leI (a := (dp + 1)) (b := 20) (by omega) (by omega)).mpr h9)
      refine lv_aload_n hx hb dX8_openBracket_46 rfl (lv_at hl 0 rfl) ?_
      refine c_get (v := .ref (a 1)) (C := RX8) (Tc := TX8) (N := 5) (ci := 5) hx hb hq pin_wsX80 hown hE hP hO 23 (sg_23 G h0 a _ _ _ _ _) rfl 0 (by decide) (hq _ pw_774) (fun _ h9 => h9) rfl dX8_openBracket_47 ?_
      refine lv_iconst (v := 2) hx hb dX8_openBracket_50 (by decide) ?_
      refine lv_aload_n hx hb dX8_openBracket_51 rfl (lv_at hl 0 rfl) ?_
      refine c_get (v := .int (nI at9)) (C := RX8) (Tc := TX8) (N := 5) (ci := 5) hx hb hq pin_wsX80 hown hE hP hO 23 (sg_23 G h0 a _ _ _ _ _) rfl 2 (by decide) (hq _ pw_776) (fun _ h9 => h9) rfl dX8_openBracket_52 ?_
      have hO : OKW G h0 a (upd (upd (upd (upd (upd F 2 (nI sz)) 9 (nI at9)) 10 (nI dp)) 10 (nI (dp + 1))) 2 (nI sz)) R Z B J T Pi w := hO.to rfl
      obtain ⟨_, qr22, hqr23⟩ := hO.2.1 2 _ (sg_2 G h0 a _ _ _ _ _)
      refine pn_V0 (G := G) (As := [.int 2, .int (nI at9)]) (rest := []) hx hb hml hown hq hE hX pX0_al hP hD hS hA hl.1 (K_fail l G h0 a (upd (upd (upd (upd F 2 (nI sz)) 9 (nI at9)) 10 (nI dp)) 10 (nI (dp + 1))) R Z B J T Pi w 2 (nI at9) sz (by omega) hO hl0) (gV pw_779 pw_65 pw_66 pw_59 pw_43) hV_X10_fail qr22 7 hqr23 rfl rfl rfl (Nat.le_of_ble_eq_true rfl) dX8_openBracket_55 ⟨(by show 0 + 1 ≤ 1; omega), (by show 0 + 6 ≤ 6; omega)⟩ ⟨Nat.le_of_ble_eq_true rfl, Nat.le_of_ble_eq_true rfl⟩ (fun v21 u19 H locs hw20 hP hD hS => hw20.elim) (fun ux ce9 q9 H9 locs9 hux hP9 hD9 hS9 hce hcv hcl => pb_out ux (ThQ.up (Thx.same (Thx.f Thx.rfl (by omega)) rfl) RhX.rfl hux) hnt hlocks hce hcv hcl hP9 hD9 hS9 (by show 0 + 1 ≤ 1; omega) (by show 0 + 6 ≤ 6; omega))
  · refine lv_aload_n hx hb dX8_openBracket_15 rfl (lv_at hl 0 rfl) ?_
    refine c_get (v := .ref (a 1)) (C := RX8) (Tc := TX8) (N := 5) (ci := 5) hx hb hq pin_wsX80 hown hE hP hO 23 (sg_23 G h0 a _ _ _ _ _) rfl 0 (by decide) (hq _ pw_774) (fun _ h9 => h9) rfl dX8_openBracket_16 ?_
    refine lv_iconst (v := 1) hx hb dX8_openBracket_19 (by decide) ?_
    refine lv_aload_n hx hb dX8_openBracket_20 rfl (lv_at hl 0 rfl) ?_
    refine c_get (v := .int (nI at9)) (C := RX8) (Tc := TX8) (N := 5) (ci := 5) hx hb hq pin_wsX80 hown hE hP hO 23 (sg_23 G h0 a _ _ _ _ _) rfl 2 (by decide) (hq _ pw_776) (fun _ h9 => h9) rfl dX8_openBracket_21 ?_
    have hO : OKW G h0 a (upd (upd (upd (upd F 2 (nI sz)) 9 (nI at9)) 10 (nI dp)) 2 (nI sz)) R Z B J T Pi w := hO.to rfl
    obtain ⟨_, qr27, hqr28⟩ := hO.2.1 2 _ (sg_2 G h0 a _ _ _ _ _)
    refine pn_V0 (G := G) (As := [.int 1, .int (nI at9)]) (rest := []) hx hb hml hown hq hE hX pX0_al hP hD hS hA hl.1 (K_fail l G h0 a (upd (upd (upd F 2 (nI sz)) 9 (nI at9)) 10 (nI dp)) R Z B J T Pi w 1 (nI at9) sz (by omega) hO hl0) (gV pw_779 pw_65 pw_66 pw_59 pw_43) hV_X10_fail qr27 7 hqr28 rfl rfl rfl (Nat.le_of_ble_eq_true rfl) dX8_openBracket_24 ⟨(by show 0 + 1 ≤ 1; omega), (by show 0 + 6 ≤ 6; omega)⟩ ⟨Nat.le_of_ble_eq_true rfl, Nat.le_of_ble_eq_true rfl⟩ (fun v26 u24 H locs hw25 hP hD hS => hw25.elim) (fun ux ce9 q9 H9 locs9 hux hP9 hD9 hS9 hce hcv hcl => pb_out ux (ThQ.up (Thx.same Thx.rfl rfl) RhX.rfl hux) hnt hlocks hce hcv hcl hP9 hD9 hS9 (by show 0 + 1 ≤ 1; omega) (by show 0 + 6 ≤ 6; omega))
theorem dX8_closeBracket_0 : decode cX8_closeBracket 0 = .ok (.aload_n 0, 1) := by decide +kernel
theorem dX8_closeBracket_1 : decode cX8_closeBracket 1 = .ok (.getfield 7, 3) := by decide +kernel
theorem dX8_closeBracket_4 : decode cX8_closeBracket 4 = .ok (.aload_n 0, 1) := by decide +kernel
theorem dX8_closeBracket_5 : decode cX8_closeBracket 5 = .ok (.getfield 17, 3) := by decide +kernel
theorem dX8_closeBracket_8 : decode cX8_closeBracket 8 = .ok (.invokevirtual 57, 3) := by decide +kernel
theorem dX8_closeBracket_11 : decode cX8_closeBracket 11 = .ok (.iload_n 1, 1) := by decide +kernel
theorem dX8_closeBracket_12 : decode cX8_closeBracket 12 = .ok (.if_icmp .eq 15, 3) := by decide +kernel
theorem dX8_closeBracket_27 : decode cX8_closeBracket 27 = .ok (.aload_n 0, 1) := by decide +kernel
theorem dX8_closeBracket_28 : decode cX8_closeBracket 28 = .ok (.dup, 1) := by decide +kernel
theorem dX8_closeBracket_29 : decode cX8_closeBracket 29 = .ok (.getfield 21, 3) := by decide +kernel
theorem dX8_closeBracket_32 : decode cX8_closeBracket 32 = .ok (.iconst 1, 1) := by decide +kernel
theorem dX8_closeBracket_33 : decode cX8_closeBracket 33 = .ok (.isub, 1) := by decide +kernel
theorem dX8_closeBracket_34 : decode cX8_closeBracket 34 = .ok (.putfield 21, 3) := by decide +kernel
theorem dX8_closeBracket_37 : decode cX8_closeBracket 37 = .ok (.aload_n 0, 1) := by decide +kernel
theorem dX8_closeBracket_38 : decode cX8_closeBracket 38 = .ok (.dup, 1) := by decide +kernel
theorem dX8_closeBracket_39 : decode cX8_closeBracket 39 = .ok (.getfield 17, 3) := by decide +kernel
theorem dX8_closeBracket_42 : decode cX8_closeBracket 42 = .ok (.iconst 1, 1) := by decide +kernel
theorem dX8_closeBracket_43 : decode cX8_closeBracket 43 = .ok (.iadd, 1) := by decide +kernel
theorem dX8_closeBracket_44 : decode cX8_closeBracket 44 = .ok (.putfield 17, 3) := by decide +kernel
theorem dX8_closeBracket_47 : decode cX8_closeBracket 47 = .ok (.aload_n 0, 1) := by decide +kernel
theorem dX8_closeBracket_48 : decode cX8_closeBracket 48 = .ok (.getfield 17, 3) := by decide +kernel
theorem dX8_closeBracket_51 : decode cX8_closeBracket 51 = .ok (.iconst 1, 1) := by decide +kernel
theorem dX8_closeBracket_52 : decode cX8_closeBracket 52 = .ok (.isub, 1) := by decide +kernel
theorem dX8_closeBracket_53 : decode cX8_closeBracket 53 = .ok (.ireturn, 1) := by decide +kernel
theorem dX8_closeBracket_15 : decode cX8_closeBracket 15 = .ok (.aload_n 0, 1) := by decide +kernel
theorem dX8_closeBracket_16 : decode cX8_closeBracket 16 = .ok (.getfield 7, 3) := by decide +kernel
theorem dX8_closeBracket_19 : decode cX8_closeBracket 19 = .ok (.iconst 1, 1) := by decide +kernel
theorem dX8_closeBracket_20 : decode cX8_closeBracket 20 = .ok (.aload_n 0, 1) := by decide +kernel
theorem dX8_closeBracket_21 : decode cX8_closeBracket 21 = .ok (.getfield 17, 3) := by decide +kernel
theorem dX8_closeBracket_24 : decode cX8_closeBracket 24 = .ok (.invokevirtual 60, 3) := by decide +kernel
set_option maxHeartbeats 2000000 in
set_option maxRecDepth 100000 in
theorem P_closeBracket (l : Launch) (G : pT) (h0 : Nat) (a : Nat → Nat) (F : Nat → Int32) (R : Nat → Value) (Z : Int64) (B : Nat → Nat → Int32) (J : Nat → Nat → Int64) (T : Nat → Nat) (Pi : Nat → va_E → Prop) (w : va_W) (x : Int32) (dp : Nat) (at9 : Nat) (sz : Nat) (hsz : sz ≤ 5000) (hat : at9 ≤ sz) (hx9 : ¬ x = 67) (hdp : 1 ≤ dp ∧ dp ≤ 20) (hO : OKW G h0 a (upd (upd (upd F 2 (nI sz)) 9 (nI at9)) 10 (nI dp)) R Z B J T Pi w) (hl0 : l.stackTraces = false) : PBn l G pX0 yX8_closeBracket cX8_closeBracket 2 (some .int) ({ frames := 7, cells := 1, slots := 6, locals := 122 }) [.ref (a 3), .int x] w (fun (v : Option Value) (u : va_W × (Unit)) => v = some (.int (nI at9)) ∧ (at9 + 1 ≤ sz) ∧ (OKW G h0 a (upd (upd (upd F 2 (nI sz)) 9 (nI (at9 + 1))) 10 (nI (dp - 1))) R Z B J T Pi u.1)) (fun u => u.1) (fun (u : va_W × (Unit)) => 0) (fun (u : va_W × (Unit)) => 0) (fun (u : va_W × (Nat → Int32) × (Nat → Value) × (Nat → Nat → Int32)) => ThQ G h0 a (upd (upd (upd F 2 (nI sz)) 9 (nI at9)) 10 (nI dp)) R Z B J u) (fun u => u.1) := by
  intro sz
  refine vx_ofW (cc := cX8_closeBracket) (maxL := 2) (ret := (some .int)) (by decide) rfl ?_
  intro p e s m args below meth c s₁ B9 hml hnt hv
  obtain ⟨rfl, hsz, hP, hD0, hE, hX⟩ := hv
  have hx := B9.exec
  have hb := B9.bytes
  have hr := B9.returns
  have hts := atoms_spec (ws := Cond.code yX8_closeBracket cX8_closeBracket 2 (some .int) :: pw) B9.pre
  have hq : ∀ w ∈ pw, w.before _ s = true := fun w h => hts w (List.mem_cons_of_mem _ h)
  have hown : s.vm.findClass RX8 = some m.cls := findClass_of_methodNamed B9.named
  have hlocks := B9.notSynchronized
  subst hsz
  have hD := hD0.self (sz := s.heap.size)
  have hA : ∀ q : Nat, s.heap.size ≤ q → va_A w s.heap.size q := fun q h => Or.inr h
  generalize va_A w s.heap.size = A at hD hE hA ⊢
  have hS : va_S A s.heap s.heap [] := va_S.rf
  have hl := lv_entry ([.ref (a 3), .int x]) (n := 2) (Nat.le_of_ble_eq_true rfl)
  rw [lg_entry_eq]
  generalize (lg_sl ([.ref (a 3), .int x]) ++ List.replicate (2 - (lg_sl ([.ref (a 3), .int x])).length) Slot.unset).toArray = ls at hl ⊢
  have hl : lv_has ls 2 [(0, .ref (a 3)), (1, .int x)] := hl
  refine lv_aload_n hx hb dX8_closeBracket_0 rfl (lv_at hl 0 rfl) ?_
  refine c_get (v := .ref (a 1)) (C := RX8) (Tc := TX8) (N := 5) (ci := 5) hx hb hq pin_wsX80 hown hE hP hO 23 (sg_23 G h0 a _ _ _ _ _) rfl 0 (by decide) (hq _ pw_774) (fun _ h9 => h9) rfl dX8_closeBracket_1 ?_
  refine lv_aload_n hx hb dX8_closeBracket_4 rfl (lv_at hl 0 rfl) ?_
  refine c_get (v := .int (nI at9)) (C := RX8) (Tc := TX8) (N := 5) (ci := 5) hx hb hq pin_wsX80 hown hE hP hO 23 (sg_23 G h0 a _ _ _ _ _) rfl 2 (by decide) (hq _ pw_776) (fun _ h9 => h9) rfl dX8_closeBracket_5 ?_
  have hO : OKW G h0 a (upd (upd (upd (upd F 2 (nI sz)) 9 (nI at9)) 10 (nI dp)) 2 (nI sz)) R Z B J T Pi w := hO.to rfl
  obtain ⟨_, qr4, hqr5⟩ := hO.2.1 2 _ (sg_2 G h0 a _ _ _ _ _)
  refine pc_V0 (G := G) (As := [.int (nI at9)]) (rest := []) hx hb hml hown hq hE hX pX0_al hP hD hS hA hl.1 (K_kindX l G h0 a (upd (upd (upd F 2 (nI sz)) 9 (nI at9)) 10 (nI dp)) R Z B J T Pi w (nI at9) sz (by omega) hO) (gV pw_777 pw_193 pw_194 pw_59 pw_126) hV_X10_kindAt qr4 7 hqr5 rfl rfl rfl (Nat.le_of_ble_eq_true rfl) dX8_closeBracket_8 ⟨(by show 0 + 0 ≤ 1; omega), (by show 0 + 0 ≤ 6; omega)⟩ ⟨Nat.le_of_ble_eq_true rfl, Nat.le_of_ble_eq_true rfl⟩ (fun v3 u1 H locs hw2 hP hD hS => ?_)
  obtain ⟨w, r6⟩ := u1
  obtain ⟨hw2, h7, h8, hO⟩ := hw2
  have h7 : r6 = 67 ∨ ∃ t : Nat, (nI at9) = nI t ∧ t < sz := h7
  have h8 : r6 = tkN ((B 7)) sz 67 (nI at9) := h8
  obtain rfl : v3 = some (.int r6) := hw2
  have hO : OKW G h0 a (upd (upd (upd F 2 (nI sz)) 9 (nI at9)) 10 (nI dp)) R Z B J T Pi w := hO.to rfl
  refine W.widen (k := 0) (n := 0) (Nat.le_of_ble_eq_true rfl) (Nat.le_of_ble_eq_true rfl) ?_
  refine W.eq (g2 := F0 m 11 ls [.int r6]) rfl ?_
  refine lv_iload_n hx hb dX8_closeBracket_11 rfl (lv_at hl 1 rfl) ?_
  refine lv_icmp_eq (tgt := 27) hx hb dX8_closeBracket_12 (by decide) (fun c9 => ?_) (fun c9 => ?_)
  · have htk := tok_in h7 c9 hx9 (by omega) hsz
    refine lv_aload_n hx hb dX8_closeBracket_27 rfl (lv_at hl 0 rfl) ?_
    refine lv_dup hx hb dX8_closeBracket_28 rfl ?_
    refine c_get (v := .int (nI dp)) (C := RX8) (Tc := TX8) (N := 5) (ci := 5) hx hb hq pin_wsX80 hown hE hP hO 23 (sg_23 G h0 a _ _ _ _ _) rfl 3 (by decide) (hq _ pw_901) (fun _ h9 => h9) rfl dX8_closeBracket_29 ?_
    refine lv_iconst (v := 1) hx hb dX8_closeBracket_32 (by decide) ?_
    refine lv_isub hx hb dX8_closeBracket_33 ?_
    refine lv_topi (fun x10 e11 => ?_)
    obtain rfl : x10 = nI (dp - 1) := e11.trans (nI_subN (a := 1) (b := dp) (by omega))
    refine c_put (v := .int (nI (dp - 1))) (ty := .int) (C := RX8) (Tc := TX8) (N := 5) (ci := 5) hx hb hq pin_wsX80 tyX8 tyX8_ok nmX8 hown hE hP hD hS hO 23 (sg_23 G h0 a _ _ _ _ _) rfl 3 (by decide) (hq _ pw_901) (fun _ h9 => h9) rfl (by decide +kernel) rfl rfl (Nat.le_of_ble_eq_true rfl) (sf_10 G h0 a _ _ _ _ _ (nI (dp - 1))) dX8_closeBracket_34 (fun H locs w hP hD hS hO => ?_)
    refine lv_aload_n hx hb dX8_closeBracket_37 rfl (lv_at hl 0 rfl) ?_
    refine lv_dup hx hb dX8_closeBracket_38 rfl ?_
    refine c_get (v := .int (nI at9)) (C := RX8) (Tc := TX8) (N := 5) (ci := 5) hx hb hq pin_wsX80 hown hE hP hO 23 (sg_23 G h0 a _ _ _ _ _) rfl 2 (by decide) (hq _ pw_776) (fun _ h9 => h9) rfl dX8_closeBracket_39 ?_
    refine lv_iconst (v := 1) hx hb dX8_closeBracket_42 (by decide) ?_
    refine lv_iadd hx hb dX8_closeBracket_43 ?_
    refine lv_topi (fun x12 e13 => ?_)
    obtain rfl : x12 = nI (at9 + 1) := e13.trans (nI_add (at9) (1))
    refine c_put (v := .int (nI (at9 + 1))) (ty := .int) (C := RX8) (Tc := TX8) (N := 5) (ci := 5) hx hb hq pin_wsX80 tyX8 tyX8_ok nmX8 hown hE hP hD hS hO 23 (sg_23 G h0 a _ _ _ _ _) rfl 2 (by decide) (hq _ pw_776) (fun _ h9 => h9) rfl (by decide +kernel) rfl rfl (Nat.le_of_ble_eq_true rfl) (sf_9 G h0 a _ _ _ _ _ (nI (at9 + 1))) dX8_closeBracket_44 (fun H locs w hP hD hS hO => ?_)
    refine lv_aload_n hx hb dX8_closeBracket_47 rfl (lv_at hl 0 rfl) ?_
    refine c_get (v := .int (nI (at9 + 1))) (C := RX8) (Tc := TX8) (N := 5) (ci := 5) hx hb hq pin_wsX80 hown hE hP hO 23 (sg_23 G h0 a _ _ _ _ _) rfl 2 (by decide) (hq _ pw_776) (fun _ h9 => h9) rfl dX8_closeBracket_48 ?_
    refine lv_iconst (v := 1) hx hb dX8_closeBracket_51 (by decide) ?_
    refine lv_isub hx hb dX8_closeBracket_52 ?_
    refine lv_topi (fun x14 e15 => ?_)
    obtain rfl : x14 = nI ((at9 + 1) - 1) := e15.trans (nI_subN (a := 1) (b := (at9 + 1)) (by omega))
    refine W_size (fun hz1 hz2 => ?_)
    refine vx_ret ?_
    have hz16 : at9 + 1 ≤ sz := (by omega)
    have hO : OKW G h0 a (upd (upd (upd F 2 (nI sz)) 9 (nI (at9 + 1))) 10 (nI (dp - 1))) R Z B J T Pi w := hO.to rfl
    refine W.widen (k := 1) (n := 6) (by omega) (by omega) ?_
    have hzz1 : H.size ≤ s.heap.size + (0) := (by have z : 0 ≤ 0 := (by omega); omega)
    have hzz2 : hSl H ≤ hSl s.heap + (0) := (by have z : 0 ≤ 0 := (by omega); omega)
    exact W.iret (v := (nI ((at9 + 1) - 1))) hx hb hr (fun t99 ht99 hW99 => ⟨⟨_, (w, ()), rfl, ⟨(congrArg (fun z => some (Value.int z)) (congrArg nI (by omega))), hz16, hO⟩, by rw [ht99]; exact hP, hD, by rw [ht99]; exact hzz1, by rw [ht99]; exact hzz2⟩, hS.F ht99⟩) hS.2.2 dX8_closeBracket_53
  · refine lv_aload_n hx hb dX8_closeBracket_15 rfl (lv_at hl 0 rfl) ?_
    refine c_get (v := .ref (a 1)) (C := RX8) (Tc := TX8) (N := 5) (ci := 5) hx hb hq pin_wsX80 hown hE hP hO 23 (sg_23 G h0 a _ _ _ _ _) rfl 0 (by decide) (hq _ pw_774) (fun _ h9 => h9) rfl dX8_closeBracket_16 ?_
    refine lv_iconst (v := 1) hx hb dX8_closeBracket_19 (by decide) ?_
    refine lv_aload_n hx hb dX8_closeBracket_20 rfl (lv_at hl 0 rfl) ?_
    refine c_get (v := .int (nI at9)) (C := RX8) (Tc := TX8) (N := 5) (ci := 5) hx hb hq pin_wsX80 hown hE hP hO 23 (sg_23 G h0 a _ _ _ _ _) rfl 2 (by decide) (hq _ pw_776) (fun _ h9 => h9) rfl dX8_closeBracket_21 ?_
    have hO : OKW G h0 a (upd (upd (upd (upd F 2 (nI sz)) 9 (nI at9)) 10 (nI dp)) 2 (nI sz)) R Z B J T Pi w := hO.to rfl
    obtain ⟨_, qr20, hqr21⟩ := hO.2.1 2 _ (sg_2 G h0 a _ _ _ _ _)
    refine pn_V0 (G := G) (As := [.int 1, .int (nI at9)]) (rest := []) hx hb hml hown hq hE hX pX0_al hP hD hS hA hl.1 (K_fail l G h0 a (upd (upd (upd F 2 (nI sz)) 9 (nI at9)) 10 (nI dp)) R Z B J T Pi w 1 (nI at9) sz (by omega) hO hl0) (gV pw_779 pw_65 pw_66 pw_59 pw_43) hV_X10_fail qr20 7 hqr21 rfl rfl rfl (Nat.le_of_ble_eq_true rfl) dX8_closeBracket_24 ⟨(by show 0 + 1 ≤ 1; omega), (by show 0 + 6 ≤ 6; omega)⟩ ⟨Nat.le_of_ble_eq_true rfl, Nat.le_of_ble_eq_true rfl⟩ (fun v19 u17 H locs hw18 hP hD hS => hw18.elim) (fun ux ce9 q9 H9 locs9 hux hP9 hD9 hS9 hce hcv hcl => pb_out ux (ThQ.up (Thx.same Thx.rfl rfl) RhX.rfl hux) hnt hlocks hce hcv hcl hP9 hD9 hS9 (by show 0 + 1 ≤ 1; omega) (by show 0 + 6 ≤ 6; omega))
theorem dX8_beginsChain_0 : decode cX8_beginsChain 0 = .ok (.aload_n 0, 1) := by decide +kernel
theorem dX8_beginsChain_1 : decode cX8_beginsChain 1 = .ok (.getfield 7, 3) := by decide +kernel
theorem dX8_beginsChain_4 : decode cX8_beginsChain 4 = .ok (.aload_n 0, 1) := by decide +kernel
theorem dX8_beginsChain_5 : decode cX8_beginsChain 5 = .ok (.getfield 17, 3) := by decide +kernel
theorem dX8_beginsChain_8 : decode cX8_beginsChain 8 = .ok (.invokevirtual 57, 3) := by decide +kernel
theorem dX8_beginsChain_11 : decode cX8_beginsChain 11 = .ok (.lookupswitch 91 #[(8, 89), (17, 89), (18, 89), (20, 89), (22, 89), (23, 89), (25, 89), (34, 89), (65, 89), (66, 89)], 89) := by decide +kernel
theorem dX8_beginsChain_100 : decode cX8_beginsChain 100 = .ok (.iconst 1, 1) := by decide +kernel
theorem dX8_beginsChain_101 : decode cX8_beginsChain 101 = .ok (.ireturn, 1) := by decide +kernel
theorem dX8_beginsChain_102 : decode cX8_beginsChain 102 = .ok (.iconst 0, 1) := by decide +kernel
theorem dX8_beginsChain_103 : decode cX8_beginsChain 103 = .ok (.ireturn, 1) := by decide +kernel
set_option maxHeartbeats 2000000 in
set_option maxRecDepth 100000 in
theorem P_beginsChain (l : Launch) (G : pT) (h0 : Nat) (a : Nat → Nat) (F : Nat → Int32) (R : Nat → Value) (Z : Int64) (B : Nat → Nat → Int32) (J : Nat → Nat → Int64) (T : Nat → Nat) (Pi : Nat → va_E → Prop) (w : va_W) (at9 : Nat) (sz : Nat) (hsz : sz ≤ 5000) (hat : at9 ≤ sz) (hO : OKW G h0 a (upd (upd F 2 (nI sz)) 9 (nI at9)) R Z B J T Pi w) : PM l G pX0 yX8_beginsChain cX8_beginsChain 1 (some .boolean) ({ frames := 3, cells := 0, slots := 0, locals := 81 }) [.ref (a 3)] w (fun (v : Option Value) (u : va_W × (Nat)) => v = some (.int (nI u.2)) ∧ (u.2 ≤ 1) ∧ (OKW G h0 a (upd (upd F 2 (nI sz)) 9 (nI at9)) R Z B J T Pi u.1)) (fun u => u.1) := by
  intro sz
  refine Met.ofW (cc := cX8_beginsChain) (maxL := 1) (ret := (some .boolean)) (by decide) rfl ?_
  intro p e s m args below meth c s₁ B9 hml hv
  obtain ⟨rfl, hsz, hP, hD0, hE, hX⟩ := hv
  have hx := B9.exec
  have hb := B9.bytes
  have hr := B9.returns
  have hts := atoms_spec (ws := Cond.code yX8_beginsChain cX8_beginsChain 1 (some .boolean) :: pw) B9.pre
  have hq : ∀ w ∈ pw, w.before _ s = true := fun w h => hts w (List.mem_cons_of_mem _ h)
  have hown : s.vm.findClass RX8 = some m.cls := findClass_of_methodNamed B9.named
  have hlocks := B9.notSynchronized
  subst hsz
  have hD := hD0.self (sz := s.heap.size)
  have hA : ∀ q : Nat, s.heap.size ≤ q → va_A w s.heap.size q := fun q h => Or.inr h
  generalize va_A w s.heap.size = A at hD hE hA ⊢
  have hS : va_S A s.heap s.heap [] := va_S.rf
  have hl := lv_entry ([.ref (a 3)]) (n := 1) (Nat.le_of_ble_eq_true rfl)
  rw [lg_entry_eq]
  generalize (lg_sl ([.ref (a 3)]) ++ List.replicate (1 - (lg_sl ([.ref (a 3)])).length) Slot.unset).toArray = ls at hl ⊢
  have hl : lv_has ls 1 [(0, .ref (a 3))] := hl
  refine lv_aload_n hx hb dX8_beginsChain_0 rfl (lv_at hl 0 rfl) ?_
  refine c_get (v := .ref (a 1)) (C := RX8) (Tc := TX8) (N := 5) (ci := 5) hx hb hq pin_wsX80 hown hE hP hO 23 (sg_23 G h0 a _ _ _ _ _) rfl 0 (by decide) (hq _ pw_774) (fun _ h9 => h9) rfl dX8_beginsChain_1 ?_
  refine lv_aload_n hx hb dX8_beginsChain_4 rfl (lv_at hl 0 rfl) ?_
  refine c_get (v := .int (nI at9)) (C := RX8) (Tc := TX8) (N := 5) (ci := 5) hx hb hq pin_wsX80 hown hE hP hO 23 (sg_23 G h0 a _ _ _ _ _) rfl 2 (by decide) (hq _ pw_776) (fun _ h9 => h9) rfl dX8_beginsChain_5 ?_
  have hO : OKW G h0 a (upd (upd (upd F 2 (nI sz)) 9 (nI at9)) 2 (nI sz)) R Z B J T Pi w := hO.to rfl
  obtain ⟨_, qr4, hqr5⟩ := hO.2.1 2 _ (sg_2 G h0 a _ _ _ _ _)
  refine pc_V0 (G := G) (As := [.int (nI at9)]) (rest := []) hx hb hml hown hq hE hX pX0_al hP hD hS hA hl.1 (K_kindX l G h0 a (upd (upd F 2 (nI sz)) 9 (nI at9)) R Z B J T Pi w (nI at9) sz (by omega) hO) (gV pw_777 pw_193 pw_194 pw_59 pw_126) hV_X10_kindAt qr4 7 hqr5 rfl rfl rfl (Nat.le_of_ble_eq_true rfl) dX8_beginsChain_8 ⟨Nat.le_of_ble_eq_true rfl, Nat.le_of_ble_eq_true rfl⟩ ⟨Nat.le_of_ble_eq_true rfl, Nat.le_of_ble_eq_true rfl⟩ (fun v3 u1 H locs hw2 hP hD hS => ?_)
  obtain ⟨w, r6⟩ := u1
  obtain ⟨hw2, h7, h8, hO⟩ := hw2
  have h7 : r6 = 67 ∨ ∃ t : Nat, (nI at9) = nI t ∧ t < sz := h7
  have h8 : r6 = tkN ((B 7)) sz 67 (nI at9) := h8
  obtain rfl : v3 = some (.int r6) := hw2
  have hO : OKW G h0 a (upd (upd F 2 (nI sz)) 9 (nI at9)) R Z B J T Pi w := hO.to rfl
  refine W.widen (k := 0) (n := 0) (Nat.le_of_ble_eq_true rfl) (Nat.le_of_ble_eq_true rfl) ?_
  refine W.eq (g2 := F0 m 11 ls [.int r6]) rfl ?_
  by_cases h9 : r6 = 8
  · refine lv_lookup (tgt := 100) (off := 89) hx hb dX8_beginsChain_11 (by decide) (by rw [h9]; decide) (by decide) ?_
    refine lv_iconst (v := 1) hx hb dX8_beginsChain_100 (by decide) ?_
    have hz10 : 1 ≤ 1 := (by omega)
    have hO : OKW G h0 a (upd (upd F 2 (nI sz)) 9 (nI at9)) R Z B J T Pi w := hO.to rfl
    exact W.zret (v := 1) hx hb hr rfl (fun t99 ht99 hW99 => ⟨⟨_, (w, 1), rfl, ⟨rfl, hz10, hO⟩, by rw [ht99]; exact hP, hD⟩, hS.F ht99⟩) hS.2.2 dX8_beginsChain_101
  by_cases h11 : r6 = 17
  · refine lv_lookup (tgt := 100) (off := 89) hx hb dX8_beginsChain_11 (by decide) (by rw [h11]; decide) (by decide) ?_
    refine lv_iconst (v := 1) hx hb dX8_beginsChain_100 (by decide) ?_
    have hz12 : 1 ≤ 1 := (by omega)
    have hO : OKW G h0 a (upd (upd F 2 (nI sz)) 9 (nI at9)) R Z B J T Pi w := hO.to rfl
    exact W.zret (v := 1) hx hb hr rfl (fun t99 ht99 hW99 => ⟨⟨_, (w, 1), rfl, ⟨rfl, hz12, hO⟩, by rw [ht99]; exact hP, hD⟩, hS.F ht99⟩) hS.2.2 dX8_beginsChain_101
  by_cases h13 : r6 = 18
  · refine lv_lookup (tgt := 100) (off := 89) hx hb dX8_beginsChain_11 (by decide) (by rw [h13]; decide) (by decide) ?_
    refine lv_iconst (v := 1) hx hb dX8_beginsChain_100 (by decide) ?_
    have hz14 : 1 ≤ 1 := (by omega)
    have hO : OKW G h0 a (upd (upd F 2 (nI sz)) 9 (nI at9)) R Z B J T Pi w := hO.to rfl
    exact W.zret (v := 1) hx hb hr rfl (fun t99 ht99 hW99 => ⟨⟨_, (w, 1), rfl, ⟨rfl, hz14, hO⟩, by rw [ht99]; exact hP, hD⟩, hS.F ht99⟩) hS.2.2 dX8_beginsChain_101
  by_cases h15 : r6 = 20
  · refine lv_lookup (tgt := 100) (off := 89) hx hb dX8_beginsChain_11 (by decide) (by rw [h15]; decide) (by decide) ?_
    refine lv_iconst (v := 1) hx hb dX8_beginsChain_100 (by decide) ?_
    have hz16 : 1 ≤ 1 := (by omega)
    have hO : OKW G h0 a (upd (upd F 2 (nI sz)) 9 (nI at9)) R Z B J T Pi w := hO.to rfl
    exact W.zret (v := 1) hx hb hr rfl (fun t99 ht99 hW99 => ⟨⟨_, (w, 1), rfl, ⟨rfl, hz16, hO⟩, by rw [ht99]; exact hP, hD⟩, hS.F ht99⟩) hS.2.2 dX8_beginsChain_101
  by_cases h17 : r6 = 22
  · refine lv_lookup (tgt := 100) (off := 89) hx hb dX8_beginsChain_11 (by decide) (by rw [h17]; decide) (by decide) ?_
    refine lv_iconst (v := 1) hx hb dX8_beginsChain_100 (by decide) ?_
    have hz18 : 1 ≤ 1 := (by omega)
    have hO : OKW G h0 a (upd (upd F 2 (nI sz)) 9 (nI at9)) R Z B J T Pi w := hO.to rfl
    exact W.zret (v := 1) hx hb hr rfl (fun t99 ht99 hW99 => ⟨⟨_, (w, 1), rfl, ⟨rfl, hz18, hO⟩, by rw [ht99]; exact hP, hD⟩, hS.F ht99⟩) hS.2.2 dX8_beginsChain_101
  by_cases h19 : r6 = 23
  · refine lv_lookup (tgt := 100) (off := 89) hx hb dX8_beginsChain_11 (by decide) (by rw [h19]; decide) (by decide) ?_
    refine lv_iconst (v := 1) hx hb dX8_beginsChain_100 (by decide) ?_
    have hz20 : 1 ≤ 1 := (by omega)
    have hO : OKW G h0 a (upd (upd F 2 (nI sz)) 9 (nI at9)) R Z B J T Pi w := hO.to rfl
    exact W.zret (v := 1) hx hb hr rfl (fun t99 ht99 hW99 => ⟨⟨_, (w, 1), rfl, ⟨rfl, hz20, hO⟩, by rw [ht99]; exact hP, hD⟩, hS.F ht99⟩) hS.2.2 dX8_beginsChain_101
  by_cases h21 : r6 = 25
  · refine lv_lookup (tgt := 100) (off := 89) hx hb dX8_beginsChain_11 (by decide) (by rw [h21]; decide) (by decide) ?_
    refine lv_iconst (v := 1) hx hb dX8_beginsChain_100 (by decide) ?_
    have hz22 : 1 ≤ 1 := (by omega)
    have hO : OKW G h0 a (upd (upd F 2 (nI sz)) 9 (nI at9)) R Z B J T Pi w := hO.to rfl
    exact W.zret (v := 1) hx hb hr rfl (fun t99 ht99 hW99 => ⟨⟨_, (w, 1), rfl, ⟨rfl, hz22, hO⟩, by rw [ht99]; exact hP, hD⟩, hS.F ht99⟩) hS.2.2 dX8_beginsChain_101
  by_cases h23 : r6 = 34
  · refine lv_lookup (tgt := 100) (off := 89) hx hb dX8_beginsChain_11 (by decide) (by rw [h23]; decide) (by decide) ?_
    refine lv_iconst (v := 1) hx hb dX8_beginsChain_100 (by decide) ?_
    have hz24 : 1 ≤ 1 := (by omega)
    have hO : OKW G h0 a (upd (upd F 2 (nI sz)) 9 (nI at9)) R Z B J T Pi w := hO.to rfl
    exact W.zret (v := 1) hx hb hr rfl (fun t99 ht99 hW99 => ⟨⟨_, (w, 1), rfl, ⟨rfl, hz24, hO⟩, by rw [ht99]; exact hP, hD⟩, hS.F ht99⟩) hS.2.2 dX8_beginsChain_101
  by_cases h25 : r6 = 65
  · refine lv_lookup (tgt := 100) (off := 89) hx hb dX8_beginsChain_11 (by decide) (by rw [h25]; decide) (by decide) ?_
    refine lv_iconst (v := 1) hx hb dX8_beginsChain_100 (by decide) ?_
    have hz26 : 1 ≤ 1 := (by omega)
    have hO : OKW G h0 a (upd (upd F 2 (nI sz)) 9 (nI at9)) R Z B J T Pi w := hO.to rfl
    exact W.zret (v := 1) hx hb hr rfl (fun t99 ht99 hW99 => ⟨⟨_, (w, 1), rfl, ⟨rfl, hz26, hO⟩, by rw [ht99]; exact hP, hD⟩, hS.F ht99⟩) hS.2.2 dX8_beginsChain_101
  by_cases h27 : r6 = 66
  · refine lv_lookup (tgt := 100) (off := 89) hx hb dX8_beginsChain_11 (by decide) (by rw [h27]; decide) (by decide) ?_
    refine lv_iconst (v := 1) hx hb dX8_beginsChain_100 (by decide) ?_
    have hz28 : 1 ≤ 1 := (by omega)
    have hO : OKW G h0 a (upd (upd F 2 (nI sz)) 9 (nI at9)) R Z B J T Pi w := hO.to rfl
    exact W.zret (v := 1) hx hb hr rfl (fun t99 ht99 hW99 => ⟨⟨_, (w, 1), rfl, ⟨rfl, hz28, hO⟩, by rw [ht99]; exact hP, hD⟩, hS.F ht99⟩) hS.2.2 dX8_beginsChain_101
  refine lv_lookup (tgt := 102) (off := 91) hx hb dX8_beginsChain_11 (by decide) ((lv_osw h9 (by decide)).trans ((lv_osw h11 (by decide)).trans ((lv_osw h13 (by decide)).trans ((lv_osw h15 (by decide)).trans ((lv_osw h17 (by decide)).trans ((lv_osw h19 (by decide)).trans ((lv_osw h21 (by decide)).trans ((lv_osw h23 (by decide)).trans ((lv_osw h25 (by decide)).trans ((lv_osw h27 (by decide)).trans rfl)))))))))) (by decide) ?_
  refine lv_iconst (v := 0) hx hb dX8_beginsChain_102 (by decide) ?_
  have hz29 : 0 ≤ 1 := (by omega)
  have hO : OKW G h0 a (upd (upd F 2 (nI sz)) 9 (nI at9)) R Z B J T Pi w := hO.to rfl
  exact W.zret (v := 0) hx hb hr rfl (fun t99 ht99 hW99 => ⟨⟨_, (w, 0), rfl, ⟨rfl, hz29, hO⟩, by rw [ht99]; exact hP, hD⟩, hS.F ht99⟩) hS.2.2 dX8_beginsChain_103
theorem dX8_power_0 : decode cX8_power 0 = .ok (.iload_n 0, 1) := by decide +kernel
theorem dX8_power_1 : decode cX8_power 1 = .ok (.tableswitch 300 0 64 #[288, 300, 300, 300, 300, 300, 300, 300, 300, 300, 300, 300, 300, 300, 300, 288, 300, 300, 300, 300, 300, 300, 300, 300, 300, 300, 300, 300, 300, 300, 300, 300, 300, 300, 300, 300, 300, 300, 300, 300, 300, 300, 300, 300, 294, 294, 297, 297, 297, 283, 279, 281, 300, 300, 288, 288, 288, 288, 285, 285, 277, 275, 291, 291, 291], 275) := by decide +kernel
theorem dX8_power_289 : decode cX8_power 289 = .ok (.bipush 7, 2) := by decide +kernel
theorem dX8_power_291 : decode cX8_power 291 = .ok (.ireturn, 1) := by decide +kernel
theorem dX8_power_301 : decode cX8_power 301 = .ok (.iconst 0, 1) := by decide +kernel
theorem dX8_power_302 : decode cX8_power 302 = .ok (.ireturn, 1) := by decide +kernel
theorem dX8_power_295 : decode cX8_power 295 = .ok (.bipush 9, 2) := by decide +kernel
theorem dX8_power_297 : decode cX8_power 297 = .ok (.ireturn, 1) := by decide +kernel
theorem dX8_power_298 : decode cX8_power 298 = .ok (.bipush 10, 2) := by decide +kernel
theorem dX8_power_300 : decode cX8_power 300 = .ok (.ireturn, 1) := by decide +kernel
theorem dX8_power_284 : decode cX8_power 284 = .ok (.iconst 5, 1) := by decide +kernel
theorem dX8_power_285 : decode cX8_power 285 = .ok (.ireturn, 1) := by decide +kernel
theorem dX8_power_280 : decode cX8_power 280 = .ok (.iconst 3, 1) := by decide +kernel
theorem dX8_power_281 : decode cX8_power 281 = .ok (.ireturn, 1) := by decide +kernel
theorem dX8_power_282 : decode cX8_power 282 = .ok (.iconst 4, 1) := by decide +kernel
theorem dX8_power_283 : decode cX8_power 283 = .ok (.ireturn, 1) := by decide +kernel
theorem dX8_power_286 : decode cX8_power 286 = .ok (.bipush 6, 2) := by decide +kernel
theorem dX8_power_288 : decode cX8_power 288 = .ok (.ireturn, 1) := by decide +kernel
theorem dX8_power_278 : decode cX8_power 278 = .ok (.iconst 2, 1) := by decide +kernel
theorem dX8_power_279 : decode cX8_power 279 = .ok (.ireturn, 1) := by decide +kernel
theorem dX8_power_276 : decode cX8_power 276 = .ok (.iconst 1, 1) := by decide +kernel
theorem dX8_power_277 : decode cX8_power 277 = .ok (.ireturn, 1) := by decide +kernel
theorem dX8_power_292 : decode cX8_power 292 = .ok (.bipush 8, 2) := by decide +kernel
theorem dX8_power_294 : decode cX8_power 294 = .ok (.ireturn, 1) := by decide +kernel
theorem dX8_signNode_0 : decode cX8_signNode 0 = .ok (.iload_n 0, 1) := by decide +kernel
theorem dX8_signNode_1 : decode cX8_signNode 1 = .ok (.bipush 15, 2) := by decide +kernel
theorem dX8_signNode_3 : decode cX8_signNode 3 = .ok (.if_icmp .eq 7, 3) := by decide +kernel
theorem dX8_signNode_10 : decode cX8_signNode 10 = .ok (.bipush 19, 2) := by decide +kernel
theorem dX8_signNode_12 : decode cX8_signNode 12 = .ok (.ireturn, 1) := by decide +kernel
theorem dX8_signNode_6 : decode cX8_signNode 6 = .ok (.iload_n 0, 1) := by decide +kernel
theorem dX8_signNode_7 : decode cX8_signNode 7 = .ok (.ifCond .ne 6, 3) := by decide +kernel
theorem dX8_signNode_13 : decode cX8_signNode 13 = .ok (.iload_n 0, 1) := by decide +kernel
theorem dX8_signNode_14 : decode cX8_signNode 14 = .ok (.bipush 60, 2) := by decide +kernel
theorem dX8_signNode_16 : decode cX8_signNode 16 = .ok (.if_icmp .eq 9, 3) := by decide +kernel
theorem dX8_signNode_25 : decode cX8_signNode 25 = .ok (.bipush 18, 2) := by decide +kernel
theorem dX8_signNode_27 : decode cX8_signNode 27 = .ok (.goto 5, 3) := by decide +kernel
theorem dX8_signNode_32 : decode cX8_signNode 32 = .ok (.ireturn, 1) := by decide +kernel
theorem dX8_signNode_19 : decode cX8_signNode 19 = .ok (.iload_n 0, 1) := by decide +kernel
theorem dX8_signNode_20 : decode cX8_signNode 20 = .ok (.bipush 61, 2) := by decide +kernel
theorem dX8_signNode_22 : decode cX8_signNode 22 = .ok (.if_icmp .ne 8, 3) := by decide +kernel
theorem dX8_signNode_30 : decode cX8_signNode 30 = .ok (.bipush 17, 2) := by decide +kernel