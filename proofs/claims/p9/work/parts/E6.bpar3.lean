theorem sw_out38 {x : Int32} (h2 : ¬ x = 2) (h3 : ¬ x = 3) (h4 : ¬ x = 4) (h5 : ¬ x = 5) (h6 : ¬ x = 6) (h7 : ¬ x = 7) (h8 : ¬ x = 8) (h9 : ¬ x = 9) (h10 : ¬ x = 10) (h11 : ¬ x = 11) (h12 : ¬ x = 12) (h13 : ¬ x = 13) (h14 : ¬ x = 14) (h15 : ¬ x = 15) (h16 : ¬ x = 16) (h17 : ¬ x = 17) (h18 : ¬ x = 18) (h19 : ¬ x = 19) (h20 : ¬ x = 20) (h21 : ¬ x = 21) (h22 : ¬ x = 22) (h23 : ¬ x = 23) (h24 : ¬ x = 24) (h25 : ¬ x = 25) (h26 : ¬ x = 26) (h27 : ¬ x = 27) (h28 : ¬ x = 28) (h29 : ¬ x = 29) (h30 : ¬ x = 30) (h31 : ¬ x = 31) (h32 : ¬ x = 32) (h33 : ¬ x = 33) (h34 : ¬ x = 34) (h35 : ¬ x = 35) (h36 : ¬ x = 36) (h37 : ¬ x = 37) (h38 : ¬ x = 38) : x.toInt < 2 ∨ 38 < x.toInt := by
  have a2 : ¬ x.toInt = 2 := tJ_ne (n := 2) (by decide) h2
  have a3 : ¬ x.toInt = 3 := tJ_ne (n := 3) (by decide) h3
  have a4 : ¬ x.toInt = 4 := tJ_ne (n := 4) (by decide) h4
  have a5 : ¬ x.toInt = 5 := tJ_ne (n := 5) (by decide) h5
  have a6 : ¬ x.toInt = 6 := tJ_ne (n := 6) (by decide) h6
  have a7 : ¬ x.toInt = 7 := tJ_ne (n := 7) (by decide) h7
  have a8 : ¬ x.toInt = 8 := tJ_ne (n := 8) (by decide) h8
  have a9 : ¬ x.toInt = 9 := tJ_ne (n := 9) (by decide) h9
  have a10 : ¬ x.toInt = 10 := tJ_ne (n := 10) (by decide) h10
  have a11 : ¬ x.toInt = 11 := tJ_ne (n := 11) (by decide) h11
  have a12 : ¬ x.toInt = 12 := tJ_ne (n := 12) (by decide) h12
  have a13 : ¬ x.toInt = 13 := tJ_ne (n := 13) (by decide) h13
  have a14 : ¬ x.toInt = 14 := tJ_ne (n := 14) (by decide) h14
  have a15 : ¬ x.toInt = 15 := tJ_ne (n := 15) (by decide) h15
  have a16 : ¬ x.toInt = 16 := tJ_ne (n := 16) (by decide) h16
  have a17 : ¬ x.toInt = 17 := tJ_ne (n := 17) (by decide) h17
  have a18 : ¬ x.toInt = 18 := tJ_ne (n := 18) (by decide) h18
  have a19 : ¬ x.toInt = 19 := tJ_ne (n := 19) (by decide) h19
  have a20 : ¬ x.toInt = 20 := tJ_ne (n := 20) (by decide) h20
  have a21 : ¬ x.toInt = 21 := tJ_ne (n := 21) (by decide) h21
  have a22 : ¬ x.toInt = 22 := tJ_ne (n := 22) (by decide) h22
  have a23 : ¬ x.toInt = 23 := tJ_ne (n := 23) (by decide) h23
  have a24 : ¬ x.toInt = 24 := tJ_ne (n := 24) (by decide) h24
  have a25 : ¬ x.toInt = 25 := tJ_ne (n := 25) (by decide) h25
  have a26 : ¬ x.toInt = 26 := tJ_ne (n := 26) (by decide) h26
  have a27 : ¬ x.toInt = 27 := tJ_ne (n := 27) (by decide) h27
  have a28 : ¬ x.toInt = 28 := tJ_ne (n := 28) (by decide) h28
  have a29 : ¬ x.toInt = 29 := tJ_ne (n := 29) (by decide) h29
  have a30 : ¬ x.toInt = 30 := tJ_ne (n := 30) (by decide) h30
  have a31 : ¬ x.toInt = 31 := tJ_ne (n := 31) (by decide) h31
  have a32 : ¬ x.toInt = 32 := tJ_ne (n := 32) (by decide) h32
  have a33 : ¬ x.toInt = 33 := tJ_ne (n := 33) (by decide) h33
  have a34 : ¬ x.toInt = 34 := tJ_ne (n := 34) (by decide) h34
  have a35 : ¬ x.toInt = 35 := tJ_ne (n := 35) (by decide) h35
  have a36 : ¬ x.toInt = 36 := tJ_ne (n := 36) (by decide) h36
  have a37 : ¬ x.toInt = 37 := tJ_ne (n := 37) (by decide) h37
  have a38 : ¬ x.toInt = 38 := tJ_ne (n := 38) (by decide) h38
  omega
theorem NwR.num {K K1 : PK} {g g1 : Nat → Nat → Nat} {r O k L f : Nat} {v : Int32} (hf : ¬ 0 = f) (h : NwR K K1 g g1 r O k L) : NwR K (kI K1 f r v) g g1 r O k L := by
  obtain ⟨h1, h2, h3, h4⟩ := h
  refine ⟨fun p hp hl => ?_, ⟨fun p hp => ?_, h2.2⟩, h3, h4⟩
  · obtain ⟨a1, a2, a3, a4, a5⟩ := h1 p hp hl
    have e : ∀ y : Nat, (kI K1 f r v).2.1 0 y = K1.2.1 0 y := fun y => kI_of hf
    unfold NdO
    simp only [e]
    exact ⟨a1, a2, a3, a4, a5⟩
  · have hn : ¬ p = r := fun z => hp (by rw [z]; exact h3.1)
    obtain ⟨b1, b2, b3, b4, b5, b6⟩ := h2.1 p hp
    exact ⟨b1, fun f => (kI_ne hn).trans (b2 f), b3, b4, b5, b6⟩
theorem dX8_beginsLocal_0 : decode cX8_beginsLocal 0 = .ok (.aload_n 0, 1) := by decide +kernel
theorem dX8_beginsLocal_1 : decode cX8_beginsLocal 1 = .ok (.bipush 65, 2) := by decide +kernel
theorem dX8_beginsLocal_3 : decode cX8_beginsLocal 3 = .ok (.invokevirtual 36, 3) := by decide +kernel
theorem dX8_beginsLocal_6 : decode cX8_beginsLocal 6 = .ok (.ifCond .ne 26, 3) := by decide +kernel
theorem dX8_beginsLocal_32 : decode cX8_beginsLocal 32 = .ok (.aload_n 0, 1) := by decide +kernel
theorem dX8_beginsLocal_33 : decode cX8_beginsLocal 33 = .ok (.getfield 7, 3) := by decide +kernel
theorem dX8_beginsLocal_36 : decode cX8_beginsLocal 36 = .ok (.aload_n 0, 1) := by decide +kernel
theorem dX8_beginsLocal_37 : decode cX8_beginsLocal 37 = .ok (.getfield 17, 3) := by decide +kernel
theorem dX8_beginsLocal_40 : decode cX8_beginsLocal 40 = .ok (.iconst 1, 1) := by decide +kernel
theorem dX8_beginsLocal_41 : decode cX8_beginsLocal 41 = .ok (.iadd, 1) := by decide +kernel
theorem dX8_beginsLocal_42 : decode cX8_beginsLocal 42 = .ok (.invokevirtual 57, 3) := by decide +kernel
theorem dX8_beginsLocal_45 : decode cX8_beginsLocal 45 = .ok (.istore_n 1, 1) := by decide +kernel
theorem dX8_beginsLocal_46 : decode cX8_beginsLocal 46 = .ok (.iload_n 1, 1) := by decide +kernel
theorem dX8_beginsLocal_47 : decode cX8_beginsLocal 47 = .ok (.bipush 65, 2) := by decide +kernel
theorem dX8_beginsLocal_49 : decode cX8_beginsLocal 49 = .ok (.if_icmp .eq 27, 3) := by decide +kernel
theorem dX8_beginsLocal_76 : decode cX8_beginsLocal 76 = .ok (.iconst 1, 1) := by decide +kernel
theorem dX8_beginsLocal_77 : decode cX8_beginsLocal 77 = .ok (.goto 4, 3) := by decide +kernel
theorem dX8_beginsLocal_81 : decode cX8_beginsLocal 81 = .ok (.ireturn, 1) := by decide +kernel
theorem dX8_beginsLocal_52 : decode cX8_beginsLocal 52 = .ok (.iload_n 1, 1) := by decide +kernel
theorem dX8_beginsLocal_53 : decode cX8_beginsLocal 53 = .ok (.bipush 36, 2) := by decide +kernel
theorem dX8_beginsLocal_55 : decode cX8_beginsLocal 55 = .ok (.if_icmp .ne 25, 3) := by decide +kernel
theorem dX8_beginsLocal_80 : decode cX8_beginsLocal 80 = .ok (.iconst 0, 1) := by decide +kernel
theorem dX8_beginsLocal_58 : decode cX8_beginsLocal 58 = .ok (.aload_n 0, 1) := by decide +kernel
theorem dX8_beginsLocal_59 : decode cX8_beginsLocal 59 = .ok (.getfield 7, 3) := by decide +kernel
theorem dX8_beginsLocal_62 : decode cX8_beginsLocal 62 = .ok (.aload_n 0, 1) := by decide +kernel
theorem dX8_beginsLocal_63 : decode cX8_beginsLocal 63 = .ok (.getfield 17, 3) := by decide +kernel
theorem dX8_beginsLocal_66 : decode cX8_beginsLocal 66 = .ok (.iconst 2, 1) := by decide +kernel
theorem dX8_beginsLocal_67 : decode cX8_beginsLocal 67 = .ok (.iadd, 1) := by decide +kernel
theorem dX8_beginsLocal_68 : decode cX8_beginsLocal 68 = .ok (.invokevirtual 57, 3) := by decide +kernel
theorem dX8_beginsLocal_71 : decode cX8_beginsLocal 71 = .ok (.bipush 37, 2) := by decide +kernel
theorem dX8_beginsLocal_73 : decode cX8_beginsLocal 73 = .ok (.if_icmp .ne 7, 3) := by decide +kernel
theorem dX8_beginsLocal_9 : decode cX8_beginsLocal 9 = .ok (.aload_n 0, 1) := by decide +kernel
theorem dX8_beginsLocal_10 : decode cX8_beginsLocal 10 = .ok (.bipush 13, 2) := by decide +kernel
theorem dX8_beginsLocal_12 : decode cX8_beginsLocal 12 = .ok (.invokevirtual 36, 3) := by decide +kernel
theorem dX8_beginsLocal_15 : decode cX8_beginsLocal 15 = .ok (.ifCond .ne 11, 3) := by decide +kernel
theorem dX8_beginsLocal_26 : decode cX8_beginsLocal 26 = .ok (.iconst 1, 1) := by decide +kernel
theorem dX8_beginsLocal_27 : decode cX8_beginsLocal 27 = .ok (.goto 4, 3) := by decide +kernel
theorem dX8_beginsLocal_31 : decode cX8_beginsLocal 31 = .ok (.ireturn, 1) := by decide +kernel
theorem dX8_beginsLocal_18 : decode cX8_beginsLocal 18 = .ok (.aload_n 0, 1) := by decide +kernel
theorem dX8_beginsLocal_19 : decode cX8_beginsLocal 19 = .ok (.iconst 1, 1) := by decide +kernel
theorem dX8_beginsLocal_20 : decode cX8_beginsLocal 20 = .ok (.invokevirtual 36, 3) := by decide +kernel
theorem dX8_beginsLocal_23 : decode cX8_beginsLocal 23 = .ok (.ifCond .eq 7, 3) := by decide +kernel
theorem dX8_beginsLocal_30 : decode cX8_beginsLocal 30 = .ok (.iconst 0, 1) := by decide +kernel
theorem hV_X8_sees : yX8_sees.cls = RX8 ∧ yX8_sees.cls ≠ "java/lang/invoke/MethodHandle" ∧ yX8_sees.cls ≠ "java/lang/invoke/VarHandle" ∧ (parseMethodDescriptor yX8_sees.desc).map (fun d => d.parameters.length) = some 1 := by decide +kernel
set_option maxHeartbeats 6000000 in
set_option maxRecDepth 100000 in
theorem P_beginsLocal (l : Launch) (G : pT) (h0 : Nat) (a : Nat → Nat) (F : Nat → Int32) (R : Nat → Value) (Z : Int64) (B : Nat → Nat → Int32) (J : Nat → Nat → Int64) (T : Nat → Nat) (Pi : Nat → va_E → Prop) (w : va_W) (at9 : Nat) (sz : Nat) (hsz : sz ≤ 5000) (hat : at9 ≤ sz) (hO : OKW G h0 a (upd (upd F 2 (nI sz)) 9 (nI at9)) R Z B J T Pi w) : PM l G pX0 yX8_beginsLocal cX8_beginsLocal 2 (some .boolean) ({ frames := 4, cells := 0, slots := 0, locals := 102 }) [.ref (a 3)] w (fun (v : Option Value) (u : va_W × (Nat)) => v = some (.int (nI u.2)) ∧ (u.2 ≤ 1) ∧ (OKW G h0 a (upd (upd F 2 (nI sz)) 9 (nI at9)) R Z B J T Pi u.1)) (fun u => u.1) := by
  intro sz
  refine Met.ofW (cc := cX8_beginsLocal) (maxL := 2) (ret := (some .boolean)) (by decide) rfl ?_
  intro p e s m args below meth c s₁ B9 hml hv
  obtain ⟨rfl, hsz, hP, hD0, hE, hX⟩ := hv
  have hx := B9.exec
  have hb := B9.bytes
  have hr := B9.returns
  have hts := atoms_spec (ws := Cond.code yX8_beginsLocal cX8_beginsLocal 2 (some .boolean) :: pw) B9.pre
  have hq : ∀ w ∈ pw, w.before _ s = true := fun w h => hts w (List.mem_cons_of_mem _ h)
  have hown : s.vm.findClass RX8 = some m.cls := findClass_of_methodNamed B9.named
  have hlocks := B9.notSynchronized
  subst hsz
  have hD := hD0.self (sz := s.heap.size)
  have hA : ∀ q : Nat, s.heap.size ≤ q → va_A w s.heap.size q := fun q h => Or.inr h
  generalize va_A w s.heap.size = A at hD hE hA ⊢
  have hS : va_S A s.heap s.heap [] := va_S.rf
  have hl := lv_entry ([.ref (a 3)]) (n := 2) (Nat.le_of_ble_eq_true rfl)
  rw [lg_entry_eq]
  generalize (lg_sl ([.ref (a 3)]) ++ List.replicate (2 - (lg_sl ([.ref (a 3)])).length) Slot.unset).toArray = ls at hl ⊢
  have hl : lv_has ls 2 [(0, .ref (a 3))] := hl
  refine lv_aload_n hx hb dX8_beginsLocal_0 rfl (lv_at hl 0 rfl) ?_
  refine lv_bipush (v := 65) hx hb dX8_beginsLocal_1 (by decide) ?_
  have hO : OKW G h0 a (upd (upd (upd (upd F 2 (nI sz)) 9 (nI at9)) 2 (nI sz)) 9 (nI at9)) R Z B J T Pi w := hO.to rfl
  obtain ⟨_, qr4, hqr5⟩ := hO.2.1 23 _ (sg_23 G h0 a _ _ _ _ _)
  refine pc_V0 (G := G) (As := [.int 65]) (rest := []) hx hb hml hown hq hE hX pX0_al hP hD hS hA hl.1 (P_sees l G h0 a (upd (upd F 2 (nI sz)) 9 (nI at9)) R Z B J T Pi w 65 at9 sz (by omega) (by omega) hO) (gV pw_803 pw_804 pw_805 pw_796 pw_775) hV_X8_sees qr4 5 hqr5 rfl rfl rfl (Nat.le_of_ble_eq_true rfl) dX8_beginsLocal_3 ⟨Nat.le_of_ble_eq_true rfl, Nat.le_of_ble_eq_true rfl⟩ ⟨Nat.le_of_ble_eq_true rfl, Nat.le_of_ble_eq_true rfl⟩ (fun v3 u1 H locs hw2 hP hD hS => ?_)
  obtain ⟨w, r6⟩ := u1
  obtain ⟨hw2, h7, hO⟩ := hw2
  have h7 : r6 ≤ 1 := h7
  obtain rfl : v3 = some (.int (nI r6)) := hw2
  have hO : OKW G h0 a (upd (upd F 2 (nI sz)) 9 (nI at9)) R Z B J T Pi w := hO.to rfl
  refine W.widen (k := 0) (n := 0) (Nat.le_of_ble_eq_true rfl) (Nat.le_of_ble_eq_true rfl) ?_
  refine W.eq (g2 := F0 m 6 ls [.int (nI r6)]) rfl ?_
  refine lv_if_ne (tgt := 32) hx hb dX8_beginsLocal_6 (by decide) (fun c8 => ?_) (fun c8 => ?_)
  · have n9 : ¬ (r6 = 0) := fun h9 => c8 ((nI_eq (a := r6) (b := 0) (by omega) (by omega)).mpr h9)
    refine lv_aload_n hx hb dX8_beginsLocal_32 rfl (lv_at hl 0 rfl) ?_
    refine c_get (v := .ref (a 1)) (C := RX8) (Tc := TX8) (N := 5) (ci := 5) hx hb hq pin_wsX80 hown hE hP hO 23 (sg_23 G h0 a _ _ _ _ _) rfl 0 (by decide) (hq _ pw_774) (fun _ h9 => h9) rfl dX8_beginsLocal_33 ?_
    refine lv_aload_n hx hb dX8_beginsLocal_36 rfl (lv_at hl 0 rfl) ?_
    refine c_get (v := .int (nI at9)) (C := RX8) (Tc := TX8) (N := 5) (ci := 5) hx hb hq pin_wsX80 hown hE hP hO 23 (sg_23 G h0 a _ _ _ _ _) rfl 2 (by decide) (hq _ pw_776) (fun _ h9 => h9) rfl dX8_beginsLocal_37 ?_
    refine lv_iconst (v := 1) hx hb dX8_beginsLocal_40 (by decide) ?_
    refine lv_iadd hx hb dX8_beginsLocal_41 ?_
    refine lv_topi (fun x10 e11 => ?_)
    obtain rfl : x10 = nI (at9 + 1) := e11.trans (nI_add (at9) (1))
    have hO : OKW G h0 a (upd (upd (upd F 2 (nI sz)) 9 (nI at9)) 2 (nI sz)) R Z B J T Pi w := hO.to rfl
    obtain ⟨_, qr15, hqr16⟩ := hO.2.1 2 _ (sg_2 G h0 a _ _ _ _ _)
    refine pc_V0 (G := G) (As := [.int (nI (at9 + 1))]) (rest := []) hx hb hml hown hq hE hX pX0_al hP hD hS hA hl.1 (K_kindAt l G h0 a (upd (upd F 2 (nI sz)) 9 (nI at9)) R Z B J T Pi w (nI (at9 + 1)) sz (by omega) hO) (gV pw_777 pw_193 pw_194 pw_59 pw_126) hV_X10_kindAt qr15 7 hqr16 rfl rfl rfl (Nat.le_of_ble_eq_true rfl) dX8_beginsLocal_42 ⟨Nat.le_of_ble_eq_true rfl, Nat.le_of_ble_eq_true rfl⟩ ⟨Nat.le_of_ble_eq_true rfl, Nat.le_of_ble_eq_true rfl⟩ (fun v14 u12 H locs hw13 hP hD hS => ?_)
    obtain ⟨w, r17⟩ := u12
    obtain ⟨hw13, h18, hO⟩ := hw13
    have h18 : r17 = 67 ∨ ∃ t : Nat, (nI (at9 + 1)) = nI t ∧ t < sz := h18
    obtain rfl : v14 = some (.int r17) := hw13
    have hO : OKW G h0 a (upd (upd F 2 (nI sz)) 9 (nI at9)) R Z B J T Pi w := hO.to rfl
    refine W.widen (k := 0) (n := 0) (Nat.le_of_ble_eq_true rfl) (Nat.le_of_ble_eq_true rfl) ?_
    refine W.eq (g2 := F0 m 45 ls [.int r17]) rfl ?_
    refine lv_istore_n (lv' := [(1, .int r17), (0, .ref (a 3))]) hx hb dX8_beginsLocal_45 rfl hl (by decide) rfl (fun ls hl => ?_)
    refine lv_iload_n hx hb dX8_beginsLocal_46 rfl (lv_at hl 0 rfl) ?_
    refine lv_bipush (v := 65) hx hb dX8_beginsLocal_47 (by decide) ?_
    refine lv_icmp_eq (tgt := 76) hx hb dX8_beginsLocal_49 (by decide) (fun c19 => ?_) (fun c19 => ?_)
    · refine lv_iconst (v := 1) hx hb dX8_beginsLocal_76 (by decide) ?_
      refine lv_goto (tgt := 81) hx hb dX8_beginsLocal_77 (by decide) ?_
      have hz20 : 1 ≤ 1 := (by omega)
      have hO : OKW G h0 a (upd (upd F 2 (nI sz)) 9 (nI at9)) R Z B J T Pi w := hO.to rfl
      exact W.zret (v := 1) hx hb hr rfl (fun t99 ht99 hW99 => ⟨⟨_, (w, 1), rfl, ⟨rfl, hz20, hO⟩, by rw [ht99]; exact hP, hD⟩, hS.F ht99⟩) hS.2.2 dX8_beginsLocal_81
    · refine lv_iload_n hx hb dX8_beginsLocal_52 rfl (lv_at hl 0 rfl) ?_
      refine lv_bipush (v := 36) hx hb dX8_beginsLocal_53 (by decide) ?_
      refine lv_icmp_ne (tgt := 80) hx hb dX8_beginsLocal_55 (by decide) (fun c21 => ?_) (fun c21 => ?_)
      · refine lv_iconst (v := 0) hx hb dX8_beginsLocal_80 (by decide) ?_
        have hz22 : 0 ≤ 1 := (by omega)
        have hO : OKW G h0 a (upd (upd F 2 (nI sz)) 9 (nI at9)) R Z B J T Pi w := hO.to rfl
        exact W.zret (v := 0) hx hb hr rfl (fun t99 ht99 hW99 => ⟨⟨_, (w, 0), rfl, ⟨rfl, hz22, hO⟩, by rw [ht99]; exact hP, hD⟩, hS.F ht99⟩) hS.2.2 dX8_beginsLocal_81
      · refine lv_aload_n hx hb dX8_beginsLocal_58 rfl (lv_at hl 1 rfl) ?_
        refine c_get (v := .ref (a 1)) (C := RX8) (Tc := TX8) (N := 5) (ci := 5) hx hb hq pin_wsX80 hown hE hP hO 23 (sg_23 G h0 a _ _ _ _ _) rfl 0 (by decide) (hq _ pw_774) (fun _ h9 => h9) rfl dX8_beginsLocal_59 ?_
        refine lv_aload_n hx hb dX8_beginsLocal_62 rfl (lv_at hl 1 rfl) ?_
        refine c_get (v := .int (nI at9)) (C := RX8) (Tc := TX8) (N := 5) (ci := 5) hx hb hq pin_wsX80 hown hE hP hO 23 (sg_23 G h0 a _ _ _ _ _) rfl 2 (by decide) (hq _ pw_776) (fun _ h9 => h9) rfl dX8_beginsLocal_63 ?_
        refine lv_iconst (v := 2) hx hb dX8_beginsLocal_66 (by decide) ?_
        refine lv_iadd hx hb dX8_beginsLocal_67 ?_
        refine lv_topi (fun x23 e24 => ?_)
        obtain rfl : x23 = nI (at9 + 2) := e24.trans (nI_add (at9) (2))
        have hO : OKW G h0 a (upd (upd (upd F 2 (nI sz)) 9 (nI at9)) 2 (nI sz)) R Z B J T Pi w := hO.to rfl
        obtain ⟨_, qr28, hqr29⟩ := hO.2.1 2 _ (sg_2 G h0 a _ _ _ _ _)
        refine pc_V0 (G := G) (As := [.int (nI (at9 + 2))]) (rest := []) hx hb hml hown hq hE hX pX0_al hP hD hS hA hl.1 (K_kindAt l G h0 a (upd (upd F 2 (nI sz)) 9 (nI at9)) R Z B J T Pi w (nI (at9 + 2)) sz (by omega) hO) (gV pw_777 pw_193 pw_194 pw_59 pw_126) hV_X10_kindAt qr28 7 hqr29 rfl rfl rfl (Nat.le_of_ble_eq_true rfl) dX8_beginsLocal_68 ⟨Nat.le_of_ble_eq_true rfl, Nat.le_of_ble_eq_true rfl⟩ ⟨Nat.le_of_ble_eq_true rfl, Nat.le_of_ble_eq_true rfl⟩ (fun v27 u25 H locs hw26 hP hD hS => ?_)
        obtain ⟨w, r30⟩ := u25
        obtain ⟨hw26, h31, hO⟩ := hw26
        have h31 : r30 = 67 ∨ ∃ t : Nat, (nI (at9 + 2)) = nI t ∧ t < sz := h31
        obtain rfl : v27 = some (.int r30) := hw26
        have hO : OKW G h0 a (upd (upd F 2 (nI sz)) 9 (nI at9)) R Z B J T Pi w := hO.to rfl
        refine W.widen (k := 0) (n := 0) (Nat.le_of_ble_eq_true rfl) (Nat.le_of_ble_eq_true rfl) ?_
        refine W.eq (g2 := F0 m 71 ls [.int r30]) rfl ?_
        refine lv_bipush (v := 37) hx hb dX8_beginsLocal_71 (by decide) ?_
        refine lv_icmp_ne (tgt := 80) hx hb dX8_beginsLocal_73 (by decide) (fun c32 => ?_) (fun c32 => ?_)
        · refine lv_iconst (v := 0) hx hb dX8_beginsLocal_80 (by decide) ?_
          have hz33 : 0 ≤ 1 := (by omega)
          have hO : OKW G h0 a (upd (upd F 2 (nI sz)) 9 (nI at9)) R Z B J T Pi w := hO.to rfl
          exact W.zret (v := 0) hx hb hr rfl (fun t99 ht99 hW99 => ⟨⟨_, (w, 0), rfl, ⟨rfl, hz33, hO⟩, by rw [ht99]; exact hP, hD⟩, hS.F ht99⟩) hS.2.2 dX8_beginsLocal_81
        · refine lv_iconst (v := 1) hx hb dX8_beginsLocal_76 (by decide) ?_
          refine lv_goto (tgt := 81) hx hb dX8_beginsLocal_77 (by decide) ?_
          have hz34 : 1 ≤ 1 := (by omega)
          have hO : OKW G h0 a (upd (upd F 2 (nI sz)) 9 (nI at9)) R Z B J T Pi w := hO.to rfl
          exact W.zret (v := 1) hx hb hr rfl (fun t99 ht99 hW99 => ⟨⟨_, (w, 1), rfl, ⟨rfl, hz34, hO⟩, by rw [ht99]; exact hP, hD⟩, hS.F ht99⟩) hS.2.2 dX8_beginsLocal_81
  · have n35 : r6 = 0 := (nI_eq (a := r6) (b := 0) (by omega) (by omega)).mp c8
    refine lv_aload_n hx hb dX8_beginsLocal_9 rfl (lv_at hl 0 rfl) ?_
    refine lv_bipush (v := 13) hx hb dX8_beginsLocal_10 (by decide) ?_
    have hO : OKW G h0 a (upd (upd (upd (upd F 2 (nI sz)) 9 (nI at9)) 2 (nI sz)) 9 (nI at9)) R Z B J T Pi w := hO.to rfl
    obtain ⟨_, qr39, hqr40⟩ := hO.2.1 23 _ (sg_23 G h0 a _ _ _ _ _)
    refine pc_V0 (G := G) (As := [.int 13]) (rest := []) hx hb hml hown hq hE hX pX0_al hP hD hS hA hl.1 (P_sees l G h0 a (upd (upd F 2 (nI sz)) 9 (nI at9)) R Z B J T Pi w 13 at9 sz (by omega) (by omega) hO) (gV pw_803 pw_804 pw_805 pw_796 pw_775) hV_X8_sees qr39 5 hqr40 rfl rfl rfl (Nat.le_of_ble_eq_true rfl) dX8_beginsLocal_12 ⟨Nat.le_of_ble_eq_true rfl, Nat.le_of_ble_eq_true rfl⟩ ⟨Nat.le_of_ble_eq_true rfl, Nat.le_of_ble_eq_true rfl⟩ (fun v38 u36 H locs hw37 hP hD hS => ?_)
    obtain ⟨w, r41⟩ := u36
    obtain ⟨hw37, h42, hO⟩ := hw37
    have h42 : r41 ≤ 1 := h42
    obtain rfl : v38 = some (.int (nI r41)) := hw37
    have hO : OKW G h0 a (upd (upd F 2 (nI sz)) 9 (nI at9)) R Z B J T Pi w := hO.to rfl
    refine W.widen (k := 0) (n := 0) (Nat.le_of_ble_eq_true rfl) (Nat.le_of_ble_eq_true rfl) ?_
    refine W.eq (g2 := F0 m 15 ls [.int (nI r41)]) rfl ?_
    refine lv_if_ne (tgt := 26) hx hb dX8_beginsLocal_15 (by decide) (fun c43 => ?_) (fun c43 => ?_)
    · have n44 : ¬ (r41 = 0) := fun h9 => c43 ((nI_eq (a := r41) (b := 0) (by omega) (by omega)).mpr h9)
      refine lv_iconst (v := 1) hx hb dX8_beginsLocal_26 (by decide) ?_
      refine lv_goto (tgt := 31) hx hb dX8_beginsLocal_27 (by decide) ?_
      have hz45 : 1 ≤ 1 := (by omega)
      have hO : OKW G h0 a (upd (upd F 2 (nI sz)) 9 (nI at9)) R Z B J T Pi w := hO.to rfl
      exact W.zret (v := 1) hx hb hr rfl (fun t99 ht99 hW99 => ⟨⟨_, (w, 1), rfl, ⟨rfl, hz45, hO⟩, by rw [ht99]; exact hP, hD⟩, hS.F ht99⟩) hS.2.2 dX8_beginsLocal_31
    · have n46 : r41 = 0 := (nI_eq (a := r41) (b := 0) (by omega) (by omega)).mp c43
      refine lv_aload_n hx hb dX8_beginsLocal_18 rfl (lv_at hl 0 rfl) ?_
      refine lv_iconst (v := 1) hx hb dX8_beginsLocal_19 (by decide) ?_
      have hO : OKW G h0 a (upd (upd (upd (upd F 2 (nI sz)) 9 (nI at9)) 2 (nI sz)) 9 (nI at9)) R Z B J T Pi w := hO.to rfl
      obtain ⟨_, qr50, hqr51⟩ := hO.2.1 23 _ (sg_23 G h0 a _ _ _ _ _)
      refine pc_V0 (G := G) (As := [.int 1]) (rest := []) hx hb hml hown hq hE hX pX0_al hP hD hS hA hl.1 (P_sees l G h0 a (upd (upd F 2 (nI sz)) 9 (nI at9)) R Z B J T Pi w 1 at9 sz (by omega) (by omega) hO) (gV pw_803 pw_804 pw_805 pw_796 pw_775) hV_X8_sees qr50 5 hqr51 rfl rfl rfl (Nat.le_of_ble_eq_true rfl) dX8_beginsLocal_20 ⟨Nat.le_of_ble_eq_true rfl, Nat.le_of_ble_eq_true rfl⟩ ⟨Nat.le_of_ble_eq_true rfl, Nat.le_of_ble_eq_true rfl⟩ (fun v49 u47 H locs hw48 hP hD hS => ?_)
      obtain ⟨w, r52⟩ := u47
      obtain ⟨hw48, h53, hO⟩ := hw48
      have h53 : r52 ≤ 1 := h53
      obtain rfl : v49 = some (.int (nI r52)) := hw48
      have hO : OKW G h0 a (upd (upd F 2 (nI sz)) 9 (nI at9)) R Z B J T Pi w := hO.to rfl
      refine W.widen (k := 0) (n := 0) (Nat.le_of_ble_eq_true rfl) (Nat.le_of_ble_eq_true rfl) ?_
      refine W.eq (g2 := F0 m 23 ls [.int (nI r52)]) rfl ?_
      refine lv_if_eq (tgt := 30) hx hb dX8_beginsLocal_23 (by decide) (fun c54 => ?_) (fun c54 => ?_)
      · have n55 : r52 = 0 := (nI_eq (a := r52) (b := 0) (by omega) (by omega)).mp c54
        refine lv_iconst (v := 0) hx hb dX8_beginsLocal_30 (by decide) ?_
        have hz56 : 0 ≤ 1 := (by omega)
        have hO : OKW G h0 a (upd (upd F 2 (nI sz)) 9 (nI at9)) R Z B J T Pi w := hO.to rfl
        exact W.zret (v := 0) hx hb hr rfl (fun t99 ht99 hW99 => ⟨⟨_, (w, 0), rfl, ⟨rfl, hz56, hO⟩, by rw [ht99]; exact hP, hD⟩, hS.F ht99⟩) hS.2.2 dX8_beginsLocal_31
      · have n57 : ¬ (r52 = 0) := fun h9 => c54 ((nI_eq (a := r52) (b := 0) (by omega) (by omega)).mpr h9)
        refine lv_iconst (v := 1) hx hb dX8_beginsLocal_26 (by decide) ?_
        refine lv_goto (tgt := 31) hx hb dX8_beginsLocal_27 (by decide) ?_
        have hz58 : 1 ≤ 1 := (by omega)
        have hO : OKW G h0 a (upd (upd F 2 (nI sz)) 9 (nI at9)) R Z B J T Pi w := hO.to rfl
        exact W.zret (v := 1) hx hb hr rfl (fun t99 ht99 hW99 => ⟨⟨_, (w, 1), rfl, ⟨rfl, hz58, hO⟩, by rw [ht99]; exact hP, hD⟩, hS.F ht99⟩) hS.2.2 dX8_beginsLocal_31
theorem dX8_beginsStatement_0 : decode cX8_beginsStatement 0 = .ok (.aload_n 0, 1) := by decide +kernel
theorem dX8_beginsStatement_1 : decode cX8_beginsStatement 1 = .ok (.getfield 7, 3) := by decide +kernel
theorem dX8_beginsStatement_4 : decode cX8_beginsStatement 4 = .ok (.aload_n 0, 1) := by decide +kernel
theorem dX8_beginsStatement_5 : decode cX8_beginsStatement 5 = .ok (.getfield 17, 3) := by decide +kernel
theorem dX8_beginsStatement_8 : decode cX8_beginsStatement 8 = .ok (.invokevirtual 57, 3) := by decide +kernel
theorem dX8_beginsStatement_11 : decode cX8_beginsStatement 11 = .ok (.tableswitch 163 2 38 #[161, 163, 163, 161, 163, 163, 163, 163, 161, 161, 163, 163, 163, 163, 163, 163, 163, 161, 163, 161, 163, 163, 161, 163, 161, 163, 161, 163, 163, 163, 161, 163, 163, 163, 163, 163, 161], 161) := by decide +kernel
theorem dX8_beginsStatement_172 : decode cX8_beginsStatement 172 = .ok (.iconst 1, 1) := by decide +kernel
theorem dX8_beginsStatement_173 : decode cX8_beginsStatement 173 = .ok (.ireturn, 1) := by decide +kernel
theorem dX8_beginsStatement_174 : decode cX8_beginsStatement 174 = .ok (.aload_n 0, 1) := by decide +kernel
theorem dX8_beginsStatement_175 : decode cX8_beginsStatement 175 = .ok (.invokevirtual 193, 3) := by decide +kernel
theorem dX8_beginsStatement_178 : decode cX8_beginsStatement 178 = .ok (.ireturn, 1) := by decide +kernel
theorem hV_X8_beginsChain : yX8_beginsChain.cls = RX8 ∧ yX8_beginsChain.cls ≠ "java/lang/invoke/MethodHandle" ∧ yX8_beginsChain.cls ≠ "java/lang/invoke/VarHandle" ∧ (parseMethodDescriptor yX8_beginsChain.desc).map (fun d => d.parameters.length) = some 0 := by decide +kernel
set_option maxHeartbeats 6000000 in
set_option maxRecDepth 100000 in
theorem P_beginsStatement (l : Launch) (G : pT) (h0 : Nat) (a : Nat → Nat) (F : Nat → Int32) (R : Nat → Value) (Z : Int64) (B : Nat → Nat → Int32) (J : Nat → Nat → Int64) (T : Nat → Nat) (Pi : Nat → va_E → Prop) (w : va_W) (at9 : Nat) (sz : Nat) (hsz : sz ≤ 5000) (hat : at9 ≤ sz) (hO : OKW G h0 a (upd (upd F 2 (nI sz)) 9 (nI at9)) R Z B J T Pi w) : PM l G pX0 yX8_beginsStatement cX8_beginsStatement 1 (some .boolean) ({ frames := 4, cells := 0, slots := 0, locals := 101 }) [.ref (a 3)] w (fun (v : Option Value) (u : va_W × (Nat)) => v = some (.int (nI u.2)) ∧ (u.2 ≤ 1) ∧ (OKW G h0 a (upd (upd F 2 (nI sz)) 9 (nI at9)) R Z B J T Pi u.1)) (fun u => u.1) := by
  intro sz
  refine Met.ofW (cc := cX8_beginsStatement) (maxL := 1) (ret := (some .boolean)) (by decide) rfl ?_
  intro p e s m args below meth c s₁ B9 hml hv
  obtain ⟨rfl, hsz, hP, hD0, hE, hX⟩ := hv
  have hx := B9.exec
  have hb := B9.bytes
  have hr := B9.returns
  have hts := atoms_spec (ws := Cond.code yX8_beginsStatement cX8_beginsStatement 1 (some .boolean) :: pw) B9.pre
  have hq : ∀ w ∈ pw, w.before _ s = true := fun w h => hts w (List.mem_cons_of_mem _ h)
  have hown : s.vm.findClass RX8 = some m.cls := findClass_of_methodNamed B9.named
  have hlocks := B9.notSynchronized
  subst hsz
  have hD := hD0.self (sz := s.heap.size)
  have hA : ∀ q : Nat, s.heap.size ≤ q → va_A w s.heap.size q := fun q h => Or.inr h
  generalize va_A w s.heap.size = A at hD hE hA ⊢
  have hS : va_S A s.heap s.heap [] := va_S.rf
  have hl := lv_entry ([.ref (a 3)]) (n := 1) (Nat.le_of_ble_eq_true rfl)
  rw [lg_entry_eq]
  generalize (lg_sl ([.ref (a 3)]) ++ List.replicate (1 - (lg_sl ([.ref (a 3)])).length) Slot.unset).toArray = ls at hl ⊢
  have hl : lv_has ls 1 [(0, .ref (a 3))] := hl
  refine lv_aload_n hx hb dX8_beginsStatement_0 rfl (lv_at hl 0 rfl) ?_
  refine c_get (v := .ref (a 1)) (C := RX8) (Tc := TX8) (N := 5) (ci := 5) hx hb hq pin_wsX80 hown hE hP hO 23 (sg_23 G h0 a _ _ _ _ _) rfl 0 (by decide) (hq _ pw_774) (fun _ h9 => h9) rfl dX8_beginsStatement_1 ?_
  refine lv_aload_n hx hb dX8_beginsStatement_4 rfl (lv_at hl 0 rfl) ?_
  refine c_get (v := .int (nI at9)) (C := RX8) (Tc := TX8) (N := 5) (ci := 5) hx hb hq pin_wsX80 hown hE hP hO 23 (sg_23 G h0 a _ _ _ _ _) rfl 2 (by decide) (hq _ pw_776) (fun _ h9 => h9) rfl dX8_beginsStatement_5 ?_
  have hO : OKW G h0 a (upd (upd (upd F 2 (nI sz)) 9 (nI at9)) 2 (nI sz)) R Z B J T Pi w := hO.to rfl
  obtain ⟨_, qr4, hqr5⟩ := hO.2.1 2 _ (sg_2 G h0 a _ _ _ _ _)
  refine pc_V0 (G := G) (As := [.int (nI at9)]) (rest := []) hx hb hml hown hq hE hX pX0_al hP hD hS hA hl.1 (K_kindAt l G h0 a (upd (upd F 2 (nI sz)) 9 (nI at9)) R Z B J T Pi w (nI at9) sz (by omega) hO) (gV pw_777 pw_193 pw_194 pw_59 pw_126) hV_X10_kindAt qr4 7 hqr5 rfl rfl rfl (Nat.le_of_ble_eq_true rfl) dX8_beginsStatement_8 ⟨Nat.le_of_ble_eq_true rfl, Nat.le_of_ble_eq_true rfl⟩ ⟨Nat.le_of_ble_eq_true rfl, Nat.le_of_ble_eq_true rfl⟩ (fun v3 u1 H locs hw2 hP hD hS => ?_)
  obtain ⟨w, r6⟩ := u1
  obtain ⟨hw2, h7, hO⟩ := hw2
  have h7 : r6 = 67 ∨ ∃ t : Nat, (nI at9) = nI t ∧ t < sz := h7
  obtain rfl : v3 = some (.int r6) := hw2
  have hO : OKW G h0 a (upd (upd F 2 (nI sz)) 9 (nI at9)) R Z B J T Pi w := hO.to rfl
  refine W.widen (k := 0) (n := 0) (Nat.le_of_ble_eq_true rfl) (Nat.le_of_ble_eq_true rfl) ?_
  refine W.eq (g2 := F0 m 11 ls [.int r6]) rfl ?_
  by_cases h8 : r6 = 2
  · subst h8
    refine lv_tableIn (tgt := 172) (off := 161) hx hb dX8_beginsStatement_11 (by decide) (by decide) (by decide) (by decide) ?_
    refine lv_iconst (v := 1) hx hb dX8_beginsStatement_172 (by decide) ?_
    have hz9 : 1 ≤ 1 := (by omega)
    have hO : OKW G h0 a (upd (upd F 2 (nI sz)) 9 (nI at9)) R Z B J T Pi w := hO.to rfl
    exact W.zret (v := 1) hx hb hr rfl (fun t99 ht99 hW99 => ⟨⟨_, (w, 1), rfl, ⟨rfl, hz9, hO⟩, by rw [ht99]; exact hP, hD⟩, hS.F ht99⟩) hS.2.2 dX8_beginsStatement_173
  by_cases h10 : r6 = 3
  · subst h10
    refine lv_tableIn (tgt := 174) (off := 163) hx hb dX8_beginsStatement_11 (by decide) (by decide) (by decide) (by decide) ?_
    refine lv_aload_n hx hb dX8_beginsStatement_174 rfl (lv_at hl 0 rfl) ?_
    have hO : OKW G h0 a (upd (upd (upd (upd F 2 (nI sz)) 9 (nI at9)) 2 (nI sz)) 9 (nI at9)) R Z B J T Pi w := hO.to rfl
    obtain ⟨_, qr14, hqr15⟩ := hO.2.1 23 _ (sg_23 G h0 a _ _ _ _ _)
    refine pc_V0 (G := G) (As := []) (rest := []) hx hb hml hown hq hE hX pX0_al hP hD hS hA hl.1 (P_beginsChain l G h0 a (upd (upd F 2 (nI sz)) 9 (nI at9)) R Z B J T Pi w at9 sz (by omega) (by omega) hO) (gV pw_998 pw_999 pw_1000 pw_796 pw_996) hV_X8_beginsChain qr14 5 hqr15 rfl rfl rfl (Nat.le_of_ble_eq_true rfl) dX8_beginsStatement_175 ⟨Nat.le_of_ble_eq_true rfl, Nat.le_of_ble_eq_true rfl⟩ ⟨Nat.le_of_ble_eq_true rfl, Nat.le_of_ble_eq_true rfl⟩ (fun v13 u11 H locs hw12 hP hD hS => ?_)
    obtain ⟨w, r16⟩ := u11
    obtain ⟨hw12, h17, hO⟩ := hw12
    have h17 : r16 ≤ 1 := h17
    obtain rfl : v13 = some (.int (nI r16)) := hw12
    have hO : OKW G h0 a (upd (upd F 2 (nI sz)) 9 (nI at9)) R Z B J T Pi w := hO.to rfl
    refine W.widen (k := 0) (n := 0) (Nat.le_of_ble_eq_true rfl) (Nat.le_of_ble_eq_true rfl) ?_
    refine W.eq (g2 := F0 m 178 ls [.int (nI r16)]) rfl ?_
    have hz18 : r16 ≤ 1 := (by omega)
    have hO : OKW G h0 a (upd (upd F 2 (nI sz)) 9 (nI at9)) R Z B J T Pi w := hO.to rfl
    exact W.zret (v := (nI r16)) hx hb hr (nI_nar (by omega)) (fun t99 ht99 hW99 => ⟨⟨_, (w, r16), rfl, ⟨rfl, hz18, hO⟩, by rw [ht99]; exact hP, hD⟩, hS.F ht99⟩) hS.2.2 dX8_beginsStatement_178
  by_cases h19 : r6 = 4
  · subst h19
    refine lv_tableIn (tgt := 174) (off := 163) hx hb dX8_beginsStatement_11 (by decide) (by decide) (by decide) (by decide) ?_
    refine lv_aload_n hx hb dX8_beginsStatement_174 rfl (lv_at hl 0 rfl) ?_
    have hO : OKW G h0 a (upd (upd (upd (upd F 2 (nI sz)) 9 (nI at9)) 2 (nI sz)) 9 (nI at9)) R Z B J T Pi w := hO.to rfl
    obtain ⟨_, qr23, hqr24⟩ := hO.2.1 23 _ (sg_23 G h0 a _ _ _ _ _)
    refine pc_V0 (G := G) (As := []) (rest := []) hx hb hml hown hq hE hX pX0_al hP hD hS hA hl.1 (P_beginsChain l G h0 a (upd (upd F 2 (nI sz)) 9 (nI at9)) R Z B J T Pi w at9 sz (by omega) (by omega) hO) (gV pw_998 pw_999 pw_1000 pw_796 pw_996) hV_X8_beginsChain qr23 5 hqr24 rfl rfl rfl (Nat.le_of_ble_eq_true rfl) dX8_beginsStatement_175 ⟨Nat.le_of_ble_eq_true rfl, Nat.le_of_ble_eq_true rfl⟩ ⟨Nat.le_of_ble_eq_true rfl, Nat.le_of_ble_eq_true rfl⟩ (fun v22 u20 H locs hw21 hP hD hS => ?_)
    obtain ⟨w, r25⟩ := u20
    obtain ⟨hw21, h26, hO⟩ := hw21
    have h26 : r25 ≤ 1 := h26
    obtain rfl : v22 = some (.int (nI r25)) := hw21
    have hO : OKW G h0 a (upd (upd F 2 (nI sz)) 9 (nI at9)) R Z B J T Pi w := hO.to rfl
    refine W.widen (k := 0) (n := 0) (Nat.le_of_ble_eq_true rfl) (Nat.le_of_ble_eq_true rfl) ?_
    refine W.eq (g2 := F0 m 178 ls [.int (nI r25)]) rfl ?_
    have hz27 : r25 ≤ 1 := (by omega)
    have hO : OKW G h0 a (upd (upd F 2 (nI sz)) 9 (nI at9)) R Z B J T Pi w := hO.to rfl
    exact W.zret (v := (nI r25)) hx hb hr (nI_nar (by omega)) (fun t99 ht99 hW99 => ⟨⟨_, (w, r25), rfl, ⟨rfl, hz27, hO⟩, by rw [ht99]; exact hP, hD⟩, hS.F ht99⟩) hS.2.2 dX8_beginsStatement_178
  by_cases h28 : r6 = 5
  · subst h28
    refine lv_tableIn (tgt := 172) (off := 161) hx hb dX8_beginsStatement_11 (by decide) (by decide) (by decide) (by decide) ?_
    refine lv_iconst (v := 1) hx hb dX8_beginsStatement_172 (by decide) ?_
    have hz29 : 1 ≤ 1 := (by omega)
    have hO : OKW G h0 a (upd (upd F 2 (nI sz)) 9 (nI at9)) R Z B J T Pi w := hO.to rfl
    exact W.zret (v := 1) hx hb hr rfl (fun t99 ht99 hW99 => ⟨⟨_, (w, 1), rfl, ⟨rfl, hz29, hO⟩, by rw [ht99]; exact hP, hD⟩, hS.F ht99⟩) hS.2.2 dX8_beginsStatement_173
  by_cases h30 : r6 = 6
  · subst h30
    refine lv_tableIn (tgt := 174) (off := 163) hx hb dX8_beginsStatement_11 (by decide) (by decide) (by decide) (by decide) ?_
    refine lv_aload_n hx hb dX8_beginsStatement_174 rfl (lv_at hl 0 rfl) ?_
    have hO : OKW G h0 a (upd (upd (upd (upd F 2 (nI sz)) 9 (nI at9)) 2 (nI sz)) 9 (nI at9)) R Z B J T Pi w := hO.to rfl
    obtain ⟨_, qr34, hqr35⟩ := hO.2.1 23 _ (sg_23 G h0 a _ _ _ _ _)
    refine pc_V0 (G := G) (As := []) (rest := []) hx hb hml hown hq hE hX pX0_al hP hD hS hA hl.1 (P_beginsChain l G h0 a (upd (upd F 2 (nI sz)) 9 (nI at9)) R Z B J T Pi w at9 sz (by omega) (by omega) hO) (gV pw_998 pw_999 pw_1000 pw_796 pw_996) hV_X8_beginsChain qr34 5 hqr35 rfl rfl rfl (Nat.le_of_ble_eq_true rfl) dX8_beginsStatement_175 ⟨Nat.le_of_ble_eq_true rfl, Nat.le_of_ble_eq_true rfl⟩ ⟨Nat.le_of_ble_eq_true rfl, Nat.le_of_ble_eq_true rfl⟩ (fun v33 u31 H locs hw32 hP hD hS => ?_)
    obtain ⟨w, r36⟩ := u31
    obtain ⟨hw32, h37, hO⟩ := hw32
    have h37 : r36 ≤ 1 := h37
    obtain rfl : v33 = some (.int (nI r36)) := hw32
    have hO : OKW G h0 a (upd (upd F 2 (nI sz)) 9 (nI at9)) R Z B J T Pi w := hO.to rfl
    refine W.widen (k := 0) (n := 0) (Nat.le_of_ble_eq_true rfl) (Nat.le_of_ble_eq_true rfl) ?_
    refine W.eq (g2 := F0 m 178 ls [.int (nI r36)]) rfl ?_
    have hz38 : r36 ≤ 1 := (by omega)
    have hO : OKW G h0 a (upd (upd F 2 (nI sz)) 9 (nI at9)) R Z B J T Pi w := hO.to rfl
    exact W.zret (v := (nI r36)) hx hb hr (nI_nar (by omega)) (fun t99 ht99 hW99 => ⟨⟨_, (w, r36), rfl, ⟨rfl, hz38, hO⟩, by rw [ht99]; exact hP, hD⟩, hS.F ht99⟩) hS.2.2 dX8_beginsStatement_178
  by_cases h39 : r6 = 7
  · subst h39
    refine lv_tableIn (tgt := 174) (off := 163) hx hb dX8_beginsStatement_11 (by decide) (by decide) (by decide) (by decide) ?_
    refine lv_aload_n hx hb dX8_beginsStatement_174 rfl (lv_at hl 0 rfl) ?_
    have hO : OKW G h0 a (upd (upd (upd (upd F 2 (nI sz)) 9 (nI at9)) 2 (nI sz)) 9 (nI at9)) R Z B J T Pi w := hO.to rfl
    obtain ⟨_, qr43, hqr44⟩ := hO.2.1 23 _ (sg_23 G h0 a _ _ _ _ _)
    refine pc_V0 (G := G) (As := []) (rest := []) hx hb hml hown hq hE hX pX0_al hP hD hS hA hl.1 (P_beginsChain l G h0 a (upd (upd F 2 (nI sz)) 9 (nI at9)) R Z B J T Pi w at9 sz (by omega) (by omega) hO) (gV pw_998 pw_999 pw_1000 pw_796 pw_996) hV_X8_beginsChain qr43 5 hqr44 rfl rfl rfl (Nat.le_of_ble_eq_true rfl) dX8_beginsStatement_175 ⟨Nat.le_of_ble_eq_true rfl, Nat.le_of_ble_eq_true rfl⟩ ⟨Nat.le_of_ble_eq_true rfl, Nat.le_of_ble_eq_true rfl⟩ (fun v42 u40 H locs hw41 hP hD hS => ?_)
    obtain ⟨w, r45⟩ := u40
    obtain ⟨hw41, h46, hO⟩ := hw41
    have h46 : r45 ≤ 1 := h46
    obtain rfl : v42 = some (.int (nI r45)) := hw41
    have hO : OKW G h0 a (upd (upd F 2 (nI sz)) 9 (nI at9)) R Z B J T Pi w := hO.to rfl
    refine W.widen (k := 0) (n := 0) (Nat.le_of_ble_eq_true rfl) (Nat.le_of_ble_eq_true rfl) ?_
    refine W.eq (g2 := F0 m 178 ls [.int (nI r45)]) rfl ?_
    have hz47 : r45 ≤ 1 := (by omega)
    have hO : OKW G h0 a (upd (upd F 2 (nI sz)) 9 (nI at9)) R Z B J T Pi w := hO.to rfl
    exact W.zret (v := (nI r45)) hx hb hr (nI_nar (by omega)) (fun t99 ht99 hW99 => ⟨⟨_, (w, r45), rfl, ⟨rfl, hz47, hO⟩, by rw [ht99]; exact hP, hD⟩, hS.F ht99⟩) hS.2.2 dX8_beginsStatement_178
  by_cases h48 : r6 = 8
  · subst h48
    refine lv_tableIn (tgt := 174) (off := 163) hx hb dX8_beginsStatement_11 (by decide) (by decide) (by decide) (by decide) ?_
    refine lv_aload_n hx hb dX8_beginsStatement_174 rfl (lv_at hl 0 rfl) ?_
    have hO : OKW G h0 a (upd (upd (upd (upd F 2 (nI sz)) 9 (nI at9)) 2 (nI sz)) 9 (nI at9)) R Z B J T Pi w := hO.to rfl
    obtain ⟨_, qr52, hqr53⟩ := hO.2.1 23 _ (sg_23 G h0 a _ _ _ _ _)
    refine pc_V0 (G := G) (As := []) (rest := []) hx hb hml hown hq hE hX pX0_al hP hD hS hA hl.1 (P_beginsChain l G h0 a (upd (upd F 2 (nI sz)) 9 (nI at9)) R Z B J T Pi w at9 sz (by omega) (by omega) hO) (gV pw_998 pw_999 pw_1000 pw_796 pw_996) hV_X8_beginsChain qr52 5 hqr53 rfl rfl rfl (Nat.le_of_ble_eq_true rfl) dX8_beginsStatement_175 ⟨Nat.le_of_ble_eq_true rfl, Nat.le_of_ble_eq_true rfl⟩ ⟨Nat.le_of_ble_eq_true rfl, Nat.le_of_ble_eq_true rfl⟩ (fun v51 u49 H locs hw50 hP hD hS => ?_)
    obtain ⟨w, r54⟩ := u49
    obtain ⟨hw50, h55, hO⟩ := hw50
    have h55 : r54 ≤ 1 := h55
    obtain rfl : v51 = some (.int (nI r54)) := hw50
    have hO : OKW G h0 a (upd (upd F 2 (nI sz)) 9 (nI at9)) R Z B J T Pi w := hO.to rfl
    refine W.widen (k := 0) (n := 0) (Nat.le_of_ble_eq_true rfl) (Nat.le_of_ble_eq_true rfl) ?_
    refine W.eq (g2 := F0 m 178 ls [.int (nI r54)]) rfl ?_
    have hz56 : r54 ≤ 1 := (by omega)
    have hO : OKW G h0 a (upd (upd F 2 (nI sz)) 9 (nI at9)) R Z B J T Pi w := hO.to rfl
    exact W.zret (v := (nI r54)) hx hb hr (nI_nar (by omega)) (fun t99 ht99 hW99 => ⟨⟨_, (w, r54), rfl, ⟨rfl, hz56, hO⟩, by rw [ht99]; exact hP, hD⟩, hS.F ht99⟩) hS.2.2 dX8_beginsStatement_178
  by_cases h57 : r6 = 9
  · subst h57
    refine lv_tableIn (tgt := 174) (off := 163) hx hb dX8_beginsStatement_11 (by decide) (by decide) (by decide) (by decide) ?_
    refine lv_aload_n hx hb dX8_beginsStatement_174 rfl (lv_at hl 0 rfl) ?_
    have hO : OKW G h0 a (upd (upd (upd (upd F 2 (nI sz)) 9 (nI at9)) 2 (nI sz)) 9 (nI at9)) R Z B J T Pi w := hO.to rfl
    obtain ⟨_, qr61, hqr62⟩ := hO.2.1 23 _ (sg_23 G h0 a _ _ _ _ _)
    refine pc_V0 (G := G) (As := []) (rest := []) hx hb hml hown hq hE hX pX0_al hP hD hS hA hl.1 (P_beginsChain l G h0 a (upd (upd F 2 (nI sz)) 9 (nI at9)) R Z B J T Pi w at9 sz (by omega) (by omega) hO) (gV pw_998 pw_999 pw_1000 pw_796 pw_996) hV_X8_beginsChain qr61 5 hqr62 rfl rfl rfl (Nat.le_of_ble_eq_true rfl) dX8_beginsStatement_175 ⟨Nat.le_of_ble_eq_true rfl, Nat.le_of_ble_eq_true rfl⟩ ⟨Nat.le_of_ble_eq_true rfl, Nat.le_of_ble_eq_true rfl⟩ (fun v60 u58 H locs hw59 hP hD hS => ?_)
    obtain ⟨w, r63⟩ := u58
    obtain ⟨hw59, h64, hO⟩ := hw59
    have h64 : r63 ≤ 1 := h64
    obtain rfl : v60 = some (.int (nI r63)) := hw59
    have hO : OKW G h0 a (upd (upd F 2 (nI sz)) 9 (nI at9)) R Z B J T Pi w := hO.to rfl
    refine W.widen (k := 0) (n := 0) (Nat.le_of_ble_eq_true rfl) (Nat.le_of_ble_eq_true rfl) ?_
    refine W.eq (g2 := F0 m 178 ls [.int (nI r63)]) rfl ?_
    have hz65 : r63 ≤ 1 := (by omega)
    have hO : OKW G h0 a (upd (upd F 2 (nI sz)) 9 (nI at9)) R Z B J T Pi w := hO.to rfl
    exact W.zret (v := (nI r63)) hx hb hr (nI_nar (by omega)) (fun t99 ht99 hW99 => ⟨⟨_, (w, r63), rfl, ⟨rfl, hz65, hO⟩, by rw [ht99]; exact hP, hD⟩, hS.F ht99⟩) hS.2.2 dX8_beginsStatement_178
  by_cases h66 : r6 = 10
  · subst h66
    refine lv_tableIn (tgt := 172) (off := 161) hx hb dX8_beginsStatement_11 (by decide) (by decide) (by decide) (by decide) ?_
    refine lv_iconst (v := 1) hx hb dX8_beginsStatement_172 (by decide) ?_
    have hz67 : 1 ≤ 1 := (by omega)
    have hO : OKW G h0 a (upd (upd F 2 (nI sz)) 9 (nI at9)) R Z B J T Pi w := hO.to rfl
    exact W.zret (v := 1) hx hb hr rfl (fun t99 ht99 hW99 => ⟨⟨_, (w, 1), rfl, ⟨rfl, hz67, hO⟩, by rw [ht99]; exact hP, hD⟩, hS.F ht99⟩) hS.2.2 dX8_beginsStatement_173
  by_cases h68 : r6 = 11
  · subst h68
    refine lv_tableIn (tgt := 172) (off := 161) hx hb dX8_beginsStatement_11 (by decide) (by decide) (by decide) (by decide) ?_
    refine lv_iconst (v := 1) hx hb dX8_beginsStatement_172 (by decide) ?_
    have hz69 : 1 ≤ 1 := (by omega)
    have hO : OKW G h0 a (upd (upd F 2 (nI sz)) 9 (nI at9)) R Z B J T Pi w := hO.to rfl
    exact W.zret (v := 1) hx hb hr rfl (fun t99 ht99 hW99 => ⟨⟨_, (w, 1), rfl, ⟨rfl, hz69, hO⟩, by rw [ht99]; exact hP, hD⟩, hS.F ht99⟩) hS.2.2 dX8_beginsStatement_173
  by_cases h70 : r6 = 12
  · subst h70
    refine lv_tableIn (tgt := 174) (off := 163) hx hb dX8_beginsStatement_11 (by decide) (by decide) (by decide) (by decide) ?_
    refine lv_aload_n hx hb dX8_beginsStatement_174 rfl (lv_at hl 0 rfl) ?_
    have hO : OKW G h0 a (upd (upd (upd (upd F 2 (nI sz)) 9 (nI at9)) 2 (nI sz)) 9 (nI at9)) R Z B J T Pi w := hO.to rfl
    obtain ⟨_, qr74, hqr75⟩ := hO.2.1 23 _ (sg_23 G h0 a _ _ _ _ _)
    refine pc_V0 (G := G) (As := []) (rest := []) hx hb hml hown hq hE hX pX0_al hP hD hS hA hl.1 (P_beginsChain l G h0 a (upd (upd F 2 (nI sz)) 9 (nI at9)) R Z B J T Pi w at9 sz (by omega) (by omega) hO) (gV pw_998 pw_999 pw_1000 pw_796 pw_996) hV_X8_beginsChain qr74 5 hqr75 rfl rfl rfl (Nat.le_of_ble_eq_true rfl) dX8_beginsStatement_175 ⟨Nat.le_of_ble_eq_true rfl, Nat.le_of_ble_eq_true rfl⟩ ⟨Nat.le_of_ble_eq_true rfl, Nat.le_of_ble_eq_true rfl⟩ (fun v73 u71 H locs hw72 hP hD hS => ?_)
    obtain ⟨w, r76⟩ := u71
    obtain ⟨hw72, h77, hO⟩ := hw72
    have h77 : r76 ≤ 1 := h77
    obtain rfl : v73 = some (.int (nI r76)) := hw72
    have hO : OKW G h0 a (upd (upd F 2 (nI sz)) 9 (nI at9)) R Z B J T Pi w := hO.to rfl
    refine W.widen (k := 0) (n := 0) (Nat.le_of_ble_eq_true rfl) (Nat.le_of_ble_eq_true rfl) ?_
    refine W.eq (g2 := F0 m 178 ls [.int (nI r76)]) rfl ?_
    have hz78 : r76 ≤ 1 := (by omega)
    have hO : OKW G h0 a (upd (upd F 2 (nI sz)) 9 (nI at9)) R Z B J T Pi w := hO.to rfl
    exact W.zret (v := (nI r76)) hx hb hr (nI_nar (by omega)) (fun t99 ht99 hW99 => ⟨⟨_, (w, r76), rfl, ⟨rfl, hz78, hO⟩, by rw [ht99]; exact hP, hD⟩, hS.F ht99⟩) hS.2.2 dX8_beginsStatement_178
  by_cases h79 : r6 = 13
  · subst h79
    refine lv_tableIn (tgt := 174) (off := 163) hx hb dX8_beginsStatement_11 (by decide) (by decide) (by decide) (by decide) ?_
    refine lv_aload_n hx hb dX8_beginsStatement_174 rfl (lv_at hl 0 rfl) ?_
    have hO : OKW G h0 a (upd (upd (upd (upd F 2 (nI sz)) 9 (nI at9)) 2 (nI sz)) 9 (nI at9)) R Z B J T Pi w := hO.to rfl
    obtain ⟨_, qr83, hqr84⟩ := hO.2.1 23 _ (sg_23 G h0 a _ _ _ _ _)
    refine pc_V0 (G := G) (As := []) (rest := []) hx hb hml hown hq hE hX pX0_al hP hD hS hA hl.1 (P_beginsChain l G h0 a (upd (upd F 2 (nI sz)) 9 (nI at9)) R Z B J T Pi w at9 sz (by omega) (by omega) hO) (gV pw_998 pw_999 pw_1000 pw_796 pw_996) hV_X8_beginsChain qr83 5 hqr84 rfl rfl rfl (Nat.le_of_ble_eq_true rfl) dX8_beginsStatement_175 ⟨Nat.le_of_ble_eq_true rfl, Nat.le_of_ble_eq_true rfl⟩ ⟨Nat.le_of_ble_eq_true rfl, Nat.le_of_ble_eq_true rfl⟩ (fun v82 u80 H locs hw81 hP hD hS => ?_)
    obtain ⟨w, r85⟩ := u80
    obtain ⟨hw81, h86, hO⟩ := hw81
    have h86 : r85 ≤ 1 := h86
    obtain rfl : v82 = some (.int (nI r85)) := hw81
    have hO : OKW G h0 a (upd (upd F 2 (nI sz)) 9 (nI at9)) R Z B J T Pi w := hO.to rfl
    refine W.widen (k := 0) (n := 0) (Nat.le_of_ble_eq_true rfl) (Nat.le_of_ble_eq_true rfl) ?_
    refine W.eq (g2 := F0 m 178 ls [.int (nI r85)]) rfl ?_
    have hz87 : r85 ≤ 1 := (by omega)
    have hO : OKW G h0 a (upd (upd F 2 (nI sz)) 9 (nI at9)) R Z B J T Pi w := hO.to rfl
    exact W.zret (v := (nI r85)) hx hb hr (nI_nar (by omega)) (fun t99 ht99 hW99 => ⟨⟨_, (w, r85), rfl, ⟨rfl, hz87, hO⟩, by rw [ht99]; exact hP, hD⟩, hS.F ht99⟩) hS.2.2 dX8_beginsStatement_178
  by_cases h88 : r6 = 14
  · subst h88
    refine lv_tableIn (tgt := 174) (off := 163) hx hb dX8_beginsStatement_11 (by decide) (by decide) (by decide) (by decide) ?_
    refine lv_aload_n hx hb dX8_beginsStatement_174 rfl (lv_at hl 0 rfl) ?_
    have hO : OKW G h0 a (upd (upd (upd (upd F 2 (nI sz)) 9 (nI at9)) 2 (nI sz)) 9 (nI at9)) R Z B J T Pi w := hO.to rfl
    obtain ⟨_, qr92, hqr93⟩ := hO.2.1 23 _ (sg_23 G h0 a _ _ _ _ _)
    refine pc_V0 (G := G) (As := []) (rest := []) hx hb hml hown hq hE hX pX0_al hP hD hS hA hl.1 (P_beginsChain l G h0 a (upd (upd F 2 (nI sz)) 9 (nI at9)) R Z B J T Pi w at9 sz (by omega) (by omega) hO) (gV pw_998 pw_999 pw_1000 pw_796 pw_996) hV_X8_beginsChain qr92 5 hqr93 rfl rfl rfl (Nat.le_of_ble_eq_true rfl) dX8_beginsStatement_175 ⟨Nat.le_of_ble_eq_true rfl, Nat.le_of_ble_eq_true rfl⟩ ⟨Nat.le_of_ble_eq_true rfl, Nat.le_of_ble_eq_true rfl⟩ (fun v91 u89 H locs hw90 hP hD hS => ?_)
    obtain ⟨w, r94⟩ := u89
    obtain ⟨hw90, h95, hO⟩ := hw90
    have h95 : r94 ≤ 1 := h95
    obtain rfl : v91 = some (.int (nI r94)) := hw90
    have hO : OKW G h0 a (upd (upd F 2 (nI sz)) 9 (nI at9)) R Z B J T Pi w := hO.to rfl
    refine W.widen (k := 0) (n := 0) (Nat.le_of_ble_eq_true rfl) (Nat.le_of_ble_eq_true rfl) ?_
    refine W.eq (g2 := F0 m 178 ls [.int (nI r94)]) rfl ?_
    have hz96 : r94 ≤ 1 := (by omega)
    have hO : OKW G h0 a (upd (upd F 2 (nI sz)) 9 (nI at9)) R Z B J T Pi w := hO.to rfl
    exact W.zret (v := (nI r94)) hx hb hr (nI_nar (by omega)) (fun t99 ht99 hW99 => ⟨⟨_, (w, r94), rfl, ⟨rfl, hz96, hO⟩, by rw [ht99]; exact hP, hD⟩, hS.F ht99⟩) hS.2.2 dX8_beginsStatement_178
  by_cases h97 : r6 = 15
  · subst h97
    refine lv_tableIn (tgt := 174) (off := 163) hx hb dX8_beginsStatement_11 (by decide) (by decide) (by decide) (by decide) ?_
    refine lv_aload_n hx hb dX8_beginsStatement_174 rfl (lv_at hl 0 rfl) ?_
    have hO : OKW G h0 a (upd (upd (upd (upd F 2 (nI sz)) 9 (nI at9)) 2 (nI sz)) 9 (nI at9)) R Z B J T Pi w := hO.to rfl
    obtain ⟨_, qr101, hqr102⟩ := hO.2.1 23 _ (sg_23 G h0 a _ _ _ _ _)
    refine pc_V0 (G := G) (As := []) (rest := []) hx hb hml hown hq hE hX pX0_al hP hD hS hA hl.1 (P_beginsChain l G h0 a (upd (upd F 2 (nI sz)) 9 (nI at9)) R Z B J T Pi w at9 sz (by omega) (by omega) hO) (gV pw_998 pw_999 pw_1000 pw_796 pw_996) hV_X8_beginsChain qr101 5 hqr102 rfl rfl rfl (Nat.le_of_ble_eq_true rfl) dX8_beginsStatement_175 ⟨Nat.le_of_ble_eq_true rfl, Nat.le_of_ble_eq_true rfl⟩ ⟨Nat.le_of_ble_eq_true rfl, Nat.le_of_ble_eq_true rfl⟩ (fun v100 u98 H locs hw99 hP hD hS => ?_)
    obtain ⟨w, r103⟩ := u98
    obtain ⟨hw99, h104, hO⟩ := hw99
    have h104 : r103 ≤ 1 := h104
    obtain rfl : v100 = some (.int (nI r103)) := hw99
    have hO : OKW G h0 a (upd (upd F 2 (nI sz)) 9 (nI at9)) R Z B J T Pi w := hO.to rfl
    refine W.widen (k := 0) (n := 0) (Nat.le_of_ble_eq_true rfl) (Nat.le_of_ble_eq_true rfl) ?_
    refine W.eq (g2 := F0 m 178 ls [.int (nI r103)]) rfl ?_
    have hz105 : r103 ≤ 1 := (by omega)
    have hO : OKW G h0 a (upd (upd F 2 (nI sz)) 9 (nI at9)) R Z B J T Pi w := hO.to rfl
    exact W.zret (v := (nI r103)) hx hb hr (nI_nar (by omega)) (fun t99 ht99 hW99 => ⟨⟨_, (w, r103), rfl, ⟨rfl, hz105, hO⟩, by rw [ht99]; exact hP, hD⟩, hS.F ht99⟩) hS.2.2 dX8_beginsStatement_178
  by_cases h106 : r6 = 16
  · subst h106
    refine lv_tableIn (tgt := 174) (off := 163) hx hb dX8_beginsStatement_11 (by decide) (by decide) (by decide) (by decide) ?_
    refine lv_aload_n hx hb dX8_beginsStatement_174 rfl (lv_at hl 0 rfl) ?_
    have hO : OKW G h0 a (upd (upd (upd (upd F 2 (nI sz)) 9 (nI at9)) 2 (nI sz)) 9 (nI at9)) R Z B J T Pi w := hO.to rfl
    obtain ⟨_, qr110, hqr111⟩ := hO.2.1 23 _ (sg_23 G h0 a _ _ _ _ _)
    refine pc_V0 (G := G) (As := []) (rest := []) hx hb hml hown hq hE hX pX0_al hP hD hS hA hl.1 (P_beginsChain l G h0 a (upd (upd F 2 (nI sz)) 9 (nI at9)) R Z B J T Pi w at9 sz (by omega) (by omega) hO) (gV pw_998 pw_999 pw_1000 pw_796 pw_996) hV_X8_beginsChain qr110 5 hqr111 rfl rfl rfl (Nat.le_of_ble_eq_true rfl) dX8_beginsStatement_175 ⟨Nat.le_of_ble_eq_true rfl, Nat.le_of_ble_eq_true rfl⟩ ⟨Nat.le_of_ble_eq_true rfl, Nat.le_of_ble_eq_true rfl⟩ (fun v109 u107 H locs hw108 hP hD hS => ?_)
    obtain ⟨w, r112⟩ := u107
    obtain ⟨hw108, h113, hO⟩ := hw108
    have h113 : r112 ≤ 1 := h113
    obtain rfl : v109 = some (.int (nI r112)) := hw108
    have hO : OKW G h0 a (upd (upd F 2 (nI sz)) 9 (nI at9)) R Z B J T Pi w := hO.to rfl
    refine W.widen (k := 0) (n := 0) (Nat.le_of_ble_eq_true rfl) (Nat.le_of_ble_eq_true rfl) ?_
    refine W.eq (g2 := F0 m 178 ls [.int (nI r112)]) rfl ?_
    have hz114 : r112 ≤ 1 := (by omega)
    have hO : OKW G h0 a (upd (upd F 2 (nI sz)) 9 (nI at9)) R Z B J T Pi w := hO.to rfl
    exact W.zret (v := (nI r112)) hx hb hr (nI_nar (by omega)) (fun t99 ht99 hW99 => ⟨⟨_, (w, r112), rfl, ⟨rfl, hz114, hO⟩, by rw [ht99]; exact hP, hD⟩, hS.F ht99⟩) hS.2.2 dX8_beginsStatement_178
  by_cases h115 : r6 = 17
  · subst h115
    refine lv_tableIn (tgt := 174) (off := 163) hx hb dX8_beginsStatement_11 (by decide) (by decide) (by decide) (by decide) ?_
    refine lv_aload_n hx hb dX8_beginsStatement_174 rfl (lv_at hl 0 rfl) ?_
    have hO : OKW G h0 a (upd (upd (upd (upd F 2 (nI sz)) 9 (nI at9)) 2 (nI sz)) 9 (nI at9)) R Z B J T Pi w := hO.to rfl
    obtain ⟨_, qr119, hqr120⟩ := hO.2.1 23 _ (sg_23 G h0 a _ _ _ _ _)
    refine pc_V0 (G := G) (As := []) (rest := []) hx hb hml hown hq hE hX pX0_al hP hD hS hA hl.1 (P_beginsChain l G h0 a (upd (upd F 2 (nI sz)) 9 (nI at9)) R Z B J T Pi w at9 sz (by omega) (by omega) hO) (gV pw_998 pw_999 pw_1000 pw_796 pw_996) hV_X8_beginsChain qr119 5 hqr120 rfl rfl rfl (Nat.le_of_ble_eq_true rfl) dX8_beginsStatement_175 ⟨Nat.le_of_ble_eq_true rfl, Nat.le_of_ble_eq_true rfl⟩ ⟨Nat.le_of_ble_eq_true rfl, Nat.le_of_ble_eq_true rfl⟩ (fun v118 u116 H locs hw117 hP hD hS => ?_)
    obtain ⟨w, r121⟩ := u116
    obtain ⟨hw117, h122, hO⟩ := hw117
    have h122 : r121 ≤ 1 := h122
    obtain rfl : v118 = some (.int (nI r121)) := hw117
    have hO : OKW G h0 a (upd (upd F 2 (nI sz)) 9 (nI at9)) R Z B J T Pi w := hO.to rfl
    refine W.widen (k := 0) (n := 0) (Nat.le_of_ble_eq_true rfl) (Nat.le_of_ble_eq_true rfl) ?_
    refine W.eq (g2 := F0 m 178 ls [.int (nI r121)]) rfl ?_
    have hz123 : r121 ≤ 1 := (by omega)
    have hO : OKW G h0 a (upd (upd F 2 (nI sz)) 9 (nI at9)) R Z B J T Pi w := hO.to rfl
    exact W.zret (v := (nI r121)) hx hb hr (nI_nar (by omega)) (fun t99 ht99 hW99 => ⟨⟨_, (w, r121), rfl, ⟨rfl, hz123, hO⟩, by rw [ht99]; exact hP, hD⟩, hS.F ht99⟩) hS.2.2 dX8_beginsStatement_178
  by_cases h124 : r6 = 18
  · subst h124
    refine lv_tableIn (tgt := 174) (off := 163) hx hb dX8_beginsStatement_11 (by decide) (by decide) (by decide) (by decide) ?_
    refine lv_aload_n hx hb dX8_beginsStatement_174 rfl (lv_at hl 0 rfl) ?_
    have hO : OKW G h0 a (upd (upd (upd (upd F 2 (nI sz)) 9 (nI at9)) 2 (nI sz)) 9 (nI at9)) R Z B J T Pi w := hO.to rfl
    obtain ⟨_, qr128, hqr129⟩ := hO.2.1 23 _ (sg_23 G h0 a _ _ _ _ _)
    refine pc_V0 (G := G) (As := []) (rest := []) hx hb hml hown hq hE hX pX0_al hP hD hS hA hl.1 (P_beginsChain l G h0 a (upd (upd F 2 (nI sz)) 9 (nI at9)) R Z B J T Pi w at9 sz (by omega) (by omega) hO) (gV pw_998 pw_999 pw_1000 pw_796 pw_996) hV_X8_beginsChain qr128 5 hqr129 rfl rfl rfl (Nat.le_of_ble_eq_true rfl) dX8_beginsStatement_175 ⟨Nat.le_of_ble_eq_true rfl, Nat.le_of_ble_eq_true rfl⟩ ⟨Nat.le_of_ble_eq_true rfl, Nat.le_of_ble_eq_true rfl⟩ (fun v127 u125 H locs hw126 hP hD hS => ?_)
    obtain ⟨w, r130⟩ := u125
    obtain ⟨hw126, h131, hO⟩ := hw126
    have h131 : r130 ≤ 1 := h131
    obtain rfl : v127 = some (.int (nI r130)) := hw126
    have hO : OKW G h0 a (upd (upd F 2 (nI sz)) 9 (nI at9)) R Z B J T Pi w := hO.to rfl
    refine W.widen (k := 0) (n := 0) (Nat.le_of_ble_eq_true rfl) (Nat.le_of_ble_eq_true rfl) ?_
    refine W.eq (g2 := F0 m 178 ls [.int (nI r130)]) rfl ?_
    have hz132 : r130 ≤ 1 := (by omega)
    have hO : OKW G h0 a (upd (upd F 2 (nI sz)) 9 (nI at9)) R Z B J T Pi w := hO.to rfl
    exact W.zret (v := (nI r130)) hx hb hr (nI_nar (by omega)) (fun t99 ht99 hW99 => ⟨⟨_, (w, r130), rfl, ⟨rfl, hz132, hO⟩, by rw [ht99]; exact hP, hD⟩, hS.F ht99⟩) hS.2.2 dX8_beginsStatement_178
  by_cases h133 : r6 = 19
  · subst h133
    refine lv_tableIn (tgt := 172) (off := 161) hx hb dX8_beginsStatement_11 (by decide) (by decide) (by decide) (by decide) ?_
    refine lv_iconst (v := 1) hx hb dX8_beginsStatement_172 (by decide) ?_
    have hz134 : 1 ≤ 1 := (by omega)
    have hO : OKW G h0 a (upd (upd F 2 (nI sz)) 9 (nI at9)) R Z B J T Pi w := hO.to rfl
    exact W.zret (v := 1) hx hb hr rfl (fun t99 ht99 hW99 => ⟨⟨_, (w, 1), rfl, ⟨rfl, hz134, hO⟩, by rw [ht99]; exact hP, hD⟩, hS.F ht99⟩) hS.2.2 dX8_beginsStatement_173
  by_cases h135 : r6 = 20
  · subst h135
    refine lv_tableIn (tgt := 174) (off := 163) hx hb dX8_beginsStatement_11 (by decide) (by decide) (by decide) (by decide) ?_
    refine lv_aload_n hx hb dX8_beginsStatement_174 rfl (lv_at hl 0 rfl) ?_
    have hO : OKW G h0 a (upd (upd (upd (upd F 2 (nI sz)) 9 (nI at9)) 2 (nI sz)) 9 (nI at9)) R Z B J T Pi w := hO.to rfl
    obtain ⟨_, qr139, hqr140⟩ := hO.2.1 23 _ (sg_23 G h0 a _ _ _ _ _)
    refine pc_V0 (G := G) (As := []) (rest := []) hx hb hml hown hq hE hX pX0_al hP hD hS hA hl.1 (P_beginsChain l G h0 a (upd (upd F 2 (nI sz)) 9 (nI at9)) R Z B J T Pi w at9 sz (by omega) (by omega) hO) (gV pw_998 pw_999 pw_1000 pw_796 pw_996) hV_X8_beginsChain qr139 5 hqr140 rfl rfl rfl (Nat.le_of_ble_eq_true rfl) dX8_beginsStatement_175 ⟨Nat.le_of_ble_eq_true rfl, Nat.le_of_ble_eq_true rfl⟩ ⟨Nat.le_of_ble_eq_true rfl, Nat.le_of_ble_eq_true rfl⟩ (fun v138 u136 H locs hw137 hP hD hS => ?_)
    obtain ⟨w, r141⟩ := u136
    obtain ⟨hw137, h142, hO⟩ := hw137
    have h142 : r141 ≤ 1 := h142
    obtain rfl : v138 = some (.int (nI r141)) := hw137
    have hO : OKW G h0 a (upd (upd F 2 (nI sz)) 9 (nI at9)) R Z B J T Pi w := hO.to rfl
    refine W.widen (k := 0) (n := 0) (Nat.le_of_ble_eq_true rfl) (Nat.le_of_ble_eq_true rfl) ?_
    refine W.eq (g2 := F0 m 178 ls [.int (nI r141)]) rfl ?_
    have hz143 : r141 ≤ 1 := (by omega)
    have hO : OKW G h0 a (upd (upd F 2 (nI sz)) 9 (nI at9)) R Z B J T Pi w := hO.to rfl
    exact W.zret (v := (nI r141)) hx hb hr (nI_nar (by omega)) (fun t99 ht99 hW99 => ⟨⟨_, (w, r141), rfl, ⟨rfl, hz143, hO⟩, by rw [ht99]; exact hP, hD⟩, hS.F ht99⟩) hS.2.2 dX8_beginsStatement_178
  by_cases h144 : r6 = 21
  · subst h144
    refine lv_tableIn (tgt := 172) (off := 161) hx hb dX8_beginsStatement_11 (by decide) (by decide) (by decide) (by decide) ?_
    refine lv_iconst (v := 1) hx hb dX8_beginsStatement_172 (by decide) ?_
    have hz145 : 1 ≤ 1 := (by omega)
    have hO : OKW G h0 a (upd (upd F 2 (nI sz)) 9 (nI at9)) R Z B J T Pi w := hO.to rfl
    exact W.zret (v := 1) hx hb hr rfl (fun t99 ht99 hW99 => ⟨⟨_, (w, 1), rfl, ⟨rfl, hz145, hO⟩, by rw [ht99]; exact hP, hD⟩, hS.F ht99⟩) hS.2.2 dX8_beginsStatement_173
  by_cases h146 : r6 = 22
  · subst h146
    refine lv_tableIn (tgt := 174) (off := 163) hx hb dX8_beginsStatement_11 (by decide) (by decide) (by decide) (by decide) ?_
    refine lv_aload_n hx hb dX8_beginsStatement_174 rfl (lv_at hl 0 rfl) ?_
    have hO : OKW G h0 a (upd (upd (upd (upd F 2 (nI sz)) 9 (nI at9)) 2 (nI sz)) 9 (nI at9)) R Z B J T Pi w := hO.to rfl
    obtain ⟨_, qr150, hqr151⟩ := hO.2.1 23 _ (sg_23 G h0 a _ _ _ _ _)
    refine pc_V0 (G := G) (As := []) (rest := []) hx hb hml hown hq hE hX pX0_al hP hD hS hA hl.1 (P_beginsChain l G h0 a (upd (upd F 2 (nI sz)) 9 (nI at9)) R Z B J T Pi w at9 sz (by omega) (by omega) hO) (gV pw_998 pw_999 pw_1000 pw_796 pw_996) hV_X8_beginsChain qr150 5 hqr151 rfl rfl rfl (Nat.le_of_ble_eq_true rfl) dX8_beginsStatement_175 ⟨Nat.le_of_ble_eq_true rfl, Nat.le_of_ble_eq_true rfl⟩ ⟨Nat.le_of_ble_eq_true rfl, Nat.le_of_ble_eq_true rfl⟩ (fun v149 u147 H locs hw148 hP hD hS => ?_)
    obtain ⟨w, r152⟩ := u147
    obtain ⟨hw148, h153, hO⟩ := hw148
    have h153 : r152 ≤ 1 := h153
    obtain rfl : v149 = some (.int (nI r152)) := hw148
    have hO : OKW G h0 a (upd (upd F 2 (nI sz)) 9 (nI at9)) R Z B J T Pi w := hO.to rfl
    refine W.widen (k := 0) (n := 0) (Nat.le_of_ble_eq_true rfl) (Nat.le_of_ble_eq_true rfl) ?_
    refine W.eq (g2 := F0 m 178 ls [.int (nI r152)]) rfl ?_
    have hz154 : r152 ≤ 1 := (by omega)
    have hO : OKW G h0 a (upd (upd F 2 (nI sz)) 9 (nI at9)) R Z B J T Pi w := hO.to rfl
    exact W.zret (v := (nI r152)) hx hb hr (nI_nar (by omega)) (fun t99 ht99 hW99 => ⟨⟨_, (w, r152), rfl, ⟨rfl, hz154, hO⟩, by rw [ht99]; exact hP, hD⟩, hS.F ht99⟩) hS.2.2 dX8_beginsStatement_178
  by_cases h155 : r6 = 23
  · subst h155
    refine lv_tableIn (tgt := 174) (off := 163) hx hb dX8_beginsStatement_11 (by decide) (by decide) (by decide) (by decide) ?_
    refine lv_aload_n hx hb dX8_beginsStatement_174 rfl (lv_at hl 0 rfl) ?_
    have hO : OKW G h0 a (upd (upd (upd (upd F 2 (nI sz)) 9 (nI at9)) 2 (nI sz)) 9 (nI at9)) R Z B J T Pi w := hO.to rfl
    obtain ⟨_, qr159, hqr160⟩ := hO.2.1 23 _ (sg_23 G h0 a _ _ _ _ _)
    refine pc_V0 (G := G) (As := []) (rest := []) hx hb hml hown hq hE hX pX0_al hP hD hS hA hl.1 (P_beginsChain l G h0 a (upd (upd F 2 (nI sz)) 9 (nI at9)) R Z B J T Pi w at9 sz (by omega) (by omega) hO) (gV pw_998 pw_999 pw_1000 pw_796 pw_996) hV_X8_beginsChain qr159 5 hqr160 rfl rfl rfl (Nat.le_of_ble_eq_true rfl) dX8_beginsStatement_175 ⟨Nat.le_of_ble_eq_true rfl, Nat.le_of_ble_eq_true rfl⟩ ⟨Nat.le_of_ble_eq_true rfl, Nat.le_of_ble_eq_true rfl⟩ (fun v158 u156 H locs hw157 hP hD hS => ?_)
    obtain ⟨w, r161⟩ := u156
    obtain ⟨hw157, h162, hO⟩ := hw157
    have h162 : r161 ≤ 1 := h162
    obtain rfl : v158 = some (.int (nI r161)) := hw157
    have hO : OKW G h0 a (upd (upd F 2 (nI sz)) 9 (nI at9)) R Z B J T Pi w := hO.to rfl
    refine W.widen (k := 0) (n := 0) (Nat.le_of_ble_eq_true rfl) (Nat.le_of_ble_eq_true rfl) ?_
    refine W.eq (g2 := F0 m 178 ls [.int (nI r161)]) rfl ?_
    have hz163 : r161 ≤ 1 := (by omega)
    have hO : OKW G h0 a (upd (upd F 2 (nI sz)) 9 (nI at9)) R Z B J T Pi w := hO.to rfl
    exact W.zret (v := (nI r161)) hx hb hr (nI_nar (by omega)) (fun t99 ht99 hW99 => ⟨⟨_, (w, r161), rfl, ⟨rfl, hz163, hO⟩, by rw [ht99]; exact hP, hD⟩, hS.F ht99⟩) hS.2.2 dX8_beginsStatement_178
  by_cases h164 : r6 = 24
  · subst h164
    refine lv_tableIn (tgt := 172) (off := 161) hx hb dX8_beginsStatement_11 (by decide) (by decide) (by decide) (by decide) ?_
    refine lv_iconst (v := 1) hx hb dX8_beginsStatement_172 (by decide) ?_
    have hz165 : 1 ≤ 1 := (by omega)
    have hO : OKW G h0 a (upd (upd F 2 (nI sz)) 9 (nI at9)) R Z B J T Pi w := hO.to rfl
    exact W.zret (v := 1) hx hb hr rfl (fun t99 ht99 hW99 => ⟨⟨_, (w, 1), rfl, ⟨rfl, hz165, hO⟩, by rw [ht99]; exact hP, hD⟩, hS.F ht99⟩) hS.2.2 dX8_beginsStatement_173
  by_cases h166 : r6 = 25
  · subst h166
    refine lv_tableIn (tgt := 174) (off := 163) hx hb dX8_beginsStatement_11 (by decide) (by decide) (by decide) (by decide) ?_
    refine lv_aload_n hx hb dX8_beginsStatement_174 rfl (lv_at hl 0 rfl) ?_
    have hO : OKW G h0 a (upd (upd (upd (upd F 2 (nI sz)) 9 (nI at9)) 2 (nI sz)) 9 (nI at9)) R Z B J T Pi w := hO.to rfl
    obtain ⟨_, qr170, hqr171⟩ := hO.2.1 23 _ (sg_23 G h0 a _ _ _ _ _)
    refine pc_V0 (G := G) (As := []) (rest := []) hx hb hml hown hq hE hX pX0_al hP hD hS hA hl.1 (P_beginsChain l G h0 a (upd (upd F 2 (nI sz)) 9 (nI at9)) R Z B J T Pi w at9 sz (by omega) (by omega) hO) (gV pw_998 pw_999 pw_1000 pw_796 pw_996) hV_X8_beginsChain qr170 5 hqr171 rfl rfl rfl (Nat.le_of_ble_eq_true rfl) dX8_beginsStatement_175 ⟨Nat.le_of_ble_eq_true rfl, Nat.le_of_ble_eq_true rfl⟩ ⟨Nat.le_of_ble_eq_true rfl, Nat.le_of_ble_eq_true rfl⟩ (fun v169 u167 H locs hw168 hP hD hS => ?_)
    obtain ⟨w, r172⟩ := u167
    obtain ⟨hw168, h173, hO⟩ := hw168
    have h173 : r172 ≤ 1 := h173
    obtain rfl : v169 = some (.int (nI r172)) := hw168
    have hO : OKW G h0 a (upd (upd F 2 (nI sz)) 9 (nI at9)) R Z B J T Pi w := hO.to rfl
    refine W.widen (k := 0) (n := 0) (Nat.le_of_ble_eq_true rfl) (Nat.le_of_ble_eq_true rfl) ?_
    refine W.eq (g2 := F0 m 178 ls [.int (nI r172)]) rfl ?_
    have hz174 : r172 ≤ 1 := (by omega)
    have hO : OKW G h0 a (upd (upd F 2 (nI sz)) 9 (nI at9)) R Z B J T Pi w := hO.to rfl
    exact W.zret (v := (nI r172)) hx hb hr (nI_nar (by omega)) (fun t99 ht99 hW99 => ⟨⟨_, (w, r172), rfl, ⟨rfl, hz174, hO⟩, by rw [ht99]; exact hP, hD⟩, hS.F ht99⟩) hS.2.2 dX8_beginsStatement_178
  by_cases h175 : r6 = 26
  · subst h175
    refine lv_tableIn (tgt := 172) (off := 161) hx hb dX8_beginsStatement_11 (by decide) (by decide) (by decide) (by decide) ?_
    refine lv_iconst (v := 1) hx hb dX8_beginsStatement_172 (by decide) ?_
    have hz176 : 1 ≤ 1 := (by omega)
    have hO : OKW G h0 a (upd (upd F 2 (nI sz)) 9 (nI at9)) R Z B J T Pi w := hO.to rfl
    exact W.zret (v := 1) hx hb hr rfl (fun t99 ht99 hW99 => ⟨⟨_, (w, 1), rfl, ⟨rfl, hz176, hO⟩, by rw [ht99]; exact hP, hD⟩, hS.F ht99⟩) hS.2.2 dX8_beginsStatement_173
  by_cases h177 : r6 = 27
  · subst h177
    refine lv_tableIn (tgt := 174) (off := 163) hx hb dX8_beginsStatement_11 (by decide) (by decide) (by decide) (by decide) ?_
    refine lv_aload_n hx hb dX8_beginsStatement_174 rfl (lv_at hl 0 rfl) ?_
    have hO : OKW G h0 a (upd (upd (upd (upd F 2 (nI sz)) 9 (nI at9)) 2 (nI sz)) 9 (nI at9)) R Z B J T Pi w := hO.to rfl
    obtain ⟨_, qr181, hqr182⟩ := hO.2.1 23 _ (sg_23 G h0 a _ _ _ _ _)
    refine pc_V0 (G := G) (As := []) (rest := []) hx hb hml hown hq hE hX pX0_al hP hD hS hA hl.1 (P_beginsChain l G h0 a (upd (upd F 2 (nI sz)) 9 (nI at9)) R Z B J T Pi w at9 sz (by omega) (by omega) hO) (gV pw_998 pw_999 pw_1000 pw_796 pw_996) hV_X8_beginsChain qr181 5 hqr182 rfl rfl rfl (Nat.le_of_ble_eq_true rfl) dX8_beginsStatement_175 ⟨Nat.le_of_ble_eq_true rfl, Nat.le_of_ble_eq_true rfl⟩ ⟨Nat.le_of_ble_eq_true rfl, Nat.le_of_ble_eq_true rfl⟩ (fun v180 u178 H locs hw179 hP hD hS => ?_)
    obtain ⟨w, r183⟩ := u178
    obtain ⟨hw179, h184, hO⟩ := hw179
    have h184 : r183 ≤ 1 := h184
    obtain rfl : v180 = some (.int (nI r183)) := hw179
    have hO : OKW G h0 a (upd (upd F 2 (nI sz)) 9 (nI at9)) R Z B J T Pi w := hO.to rfl
    refine W.widen (k := 0) (n := 0) (Nat.le_of_ble_eq_true rfl) (Nat.le_of_ble_eq_true rfl) ?_
    refine W.eq (g2 := F0 m 178 ls [.int (nI r183)]) rfl ?_
    have hz185 : r183 ≤ 1 := (by omega)
    have hO : OKW G h0 a (upd (upd F 2 (nI sz)) 9 (nI at9)) R Z B J T Pi w := hO.to rfl
    exact W.zret (v := (nI r183)) hx hb hr (nI_nar (by omega)) (fun t99 ht99 hW99 => ⟨⟨_, (w, r183), rfl, ⟨rfl, hz185, hO⟩, by rw [ht99]; exact hP, hD⟩, hS.F ht99⟩) hS.2.2 dX8_beginsStatement_178
  by_cases h186 : r6 = 28
  · subst h186
    refine lv_tableIn (tgt := 172) (off := 161) hx hb dX8_beginsStatement_11 (by decide) (by decide) (by decide) (by decide) ?_
    refine lv_iconst (v := 1) hx hb dX8_beginsStatement_172 (by decide) ?_
    have hz187 : 1 ≤ 1 := (by omega)
    have hO : OKW G h0 a (upd (upd F 2 (nI sz)) 9 (nI at9)) R Z B J T Pi w := hO.to rfl
    exact W.zret (v := 1) hx hb hr rfl (fun t99 ht99 hW99 => ⟨⟨_, (w, 1), rfl, ⟨rfl, hz187, hO⟩, by rw [ht99]; exact hP, hD⟩, hS.F ht99⟩) hS.2.2 dX8_beginsStatement_173
  by_cases h188 : r6 = 29
  · subst h188
    refine lv_tableIn (tgt := 174) (off := 163) hx hb dX8_beginsStatement_11 (by decide) (by decide) (by decide) (by decide) ?_
    refine lv_aload_n hx hb dX8_beginsStatement_174 rfl (lv_at hl 0 rfl) ?_
    have hO : OKW G h0 a (upd (upd (upd (upd F 2 (nI sz)) 9 (nI at9)) 2 (nI sz)) 9 (nI at9)) R Z B J T Pi w := hO.to rfl
    obtain ⟨_, qr192, hqr193⟩ := hO.2.1 23 _ (sg_23 G h0 a _ _ _ _ _)
    refine pc_V0 (G := G) (As := []) (rest := []) hx hb hml hown hq hE hX pX0_al hP hD hS hA hl.1 (P_beginsChain l G h0 a (upd (upd F 2 (nI sz)) 9 (nI at9)) R Z B J T Pi w at9 sz (by omega) (by omega) hO) (gV pw_998 pw_999 pw_1000 pw_796 pw_996) hV_X8_beginsChain qr192 5 hqr193 rfl rfl rfl (Nat.le_of_ble_eq_true rfl) dX8_beginsStatement_175 ⟨Nat.le_of_ble_eq_true rfl, Nat.le_of_ble_eq_true rfl⟩ ⟨Nat.le_of_ble_eq_true rfl, Nat.le_of_ble_eq_true rfl⟩ (fun v191 u189 H locs hw190 hP hD hS => ?_)
    obtain ⟨w, r194⟩ := u189
    obtain ⟨hw190, h195, hO⟩ := hw190
    have h195 : r194 ≤ 1 := h195
    obtain rfl : v191 = some (.int (nI r194)) := hw190
    have hO : OKW G h0 a (upd (upd F 2 (nI sz)) 9 (nI at9)) R Z B J T Pi w := hO.to rfl
    refine W.widen (k := 0) (n := 0) (Nat.le_of_ble_eq_true rfl) (Nat.le_of_ble_eq_true rfl) ?_
    refine W.eq (g2 := F0 m 178 ls [.int (nI r194)]) rfl ?_
    have hz196 : r194 ≤ 1 := (by omega)
    have hO : OKW G h0 a (upd (upd F 2 (nI sz)) 9 (nI at9)) R Z B J T Pi w := hO.to rfl
    exact W.zret (v := (nI r194)) hx hb hr (nI_nar (by omega)) (fun t99 ht99 hW99 => ⟨⟨_, (w, r194), rfl, ⟨rfl, hz196, hO⟩, by rw [ht99]; exact hP, hD⟩, hS.F ht99⟩) hS.2.2 dX8_beginsStatement_178
  by_cases h197 : r6 = 30
  · subst h197
    refine lv_tableIn (tgt := 174) (off := 163) hx hb dX8_beginsStatement_11 (by decide) (by decide) (by decide) (by decide) ?_
    refine lv_aload_n hx hb dX8_beginsStatement_174 rfl (lv_at hl 0 rfl) ?_
    have hO : OKW G h0 a (upd (upd (upd (upd F 2 (nI sz)) 9 (nI at9)) 2 (nI sz)) 9 (nI at9)) R Z B J T Pi w := hO.to rfl
    obtain ⟨_, qr201, hqr202⟩ := hO.2.1 23 _ (sg_23 G h0 a _ _ _ _ _)
    refine pc_V0 (G := G) (As := []) (rest := []) hx hb hml hown hq hE hX pX0_al hP hD hS hA hl.1 (P_beginsChain l G h0 a (upd (upd F 2 (nI sz)) 9 (nI at9)) R Z B J T Pi w at9 sz (by omega) (by omega) hO) (gV pw_998 pw_999 pw_1000 pw_796 pw_996) hV_X8_beginsChain qr201 5 hqr202 rfl rfl rfl (Nat.le_of_ble_eq_true rfl) dX8_beginsStatement_175 ⟨Nat.le_of_ble_eq_true rfl, Nat.le_of_ble_eq_true rfl⟩ ⟨Nat.le_of_ble_eq_true rfl, Nat.le_of_ble_eq_true rfl⟩ (fun v200 u198 H locs hw199 hP hD hS => ?_)
    obtain ⟨w, r203⟩ := u198
    obtain ⟨hw199, h204, hO⟩ := hw199
    have h204 : r203 ≤ 1 := h204
    obtain rfl : v200 = some (.int (nI r203)) := hw199
    have hO : OKW G h0 a (upd (upd F 2 (nI sz)) 9 (nI at9)) R Z B J T Pi w := hO.to rfl
    refine W.widen (k := 0) (n := 0) (Nat.le_of_ble_eq_true rfl) (Nat.le_of_ble_eq_true rfl) ?_
    refine W.eq (g2 := F0 m 178 ls [.int (nI r203)]) rfl ?_
    have hz205 : r203 ≤ 1 := (by omega)
    have hO : OKW G h0 a (upd (upd F 2 (nI sz)) 9 (nI at9)) R Z B J T Pi w := hO.to rfl
    exact W.zret (v := (nI r203)) hx hb hr (nI_nar (by omega)) (fun t99 ht99 hW99 => ⟨⟨_, (w, r203), rfl, ⟨rfl, hz205, hO⟩, by rw [ht99]; exact hP, hD⟩, hS.F ht99⟩) hS.2.2 dX8_beginsStatement_178
  by_cases h206 : r6 = 31
  · subst h206
    refine lv_tableIn (tgt := 174) (off := 163) hx hb dX8_beginsStatement_11 (by decide) (by decide) (by decide) (by decide) ?_
    refine lv_aload_n hx hb dX8_beginsStatement_174 rfl (lv_at hl 0 rfl) ?_
    have hO : OKW G h0 a (upd (upd (upd (upd F 2 (nI sz)) 9 (nI at9)) 2 (nI sz)) 9 (nI at9)) R Z B J T Pi w := hO.to rfl
    obtain ⟨_, qr210, hqr211⟩ := hO.2.1 23 _ (sg_23 G h0 a _ _ _ _ _)
    refine pc_V0 (G := G) (As := []) (rest := []) hx hb hml hown hq hE hX pX0_al hP hD hS hA hl.1 (P_beginsChain l G h0 a (upd (upd F 2 (nI sz)) 9 (nI at9)) R Z B J T Pi w at9 sz (by omega) (by omega) hO) (gV pw_998 pw_999 pw_1000 pw_796 pw_996) hV_X8_beginsChain qr210 5 hqr211 rfl rfl rfl (Nat.le_of_ble_eq_true rfl) dX8_beginsStatement_175 ⟨Nat.le_of_ble_eq_true rfl, Nat.le_of_ble_eq_true rfl⟩ ⟨Nat.le_of_ble_eq_true rfl, Nat.le_of_ble_eq_true rfl⟩ (fun v209 u207 H locs hw208 hP hD hS => ?_)
    obtain ⟨w, r212⟩ := u207
    obtain ⟨hw208, h213, hO⟩ := hw208
    have h213 : r212 ≤ 1 := h213
    obtain rfl : v209 = some (.int (nI r212)) := hw208
    have hO : OKW G h0 a (upd (upd F 2 (nI sz)) 9 (nI at9)) R Z B J T Pi w := hO.to rfl
    refine W.widen (k := 0) (n := 0) (Nat.le_of_ble_eq_true rfl) (Nat.le_of_ble_eq_true rfl) ?_
    refine W.eq (g2 := F0 m 178 ls [.int (nI r212)]) rfl ?_
    have hz214 : r212 ≤ 1 := (by omega)
    have hO : OKW G h0 a (upd (upd F 2 (nI sz)) 9 (nI at9)) R Z B J T Pi w := hO.to rfl
    exact W.zret (v := (nI r212)) hx hb hr (nI_nar (by omega)) (fun t99 ht99 hW99 => ⟨⟨_, (w, r212), rfl, ⟨rfl, hz214, hO⟩, by rw [ht99]; exact hP, hD⟩, hS.F ht99⟩) hS.2.2 dX8_beginsStatement_178
  by_cases h215 : r6 = 32
  · subst h215
    refine lv_tableIn (tgt := 172) (off := 161) hx hb dX8_beginsStatement_11 (by decide) (by decide) (by decide) (by decide) ?_
    refine lv_iconst (v := 1) hx hb dX8_beginsStatement_172 (by decide) ?_
    have hz216 : 1 ≤ 1 := (by omega)
    have hO : OKW G h0 a (upd (upd F 2 (nI sz)) 9 (nI at9)) R Z B J T Pi w := hO.to rfl
    exact W.zret (v := 1) hx hb hr rfl (fun t99 ht99 hW99 => ⟨⟨_, (w, 1), rfl, ⟨rfl, hz216, hO⟩, by rw [ht99]; exact hP, hD⟩, hS.F ht99⟩) hS.2.2 dX8_beginsStatement_173
  by_cases h217 : r6 = 33
  · subst h217
    refine lv_tableIn (tgt := 174) (off := 163) hx hb dX8_beginsStatement_11 (by decide) (by decide) (by decide) (by decide) ?_
    refine lv_aload_n hx hb dX8_beginsStatement_174 rfl (lv_at hl 0 rfl) ?_
    have hO : OKW G h0 a (upd (upd (upd (upd F 2 (nI sz)) 9 (nI at9)) 2 (nI sz)) 9 (nI at9)) R Z B J T Pi w := hO.to rfl
    obtain ⟨_, qr221, hqr222⟩ := hO.2.1 23 _ (sg_23 G h0 a _ _ _ _ _)
    refine pc_V0 (G := G) (As := []) (rest := []) hx hb hml hown hq hE hX pX0_al hP hD hS hA hl.1 (P_beginsChain l G h0 a (upd (upd F 2 (nI sz)) 9 (nI at9)) R Z B J T Pi w at9 sz (by omega) (by omega) hO) (gV pw_998 pw_999 pw_1000 pw_796 pw_996) hV_X8_beginsChain qr221 5 hqr222 rfl rfl rfl (Nat.le_of_ble_eq_true rfl) dX8_beginsStatement_175 ⟨Nat.le_of_ble_eq_true rfl, Nat.le_of_ble_eq_true rfl⟩ ⟨Nat.le_of_ble_eq_true rfl, Nat.le_of_ble_eq_true rfl⟩ (fun v220 u218 H locs hw219 hP hD hS => ?_)
    obtain ⟨w, r223⟩ := u218
    obtain ⟨hw219, h224, hO⟩ := hw219
    have h224 : r223 ≤ 1 := h224
    obtain rfl : v220 = some (.int (nI r223)) := hw219
    have hO : OKW G h0 a (upd (upd F 2 (nI sz)) 9 (nI at9)) R Z B J T Pi w := hO.to rfl
    refine W.widen (k := 0) (n := 0) (Nat.le_of_ble_eq_true rfl) (Nat.le_of_ble_eq_true rfl) ?_
    refine W.eq (g2 := F0 m 178 ls [.int (nI r223)]) rfl ?_
    have hz225 : r223 ≤ 1 := (by omega)
    have hO : OKW G h0 a (upd (upd F 2 (nI sz)) 9 (nI at9)) R Z B J T Pi w := hO.to rfl
    exact W.zret (v := (nI r223)) hx hb hr (nI_nar (by omega)) (fun t99 ht99 hW99 => ⟨⟨_, (w, r223), rfl, ⟨rfl, hz225, hO⟩, by rw [ht99]; exact hP, hD⟩, hS.F ht99⟩) hS.2.2 dX8_beginsStatement_178
  by_cases h226 : r6 = 34
  · subst h226
    refine lv_tableIn (tgt := 174) (off := 163) hx hb dX8_beginsStatement_11 (by decide) (by decide) (by decide) (by decide) ?_
    refine lv_aload_n hx hb dX8_beginsStatement_174 rfl (lv_at hl 0 rfl) ?_
    have hO : OKW G h0 a (upd (upd (upd (upd F 2 (nI sz)) 9 (nI at9)) 2 (nI sz)) 9 (nI at9)) R Z B J T Pi w := hO.to rfl
    obtain ⟨_, qr230, hqr231⟩ := hO.2.1 23 _ (sg_23 G h0 a _ _ _ _ _)
    refine pc_V0 (G := G) (As := []) (rest := []) hx hb hml hown hq hE hX pX0_al hP hD hS hA hl.1 (P_beginsChain l G h0 a (upd (upd F 2 (nI sz)) 9 (nI at9)) R Z B J T Pi w at9 sz (by omega) (by omega) hO) (gV pw_998 pw_999 pw_1000 pw_796 pw_996) hV_X8_beginsChain qr230 5 hqr231 rfl rfl rfl (Nat.le_of_ble_eq_true rfl) dX8_beginsStatement_175 ⟨Nat.le_of_ble_eq_true rfl, Nat.le_of_ble_eq_true rfl⟩ ⟨Nat.le_of_ble_eq_true rfl, Nat.le_of_ble_eq_true rfl⟩ (fun v229 u227 H locs hw228 hP hD hS => ?_)
    obtain ⟨w, r232⟩ := u227
    obtain ⟨hw228, h233, hO⟩ := hw228
    have h233 : r232 ≤ 1 := h233
    obtain rfl : v229 = some (.int (nI r232)) := hw228
    have hO : OKW G h0 a (upd (upd F 2 (nI sz)) 9 (nI at9)) R Z B J T Pi w := hO.to rfl
    refine W.widen (k := 0) (n := 0) (Nat.le_of_ble_eq_true rfl) (Nat.le_of_ble_eq_true rfl) ?_
    refine W.eq (g2 := F0 m 178 ls [.int (nI r232)]) rfl ?_
    have hz234 : r232 ≤ 1 := (by omega)
    have hO : OKW G h0 a (upd (upd F 2 (nI sz)) 9 (nI at9)) R Z B J T Pi w := hO.to rfl
    exact W.zret (v := (nI r232)) hx hb hr (nI_nar (by omega)) (fun t99 ht99 hW99 => ⟨⟨_, (w, r232), rfl, ⟨rfl, hz234, hO⟩, by rw [ht99]; exact hP, hD⟩, hS.F ht99⟩) hS.2.2 dX8_beginsStatement_178
  by_cases h235 : r6 = 35
  · subst h235
    refine lv_tableIn (tgt := 174) (off := 163) hx hb dX8_beginsStatement_11 (by decide) (by decide) (by decide) (by decide) ?_
    refine lv_aload_n hx hb dX8_beginsStatement_174 rfl (lv_at hl 0 rfl) ?_
    have hO : OKW G h0 a (upd (upd (upd (upd F 2 (nI sz)) 9 (nI at9)) 2 (nI sz)) 9 (nI at9)) R Z B J T Pi w := hO.to rfl
    obtain ⟨_, qr239, hqr240⟩ := hO.2.1 23 _ (sg_23 G h0 a _ _ _ _ _)
    refine pc_V0 (G := G) (As := []) (rest := []) hx hb hml hown hq hE hX pX0_al hP hD hS hA hl.1 (P_beginsChain l G h0 a (upd (upd F 2 (nI sz)) 9 (nI at9)) R Z B J T Pi w at9 sz (by omega) (by omega) hO) (gV pw_998 pw_999 pw_1000 pw_796 pw_996) hV_X8_beginsChain qr239 5 hqr240 rfl rfl rfl (Nat.le_of_ble_eq_true rfl) dX8_beginsStatement_175 ⟨Nat.le_of_ble_eq_true rfl, Nat.le_of_ble_eq_true rfl⟩ ⟨Nat.le_of_ble_eq_true rfl, Nat.le_of_ble_eq_true rfl⟩ (fun v238 u236 H locs hw237 hP hD hS => ?_)
    obtain ⟨w, r241⟩ := u236
    obtain ⟨hw237, h242, hO⟩ := hw237
    have h242 : r241 ≤ 1 := h242
    obtain rfl : v238 = some (.int (nI r241)) := hw237
    have hO : OKW G h0 a (upd (upd F 2 (nI sz)) 9 (nI at9)) R Z B J T Pi w := hO.to rfl
    refine W.widen (k := 0) (n := 0) (Nat.le_of_ble_eq_true rfl) (Nat.le_of_ble_eq_true rfl) ?_
    refine W.eq (g2 := F0 m 178 ls [.int (nI r241)]) rfl ?_
    have hz243 : r241 ≤ 1 := (by omega)
    have hO : OKW G h0 a (upd (upd F 2 (nI sz)) 9 (nI at9)) R Z B J T Pi w := hO.to rfl
    exact W.zret (v := (nI r241)) hx hb hr (nI_nar (by omega)) (fun t99 ht99 hW99 => ⟨⟨_, (w, r241), rfl, ⟨rfl, hz243, hO⟩, by rw [ht99]; exact hP, hD⟩, hS.F ht99⟩) hS.2.2 dX8_beginsStatement_178
  by_cases h244 : r6 = 36
  · subst h244
    refine lv_tableIn (tgt := 174) (off := 163) hx hb dX8_beginsStatement_11 (by decide) (by decide) (by decide) (by decide) ?_
    refine lv_aload_n hx hb dX8_beginsStatement_174 rfl (lv_at hl 0 rfl) ?_
    have hO : OKW G h0 a (upd (upd (upd (upd F 2 (nI sz)) 9 (nI at9)) 2 (nI sz)) 9 (nI at9)) R Z B J T Pi w := hO.to rfl
    obtain ⟨_, qr248, hqr249⟩ := hO.2.1 23 _ (sg_23 G h0 a _ _ _ _ _)
    refine pc_V0 (G := G) (As := []) (rest := []) hx hb hml hown hq hE hX pX0_al hP hD hS hA hl.1 (P_beginsChain l G h0 a (upd (upd F 2 (nI sz)) 9 (nI at9)) R Z B J T Pi w at9 sz (by omega) (by omega) hO) (gV pw_998 pw_999 pw_1000 pw_796 pw_996) hV_X8_beginsChain qr248 5 hqr249 rfl rfl rfl (Nat.le_of_ble_eq_true rfl) dX8_beginsStatement_175 ⟨Nat.le_of_ble_eq_true rfl, Nat.le_of_ble_eq_true rfl⟩ ⟨Nat.le_of_ble_eq_true rfl, Nat.le_of_ble_eq_true rfl⟩ (fun v247 u245 H locs hw246 hP hD hS => ?_)
    obtain ⟨w, r250⟩ := u245
    obtain ⟨hw246, h251, hO⟩ := hw246
    have h251 : r250 ≤ 1 := h251
    obtain rfl : v247 = some (.int (nI r250)) := hw246
    have hO : OKW G h0 a (upd (upd F 2 (nI sz)) 9 (nI at9)) R Z B J T Pi w := hO.to rfl
    refine W.widen (k := 0) (n := 0) (Nat.le_of_ble_eq_true rfl) (Nat.le_of_ble_eq_true rfl) ?_
    refine W.eq (g2 := F0 m 178 ls [.int (nI r250)]) rfl ?_
    have hz252 : r250 ≤ 1 := (by omega)
    have hO : OKW G h0 a (upd (upd F 2 (nI sz)) 9 (nI at9)) R Z B J T Pi w := hO.to rfl
    exact W.zret (v := (nI r250)) hx hb hr (nI_nar (by omega)) (fun t99 ht99 hW99 => ⟨⟨_, (w, r250), rfl, ⟨rfl, hz252, hO⟩, by rw [ht99]; exact hP, hD⟩, hS.F ht99⟩) hS.2.2 dX8_beginsStatement_178
  by_cases h253 : r6 = 37
  · subst h253
    refine lv_tableIn (tgt := 174) (off := 163) hx hb dX8_beginsStatement_11 (by decide) (by decide) (by decide) (by decide) ?_
    refine lv_aload_n hx hb dX8_beginsStatement_174 rfl (lv_at hl 0 rfl) ?_
    have hO : OKW G h0 a (upd (upd (upd (upd F 2 (nI sz)) 9 (nI at9)) 2 (nI sz)) 9 (nI at9)) R Z B J T Pi w := hO.to rfl
    obtain ⟨_, qr257, hqr258⟩ := hO.2.1 23 _ (sg_23 G h0 a _ _ _ _ _)
    refine pc_V0 (G := G) (As := []) (rest := []) hx hb hml hown hq hE hX pX0_al hP hD hS hA hl.1 (P_beginsChain l G h0 a (upd (upd F 2 (nI sz)) 9 (nI at9)) R Z B J T Pi w at9 sz (by omega) (by omega) hO) (gV pw_998 pw_999 pw_1000 pw_796 pw_996) hV_X8_beginsChain qr257 5 hqr258 rfl rfl rfl (Nat.le_of_ble_eq_true rfl) dX8_beginsStatement_175 ⟨Nat.le_of_ble_eq_true rfl, Nat.le_of_ble_eq_true rfl⟩ ⟨Nat.le_of_ble_eq_true rfl, Nat.le_of_ble_eq_true rfl⟩ (fun v256 u254 H locs hw255 hP hD hS => ?_)
    obtain ⟨w, r259⟩ := u254
    obtain ⟨hw255, h260, hO⟩ := hw255
    have h260 : r259 ≤ 1 := h260
    obtain rfl : v256 = some (.int (nI r259)) := hw255
    have hO : OKW G h0 a (upd (upd F 2 (nI sz)) 9 (nI at9)) R Z B J T Pi w := hO.to rfl
    refine W.widen (k := 0) (n := 0) (Nat.le_of_ble_eq_true rfl) (Nat.le_of_ble_eq_true rfl) ?_
    refine W.eq (g2 := F0 m 178 ls [.int (nI r259)]) rfl ?_
    have hz261 : r259 ≤ 1 := (by omega)
    have hO : OKW G h0 a (upd (upd F 2 (nI sz)) 9 (nI at9)) R Z B J T Pi w := hO.to rfl
    exact W.zret (v := (nI r259)) hx hb hr (nI_nar (by omega)) (fun t99 ht99 hW99 => ⟨⟨_, (w, r259), rfl, ⟨rfl, hz261, hO⟩, by rw [ht99]; exact hP, hD⟩, hS.F ht99⟩) hS.2.2 dX8_beginsStatement_178
  by_cases h262 : r6 = 38
  · subst h262
    refine lv_tableIn (tgt := 172) (off := 161) hx hb dX8_beginsStatement_11 (by decide) (by decide) (by decide) (by decide) ?_
    refine lv_iconst (v := 1) hx hb dX8_beginsStatement_172 (by decide) ?_
    have hz263 : 1 ≤ 1 := (by omega)
    have hO : OKW G h0 a (upd (upd F 2 (nI sz)) 9 (nI at9)) R Z B J T Pi w := hO.to rfl
    exact W.zret (v := 1) hx hb hr rfl (fun t99 ht99 hW99 => ⟨⟨_, (w, 1), rfl, ⟨rfl, hz263, hO⟩, by rw [ht99]; exact hP, hD⟩, hS.F ht99⟩) hS.2.2 dX8_beginsStatement_173
  refine lv_tableOut (tgt := 174) hx hb dX8_beginsStatement_11 (sw_out38 h8 h10 h19 h28 h30 h39 h48 h57 h66 h68 h70 h79 h88 h97 h106 h115 h124 h133 h135 h144 h146 h155 h164 h166 h175 h177 h186 h188 h197 h206 h215 h217 h226 h235 h244 h253 h262) (by decide) ?_
  refine lv_aload_n hx hb dX8_beginsStatement_174 rfl (lv_at hl 0 rfl) ?_
  have hO : OKW G h0 a (upd (upd (upd (upd F 2 (nI sz)) 9 (nI at9)) 2 (nI sz)) 9 (nI at9)) R Z B J T Pi w := hO.to rfl
  obtain ⟨_, qr267, hqr268⟩ := hO.2.1 23 _ (sg_23 G h0 a _ _ _ _ _)
  refine pc_V0 (G := G) (As := []) (rest := []) hx hb hml hown hq hE hX pX0_al hP hD hS hA hl.1 (P_beginsChain l G h0 a (upd (upd F 2 (nI sz)) 9 (nI at9)) R Z B J T Pi w at9 sz (by omega) (by omega) hO) (gV pw_998 pw_999 pw_1000 pw_796 pw_996) hV_X8_beginsChain qr267 5 hqr268 rfl rfl rfl (Nat.le_of_ble_eq_true rfl) dX8_beginsStatement_175 ⟨Nat.le_of_ble_eq_true rfl, Nat.le_of_ble_eq_true rfl⟩ ⟨Nat.le_of_ble_eq_true rfl, Nat.le_of_ble_eq_true rfl⟩ (fun v266 u264 H locs hw265 hP hD hS => ?_)
  obtain ⟨w, r269⟩ := u264
  obtain ⟨hw265, h270, hO⟩ := hw265
  have h270 : r269 ≤ 1 := h270
  obtain rfl : v266 = some (.int (nI r269)) := hw265
  have hO : OKW G h0 a (upd (upd F 2 (nI sz)) 9 (nI at9)) R Z B J T Pi w := hO.to rfl
  refine W.widen (k := 0) (n := 0) (Nat.le_of_ble_eq_true rfl) (Nat.le_of_ble_eq_true rfl) ?_
  refine W.eq (g2 := F0 m 178 ls [.int (nI r269)]) rfl ?_
  have hz271 : r269 ≤ 1 := (by omega)
  have hO : OKW G h0 a (upd (upd F 2 (nI sz)) 9 (nI at9)) R Z B J T Pi w := hO.to rfl
  exact W.zret (v := (nI r269)) hx hb hr (nI_nar (by omega)) (fun t99 ht99 hW99 => ⟨⟨_, (w, r269), rfl, ⟨rfl, hz271, hO⟩, by rw [ht99]; exact hP, hD⟩, hS.F ht99⟩) hS.2.2 dX8_beginsStatement_178
theorem dX8_takeResult_0 : decode cX8_takeResult 0 = .ok (.aload_n 0, 1) := by decide +kernel
theorem dX8_takeResult_1 : decode cX8_takeResult 1 = .ok (.bipush 27, 2) := by decide +kernel
theorem dX8_takeResult_3 : decode cX8_takeResult 3 = .ok (.invokevirtual 36, 3) := by decide +kernel
theorem dX8_takeResult_6 : decode cX8_takeResult 6 = .ok (.ifCond .eq 12, 3) := by decide +kernel
theorem dX8_takeResult_18 : decode cX8_takeResult 18 = .ok (.aload_n 0, 1) := by decide +kernel
theorem dX8_takeResult_19 : decode cX8_takeResult 19 = .ok (.iconst 1, 1) := by decide +kernel
theorem dX8_takeResult_20 : decode cX8_takeResult 20 = .ok (.invokevirtual 132, 3) := by decide +kernel
theorem dX8_takeResult_23 : decode cX8_takeResult 23 = .ok (.ireturn, 1) := by decide +kernel
theorem dX8_takeResult_9 : decode cX8_takeResult 9 = .ok (.aload_n 0, 1) := by decide +kernel
theorem dX8_takeResult_10 : decode cX8_takeResult 10 = .ok (.bipush 27, 2) := by decide +kernel
theorem dX8_takeResult_12 : decode cX8_takeResult 12 = .ok (.invokevirtual 53, 3) := by decide +kernel
theorem dX8_takeResult_15 : decode cX8_takeResult 15 = .ok (.goto 8, 3) := by decide +kernel
theorem hV_X8_takeType : yX8_takeType.cls = RX8 ∧ yX8_takeType.cls ≠ "java/lang/invoke/MethodHandle" ∧ yX8_takeType.cls ≠ "java/lang/invoke/VarHandle" ∧ (parseMethodDescriptor yX8_takeType.desc).map (fun d => d.parameters.length) = some 1 := by decide +kernel
set_option maxHeartbeats 2000000 in
set_option maxRecDepth 100000 in
theorem P_takeResult (l : Launch) (G : pT) (h0 : Nat) (a : Nat → Nat) (F : Nat → Int32) (R : Nat → Value) (Z : Int64) (B : Nat → Nat → Int32) (J : Nat → Nat → Int64) (T : Nat → Nat) (Pi : Nat → va_E → Prop) (w : va_W) (at9 : Nat) (sz : Nat) (hsz : sz ≤ 5000) (hat : at9 ≤ sz) (hO : OKW G h0 a (upd (upd F 2 (nI sz)) 9 (nI at9)) R Z B J T Pi w) (hl0 : l.stackTraces = false) : PBn l G pX0 yX8_takeResult cX8_takeResult 1 (some .int) ({ frames := 8, cells := 1, slots := 6, locals := 145 }) [.ref (a 3)] w (fun (v : Option Value) (u : va_W × (Nat × (Nat → Int32))) => v = some (.int (nI at9)) ∧ (at9 + 1 ≤ u.2.1 ∧ u.2.1 ≤ sz) ∧ (OKW G h0 a (upd (upd F 2 (nI sz)) 9 (nI u.2.1)) R Z (updA B 10 u.2.2) J T Pi u.1)) (fun u => u.1) (fun (u : va_W × (Nat × (Nat → Int32))) => 0) (fun (u : va_W × (Nat × (Nat → Int32))) => 0) (fun (u : va_W × (Nat → Int32) × (Nat → Value) × (Nat → Nat → Int32)) => ThQ G h0 a (upd (upd F 2 (nI sz)) 9 (nI at9)) R Z B J u) (fun u => u.1) := by
  intro sz
  refine vx_ofW (cc := cX8_takeResult) (maxL := 1) (ret := (some .int)) (by decide) rfl ?_
  intro p e s m args below meth c s₁ B9 hml hnt hv
  obtain ⟨rfl, hsz, hP, hD0, hE, hX⟩ := hv
  have hx := B9.exec
  have hb := B9.bytes
  have hr := B9.returns
  have hts := atoms_spec (ws := Cond.code yX8_takeResult cX8_takeResult 1 (some .int) :: pw) B9.pre
  have hq : ∀ w ∈ pw, w.before _ s = true := fun w h => hts w (List.mem_cons_of_mem _ h)
  have hown : s.vm.findClass RX8 = some m.cls := findClass_of_methodNamed B9.named
  have hlocks := B9.notSynchronized
  subst hsz
  have hD := hD0.self (sz := s.heap.size)
  have hA : ∀ q : Nat, s.heap.size ≤ q → va_A w s.heap.size q := fun q h => Or.inr h
  generalize va_A w s.heap.size = A at hD hE hA ⊢
  have hS : va_S A s.heap s.heap [] := va_S.rf
  have hl := lv_entry ([.ref (a 3)]) (n := 1) (Nat.le_of_ble_eq_true rfl)
  rw [lg_entry_eq]
  generalize (lg_sl ([.ref (a 3)]) ++ List.replicate (1 - (lg_sl ([.ref (a 3)])).length) Slot.unset).toArray = ls at hl ⊢
  have hl : lv_has ls 1 [(0, .ref (a 3))] := hl
  refine lv_aload_n hx hb dX8_takeResult_0 rfl (lv_at hl 0 rfl) ?_
  refine lv_bipush (v := 27) hx hb dX8_takeResult_1 (by decide) ?_
  have hO : OKW G h0 a (upd (upd (upd (upd F 2 (nI sz)) 9 (nI at9)) 2 (nI sz)) 9 (nI at9)) R Z B J T Pi w := hO.to rfl
  obtain ⟨_, qr4, hqr5⟩ := hO.2.1 23 _ (sg_23 G h0 a _ _ _ _ _)
  refine pc_V0 (G := G) (As := [.int 27]) (rest := []) hx hb hml hown hq hE hX pX0_al hP hD hS hA hl.1 (P_sees l G h0 a (upd (upd F 2 (nI sz)) 9 (nI at9)) R Z B J T Pi w 27 at9 sz (by omega) (by omega) hO) (gV pw_803 pw_804 pw_805 pw_796 pw_775) hV_X8_sees qr4 5 hqr5 rfl rfl rfl (Nat.le_of_ble_eq_true rfl) dX8_takeResult_3 ⟨(by show 0 + 0 ≤ 1; omega), (by show 0 + 0 ≤ 6; omega)⟩ ⟨Nat.le_of_ble_eq_true rfl, Nat.le_of_ble_eq_true rfl⟩ (fun v3 u1 H locs hw2 hP hD hS => ?_)
  obtain ⟨w, r6⟩ := u1
  obtain ⟨hw2, h7, hO⟩ := hw2
  have h7 : r6 ≤ 1 := h7
  obtain rfl : v3 = some (.int (nI r6)) := hw2
  have hO : OKW G h0 a (upd (upd F 2 (nI sz)) 9 (nI at9)) R Z B J T Pi w := hO.to rfl
  refine W.widen (k := 0) (n := 0) (Nat.le_of_ble_eq_true rfl) (Nat.le_of_ble_eq_true rfl) ?_
  refine W.eq (g2 := F0 m 6 ls [.int (nI r6)]) rfl ?_
  refine lv_if_eq (tgt := 18) hx hb dX8_takeResult_6 (by decide) (fun c8 => ?_) (fun c8 => ?_)
  · have n9 : r6 = 0 := (nI_eq (a := r6) (b := 0) (by omega) (by omega)).mp c8
    refine lv_aload_n hx hb dX8_takeResult_18 rfl (lv_at hl 0 rfl) ?_
    refine lv_iconst (v := 1) hx hb dX8_takeResult_19 (by decide) ?_
    have hO : OKW G h0 a (upd (upd (upd (upd F 2 (nI sz)) 9 (nI at9)) 2 (nI sz)) 9 (nI at9)) R Z B J T Pi w := hO.to rfl
    obtain ⟨_, qr13, hqr14⟩ := hO.2.1 23 _ (sg_23 G h0 a _ _ _ _ _)
    refine pn_V0 (G := G) (As := [.int 1]) (rest := []) hx hb hml hown hq hE hX pX0_al hP hD hS hA hl.1 (P_takeType l G h0 a (upd (upd F 2 (nI sz)) 9 (nI at9)) R Z B J T Pi w 1 at9 sz (by omega) (by omega) hO hl0) (gV pw_825 pw_826 pw_827 pw_796 pw_821) hV_X8_takeType qr13 5 hqr14 rfl rfl rfl (Nat.le_of_ble_eq_true rfl) dX8_takeResult_20 ⟨(by show 0 + 1 ≤ 1; omega), (by show 0 + 6 ≤ 6; omega)⟩ ⟨Nat.le_of_ble_eq_true rfl, Nat.le_of_ble_eq_true rfl⟩ (fun v12 u10 H locs hw11 hP hD hS => ?_) (fun ux ce9 q9 H9 locs9 hux hP9 hD9 hS9 hce hcv hcl => pb_out ux (ThQ.up (Thx.same (Thx.same Thx.rfl rfl) rfl) RhX.rfl hux) hnt hlocks hce hcv hcl hP9 hD9 hS9 (by show 0 + 1 ≤ 1; omega) (by show 0 + 6 ≤ 6; omega))
    obtain ⟨w, at15, f16⟩ := u10
    obtain ⟨hw11, h17, hO⟩ := hw11
    have h17 : at9 + 1 ≤ at15 ∧ at15 ≤ sz := h17
    obtain rfl : v12 = some (.int (nI at9)) := hw11
    have hO : OKW G h0 a (upd (upd F 2 (nI sz)) 9 (nI at15)) R Z (updA B 10 f16) J T Pi w := hO.to rfl
    refine W.widen (k := 0) (n := 0) (by show 0 + 0 ≤ 0; omega) (by show 0 + 0 ≤ 0; omega) ?_
    refine W.eq (g2 := F0 m 23 ls [.int (nI at9)]) rfl ?_
    refine W_size (fun hz1 hz2 => ?_)
    refine vx_ret ?_
    have hz18 : at9 + 1 ≤ at15 ∧ at15 ≤ sz := (by omega)
    have hO : OKW G h0 a (upd (upd F 2 (nI sz)) 9 (nI at15)) R Z (updA B 10 f16) J T Pi w := hO.to rfl
    refine W.widen (k := 1) (n := 6) (by omega) (by omega) ?_
    have hzz1 : H.size ≤ s.heap.size + (0) := (by have z : 0 ≤ 0 := (by omega); omega)
    have hzz2 : hSl H ≤ hSl s.heap + (0) := (by have z : 0 ≤ 0 := (by omega); omega)
    exact W.iret (v := (nI at9)) hx hb hr (fun t99 ht99 hW99 => ⟨⟨_, (w, (at15, f16)), rfl, ⟨rfl, hz18, hO⟩, by rw [ht99]; exact hP, hD, by rw [ht99]; exact hzz1, by rw [ht99]; exact hzz2⟩, hS.F ht99⟩) hS.2.2 dX8_takeResult_23
  · have n19 : ¬ (r6 = 0) := fun h9 => c8 ((nI_eq (a := r6) (b := 0) (by omega) (by omega)).mpr h9)
    refine lv_aload_n hx hb dX8_takeResult_9 rfl (lv_at hl 0 rfl) ?_
    refine lv_bipush (v := 27) hx hb dX8_takeResult_10 (by decide) ?_
    have hO : OKW G h0 a (upd (upd (upd (upd F 2 (nI sz)) 9 (nI at9)) 2 (nI sz)) 9 (nI at9)) R Z B J T Pi w := hO.to rfl
    obtain ⟨_, qr23, hqr24⟩ := hO.2.1 23 _ (sg_23 G h0 a _ _ _ _ _)
    refine pn_V0 (G := G) (As := [.int 27]) (rest := []) hx hb hml hown hq hE hX pX0_al hP hD hS hA hl.1 (P_take l G h0 a (upd (upd F 2 (nI sz)) 9 (nI at9)) R Z B J T Pi w 27 at9 sz (by omega) (by omega) (by decide) hO hl0) (gV pw_793 pw_794 pw_795 pw_796 pw_781) hV_X8_take qr23 5 hqr24 rfl rfl rfl (Nat.le_of_ble_eq_true rfl) dX8_takeResult_12 ⟨(by show 0 + 1 ≤ 1; omega), (by show 0 + 6 ≤ 6; omega)⟩ ⟨Nat.le_of_ble_eq_true rfl, Nat.le_of_ble_eq_true rfl⟩ (fun v22 u20 H locs hw21 hP hD hS => ?_) (fun ux ce9 q9 H9 locs9 hux hP9 hD9 hS9 hce hcv hcl => pb_out ux (ThQ.up (Thx.same (Thx.same Thx.rfl rfl) rfl) RhX.rfl hux) hnt hlocks hce hcv hcl hP9 hD9 hS9 (by show 0 + 1 ≤ 1; omega) (by show 0 + 6 ≤ 6; omega))
    obtain ⟨w, _⟩ := u20
    obtain ⟨hw21, h25, hO⟩ := hw21
    have h25 : at9 + 1 ≤ sz := h25
    obtain rfl : v22 = some (.int (nI at9)) := hw21
    have hO : OKW G h0 a (upd (upd F 2 (nI sz)) 9 (nI (at9 + 1))) R Z B J T Pi w := hO.to rfl
    refine W.widen (k := 0) (n := 0) (by show 0 + 0 ≤ 0; omega) (by show 0 + 0 ≤ 0; omega) ?_
    refine W.eq (g2 := F0 m 15 ls [.int (nI at9)]) rfl ?_
    refine lv_goto (tgt := 23) hx hb dX8_takeResult_15 (by decide) ?_
    refine W_size (fun hz1 hz2 => ?_)
    refine vx_ret ?_
    have hz26 : at9 + 1 ≤ (at9 + 1) ∧ (at9 + 1) ≤ sz := (by omega)
    have hO : OKW G h0 a (upd (upd F 2 (nI sz)) 9 (nI (at9 + 1))) R Z (updA B 10 (B 10)) J T Pi w := hO.to rfl
    refine W.widen (k := 1) (n := 6) (by omega) (by omega) ?_
    have hzz1 : H.size ≤ s.heap.size + (0) := (by have z : 0 ≤ 0 := (by omega); omega)
    have hzz2 : hSl H ≤ hSl s.heap + (0) := (by have z : 0 ≤ 0 := (by omega); omega)
    exact W.iret (v := (nI at9)) hx hb hr (fun t99 ht99 hW99 => ⟨⟨_, (w, ((at9 + 1), (B 10))), rfl, ⟨rfl, hz26, hO⟩, by rw [ht99]; exact hP, hD, by rw [ht99]; exact hzz1, by rw [ht99]; exact hzz2⟩, hS.F ht99⟩) hS.2.2 dX8_takeResult_23
theorem dX8_variable_0 : decode cX8_variable 0 = .ok (.new 143, 3) := by decide +kernel
theorem dX8_variable_3 : decode cX8_variable 3 = .ok (.dup, 1) := by decide +kernel
theorem dX8_variable_4 : decode cX8_variable 4 = .ok (.bipush 36, 2) := by decide +kernel
theorem dX8_variable_6 : decode cX8_variable 6 = .ok (.iload_n 2, 1) := by decide +kernel
theorem dX8_variable_7 : decode cX8_variable 7 = .ok (.iload_n 1, 1) := by decide +kernel
theorem dX8_variable_8 : decode cX8_variable 8 = .ok (.invokespecial 145, 3) := by decide +kernel
theorem dX8_variable_11 : decode cX8_variable 11 = .ok (.astore_n 3, 1) := by decide +kernel
theorem dX8_variable_12 : decode cX8_variable 12 = .ok (.aload_n 3, 1) := by decide +kernel
theorem dX8_variable_13 : decode cX8_variable 13 = .ok (.aload_n 0, 1) := by decide +kernel
theorem dX8_variable_14 : decode cX8_variable 14 = .ok (.getfield 7, 3) := by decide +kernel
theorem dX8_variable_17 : decode cX8_variable 17 = .ok (.iload_n 2, 1) := by decide +kernel
theorem dX8_variable_18 : decode cX8_variable 18 = .ok (.invokevirtual 148, 3) := by decide +kernel
theorem dX8_variable_21 : decode cX8_variable 21 = .ok (.putfield 151, 3) := by decide +kernel
theorem dX8_variable_24 : decode cX8_variable 24 = .ok (.aload_n 3, 1) := by decide +kernel
theorem dX8_variable_25 : decode cX8_variable 25 = .ok (.areturn, 1) := by decide +kernel
theorem hV_X10_valueAt : yX10_valueAt.cls = RX10 ∧ yX10_valueAt.cls ≠ "java/lang/invoke/MethodHandle" ∧ yX10_valueAt.cls ≠ "java/lang/invoke/VarHandle" ∧ (parseMethodDescriptor yX10_valueAt.desc).map (fun d => d.parameters.length) = some 1 := by decide +kernel
set_option maxHeartbeats 8000000 in
set_option maxRecDepth 100000 in
theorem P_variable (l : Launch) (G : pT) (h0 : Nat) (a : Nat → Nat) (F : Nat → Int32) (R : Nat → Value) (Z : Int64) (B : Nat → Nat → Int32) (J : Nat → Nat → Int64) (K : PK) (w : va_W) (x1 : Int32) (x2 : Int32) (sz : Nat) (O : Nat) (kr : Nat) (g : Nat → Nat → Nat) (hsz : sz ≤ 5000) (hwn : WN K g) (how : ∀ o : Nat, O = o + 1 → K.1 o = 1 ∧ (1 ≤ g 0 o → 1 < 0) ∧ ¬ K.2.1 0 o = 32) (hkr : kr ≤ 6000) (hO : OKP G h0 a (upd F 2 (nI sz)) R Z B J K w) : PM l G pX0 yX8_variable cX8_variable 4 (some (.object "JinjaTongue$Node")) ({ frames := 3, cells := 1, slots := 11, locals := 83 }) [.ref (a 3), .int x1, .int x2] w (fun (v : Option Value) (u : va_W × (Nat × PK × (Nat → Nat → Nat))) => v = some (.ref u.2.1) ∧ (NwR K u.2.2.1 g u.2.2.2 u.2.1 O kr 1) ∧ (u.2.2.1.2.1 0 u.2.1 = 36) ∧ (OKP G h0 a (upd F 2 (nI sz)) R Z B J u.2.2.1 u.1)) (fun u => u.1) := by
  intro sz
  refine Met.ofW (cc := cX8_variable) (maxL := 4) (ret := (some (.object "JinjaTongue$Node"))) (by decide) rfl ?_
  intro p e s m args below meth c s₁ B9 hml hv
  obtain ⟨rfl, hsz, hP, hD0, hE, hX⟩ := hv
  have hx := B9.exec
  have hb := B9.bytes
  have hr := B9.returns
  have hts := atoms_spec (ws := Cond.code yX8_variable cX8_variable 4 (some (.object "JinjaTongue$Node")) :: pw) B9.pre
  have hq : ∀ w ∈ pw, w.before _ s = true := fun w h => hts w (List.mem_cons_of_mem _ h)
  have hown : s.vm.findClass RX8 = some m.cls := findClass_of_methodNamed B9.named
  have hlocks := B9.notSynchronized
  subst hsz
  have hD := hD0.self (sz := s.heap.size)
  have hA : ∀ q : Nat, s.heap.size ≤ q → va_A w s.heap.size q := fun q h => Or.inr h
  generalize va_A w s.heap.size = A at hD hE hA ⊢
  have hS : va_S A s.heap s.heap [] := va_S.rf
  have hl := lv_entry ([.ref (a 3), .int x1, .int x2]) (n := 4) (Nat.le_of_ble_eq_true rfl)
  rw [lg_entry_eq]
  generalize (lg_sl ([.ref (a 3), .int x1, .int x2]) ++ List.replicate (4 - (lg_sl ([.ref (a 3), .int x1, .int x2])).length) Slot.unset).toArray = ls at hl ⊢
  have hl : lv_has ls 4 [(0, .ref (a 3)), (1, .int x1), (2, .int x2)] := hl
  refine p_new (s9 := 1) (C := RX7) (T := TX7) (N := 11) (ci := 13) (fs := [.int 0, .int 0, .int 0, .int 0, .int 0, .int 0, .null, .null, .null, .null, .null]) hx hb hq pin_wsX70 tyX7 tyX7_ok hown (hq _ pw_870) (hq _ pw_871) (hq _ pw_872) hE hP hD hS hA hO rfl nw_X7 (by decide) (fun q => by rw [rep_1 (show (kN K q 1 0).1 q = 1 from if_pos rfl)]; unfold fsNode kN; simp only [if_true]; rfl) (by show 0 + 1 ≤ 1; omega) (by show 0 + 11 ≤ 11; omega) dX8_variable_0 (fun q1 H w hq2 hP hD hS hO => ?_)
  have hf3 : (kN K q1 1 0).1 q1 = 1 := if_pos rfl
  refine W.widen (k := 1) (n := 11) (by show 0 + 1 ≤ 1; omega) (by show 0 + 11 ≤ 11; omega) ?_
  refine lv_dup hx hb dX8_variable_3 rfl ?_
  refine lv_bipush (v := 36) hx hb dX8_variable_4 (by decide) ?_
  refine lv_iload_n hx hb dX8_variable_6 rfl (lv_at hl 2 rfl) ?_
  refine lv_iload_n hx hb dX8_variable_7 rfl (lv_at hl 1 rfl) ?_
  have hO : OKP G h0 a (upd F 2 (nI sz)) R Z B J (kN K q1 1 0) w := hO.to rfl
  obtain ⟨qr7, hqr8⟩ := p_recv hO (by rw [hf3]; decide) (rep_1 hf3)
  refine pc_I0 (G := G) (As := [.int 36, .int x2, .int x1]) (rest := [.ref q1]) hx hb hml hown hq hE hX pX0_al hP hD hS hA hl.1 (N_init l G h0 a (upd F 2 (nI sz)) R Z B J (kN K q1 1 0) w q1 36 x2 x1 (by omega) hO) pw_874 pw_875 pw_872 pw_765 rfl hS_X7_init rfl (Nat.le_of_ble_eq_true rfl) dX8_variable_8 ⟨(by show 1 + 0 ≤ 1; omega), (by show 11 + 0 ≤ 11; omega)⟩ ⟨Nat.le_of_ble_eq_true rfl, Nat.le_of_ble_eq_true rfl⟩ (fun v6 u4 H locs hw5 hP hD hS => ?_)
  obtain ⟨w, _⟩ := u4
  obtain ⟨hw5, hO⟩ := hw5
  obtain rfl : v6 = none := hw5
  have hf9 : (kI (kI (kI (kN K q1 1 0) 0 q1 36) 1 q1 x2) 2 q1 x1).1 q1 = 1 := hf3
  have hO : OKP G h0 a (upd F 2 (nI sz)) R Z B J (kI (kI (kI (kN K q1 1 0) 0 q1 36) 1 q1 x2) 2 q1 x1) w := hO.to rfl
  refine W.widen (k := 1) (n := 11) (by show 1 + 0 ≤ 1; omega) (by show 11 + 0 ≤ 11; omega) ?_
  refine W.eq (g2 := F0 m 11 ls [.ref q1]) rfl ?_
  refine lv_astore_n (lv' := [(3, .ref q1), (0, .ref (a 3)), (1, .int x1), (2, .int x2)]) hx hb dX8_variable_11 rfl hl (by decide) rfl (fun ls hl => ?_)
  refine lv_aload_n hx hb dX8_variable_12 rfl (lv_at hl 0 rfl) ?_
  refine lv_aload_n hx hb dX8_variable_13 rfl (lv_at hl 1 rfl) ?_
  refine c_get (v := .ref (a 1)) (C := RX8) (Tc := TX8) (N := 5) (ci := 5) hx hb hq pin_wsX80 hown hE hP hO 23 (sg_23 G h0 a _ _ _ _ _) rfl 0 (by decide) (hq _ pw_774) (fun _ h9 => h9) rfl dX8_variable_14 ?_
  refine lv_iload_n hx hb dX8_variable_17 rfl (lv_at hl 3 rfl) ?_
  have hO : OKW G h0 a (upd (upd F 2 (nI sz)) 2 (nI sz)) R Z B J ((kI (kI (kI (kN K q1 1 0) 0 q1 36) 1 q1 x2) 2 q1 x1).1) (fun q99 x99 => x99 = rep G a (kI (kI (kI (kN K q1 1 0) 0 q1 36) 1 q1 x2) 2 q1 x1) q99) w := hO.to rfl
  obtain ⟨_, qr13, hqr14⟩ := hO.2.1 2 _ (sg_2 G h0 a _ _ _ _ _)
  refine pc_V0 (G := G) (As := [.int x2]) (rest := [.ref q1]) hx hb hml hown hq hE hX pX0_al hP hD hS hA hl.1 (K_valueAt l G h0 a (upd F 2 (nI sz)) R Z B J ((kI (kI (kI (kN K q1 1 0) 0 q1 36) 1 q1 x2) 2 q1 x1).1) (fun q99 x99 => x99 = rep G a (kI (kI (kI (kN K q1 1 0) 0 q1 36) 1 q1 x2) 2 q1 x1) q99) w x2 sz (by omega) hO) (gV pw_876 pw_57 pw_58 pw_59 pw_39) hV_X10_valueAt qr13 7 hqr14 rfl rfl rfl (Nat.le_of_ble_eq_true rfl) dX8_variable_18 ⟨(by show 1 + 0 ≤ 1; omega), (by show 11 + 0 ≤ 11; omega)⟩ ⟨Nat.le_of_ble_eq_true rfl, Nat.le_of_ble_eq_true rfl⟩ (fun v12 u10 H locs hw11 hP hD hS => ?_)
  obtain ⟨w, r15⟩ := u10
  obtain ⟨hw11, hO⟩ := hw11
  obtain rfl : v12 = some (.int r15) := hw11
  have hO : OKP G h0 a (upd F 2 (nI sz)) R Z B J (kI (kI (kI (kN K q1 1 0) 0 q1 36) 1 q1 x2) 2 q1 x1) w := hO.to rfl
  refine W.widen (k := 1) (n := 11) (by show 1 + 0 ≤ 1; omega) (by show 11 + 0 ≤ 11; omega) ?_
  refine W.eq (g2 := F0 m 21 ls [.int r15, .ref q1]) rfl ?_
  refine p_put (v := .int r15) (ty := .int) (C := RX7) (Tc := TX7) (N := 11) (ci := 13) (K' := (kI (kI (kI (kI (kN K q1 1 0) 0 q1 36) 1 q1 x2) 2 q1 x1) 3 q1 r15)) hx hb hq pin_wsX70 tyX7 tyX7_ok nmX7 hown hE hP hD hS hO (by rw [hf9]; decide) (rep_1 hf9) rfl 3 (by decide) (hq _ pw_873) (fun _ h9 => h9) rfl (by decide +kernel) rfl rfl (Nat.le_of_ble_eq_true rfl) rfl (by rw [rep_1 (show (kI (kI (kI (kI (kN K q1 1 0) 0 q1 36) 1 q1 x2) 2 q1 x1) 3 q1 r15).1 q1 = 1 from hf9), pi_3] <;> rfl) (fun p9 hp9 => rep_kI hp9) dX8_variable_21 (fun H locs w hP hD hS hO => ?_)
  obtain ⟨K16, hK17⟩ : ∃ z : PK, z = (kI (kI (kI (kI (kN K q1 1 0) 0 q1 36) 1 q1 x2) 2 q1 x1) 3 q1 r15) := ⟨_, rfl⟩
  rw [← hK17] at hO
  have hf18 : K16.1 q1 = 1 := (by rw [hK17]; exact hf9)
  have hf19 : K16.2.1 3 q1 = r15 := by rw [hK17]; exact kI_eq
  refine lv_aload_n hx hb dX8_variable_24 rfl (lv_at hl 0 rfl) ?_
  have hlf0 := leaf_ok (q := q1) (a := 36) (b := x2) (c := x1) (O := O) (k := kr) hwn hq2 (by omega) (fun C => ⟨fun z => absurd z (by decide), fun z => absurd z (by decide), fun z => absurd z (by decide), fun z => absurd z (by decide), fun z => absurd z (by decide)⟩) how
  have hlf := NwR.num (f := 3) (v := r15) (by decide) hlf0
  have hk0 : K16 = kI (mkN K q1 36 x2 x1) 3 q1 r15 := hK17
  rw [← hk0] at hlf
  have hz20 : NwR K K16 g (gset (gset g q1 0 0 0) q1 1 O kr) q1 O kr 1 := hlf
  have hz21 : K16.2.1 0 q1 = 36 := (by rw [hk0]; exact (kI_of (by decide)).trans mkN_0)
  have hO : OKP G h0 a (upd F 2 (nI sz)) R Z B J K16 w := hO.to rfl
  refine W.widen (k := 1) (n := 11) (by omega) (by omega) ?_
  exact W.aret (v := .ref q1) hx hb hr (Or.inl ⟨_, rfl⟩) (Or.inr ⟨_, rfl⟩) (fun t99 ht99 hW99 => ⟨⟨_, (w, (q1, K16, (gset (gset g q1 0 0 0) q1 1 O kr))), rfl, ⟨rfl, hz20, hz21, hO⟩, by rw [ht99]; exact hP, hD⟩, hS.F ht99⟩) hS.2.2 dX8_variable_25
