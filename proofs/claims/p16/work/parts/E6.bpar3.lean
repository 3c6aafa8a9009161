theorem sw_out38 {x : Int32} (h2 : ¬ x = 2) (h3 : ¬ x = 3) (h4 : ¬ x = 4) (h5 : ¬ x = 5) (h6 : ¬ x = 6) (h7 : ¬ x = 7) (h8 : ¬ x = 8) (h9 : ¬ x = 9) (h10 : ¬ x = 10) (h11 : ¬ x = 11) (h12 : ¬ x = 12) (h13 : ¬ x = 13) (h14 : ¬ x = 14) (h15 : ¬ x = 15) (h16 : ¬ x = 16) (h17 : ¬ x = 17) (h18 : ¬ x = 18) (h19 : ¬ x = 19) (h20 : ¬ x = 20) (h21 : ¬ x = 21) (h22 : ¬ x = 22) (h23 : ¬ x = 23) (h24 : ¬ x = 24) (h25 : ¬ x = 25) (h26 : ¬ x = 26) (h27 : ¬ x = 27) (h28 : ¬ x = 28) (h29 : ¬ x = 29) (h30 : ¬ x = 30) (h31 : ¬ x = 31) (h32 : ¬ x = 32) (h33 : ¬ x = 33) (h34 : ¬ x = 34) (h35 : ¬ x = 35) (h36 : ¬ x = 36) (h37 : ¬ x = 37) (h38 : ¬ x = 38) : x.toInt < 2 ∨ 38 < x.toInt := by
  have a2 : ¬ x.toInt = 2 := tJ_ne (n := 2) (by decide) h2
  have a3 : ¬ x.toInt = 3 := tJ_ne (n := 3) (by decide) h3
  have a4 : ¬ x.toInt = 4 := tJ_ne (n := 4) (by decide) h4
  have a5 : ¬ x.toInt = 5 := tJ_ne (n := 5) (by decide) h5
  have a6 : ¬ x.toInt = 6 := tJ_ne (n := 6) (by decide) h6
  have a7 : ¬ x.toInt = 7 := tJ_ne (n := 7) (by decide) h7
  have a8 : ¬ x.toInt = 8 := tJ_ne (n := 8) (by decide) h8
  have a9 : ¬ x.toInt = 9 := tJ_ne (n := 9) (by decide) h9
  have a10 : ¬ x.toInt = 10 := tJ_ne (n := 10) (by decide) h10
  have a11 : ¬ x.toInt = 11 := tJ_ne (n := 11) (by decide) h11
  have a12 : ¬ x.toInt = 12 := tJ_ne (n := 12) (by decide) h12
  have a13 : ¬ x.toInt = 13 := tJ_ne (n := 13) (by decide) h13
  have a14 : ¬ x.toInt = 14 := tJ_ne (n := 14) (by decide) h14
  have a15 : ¬ x.toInt = 15 := tJ_ne (n := 15) (by decide) h15
  have a16 : ¬ x.toInt = 16 := tJ_ne (n := 16) (by decide) h16
  have a17 : ¬ x.toInt = 17 := tJ_ne (n := 17) (by decide) h17
  have a18 : ¬ x.toInt = 18 := tJ_ne (n := 18) (by decide) h18
  have a19 : ¬ x.toInt = 19 := tJ_ne (n := 19) (by decide) h19
  have a20 : ¬ x.toInt = 20 := tJ_ne (n := 20) (by decide) h20
  have a21 : ¬ x.toInt = 21 := tJ_ne (n := 21) (by decide) h21
  have a22 : ¬ x.toInt = 22 := tJ_ne (n := 22) (by decide) h22
  have a23 : ¬ x.toInt = 23 := tJ_ne (n := 23) (by decide) h23
  have a24 : ¬ x.toInt = 24 := tJ_ne (n := 24) (by decide) h24
  have a25 : ¬ x.toInt = 25 := tJ_ne (n := 25) (by decide) h25
  have a26 : ¬ x.toInt = 26 := tJ_ne (n := 26) (by decide) h26
  have a27 : ¬ x.toInt = 27 := tJ_ne (n := 27) (by decide) h27
  have a28 : ¬ x.toInt = 28 := tJ_ne (n := 28) (by decide) h28
  have a29 : ¬ x.toInt = 29 := tJ_ne (n := 29) (by decide) h29
  have a30 : ¬ x.toInt = 30 := tJ_ne (n := 30) (by decide) h30
  have a31 : ¬ x.toInt = 31 := tJ_ne (n := 31) (by decide) h31
  have a32 : ¬ x.toInt = 32 := tJ_ne (n := 32) (by decide) h32
  have a33 : ¬ x.toInt = 33 := tJ_ne (n := 33) (by decide) h33
  have a34 : ¬ x.toInt = 34 := tJ_ne (n := 34) (by decide) h34
  have a35 : ¬ x.toInt = 35 := tJ_ne (n := 35) (by decide) h35
  have a36 : ¬ x.toInt = 36 := tJ_ne (n := 36) (by decide) h36
  have a37 : ¬ x.toInt = 37 := tJ_ne (n := 37) (by decide) h37
  have a38 : ¬ x.toInt = 38 := tJ_ne (n := 38) (by decide) h38
  omega
/-- a variable more -/
def VaT (K K1 : PK) : Prop := ∀ (kd ro : Nat → Int32) (sz a : Nat), NwT kd sz ro ro K K1 a a
theorem VaT.mk {K : PK} {q f : Nat} {b c v : Int32} (h : K.1 q = 0) : VaT K (kI (mkN K q 36 b c) 3 f v) := fun _ _ _ _ => NwT.puti (NwT.new NwT.nil h (TkP.no (by decide))) (by decide)
theorem NwR.num {K K1 : PK} {g g1 : Nat → Nat → Nat} {r O k L f : Nat} {v : Int32} (hf : ¬ 0 = f) (h : NwR K K1 g g1 r O k L) : NwR K (kI K1 f r v) g g1 r O k L := by
  obtain ⟨h1, h2, h3, h4⟩ := h
  refine ⟨fun p hp hl => ?_, ⟨fun p hp => ?_, h2.2⟩, h3, h4⟩
  · obtain ⟨a1, a2, a3, a4, a5⟩ := h1 p hp hl
    have e : ∀ y : Nat, (kI K1 f r v).2.1 0 y = K1.2.1 0 y := fun y => kI_of hf
    unfold NdO
    simp only [e]
    exact ⟨a1, a2, a3, a4, a5⟩
  · have hn : ¬ p = r := fun z => hp (by rw [z]; exact h3.1)
    obtain ⟨b1, b2, b3, b4, b5, b6⟩ := h2.1 p hp
    exact ⟨b1, fun f => (kI_ne hn).trans (b2 f), b3, b4, b5, b6⟩
theorem dX8_beginsLocal_0 : decode cX8_beginsLocal 0 = .ok (.aload_n 0, 1) := by decide +kernel
theorem dX8_beginsLocal_1 : decode cX8_beginsLocal 1 = .ok (.bipush 65, 2) := by decide +kernel
theorem dX8_beginsLocal_3 : decode cX8_beginsLocal 3 = .ok (.invokevirtual 36, 3) := by decide +kernel
theorem dX8_beginsLocal_6 : decode cX8_beginsLocal 6 = .ok (.ifCond .ne 26, 3) := by decide +kernel
theorem dX8_beginsLocal_32 : decode cX8_beginsLocal 32 = .ok (.aload_n 0, 1) := by decide +kernel
theorem dX8_beginsLocal_33 : decode cX8_beginsLocal 33 = .ok (.getfield 7, 3) := by decide +kernel
theorem dX8_beginsLocal_36 : decode cX8_beginsLocal 36 = .ok (.aload_n 0, 1) := by decide +kernel
theorem dX8_beginsLocal_37 : decode cX8_beginsLocal 37 = .ok (.getfield 17, 3) := by decide +kernel
theorem dX8_beginsLocal_40 : decode cX8_beginsLocal 40 = .ok (.iconst 1, 1) := by decide +kernel
theorem dX8_beginsLocal_41 : decode cX8_beginsLocal 41 = .ok (.iadd, 1) := by decide +kernel
theorem dX8_beginsLocal_42 : decode cX8_beginsLocal 42 = .ok (.invokevirtual 57, 3) := by decide +kernel
theorem dX8_beginsLocal_45 : decode cX8_beginsLocal 45 = .ok (.istore_n 1, 1) := by decide +kernel
theorem dX8_beginsLocal_46 : decode cX8_beginsLocal 46 = .ok (.iload_n 1, 1) := by decide +kernel
theorem dX8_beginsLocal_47 : decode cX8_beginsLocal 47 = .ok (.bipush 65, 2) := by decide +kernel
theorem dX8_beginsLocal_49 : decode cX8_beginsLocal 49 = .ok (.if_icmp .eq 27, 3) := by decide +kernel
theorem dX8_beginsLocal_76 : decode cX8_beginsLocal 76 = .ok (.iconst 1, 1) := by decide +kernel
theorem dX8_beginsLocal_77 : decode cX8_beginsLocal 77 = .ok (.goto 4, 3) := by decide +kernel
theorem dX8_beginsLocal_81 : decode cX8_beginsLocal 81 = .ok (.ireturn, 1) := by decide +kernel
theorem dX8_beginsLocal_52 : decode cX8_beginsLocal 52 = .ok (.iload_n 1, 1) := by decide +kernel
theorem dX8_beginsLocal_53 : decode cX8_beginsLocal 53 = .ok (.bipush 36, 2) := by decide +kernel
theorem dX8_beginsLocal_55 : decode cX8_beginsLocal 55 = .ok (.if_icmp .ne 25, 3) := by decide +kernel
theorem dX8_beginsLocal_80 : decode cX8_beginsLocal 80 = .ok (.iconst 0, 1) := by decide +kernel
theorem dX8_beginsLocal_58 : decode cX8_beginsLocal 58 = .ok (.aload_n 0, 1) := by decide +kernel
theorem dX8_beginsLocal_59 : decode cX8_beginsLocal 59 = .ok (.getfield 7, 3) := by decide +kernel
theorem dX8_beginsLocal_62 : decode cX8_beginsLocal 62 = .ok (.aload_n 0, 1) := by decide +kernel
theorem dX8_beginsLocal_63 : decode cX8_beginsLocal 63 = .ok (.getfield 17, 3) := by decide +kernel
theorem dX8_beginsLocal_66 : decode cX8_beginsLocal 66 = .ok (.iconst 2, 1) := by decide +kernel
theorem dX8_beginsLocal_67 : decode cX8_beginsLocal 67 = .ok (.iadd, 1) := by decide +kernel
theorem dX8_beginsLocal_68 : decode cX8_beginsLocal 68 = .ok (.invokevirtual 57, 3) := by decide +kernel
theorem dX8_beginsLocal_71 : decode cX8_beginsLocal 71 = .ok (.bipush 37, 2) := by decide +kernel
theorem dX8_beginsLocal_73 : decode cX8_beginsLocal 73 = .ok (.if_icmp .ne 7, 3) := by decide +kernel
theorem dX8_beginsLocal_9 : decode cX8_beginsLocal 9 = .ok (.aload_n 0, 1) := by decide +kernel
theorem dX8_beginsLocal_10 : decode cX8_beginsLocal 10 = .ok (.bipush 13, 2) := by decide +kernel
theorem dX8_beginsLocal_12 : decode cX8_beginsLocal 12 = .ok (.invokevirtual 36, 3) := by decide +kernel
theorem dX8_beginsLocal_15 : decode cX8_beginsLocal 15 = .ok (.ifCond .ne 11, 3) := by decide +kernel
theorem dX8_beginsLocal_26 : decode cX8_beginsLocal 26 = .ok (.iconst 1, 1) := by decide +kernel
theorem dX8_beginsLocal_27 : decode cX8_beginsLocal 27 = .ok (.goto 4, 3) := by decide +kernel
theorem dX8_beginsLocal_31 : decode cX8_beginsLocal 31 = .ok (.ireturn, 1) := by decide +kernel
theorem dX8_beginsLocal_18 : decode cX8_beginsLocal 18 = .ok (.aload_n 0, 1) := by decide +kernel
theorem dX8_beginsLocal_19 : decode cX8_beginsLocal 19 = .ok (.iconst 1, 1) := by decide +kernel
theorem dX8_beginsLocal_20 : decode cX8_beginsLocal 20 = .ok (.invokevirtual 36, 3) := by decide +kernel
theorem dX8_beginsLocal_23 : decode cX8_beginsLocal 23 = .ok (.ifCond .eq 7, 3) := by decide +kernel
theorem dX8_beginsLocal_30 : decode cX8_beginsLocal 30 = .ok (.iconst 0, 1) := by decide +kernel
theorem hV_X8_sees : yX8_sees.cls = RX8 ∧ yX8_sees.cls ≠ "java/lang/invoke/MethodHandle" ∧ yX8_sees.cls ≠ "java/lang/invoke/VarHandle" ∧ (parseMethodDescriptor yX8_sees.desc).map (fun d => d.parameters.length) = some 1 := by decide +kernel
set_option maxHeartbeats 6000000 in
set_option maxRecDepth 100000 in
theorem P_beginsLocal (l : Launch) (G : pT) (h0 : Nat) (a : Nat → Nat) (F : Nat → Int32) (R : Nat → Value) (Z : Int64) (B : Nat → Nat → Int32) (J : Nat → Nat → Int64) (T : Nat → Nat) (Pi : Nat → va_E → Prop) (w : va_W) (at9 : Nat) (sz : Nat) (hsz : sz ≤ 5000) (hat : at9 ≤ sz) (hO : OKW G h0 a (upd (upd F 2 (nI sz)) 9 (nI at9)) R Z B J T Pi w) : PM l G pX0 yX8_beginsLocal cX8_beginsLocal 2 (some .boolean) ({ frames := 4, cells := 0, slots := 0, locals := 102 }) [.ref (a 3)] w (fun (v : Option Value) (u : va_W × (Nat)) => v = some (.int (nI u.2)) ∧ (u.2 ≤ 1) ∧ (OKW G h0 a (upd (upd F 2 (nI sz)) 9 (nI at9)) R Z B J T Pi u.1)) (fun u => u.1) := by
  intro sz
  refine Met.ofW (cc := cX8_beginsLocal) (maxL := 2) (ret := (some .boolean)) (by decide) rfl ?_
  intro p e s m args below meth c s₁ B9 hml hv
  obtain ⟨rfl, hsz, hP, hD0, hE, hX⟩ := hv
  have hx := B9.exec
  have hb := B9.bytes
  have hr := B9.returns
  have hts := atoms_spec (ws := Cond.code yX8_beginsLocal cX8_beginsLocal 2 (some .boolean) :: pw) B9.pre
  have hq : ∀ w ∈ pw, w.before _ s = true := fun w h => hts w (List.mem_cons_of_mem _ h)
  have hown : s.vm.findClass RX8 = some m.cls := findClass_of_methodNamed B9.named
  have hlocks := B9.notSynchronized
  subst hsz
  have hD := hD0.self (sz := s.heap.size)
  have hA : ∀ q : Nat, s.heap.size ≤ q → va_A w s.heap.size q := fun q h => Or.inr h
  generalize va_A w s.heap.size = A at hD hE hA ⊢
  have hS : va_S A s.heap s.heap [] := va_S.rf
  have hl := lv_entry ([.ref (a 3)]) (n := 2) (Nat.le_of_ble_eq_true rfl)
  rw [lg_entry_eq]
  generalize (lg_sl ([.ref (a 3)]) ++ List.replicate (2 - (lg_sl ([.ref (a 3)])).length) Slot.unset).toArray = ls at hl ⊢
  have hl : lv_has ls 2 [(0, .ref (a 3))] := hl
  refine lv_aload_n hx hb dX8_beginsLocal_0 rfl (lv_at hl 0 rfl) ?_
  refine lv_bipush (v := 65) hx hb dX8_beginsLocal_1 (by decide) ?_
  have hO : OKW G h0 a (upd (upd (upd (upd F 2 (nI sz)) 9 (nI at9)) 2 (nI sz)) 9 (nI at9)) R Z B J T Pi w := hO.to rfl
  obtain ⟨_, qr4, hqr5⟩ := hO.2.1 23 _ (sg_23 G h0 a _ _ _ _ _)
  refine pc_V0 (G := G) (As := [.int 65]) (rest := []) hx hb hml hown hq hE hX pX0_al hP hD hS hA hl.1 (P_sees l G h0 a (upd (upd F 2 (nI sz)) 9 (nI at9)) R Z B J T Pi w 65 at9 sz (by omega) (by omega) hO) (gV pw_803 pw_804 pw_805 pw_796 pw_775) hV_X8_sees qr4 5 hqr5 rfl rfl rfl (Nat.le_of_ble_eq_true rfl) dX8_beginsLocal_3 ⟨Nat.le_of_ble_eq_true rfl, Nat.le_of_ble_eq_true rfl⟩ ⟨Nat.le_of_ble_eq_true rfl, Nat.le_of_ble_eq_true rfl⟩ (fun v3 u1 H locs hw2 hP hD hS => ?_)
  obtain ⟨w, r6⟩ := u1
  obtain ⟨hw2, h7, h8, hO⟩ := hw2
  have h7 : r6 ≤ 1 := h7
  have h8 : SeQ ((B 7)) sz at9 65 r6 := h8
  obtain rfl : v3 = some (.int (nI r6)) := hw2
  have hO : OKW G h0 a (upd (upd F 2 (nI sz)) 9 (nI at9)) R Z B J T Pi w := hO.to rfl
  refine W.widen (k := 0) (n := 0) (Nat.le_of_ble_eq_true rfl) (Nat.le_of_ble_eq_true rfl) ?_
  refine W.eq (g2 := F0 m 6 ls [.int (nI r6)]) rfl ?_
  refine lv_if_ne (tgt := 32) hx hb dX8_beginsLocal_6 (by decide) (fun c9 => ?_) (fun c9 => ?_)
  · have n10 : ¬ (r6 = 0) := fun h9 => c9 ((nI_eq (a := r6) (b := 0) (by omega) (by omega)).mpr h9)
    refine lv_aload_n hx hb dX8_beginsLocal_32 rfl (lv_at hl 0 rfl) ?_
    refine c_get (v := .ref (a 1)) (C := RX8) (Tc := TX8) (N := 5) (ci := 5) hx hb hq pin_wsX80 hown hE hP hO 23 (sg_23 G h0 a _ _ _ _ _) rfl 0 (by decide) (hq _ pw_774) (fun _ h9 => h9) rfl dX8_beginsLocal_33 ?_
    refine lv_aload_n hx hb dX8_beginsLocal_36 rfl (lv_at hl 0 rfl) ?_
    refine c_get (v := .int (nI at9)) (C := RX8) (Tc := TX8) (N := 5) (ci := 5) hx hb hq pin_wsX80 hown hE hP hO 23 (sg_23 G h0 a _ _ _ _ _) rfl 2 (by decide) (hq _ pw_776) (fun _ h9 => h9) rfl dX8_beginsLocal_37 ?_
    refine lv_iconst (v := 1) hx hb dX8_beginsLocal_40 (by decide) ?_
    refine lv_iadd hx hb dX8_beginsLocal_41 ?_
    refine lv_topi (fun x11 e12 => ?_)
    obtain rfl : x11 = nI (at9 + 1) := e12.trans (nI_add (at9) (1))
    have hO : OKW G h0 a (upd (upd (upd F 2 (nI sz)) 9 (nI at9)) 2 (nI sz)) R Z B J T Pi w := hO.to rfl
    obtain ⟨_, qr16, hqr17⟩ := hO.2.1 2 _ (sg_2 G h0 a _ _ _ _ _)
    refine pc_V0 (G := G) (As := [.int (nI (at9 + 1))]) (rest := []) hx hb hml hown hq hE hX pX0_al hP hD hS hA hl.1 (K_kindX l G h0 a (upd (upd F 2 (nI sz)) 9 (nI at9)) R Z B J T Pi w (nI (at9 + 1)) sz (by omega) hO) (gV pw_777 pw_193 pw_194 pw_59 pw_126) hV_X10_kindAt qr16 7 hqr17 rfl rfl rfl (Nat.le_of_ble_eq_true rfl) dX8_beginsLocal_42 ⟨Nat.le_of_ble_eq_true rfl, Nat.le_of_ble_eq_true rfl⟩ ⟨Nat.le_of_ble_eq_true rfl, Nat.le_of_ble_eq_true rfl⟩ (fun v15 u13 H locs hw14 hP hD hS => ?_)
    obtain ⟨w, r18⟩ := u13
    obtain ⟨hw14, h19, h20, hO⟩ := hw14
    have h19 : r18 = 67 ∨ ∃ t : Nat, (nI (at9 + 1)) = nI t ∧ t < sz := h19
    have h20 : r18 = tkN ((B 7)) sz 67 (nI (at9 + 1)) := h20
    obtain rfl : v15 = some (.int r18) := hw14
    have hO : OKW G h0 a (upd (upd F 2 (nI sz)) 9 (nI at9)) R Z B J T Pi w := hO.to rfl
    refine W.widen (k := 0) (n := 0) (Nat.le_of_ble_eq_true rfl) (Nat.le_of_ble_eq_true rfl) ?_
    refine W.eq (g2 := F0 m 45 ls [.int r18]) rfl ?_
    refine lv_istore_n (lv' := [(1, .int r18), (0, .ref (a 3))]) hx hb dX8_beginsLocal_45 rfl hl (by decide) rfl (fun ls hl => ?_)
    refine lv_iload_n hx hb dX8_beginsLocal_46 rfl (lv_at hl 0 rfl) ?_
    refine lv_bipush (v := 65) hx hb dX8_beginsLocal_47 (by decide) ?_
    refine lv_icmp_eq (tgt := 76) hx hb dX8_beginsLocal_49 (by decide) (fun c21 => ?_) (fun c21 => ?_)
    · refine lv_iconst (v := 1) hx hb dX8_beginsLocal_76 (by decide) ?_
      refine lv_goto (tgt := 81) hx hb dX8_beginsLocal_77 (by decide) ?_
      have hz22 : 1 ≤ 1 := (by omega)
      have hO : OKW G h0 a (upd (upd F 2 (nI sz)) 9 (nI at9)) R Z B J T Pi w := hO.to rfl
      exact W.zret (v := 1) hx hb hr rfl (fun t99 ht99 hW99 => ⟨⟨_, (w, 1), rfl, ⟨rfl, hz22, hO⟩, by rw [ht99]; exact hP, hD⟩, hS.F ht99⟩) hS.2.2 dX8_beginsLocal_81
    · refine lv_iload_n hx hb dX8_beginsLocal_52 rfl (lv_at hl 0 rfl) ?_
      refine lv_bipush (v := 36) hx hb dX8_beginsLocal_53 (by decide) ?_
      refine lv_icmp_ne (tgt := 80) hx hb dX8_beginsLocal_55 (by decide) (fun c23 => ?_) (fun c23 => ?_)
      · refine lv_iconst (v := 0) hx hb dX8_beginsLocal_80 (by decide) ?_
        have hz24 : 0 ≤ 1 := (by omega)
        have hO : OKW G h0 a (upd (upd F 2 (nI sz)) 9 (nI at9)) R Z B J T Pi w := hO.to rfl
        exact W.zret (v := 0) hx hb hr rfl (fun t99 ht99 hW99 => ⟨⟨_, (w, 0), rfl, ⟨rfl, hz24, hO⟩, by rw [ht99]; exact hP, hD⟩, hS.F ht99⟩) hS.2.2 dX8_beginsLocal_81
      · refine lv_aload_n hx hb dX8_beginsLocal_58 rfl (lv_at hl 1 rfl) ?_
        refine c_get (v := .ref (a 1)) (C := RX8) (Tc := TX8) (N := 5) (ci := 5) hx hb hq pin_wsX80 hown hE hP hO 23 (sg_23 G h0 a _ _ _ _ _) rfl 0 (by decide) (hq _ pw_774) (fun _ h9 => h9) rfl dX8_beginsLocal_59 ?_
        refine lv_aload_n hx hb dX8_beginsLocal_62 rfl (lv_at hl 1 rfl) ?_
        refine c_get (v := .int (nI at9)) (C := RX8) (Tc := TX8) (N := 5) (ci := 5) hx hb hq pin_wsX80 hown hE hP hO 23 (sg_23 G h0 a _ _ _ _ _) rfl 2 (by decide) (hq _ pw_776) (fun _ h9 => h9) rfl dX8_beginsLocal_63 ?_
        refine lv_iconst (v := 2) hx hb dX8_beginsLocal_66 (by decide) ?_
        refine lv_iadd hx hb dX8_beginsLocal_67 ?_
        refine lv_topi (fun x25 e26 => ?_)
        obtain rfl : x25 = nI (at9 + 2) := e26.trans (nI_add (at9) (2))
        have hO : OKW G h0 a (upd (upd (upd F 2 (nI sz)) 9 (nI at9)) 2 (nI sz)) R Z B J T Pi w := hO.to rfl
        obtain ⟨_, qr30, hqr31⟩ := hO.2.1 2 _ (sg_2 G h0 a _ _ _ _ _)
        refine pc_V0 (G := G) (As := [.int (nI (at9 + 2))]) (rest := []) hx hb hml hown hq hE hX pX0_al hP hD hS hA hl.1 (K_kindX l G h0 a (upd (upd F 2 (nI sz)) 9 (nI at9)) R Z B J T Pi w (nI (at9 + 2)) sz (by omega) hO) (gV pw_777 pw_193 pw_194 pw_59 pw_126) hV_X10_kindAt qr30 7 hqr31 rfl rfl rfl (Nat.le_of_ble_eq_true rfl) dX8_beginsLocal_68 ⟨Nat.le_of_ble_eq_true rfl, Nat.le_of_ble_eq_true rfl⟩ ⟨Nat.le_of_ble_eq_true rfl, Nat.le_of_ble_eq_true rfl⟩ (fun v29 u27 H locs hw28 hP hD hS => ?_)
        obtain ⟨w, r32⟩ := u27
        obtain ⟨hw28, h33, h34, hO⟩ := hw28
        have h33 : r32 = 67 ∨ ∃ t : Nat, (nI (at9 + 2)) = nI t ∧ t < sz := h33
        have h34 : r32 = tkN ((B 7)) sz 67 (nI (at9 + 2)) := h34
        obtain rfl : v29 = some (.int r32) := hw28
        have hO : OKW G h0 a (upd (upd F 2 (nI sz)) 9 (nI at9)) R Z B J T Pi w := hO.to rfl
        refine W.widen (k := 0) (n := 0) (Nat.le_of_ble_eq_true rfl) (Nat.le_of_ble_eq_true rfl) ?_
        refine W.eq (g2 := F0 m 71 ls [.int r32]) rfl ?_
        refine lv_bipush (v := 37) hx hb dX8_beginsLocal_71 (by decide) ?_
        refine lv_icmp_ne (tgt := 80) hx hb dX8_beginsLocal_73 (by decide) (fun c35 => ?_) (fun c35 => ?_)
        · refine lv_iconst (v := 0) hx hb dX8_beginsLocal_80 (by decide) ?_
          have hz36 : 0 ≤ 1 := (by omega)
          have hO : OKW G h0 a (upd (upd F 2 (nI sz)) 9 (nI at9)) R Z B J T Pi w := hO.to rfl
          exact W.zret (v := 0) hx hb hr rfl (fun t99 ht99 hW99 => ⟨⟨_, (w, 0), rfl, ⟨rfl, hz36, hO⟩, by rw [ht99]; exact hP, hD⟩, hS.F ht99⟩) hS.2.2 dX8_beginsLocal_81
        · refine lv_iconst (v := 1) hx hb dX8_beginsLocal_76 (by decide) ?_
          refine lv_goto (tgt := 81) hx hb dX8_beginsLocal_77 (by decide) ?_
          have hz37 : 1 ≤ 1 := (by omega)
          have hO : OKW G h0 a (upd (upd F 2 (nI sz)) 9 (nI at9)) R Z B J T Pi w := hO.to rfl
          exact W.zret (v := 1) hx hb hr rfl (fun t99 ht99 hW99 => ⟨⟨_, (w, 1), rfl, ⟨rfl, hz37, hO⟩, by rw [ht99]; exact hP, hD⟩, hS.F ht99⟩) hS.2.2 dX8_beginsLocal_81
  · have n38 : r6 = 0 := (nI_eq (a := r6) (b := 0) (by omega) (by omega)).mp c9
    refine lv_aload_n hx hb dX8_beginsLocal_9 rfl (lv_at hl 0 rfl) ?_
    refine lv_bipush (v := 13) hx hb dX8_beginsLocal_10 (by decide) ?_
    have hO : OKW G h0 a (upd (upd (upd (upd F 2 (nI sz)) 9 (nI at9)) 2 (nI sz)) 9 (nI at9)) R Z B J T Pi w := hO.to rfl
    obtain ⟨_, qr42, hqr43⟩ := hO.2.1 23 _ (sg_23 G h0 a _ _ _ _ _)
    refine pc_V0 (G := G) (As := [.int 13]) (rest := []) hx hb hml hown hq hE hX pX0_al hP hD hS hA hl.1 (P_sees l G h0 a (upd (upd F 2 (nI sz)) 9 (nI at9)) R Z B J T Pi w 13 at9 sz (by omega) (by omega) hO) (gV pw_803 pw_804 pw_805 pw_796 pw_775) hV_X8_sees qr42 5 hqr43 rfl rfl rfl (Nat.le_of_ble_eq_true rfl) dX8_beginsLocal_12 ⟨Nat.le_of_ble_eq_true rfl, Nat.le_of_ble_eq_true rfl⟩ ⟨Nat.le_of_ble_eq_true rfl, Nat.le_of_ble_eq_true rfl⟩ (fun v41 u39 H locs hw40 hP hD hS => ?_)
    obtain ⟨w, r44⟩ := u39
    obtain ⟨hw40, h45, h46, hO⟩ := hw40
    have h45 : r44 ≤ 1 := h45
    have h46 : SeQ ((B 7)) sz at9 13 r44 := h46
    obtain rfl : v41 = some (.int (nI r44)) := hw40
    have hO : OKW G h0 a (upd (upd F 2 (nI sz)) 9 (nI at9)) R Z B J T Pi w := hO.to rfl
    refine W.widen (k := 0) (n := 0) (Nat.le_of_ble_eq_true rfl) (Nat.le_of_ble_eq_true rfl) ?_
    refine W.eq (g2 := F0 m 15 ls [.int (nI r44)]) rfl ?_
    refine lv_if_ne (tgt := 26) hx hb dX8_beginsLocal_15 (by decide) (fun c47 => ?_) (fun c47 => ?_)
    · have n48 : ¬ (r44 = 0) := fun h9 => c47 ((nI_eq (a := r44) (b := 0) (by omega) (by omega)).mpr h9)
      refine lv_iconst (v := 1) hx hb dX8_beginsLocal_26 (by decide) ?_
      refine lv_goto (tgt := 31) hx hb dX8_beginsLocal_27 (by decide) ?_
      have hz49 : 1 ≤ 1 := (by omega)
      have hO : OKW G h0 a (upd (upd F 2 (nI sz)) 9 (nI at9)) R Z B J T Pi w := hO.to rfl
      exact W.zret (v := 1) hx hb hr rfl (fun t99 ht99 hW99 => ⟨⟨_, (w, 1), rfl, ⟨rfl, hz49, hO⟩, by rw [ht99]; exact hP, hD⟩, hS.F ht99⟩) hS.2.2 dX8_beginsLocal_31
    · have n50 : r44 = 0 := (nI_eq (a := r44) (b := 0) (by omega) (by omega)).mp c47
      refine lv_aload_n hx hb dX8_beginsLocal_18 rfl (lv_at hl 0 rfl) ?_
      refine lv_iconst (v := 1) hx hb dX8_beginsLocal_19 (by decide) ?_
      have hO : OKW G h0 a (upd (upd (upd (upd F 2 (nI sz)) 9 (nI at9)) 2 (nI sz)) 9 (nI at9)) R Z B J T Pi w := hO.to rfl
      obtain ⟨_, qr54, hqr55⟩ := hO.2.1 23 _ (sg_23 G h0 a _ _ _ _ _)
      refine pc_V0 (G := G) (As := [.int 1]) (rest := []) hx hb hml hown hq hE hX pX0_al hP hD hS hA hl.1 (P_sees l G h0 a (upd (upd F 2 (nI sz)) 9 (nI at9)) R Z B J T Pi w 1 at9 sz (by omega) (by omega) hO) (gV pw_803 pw_804 pw_805 pw_796 pw_775) hV_X8_sees qr54 5 hqr55 rfl rfl rfl (Nat.le_of_ble_eq_true rfl) dX8_beginsLocal_20 ⟨Nat.le_of_ble_eq_true rfl, Nat.le_of_ble_eq_true rfl⟩ ⟨Nat.le_of_ble_eq_true rfl, Nat.le_of_ble_eq_true rfl⟩ (fun v53 u51 H locs hw52 hP hD hS => ?_)
      obtain ⟨w, r56⟩ := u51
      obtain ⟨hw52, h57, h58, hO⟩ := hw52
      have h57 : r56 ≤ 1 := h57
      have h58 : SeQ ((B 7)) sz at9 1 r56 := h58
      obtain rfl : v53 = some (.int (nI r56)) := hw52
      have hO : OKW G h0 a (upd (upd F 2 (nI sz)) 9 (nI at9)) R Z B J T Pi w := hO.to rfl
      refine W.widen (k := 0) (n := 0) (Nat.le_of_ble_eq_true rfl) (Nat.le_of_ble_eq_true rfl) ?_
      refine W.eq (g2 := F0 m 23 ls [.int (nI r56)]) rfl ?_
      refine lv_if_eq (tgt := 30) hx hb dX8_beginsLocal_23 (by decide) (fun c59 => ?_) (fun c59 => ?_)
      · have n60 : r56 = 0 := (nI_eq (a := r56) (b := 0) (by omega) (by omega)).mp c59
        refine lv_iconst (v := 0) hx hb dX8_beginsLocal_30 (by decide) ?_
        have hz61 : 0 ≤ 1 := (by omega)
        have hO : OKW G h0 a (upd (upd F 2 (nI sz)) 9 (nI at9)) R Z B J T Pi w := hO.to rfl
        exact W.zret (v := 0) hx hb hr rfl (fun t99 ht99 hW99 => ⟨⟨_, (w, 0), rfl, ⟨rfl, hz61, hO⟩, by rw [ht99]; exact hP, hD⟩, hS.F ht99⟩) hS.2.2 dX8_beginsLocal_31
      · have n62 : ¬ (r56 = 0) := fun h9 => c59 ((nI_eq (a := r56) (b := 0) (by omega) (by omega)).mpr h9)
        refine lv_iconst (v := 1) hx hb dX8_beginsLocal_26 (by decide) ?_
        refine lv_goto (tgt := 31) hx hb dX8_beginsLocal_27 (by decide) ?_
        have hz63 : 1 ≤ 1 := (by omega)
        have hO : OKW G h0 a (upd (upd F 2 (nI sz)) 9 (nI at9)) R Z B J T Pi w := hO.to rfl
        exact W.zret (v := 1) hx hb hr rfl (fun t99 ht99 hW99 => ⟨⟨_, (w, 1), rfl, ⟨rfl, hz63, hO⟩, by rw [ht99]; exact hP, hD⟩, hS.F ht99⟩) hS.2.2 dX8_beginsLocal_31
theorem dX8_beginsStatement_0 : decode cX8_beginsStatement 0 = .ok (.aload_n 0, 1) := by decide +kernel
theorem dX8_beginsStatement_1 : decode cX8_beginsStatement 1 = .ok (.getfield 7, 3) := by decide +kernel
theorem dX8_beginsStatement_4 : decode cX8_beginsStatement 4 = .ok (.aload_n 0, 1) := by decide +kernel
theorem dX8_beginsStatement_5 : decode cX8_beginsStatement 5 = .ok (.getfield 17, 3) := by decide +kernel
theorem dX8_beginsStatement_8 : decode cX8_beginsStatement 8 = .ok (.invokevirtual 57, 3) := by decide +kernel
theorem dX8_beginsStatement_11 : decode cX8_beginsStatement 11 = .ok (.tableswitch 163 2 38 #[161, 163, 163, 161, 163, 163, 163, 163, 161, 161, 163, 163, 163, 163, 163, 163, 163, 161, 163, 161, 163, 163, 161, 163, 161, 163, 161, 163, 163, 163, 161, 163, 163, 163, 163, 163, 161], 161) := by decide +kernel
theorem dX8_beginsStatement_172 : decode cX8_beginsStatement 172 = .ok (.iconst 1, 1) := by decide +kernel
theorem dX8_beginsStatement_173 : decode cX8_beginsStatement 173 = .ok (.ireturn, 1) := by decide +kernel
theorem dX8_beginsStatement_174 : decode cX8_beginsStatement 174 = .ok (.aload_n 0, 1) := by decide +kernel
theorem dX8_beginsStatement_175 : decode cX8_beginsStatement 175 = .ok (.invokevirtual 193, 3) := by decide +kernel
theorem dX8_beginsStatement_178 : decode cX8_beginsStatement 178 = .ok (.ireturn, 1) := by decide +kernel
theorem hV_X8_beginsChain : yX8_beginsChain.cls = RX8 ∧ yX8_beginsChain.cls ≠ "java/lang/invoke/MethodHandle" ∧ yX8_beginsChain.cls ≠ "java/lang/invoke/VarHandle" ∧ (parseMethodDescriptor yX8_beginsChain.desc).map (fun d => d.parameters.length) = some 0 := by decide +kernel
set_option maxHeartbeats 6000000 in
set_option maxRecDepth 100000 in
theorem P_beginsStatement (l : Launch) (G : pT) (h0 : Nat) (a : Nat → Nat) (F : Nat → Int32) (R : Nat → Value) (Z : Int64) (B : Nat → Nat → Int32) (J : Nat → Nat → Int64) (T : Nat → Nat) (Pi : Nat → va_E → Prop) (w : va_W) (at9 : Nat) (sz : Nat) (hsz : sz ≤ 5000) (hat : at9 ≤ sz) (hO : OKW G h0 a (upd (upd F 2 (nI sz)) 9 (nI at9)) R Z B J T Pi w) : PM l G pX0 yX8_beginsStatement cX8_beginsStatement 1 (some .boolean) ({ frames := 4, cells := 0, slots := 0, locals := 101 }) [.ref (a 3)] w (fun (v : Option Value) (u : va_W × (Nat)) => v = some (.int (nI u.2)) ∧ (u.2 ≤ 1) ∧ (OKW G h0 a (upd (upd F 2 (nI sz)) 9 (nI at9)) R Z B J T Pi u.1)) (fun u => u.1) := by
  intro sz
  refine Met.ofW (cc := cX8_beginsStatement) (maxL := 1) (ret := (some .boolean)) (by decide) rfl ?_
  intro p e s m args below meth c s₁ B9 hml hv
  obtain ⟨rfl, hsz, hP, hD0, hE, hX⟩ := hv
  have hx := B9.exec
  have hb := B9.bytes
  have hr := B9.returns
  have hts := atoms_spec (ws := Cond.code yX8_beginsStatement cX8_beginsStatement 1 (some .boolean) :: pw) B9.pre
  have hq : ∀ w ∈ pw, w.before _ s = true := fun w h => hts w (List.mem_cons_of_mem _ h)
  have hown : s.vm.findClass RX8 = some m.cls := findClass_of_methodNamed B9.named
  have hlocks := B9.notSynchronized
  subst hsz
  have hD := hD0.self (sz := s.heap.size)
  have hA : ∀ q : Nat, s.heap.size ≤ q → va_A w s.heap.size q := fun q h => Or.inr h
  generalize va_A w s.heap.size = A at hD hE hA ⊢
  have hS : va_S A s.heap s.heap [] := va_S.rf
  have hl := lv_entry ([.ref (a 3)]) (n := 1) (Nat.le_of_ble_eq_true rfl)
  rw [lg_entry_eq]
  generalize (lg_sl ([.ref (a 3)]) ++ List.replicate (1 - (lg_sl ([.ref (a 3)])).length) Slot.unset).toArray = ls at hl ⊢
  have hl : lv_has ls 1 [(0, .ref (a 3))] := hl
  refine lv_aload_n hx hb dX8_beginsStatement_0 rfl (lv_at hl 0 rfl) ?_
  refine c_get (v := .ref (a 1)) (C := RX8) (Tc := TX8) (N := 5) (ci := 5) hx hb hq pin_wsX80 hown hE hP hO 23 (sg_23 G h0 a _ _ _ _ _) rfl 0 (by decide) (hq _ pw_774) (fun _ h9 => h9) rfl dX8_beginsStatement_1 ?_
  refine lv_aload_n hx hb dX8_beginsStatement_4 rfl (lv_at hl 0 rfl) ?_
  refine c_get (v := .int (nI at9)) (C := RX8) (Tc := TX8) (N := 5) (ci := 5) hx hb hq pin_wsX80 hown hE hP hO 23 (sg_23 G h0 a _ _ _ _ _) rfl 2 (by decide) (hq _ pw_776) (fun _ h9 => h9) rfl dX8_beginsStatement_5 ?_
  have hO : OKW G h0 a (upd (upd (upd F 2 (nI sz)) 9 (nI at9)) 2 (nI sz)) R Z B J T Pi w := hO.to rfl
  obtain ⟨_, qr4, hqr5⟩ := hO.2.1 2 _ (sg_2 G h0 a _ _ _ _ _)
  refine pc_V0 (G := G) (As := [.int (nI at9)]) (rest := []) hx hb hml hown hq hE hX pX0_al hP hD hS hA hl.1 (K_kindX l G h0 a (upd (upd F 2 (nI sz)) 9 (nI at9)) R Z B J T Pi w (nI at9) sz (by omega) hO) (gV pw_777 pw_193 pw_194 pw_59 pw_126) hV_X10_kindAt qr4 7 hqr5 rfl rfl rfl (Nat.le_of_ble_eq_true rfl) dX8_beginsStatement_8 ⟨Nat.le_of_ble_eq_true rfl, Nat.le_of_ble_eq_true rfl⟩ ⟨Nat.le_of_ble_eq_true rfl, Nat.le_of_ble_eq_true rfl⟩ (fun v3 u1 H locs hw2 hP hD hS => ?_)
  obtain ⟨w, r6⟩ := u1
  obtain ⟨hw2, h7, h8, hO⟩ := hw2
  have h7 : r6 = 67 ∨ ∃ t : Nat, (nI at9) = nI t ∧ t < sz := h7
  have h8 : r6 = tkN ((B 7)) sz 67 (nI at9) := h8
  obtain rfl : v3 = some (.int r6) := hw2
  have hO : OKW G h0 a (upd (upd F 2 (nI sz)) 9 (nI at9)) R Z B J T Pi w := hO.to rfl
  refine W.widen (k := 0) (n := 0) (Nat.le_of_ble_eq_true rfl) (Nat.le_of_ble_eq_true rfl) ?_
  refine W.eq (g2 := F0 m 11 ls [.int r6]) rfl ?_
  by_cases h9 : r6 = 2
  · subst h9
    refine lv_tableIn (tgt := 172) (off := 161) hx hb dX8_beginsStatement_11 (by decide) (by decide) (by decide) (by decide) ?_
    refine lv_iconst (v := 1) hx hb dX8_beginsStatement_172 (by decide) ?_
    have hz10 : 1 ≤ 1 := (by omega)
    have hO : OKW G h0 a (upd (upd F 2 (nI sz)) 9 (nI at9)) R Z B J T Pi w := hO.to rfl
    exact W.zret (v := 1) hx hb hr rfl (fun t99 ht99 hW99 => ⟨⟨_, (w, 1), rfl, ⟨rfl, hz10, hO⟩, by rw [ht99]; exact hP, hD⟩, hS.F ht99⟩) hS.2.2 dX8_beginsStatement_173
  by_cases h11 : r6 = 3
  · subst h11
    refine lv_tableIn (tgt := 174) (off := 163) hx hb dX8_beginsStatement_11 (by decide) (by decide) (by decide) (by decide) ?_
    refine lv_aload_n hx hb dX8_beginsStatement_174 rfl (lv_at hl 0 rfl) ?_
    have hO : OKW G h0 a (upd (upd (upd (upd F 2 (nI sz)) 9 (nI at9)) 2 (nI sz)) 9 (nI at9)) R Z B J T Pi w := hO.to rfl
    obtain ⟨_, qr15, hqr16⟩ := hO.2.1 23 _ (sg_23 G h0 a _ _ _ _ _)
    refine pc_V0 (G := G) (As := []) (rest := []) hx hb hml hown hq hE hX pX0_al hP hD hS hA hl.1 (P_beginsChain l G h0 a (upd (upd F 2 (nI sz)) 9 (nI at9)) R Z B J T Pi w at9 sz (by omega) (by omega) hO) (gV pw_998 pw_999 pw_1000 pw_796 pw_996) hV_X8_beginsChain qr15 5 hqr16 rfl rfl rfl (Nat.le_of_ble_eq_true rfl) dX8_beginsStatement_175 ⟨Nat.le_of_ble_eq_true rfl, Nat.le_of_ble_eq_true rfl⟩ ⟨Nat.le_of_ble_eq_true rfl, Nat.le_of_ble_eq_true rfl⟩ (fun v14 u12 H locs hw13 hP hD hS => ?_)
    obtain ⟨w, r17⟩ := u12
    obtain ⟨hw13, h18, hO⟩ := hw13
    have h18 : r17 ≤ 1 := h18
    obtain rfl : v14 = some (.int (nI r17)) := hw13
    have hO : OKW G h0 a (upd (upd F 2 (nI sz)) 9 (nI at9)) R Z B J T Pi w := hO.to rfl
    refine W.widen (k := 0) (n := 0) (Nat.le_of_ble_eq_true rfl) (Nat.le_of_ble_eq_true rfl) ?_
    refine W.eq (g2 := F0 m 178 ls [.int (nI r17)]) rfl ?_
    have hz19 : r17 ≤ 1 := (by omega)
    have hO : OKW G h0 a (upd (upd F 2 (nI sz)) 9 (nI at9)) R Z B J T Pi w := hO.to rfl
    exact W.zret (v := (nI r17)) hx hb hr (nI_nar (by omega)) (fun t99 ht99 hW99 => ⟨⟨_, (w, r17), rfl, ⟨rfl, hz19, hO⟩, by rw [ht99]; exact hP, hD⟩, hS.F ht99⟩) hS.2.2 dX8_beginsStatement_178
  by_cases h20 : r6 = 4
  · subst h20
    refine lv_tableIn (tgt := 174) (off := 163) hx hb dX8_beginsStatement_11 (by decide) (by decide) (by decide) (by decide) ?_
    refine lv_aload_n hx hb dX8_beginsStatement_174 rfl (lv_at hl 0 rfl) ?_
    have hO : OKW G h0 a (upd (upd (upd (upd F 2 (nI sz)) 9 (nI at9)) 2 (nI sz)) 9 (nI at9)) R Z B J T Pi w := hO.to rfl
    obtain ⟨_, qr24, hqr25⟩ := hO.2.1 23 _ (sg_23 G h0 a _ _ _ _ _)
    refine pc_V0 (G := G) (As := []) (rest := []) hx hb hml hown hq hE hX pX0_al hP hD hS hA hl.1 (P_beginsChain l G h0 a (upd (upd F 2 (nI sz)) 9 (nI at9)) R Z B J T Pi w at9 sz (by omega) (by omega) hO) (gV pw_998 pw_999 pw_1000 pw_796 pw_996) hV_X8_beginsChain qr24 5 hqr25 rfl rfl rfl (Nat.le_of_ble_eq_true rfl) dX8_beginsStatement_175 ⟨Nat.le_of_ble_eq_true rfl, Nat.le_of_ble_eq_true rfl⟩ ⟨Nat.le_of_ble_eq_true rfl, Nat.le_of_ble_eq_true rfl⟩ (fun v23 u21 H locs hw22 hP hD hS => ?_)
    obtain ⟨w, r26⟩ := u21
    obtain ⟨hw22, h27, hO⟩ := hw22
    have h27 : r26 ≤ 1 := h27
    obtain rfl : v23 = some (.int (nI r26)) := hw22
    have hO : OKW G h0 a (upd (upd F 2 (nI sz)) 9 (nI at9)) R Z B J T Pi w := hO.to rfl
    refine W.widen (k := 0) (n := 0) (Nat.le_of_ble_eq_true rfl) (Nat.le_of_ble_eq_true rfl) ?_
    refine W.eq (g2 := F0 m 178 ls [.int (nI r26)]) rfl ?_
    have hz28 : r26 ≤ 1 := (by omega)
    have hO : OKW G h0 a (upd (upd F 2 (nI sz)) 9 (nI at9)) R Z B J T Pi w := hO.to rfl
    exact W.zret (v := (nI r26)) hx hb hr (nI_nar (by omega)) (fun t99 ht99 hW99 => ⟨⟨_, (w, r26), rfl, ⟨rfl, hz28, hO⟩, by rw [ht99]; exact hP, hD⟩, hS.F ht99⟩) hS.2.2 dX8_beginsStatement_178
  by_cases h29 : r6 = 5
  · subst h29
    refine lv_tableIn (tgt := 172) (off := 161) hx hb dX8_beginsStatement_11 (by decide) (by decide) (by decide) (by decide) ?_
    refine lv_iconst (v := 1) hx hb dX8_beginsStatement_172 (by decide) ?_
    have hz30 : 1 ≤ 1 := (by omega)
    have hO : OKW G h0 a (upd (upd F 2 (nI sz)) 9 (nI at9)) R Z B J T Pi w := hO.to rfl
    exact W.zret (v := 1) hx hb hr rfl (fun t99 ht99 hW99 => ⟨⟨_, (w, 1), rfl, ⟨rfl, hz30, hO⟩, by rw [ht99]; exact hP, hD⟩, hS.F ht99⟩) hS.2.2 dX8_beginsStatement_173
  by_cases h31 : r6 = 6
  · subst h31
    refine lv_tableIn (tgt := 174) (off := 163) hx hb dX8_beginsStatement_11 (by decide) (by decide) (by decide) (by decide) ?_
    refine lv_aload_n hx hb dX8_beginsStatement_174 rfl (lv_at hl 0 rfl) ?_
    have hO : OKW G h0 a (upd (upd (upd (upd F 2 (nI sz)) 9 (nI at9)) 2 (nI sz)) 9 (nI at9)) R Z B J T Pi w := hO.to rfl
    obtain ⟨_, qr35, hqr36⟩ := hO.2.1 23 _ (sg_23 G h0 a _ _ _ _ _)
    refine pc_V0 (G := G) (As := []) (rest := []) hx hb hml hown hq hE hX pX0_al hP hD hS hA hl.1 (P_beginsChain l G h0 a (upd (upd F 2 (nI sz)) 9 (nI at9)) R Z B J T Pi w at9 sz (by omega) (by omega) hO) (gV pw_998 pw_999 pw_1000 pw_796 pw_996) hV_X8_beginsChain qr35 5 hqr36 rfl rfl rfl (Nat.le_of_ble_eq_true rfl) dX8_beginsStatement_175 ⟨Nat.le_of_ble_eq_true rfl, Nat.le_of_ble_eq_true rfl⟩ ⟨Nat.le_of_ble_eq_true rfl, Nat.le_of_ble_eq_true rfl⟩ (fun v34 u32 H locs hw33 hP hD hS => ?_)
    obtain ⟨w, r37⟩ := u32
    obtain ⟨hw33, h38, hO⟩ := hw33
    have h38 : r37 ≤ 1 := h38
    obtain rfl : v34 = some (.int (nI r37)) := hw33
    have hO : OKW G h0 a (upd (upd F 2 (nI sz)) 9 (nI at9)) R Z B J T Pi w := hO.to rfl
    refine W.widen (k := 0) (n := 0) (Nat.le_of_ble_eq_true rfl) (Nat.le_of_ble_eq_true rfl) ?_
    refine W.eq (g2 := F0 m 178 ls [.int (nI r37)]) rfl ?_
    have hz39 : r37 ≤ 1 := (by omega)
    have hO : OKW G h0 a (upd (upd F 2 (nI sz)) 9 (nI at9)) R Z B J T Pi w := hO.to rfl
    exact W.zret (v := (nI r37)) hx hb hr (nI_nar (by omega)) (fun t99 ht99 hW99 => ⟨⟨_, (w, r37), rfl, ⟨rfl, hz39, hO⟩, by rw [ht99]; exact hP, hD⟩, hS.F ht99⟩) hS.2.2 dX8_beginsStatement_178
  by_cases h40 : r6 = 7
  · subst h40
    refine lv_tableIn (tgt := 174) (off := 163) hx hb dX8_beginsStatement_11 (by decide) (by decide) (by decide) (by decide) ?_
    refine lv_aload_n hx hb dX8_beginsStatement_174 rfl (lv_at hl 0 rfl) ?_
    have hO : OKW G h0 a (upd (upd (upd (upd F 2 (nI sz)) 9 (nI at9)) 2 (nI sz)) 9 (nI at9)) R Z B J T Pi w := hO.to rfl
    obtain ⟨_, qr44, hqr45⟩ := hO.2.1 23 _ (sg_23 G h0 a _ _ _ _ _)
    refine pc_V0 (G := G) (As := []) (rest := []) hx hb hml hown hq hE hX pX0_al hP hD hS hA hl.1 (P_beginsChain l G h0 a (upd (upd F 2 (nI sz)) 9 (nI at9)) R Z B J T Pi w at9 sz (by omega) (by omega) hO) (gV pw_998 pw_999 pw_1000 pw_796 pw_996) hV_X8_beginsChain qr44 5 hqr45 rfl rfl rfl (Nat.le_of_ble_eq_true rfl) dX8_beginsStatement_175 ⟨Nat.le_of_ble_eq_true rfl, Nat.le_of_ble_eq_true rfl⟩ ⟨Nat.le_of_ble_eq_true rfl, Nat.le_of_ble_eq_true rfl⟩ (fun v43 u41 H locs hw42 hP hD hS => ?_)
    obtain ⟨w, r46⟩ := u41
    obtain ⟨hw42, h47, hO⟩ := hw42
    have h47 : r46 ≤ 1 := h47
    obtain rfl : v43 = some (.int (nI r46)) := hw42
    have hO : OKW G h0 a (upd (upd F 2 (nI sz)) 9 (nI at9)) R Z B J T Pi w := hO.to rfl
    refine W.widen (k := 0) (n := 0) (Nat.le_of_ble_eq_true rfl) (Nat.le_of_ble_eq_true rfl) ?_
    refine W.eq (g2 := F0 m 178 ls [.int (nI r46)]) rfl ?_
    have hz48 : r46 ≤ 1 := (by omega)
    have hO : OKW G h0 a (upd (upd F 2 (nI sz)) 9 (nI at9)) R Z B J T Pi w := hO.to rfl
    exact W.zret (v := (nI r46)) hx hb hr (nI_nar (by omega)) (fun t99 ht99 hW99 => ⟨⟨_, (w, r46), rfl, ⟨rfl, hz48, hO⟩, by rw [ht99]; exact hP, hD⟩, hS.F ht99⟩) hS.2.2 dX8_beginsStatement_178
  by_cases h49 : r6 = 8
  · subst h49
    refine lv_tableIn (tgt := 174) (off := 163) hx hb dX8_beginsStatement_11 (by decide) (by decide) (by decide) (by decide) ?_
    refine lv_aload_n hx hb dX8_beginsStatement_174 rfl (lv_at hl 0 rfl) ?_
    have hO : OKW G h0 a (upd (upd (upd (upd F 2 (nI sz)) 9 (nI at9)) 2 (nI sz)) 9 (nI at9)) R Z B J T Pi w := hO.to rfl
    obtain ⟨_, qr53, hqr54⟩ := hO.2.1 23 _ (sg_23 G h0 a _ _ _ _ _)
    refine pc_V0 (G := G) (As := []) (rest := []) hx hb hml hown hq hE hX pX0_al hP hD hS hA hl.1 (P_beginsChain l G h0 a (upd (upd F 2 (nI sz)) 9 (nI at9)) R Z B J T Pi w at9 sz (by omega) (by omega) hO) (gV pw_998 pw_999 pw_1000 pw_796 pw_996) hV_X8_beginsChain qr53 5 hqr54 rfl rfl rfl (Nat.le_of_ble_eq_true rfl) dX8_beginsStatement_175 ⟨Nat.le_of_ble_eq_true rfl, Nat.le_of_ble_eq_true rfl⟩ ⟨Nat.le_of_ble_eq_true rfl, Nat.le_of_ble_eq_true rfl⟩ (fun v52 u50 H locs hw51 hP hD hS => ?_)
    obtain ⟨w, r55⟩ := u50
    obtain ⟨hw51, h56, hO⟩ := hw51
    have h56 : r55 ≤ 1 := h56
    obtain rfl : v52 = some (.int (nI r55)) := hw51
    have hO : OKW G h0 a (upd (upd F 2 (nI sz)) 9 (nI at9)) R Z B J T Pi w := hO.to rfl
    refine W.widen (k := 0) (n := 0) (Nat.le_of_ble_eq_true rfl) (Nat.le_of_ble_eq_true rfl) ?_
    refine W.eq (g2 := F0 m 178 ls [.int (nI r55)]) rfl ?_
    have hz57 : r55 ≤ 1 := (by omega)
    have hO : OKW G h0 a (upd (upd F 2 (nI sz)) 9 (nI at9)) R Z B J T Pi w := hO.to rfl
    exact W.zret (v := (nI r55)) hx hb hr (nI_nar (by omega)) (fun t99 ht99 hW99 => ⟨⟨_, (w, r55), rfl, ⟨rfl, hz57, hO⟩, by rw [ht99]; exact hP, hD⟩, hS.F ht99⟩) hS.2.2 dX8_beginsStatement_178
  by_cases h58 : r6 = 9
  · subst h58
    refine lv_tableIn (tgt := 174) (off := 163) hx hb dX8_beginsStatement_11 (by decide) (by decide) (by decide) (by decide) ?_
    refine lv_aload_n hx hb dX8_beginsStatement_174 rfl (lv_at hl 0 rfl) ?_
    have hO : OKW G h0 a (upd (upd (upd (upd F 2 (nI sz)) 9 (nI at9)) 2 (nI sz)) 9 (nI at9)) R Z B J T Pi w := hO.to rfl
    obtain ⟨_, qr62, hqr63⟩ := hO.2.1 23 _ (sg_23 G h0 a _ _ _ _ _)
    refine pc_V0 (G := G) (As := []) (rest := []) hx hb hml hown hq hE hX pX0_al hP hD hS hA hl.1 (P_beginsChain l G h0 a (upd (upd F 2 (nI sz)) 9 (nI at9)) R Z B J T Pi w at9 sz (by omega) (by omega) hO) (gV pw_998 pw_999 pw_1000 pw_796 pw_996) hV_X8_beginsChain qr62 5 hqr63 rfl rfl rfl (Nat.le_of_ble_eq_true rfl) dX8_beginsStatement_175 ⟨Nat.le_of_ble_eq_true rfl, Nat.le_of_ble_eq_true rfl⟩ ⟨Nat.le_of_ble_eq_true rfl, Nat.le_of_ble_eq_true rfl⟩ (fun v61 u59 H locs hw60 hP hD hS => ?_)
    obtain ⟨w, r64⟩ := u59
    obtain ⟨hw60, h65, hO⟩ := hw60
    have h65 : r64 ≤ 1 := h65
    obtain rfl : v61 = some (.int (nI r64)) := hw60
    have hO : OKW G h0 a (upd (upd F 2 (nI sz)) 9 (nI at9)) R Z B J T Pi w := hO.to rfl
    refine W.widen (k := 0) (n := 0) (Nat.le_of_ble_eq_true rfl) (Nat.le_of_ble_eq_true rfl) ?_
    refine W.eq (g2 := F0 m 178 ls [.int (nI r64)]) rfl ?_
    have hz66 : r64 ≤ 1 := (by omega)
    have hO : OKW G h0 a (upd (upd F 2 (nI sz)) 9 (nI at9)) R Z B J T Pi w := hO.to rfl
    exact W.zret (v := (nI r64)) hx hb hr (nI_nar (by omega)) (fun t99 ht99 hW99 => ⟨⟨_, (w, r64), rfl, ⟨rfl, hz66, hO⟩, by rw [ht99]; exact hP, hD⟩, hS.F ht99⟩) hS.2.2 dX8_beginsStatement_178
  by_cases h67 : r6 = 10
  · subst h67
    refine lv_tableIn (tgt := 172) (off := 161) hx hb dX8_beginsStatement_11 (by decide) (by decide) (by decide) (by decide) ?_
    refine lv_iconst (v := 1) hx hb dX8_beginsStatement_172 (by decide) ?_
    have hz68 : 1 ≤ 1 := (by omega)
    have hO : OKW G h0 a (upd (upd F 2 (nI sz)) 9 (nI at9)) R Z B J T Pi w := hO.to rfl
    exact W.zret (v := 1) hx hb hr rfl (fun t99 ht99 hW99 => ⟨⟨_, (w, 1), rfl, ⟨rfl, hz68, hO⟩, by rw [ht99]; exact hP, hD⟩, hS.F ht99⟩) hS.2.2 dX8_beginsStatement_173
  by_cases h69 : r6 = 11
  · subst h69
    refine lv_tableIn (tgt := 172) (off := 161) hx hb dX8_beginsStatement_11 (by decide) (by decide) (by decide) (by decide) ?_
    refine lv_iconst (v := 1) hx hb dX8_beginsStatement_172 (by decide) ?_
    have hz70 : 1 ≤ 1 := (by omega)
    have hO : OKW G h0 a (upd (upd F 2 (nI sz)) 9 (nI at9)) R Z B J T Pi w := hO.to rfl
    exact W.zret (v := 1) hx hb hr rfl (fun t99 ht99 hW99 => ⟨⟨_, (w, 1), rfl, ⟨rfl, hz70, hO⟩, by rw [ht99]; exact hP, hD⟩, hS.F ht99⟩) hS.2.2 dX8_beginsStatement_173
  by_cases h71 : r6 = 12
  · subst h71
    refine lv_tableIn (tgt := 174) (off := 163) hx hb dX8_beginsStatement_11 (by decide) (by decide) (by decide) (by decide) ?_
    refine lv_aload_n hx hb dX8_beginsStatement_174 rfl (lv_at hl 0 rfl) ?_
    have hO : OKW G h0 a (upd (upd (upd (upd F 2 (nI sz)) 9 (nI at9)) 2 (nI sz)) 9 (nI at9)) R Z B J T Pi w := hO.to rfl
    obtain ⟨_, qr75, hqr76⟩ := hO.2.1 23 _ (sg_23 G h0 a _ _ _ _ _)
    refine pc_V0 (G := G) (As := []) (rest := []) hx hb hml hown hq hE hX pX0_al hP hD hS hA hl.1 (P_beginsChain l G h0 a (upd (upd F 2 (nI sz)) 9 (nI at9)) R Z B J T Pi w at9 sz (by omega) (by omega) hO) (gV pw_998 pw_999 pw_1000 pw_796 pw_996) hV_X8_beginsChain qr75 5 hqr76 rfl rfl rfl (Nat.le_of_ble_eq_true rfl) dX8_beginsStatement_175 ⟨Nat.le_of_ble_eq_true rfl, Nat.le_of_ble_eq_true rfl⟩ ⟨Nat.le_of_ble_eq_true rfl, Nat.le_of_ble_eq_true rfl⟩ (fun v74 u72 H locs hw73 hP hD hS => ?_)
    obtain ⟨w, r77⟩ := u72
    obtain ⟨hw73, h78, hO⟩ := hw73
    have h78 : r77 ≤ 1 := h78
    obtain rfl : v74 = some (.int (nI r77)) := hw73
    have hO : OKW G h0 a (upd (upd F 2 (nI sz)) 9 (nI at9)) R Z B J T Pi w := hO.to rfl
    refine W.widen (k := 0) (n := 0) (Nat.le_of_ble_eq_true rfl) (Nat.le_of_ble_eq_true rfl) ?_
    refine W.eq (g2 := F0 m 178 ls [.int (nI r77)]) rfl ?_
    have hz79 : r77 ≤ 1 := (by omega)
    have hO : OKW G h0 a (upd (upd F 2 (nI sz)) 9 (nI at9)) R Z B J T Pi w := hO.to rfl
    exact W.zret (v := (nI r77)) hx hb hr (nI_nar (by omega)) (fun t99 ht99 hW99 => ⟨⟨_, (w, r77), rfl, ⟨rfl, hz79, hO⟩, by rw [ht99]; exact hP, hD⟩, hS.F ht99⟩) hS.2.2 dX8_beginsStatement_178
  by_cases h80 : r6 = 13
  · subst h80
    refine lv_tableIn (tgt := 174) (off := 163) hx hb dX8_beginsStatement_11 (by decide) (by decide) (by decide) (by decide) ?_
    refine lv_aload_n hx hb dX8_beginsStatement_174 rfl (lv_at hl 0 rfl) ?_
    have hO : OKW G h0 a (upd (upd (upd (upd F 2 (nI sz)) 9 (nI at9)) 2 (nI sz)) 9 (nI at9)) R Z B J T Pi w := hO.to rfl
    obtain ⟨_, qr84, hqr85⟩ := hO.2.1 23 _ (sg_23 G h0 a _ _ _ _ _)
    refine pc_V0 (G := G) (As := []) (rest := []) hx hb hml hown hq hE hX pX0_al hP hD hS hA hl.1 (P_beginsChain l G h0 a (upd (upd F 2 (nI sz)) 9 (nI at9)) R Z B J T Pi w at9 sz (by omega) (by omega) hO) (gV pw_998 pw_999 pw_1000 pw_796 pw_996) hV_X8_beginsChain qr84 5 hqr85 rfl rfl rfl (Nat.le_of_ble_eq_true rfl) dX8_beginsStatement_175 ⟨Nat.le_of_ble_eq_true rfl, Nat.le_of_ble_eq_true rfl⟩ ⟨Nat.le_of_ble_eq_true rfl, Nat.le_of_ble_eq_true rfl⟩ (fun v83 u81 H locs hw82 hP hD hS => ?_)
    obtain ⟨w, r86⟩ := u81
    obtain ⟨hw82, h87, hO⟩ := hw82
    have h87 : r86 ≤ 1 := h87
    obtain rfl : v83 = some (.int (nI r86)) := hw82
    have hO : OKW G h0 a (upd (upd F 2 (nI sz)) 9 (nI at9)) R Z B J T Pi w := hO.to rfl
    refine W.widen (k := 0) (n := 0) (Nat.le_of_ble_eq_true rfl) (Nat.le_of_ble_eq_true rfl) ?_
    refine W.eq (g2 := F0 m 178 ls [.int (nI r86)]) rfl ?_
    have hz88 : r86 ≤ 1 := (by omega)
    have hO : OKW G h0 a (upd (upd F 2 (nI sz)) 9 (nI at9)) R Z B J T Pi w := hO.to rfl
    exact W.zret (v := (nI r86)) hx hb hr (nI_nar (by omega)) (fun t99 ht99 hW99 => ⟨⟨_, (w, r86), rfl, ⟨rfl, hz88, hO⟩, by rw [ht99]; exact hP, hD⟩, hS.F ht99⟩) hS.2.2 dX8_beginsStatement_178
  by_cases h89 : r6 = 14
  · subst h89
    refine lv_tableIn (tgt := 174) (off := 163) hx hb dX8_beginsStatement_11 (by decide) (by decide) (by decide) (by decide) ?_
    refine lv_aload_n hx hb dX8_beginsStatement_174 rfl (lv_at hl 0 rfl) ?_
    have hO : OKW G h0 a (upd (upd (upd (upd F 2 (nI sz)) 9 (nI at9)) 2 (nI sz)) 9 (nI at9)) R Z B J T Pi w := hO.to rfl
    obtain ⟨_, qr93, hqr94⟩ := hO.2.1 23 _ (sg_23 G h0 a _ _ _ _ _)
    refine pc_V0 (G := G) (As := []) (rest := []) hx hb hml hown hq hE hX pX0_al hP hD hS hA hl.1 (P_beginsChain l G h0 a (upd (upd F 2 (nI sz)) 9 (nI at9)) R Z B J T Pi w at9 sz (by omega) (by omega) hO) (gV pw_998 pw_999 pw_1000 pw_796 pw_996) hV_X8_beginsChain qr93 5 hqr94 rfl rfl rfl (Nat.le_of_ble_eq_true rfl) dX8_beginsStatement_175 ⟨Nat.le_of_ble_eq_true rfl, Nat.le_of_ble_eq_true rfl⟩ ⟨Nat.le_of_ble_eq_true rfl, Nat.le_of_ble_eq_true rfl⟩ (fun v92 u90 H locs hw91 hP hD hS => ?_)
    obtain ⟨w, r95⟩ := u90
    obtain ⟨hw91, h96, hO⟩ := hw91
    have h96 : r95 ≤ 1 := h96
    obtain rfl : v92 = some (.int (nI r95)) := hw91
    have hO : OKW G h0 a (upd (upd F 2 (nI sz)) 9 (nI at9)) R Z B J T Pi w := hO.to rfl
    refine W.widen (k := 0) (n := 0) (Nat.le_of_ble_eq_true rfl) (Nat.le_of_ble_eq_true rfl) ?_
    refine W.eq (g2 := F0 m 178 ls [.int (nI r95)]) rfl ?_
    have hz97 : r95 ≤ 1 := (by omega)
    have hO : OKW G h0 a (upd (upd F 2 (nI sz)) 9 (nI at9)) R Z B J T Pi w := hO.to rfl
    exact W.zret (v := (nI r95)) hx hb hr (nI_nar (by omega)) (fun t99 ht99 hW99 => ⟨⟨_, (w, r95), rfl, ⟨rfl, hz97, hO⟩, by rw [ht99]; exact hP, hD⟩, hS.F ht99⟩) hS.2.2 dX8_beginsStatement_178
  by_cases h98 : r6 = 15
  · subst h98
    refine lv_tableIn (tgt := 174) (off := 163) hx hb dX8_beginsStatement_11 (by decide) (by decide) (by decide) (by decide) ?_
    refine lv_aload_n hx hb dX8_beginsStatement_174 rfl (lv_at hl 0 rfl) ?_
    have hO : OKW G h0 a (upd (upd (upd (upd F 2 (nI sz)) 9 (nI at9)) 2 (nI sz)) 9 (nI at9)) R Z B J T Pi w := hO.to rfl
    obtain ⟨_, qr102, hqr103⟩ := hO.2.1 23 _ (sg_23 G h0 a _ _ _ _ _)
    refine pc_V0 (G := G) (As := []) (rest := []) hx hb hml hown hq hE hX pX0_al hP hD hS hA hl.1 (P_beginsChain l G h0 a (upd (upd F 2 (nI sz)) 9 (nI at9)) R Z B J T Pi w at9 sz (by omega) (by omega) hO) (gV pw_998 pw_999 pw_1000 pw_796 pw_996) hV_X8_beginsChain qr102 5 hqr103 rfl rfl rfl (Nat.le_of_ble_eq_true rfl) dX8_beginsStatement_175 ⟨Nat.le_of_ble_eq_true rfl, Nat.le_of_ble_eq_true rfl⟩ ⟨Nat.le_of_ble_eq_true rfl, Nat.le_of_ble_eq_true rfl⟩ (fun v101 u99 H locs hw100 hP hD hS => ?_)
    obtain ⟨w, r104⟩ := u99
    obtain ⟨hw100, h105, hO⟩ := hw100
    have h105 : r104 ≤ 1 := h105
    obtain rfl : v101 = some (.int (nI r104)) := hw100
    have hO : OKW G h0 a (upd (upd F 2 (nI sz)) 9 (nI at9)) R Z B J T Pi w := hO.to rfl
    refine W.widen (k := 0) (n := 0) (Nat.le_of_ble_eq_true rfl) (Nat.le_of_ble_eq_true rfl) ?_
    refine W.eq (g2 := F0 m 178 ls [.int (nI r104)]) rfl ?_
    have hz106 : r104 ≤ 1 := (by omega)
    have hO : OKW G h0 a (upd (upd F 2 (nI sz)) 9 (nI at9)) R Z B J T Pi w := hO.to rfl
    exact W.zret (v := (nI r104)) hx hb hr (nI_nar (by omega)) (fun t99 ht99 hW99 => ⟨⟨_, (w, r104), rfl, ⟨rfl, hz106, hO⟩, by rw [ht99]; exact hP, hD⟩, hS.F ht99⟩) hS.2.2 dX8_beginsStatement_178
  by_cases h107 : r6 = 16
  · subst h107
    refine lv_tableIn (tgt := 174) (off := 163) hx hb dX8_beginsStatement_11 (by decide) (by decide) (by decide) (by decide) ?_
    refine lv_aload_n hx hb dX8_beginsStatement_174 rfl (lv_at hl 0 rfl) ?_
    have hO : OKW G h0 a (upd (upd (upd (upd F 2 (nI sz)) 9 (nI at9)) 2 (nI sz)) 9 (nI at9)) R Z B J T Pi w := hO.to rfl
    obtain ⟨_, qr111, hqr112⟩ := hO.2.1 23 _ (sg_23 G h0 a _ _ _ _ _)
    refine pc_V0 (G := G) (As := []) (rest := []) hx hb hml hown hq hE hX pX0_al hP hD hS hA hl.1 (P_beginsChain l G h0 a (upd (upd F 2 (nI sz)) 9 (nI at9)) R Z B J T Pi w at9 sz (by omega) (by omega) hO) (gV pw_998 pw_999 pw_1000 pw_796 pw_996) hV_X8_beginsChain qr111 5 hqr112 rfl rfl rfl (Nat.le_of_ble_eq_true rfl) dX8_beginsStatement_175 ⟨Nat.le_of_ble_eq_true rfl, Nat.le_of_ble_eq_true rfl⟩ ⟨Nat.le_of_ble_eq_true rfl, Nat.le_of_ble_eq_true rfl⟩ (fun v110 u108 H locs hw109 hP hD hS => ?_)
    obtain ⟨w, r113⟩ := u108
    obtain ⟨hw109, h114, hO⟩ := hw109
    have h114 : r113 ≤ 1 := h114
    obtain rfl : v110 = some (.int (nI r113)) := hw109
    have hO : OKW G h0 a (upd (upd F 2 (nI sz)) 9 (nI at9)) R Z B J T Pi w := hO.to rfl
    refine W.widen (k := 0) (n := 0) (Nat.le_of_ble_eq_true rfl) (Nat.le_of_ble_eq_true rfl) ?_
    refine W.eq (g2 := F0 m 178 ls [.int (nI r113)]) rfl ?_
    have hz115 : r113 ≤ 1 := (by omega)
    have hO : OKW G h0 a (upd (upd F 2 (nI sz)) 9 (nI at9)) R Z B J T Pi w := hO.to rfl
    exact W.zret (v := (nI r113)) hx hb hr (nI_nar (by omega)) (fun t99 ht99 hW99 => ⟨⟨_, (w, r113), rfl, ⟨rfl, hz115, hO⟩, by rw [ht99]; exact hP, hD⟩, hS.F ht99⟩) hS.2.2 dX8_beginsStatement_178
  by_cases h116 : r6 = 17
  · subst h116
    refine lv_tableIn (tgt := 174) (off := 163) hx hb dX8_beginsStatement_11 (by decide) (by decide) (by decide) (by decide) ?_
    refine lv_aload_n hx hb dX8_beginsStatement_174 rfl (lv_at hl 0 rfl) ?_
    have hO : OKW G h0 a (upd (upd (upd (upd F 2 (nI sz)) 9 (nI at9)) 2 (nI sz)) 9 (nI at9)) R Z B J T Pi w := hO.to rfl
    obtain ⟨_, qr120, hqr121⟩ := hO.2.1 23 _ (sg_23 G h0 a _ _ _ _ _)
    refine pc_V0 (G := G) (As := []) (rest := []) hx hb hml hown hq hE hX pX0_al hP hD hS hA hl.1 (P_beginsChain l G h0 a (upd (upd F 2 (nI sz)) 9 (nI at9)) R Z B J T Pi w at9 sz (by omega) (by omega) hO) (gV pw_998 pw_999 pw_1000 pw_796 pw_996) hV_X8_beginsChain qr120 5 hqr121 rfl rfl rfl (Nat.le_of_ble_eq_true rfl) dX8_beginsStatement_175 ⟨Nat.le_of_ble_eq_true rfl, Nat.le_of_ble_eq_true rfl⟩ ⟨Nat.le_of_ble_eq_true rfl, Nat.le_of_ble_eq_true rfl⟩ (fun v119 u117 H locs hw118 hP hD hS => ?_)
    obtain ⟨w, r122⟩ := u117
    obtain ⟨hw118, h123, hO⟩ := hw118
    have h123 : r122 ≤ 1 := h123
    obtain rfl : v119 = some (.int (nI r122)) := hw118
    have hO : OKW G h0 a (upd (upd F 2 (nI sz)) 9 (nI at9)) R Z B J T Pi w := hO.to rfl
    refine W.widen (k := 0) (n := 0) (Nat.le_of_ble_eq_true rfl) (Nat.le_of_ble_eq_true rfl) ?_
    refine W.eq (g2 := F0 m 178 ls [.int (nI r122)]) rfl ?_
    have hz124 : r122 ≤ 1 := (by omega)
    have hO : OKW G h0 a (upd (upd F 2 (nI sz)) 9 (nI at9)) R Z B J T Pi w := hO.to rfl
    exact W.zret (v := (nI r122)) hx hb hr (nI_nar (by omega)) (fun t99 ht99 hW99 => ⟨⟨_, (w, r122), rfl, ⟨rfl, hz124, hO⟩, by rw [ht99]; exact hP, hD⟩, hS.F ht99⟩) hS.2.2 dX8_beginsStatement_178
  by_cases h125 : r6 = 18
  · subst h125
    refine lv_tableIn (tgt := 174) (off := 163) hx hb dX8_beginsStatement_11 (by decide) (by decide) (by decide) (by decide) ?_
    refine lv_aload_n hx hb dX8_beginsStatement_174 rfl (lv_at hl 0 rfl) ?_
    have hO : OKW G h0 a (upd (upd (upd (upd F 2 (nI sz)) 9 (nI at9)) 2 (nI sz)) 9 (nI at9)) R Z B J T Pi w := hO.to rfl
    obtain ⟨_, qr129, hqr130⟩ := hO.2.1 23 _ (sg_23 G h0 a _ _ _ _ _)
    refine pc_V0 (G := G) (As := []) (rest := []) hx hb hml hown hq hE hX pX0_al hP hD hS hA hl.1 (P_beginsChain l G h0 a (upd (upd F 2 (nI sz)) 9 (nI at9)) R Z B J T Pi w at9 sz (by omega) (by omega) hO) (gV pw_998 pw_999 pw_1000 pw_796 pw_996) hV_X8_beginsChain qr129 5 hqr130 rfl rfl rfl (Nat.le_of_ble_eq_true rfl) dX8_beginsStatement_175 ⟨Nat.le_of_ble_eq_true rfl, Nat.le_of_ble_eq_true rfl⟩ ⟨Nat.le_of_ble_eq_true rfl, Nat.le_of_ble_eq_true rfl⟩ (fun v128 u126 H locs hw127 hP hD hS => ?_)
    obtain ⟨w, r131⟩ := u126
    obtain ⟨hw127, h132, hO⟩ := hw127
    have h132 : r131 ≤ 1 := h132
    obtain rfl : v128 = some (.int (nI r131)) := hw127
    have hO : OKW G h0 a (upd (upd F 2 (nI sz)) 9 (nI at9)) R Z B J T Pi w := hO.to rfl
    refine W.widen (k := 0) (n := 0) (Nat.le_of_ble_eq_true rfl) (Nat.le_of_ble_eq_true rfl) ?_
    refine W.eq (g2 := F0 m 178 ls [.int (nI r131)]) rfl ?_
    have hz133 : r131 ≤ 1 := (by omega)
    have hO : OKW G h0 a (upd (upd F 2 (nI sz)) 9 (nI at9)) R Z B J T Pi w := hO.to rfl
    exact W.zret (v := (nI r131)) hx hb hr (nI_nar (by omega)) (fun t99 ht99 hW99 => ⟨⟨_, (w, r131), rfl, ⟨rfl, hz133, hO⟩, by rw [ht99]; exact hP, hD⟩, hS.F ht99⟩) hS.2.2 dX8_beginsStatement_178
  by_cases h134 : r6 = 19
  · subst h134
    refine lv_tableIn (tgt := 172) (off := 161) hx hb dX8_beginsStatement_11 (by decide) (by decide) (by decide) (by decide) ?_
    refine lv_iconst (v := 1) hx hb dX8_beginsStatement_172 (by decide) ?_
    have hz135 : 1 ≤ 1 := (by omega)
    have hO : OKW G h0 a (upd (upd F 2 (nI sz)) 9 (nI at9)) R Z B J T Pi w := hO.to rfl
    exact W.zret (v := 1) hx hb hr rfl (fun t99 ht99 hW99 => ⟨⟨_, (w, 1), rfl, ⟨rfl, hz135, hO⟩, by rw [ht99]; exact hP, hD⟩, hS.F ht99⟩) hS.2.2 dX8_beginsStatement_173
  by_cases h136 : r6 = 20
  · subst h136
    refine lv_tableIn (tgt := 174) (off := 163) hx hb dX8_beginsStatement_11 (by decide) (by decide) (by decide) (by decide) ?_
    refine lv_aload_n hx hb dX8_beginsStatement_174 rfl (lv_at hl 0 rfl) ?_
    have hO : OKW G h0 a (upd (upd (upd (upd F 2 (nI sz)) 9 (nI at9)) 2 (nI sz)) 9 (nI at9)) R Z B J T Pi w := hO.to rfl
    obtain ⟨_, qr140, hqr141⟩ := hO.2.1 23 _ (sg_23 G h0 a _ _ _ _ _)
    refine pc_V0 (G := G) (As := []) (rest := []) hx hb hml hown hq hE hX pX0_al hP hD hS hA hl.1 (P_beginsChain l G h0 a (upd (upd F 2 (nI sz)) 9 (nI at9)) R Z B J T Pi w at9 sz (by omega) (by omega) hO) (gV pw_998 pw_999 pw_1000 pw_796 pw_996) hV_X8_beginsChain qr140 5 hqr141 rfl rfl rfl (Nat.le_of_ble_eq_true rfl) dX8_beginsStatement_175 ⟨Nat.le_of_ble_eq_true rfl, Nat.le_of_ble_eq_true rfl⟩ ⟨Nat.le_of_ble_eq_true rfl, Nat.le_of_ble_eq_true rfl⟩ (fun v139 u137 H locs hw138 hP hD hS => ?_)
    obtain ⟨w, r142⟩ := u137
    obtain ⟨hw138, h143, hO⟩ := hw138
    have h143 : r142 ≤ 1 := h143
    obtain rfl : v139 = some (.int (nI r142)) := hw138
    have hO : OKW G h0 a (upd (upd F 2 (nI sz)) 9 (nI at9)) R Z B J T Pi w := hO.to rfl
    refine W.widen (k := 0) (n := 0) (Nat.le_of_ble_eq_true rfl) (Nat.le_of_ble_eq_true rfl) ?_
    refine W.eq (g2 := F0 m 178 ls [.int (nI r142)]) rfl ?_
    have hz144 : r142 ≤ 1 := (by omega)
    have hO : OKW G h0 a (upd (upd F 2 (nI sz)) 9 (nI at9)) R Z B J T Pi w := hO.to rfl
    exact W.zret (v := (nI r142)) hx hb hr (nI_nar (by omega)) (fun t99 ht99 hW99 => ⟨⟨_, (w, r142), rfl, ⟨rfl, hz144, hO⟩, by rw [ht99]; exact hP, hD⟩, hS.F ht99⟩) hS.2.2 dX8_beginsStatement_178
  by_cases h145 : r6 = 21
  · subst h145
    refine lv_tableIn (tgt := 172) (off := 161) hx hb dX8_beginsStatement_11 (by decide) (by decide) (by decide) (by decide) ?_
    refine lv_iconst (v := 1) hx hb dX8_beginsStatement_172 (by decide) ?_
    have hz146 : 1 ≤ 1 := (by omega)
    have hO : OKW G h0 a (upd (upd F 2 (nI sz)) 9 (nI at9)) R Z B J T Pi w := hO.to rfl
    exact W.zret (v := 1) hx hb hr rfl (fun t99 ht99 hW99 => ⟨⟨_, (w, 1), rfl, ⟨rfl, hz146, hO⟩, by rw [ht99]; exact hP, hD⟩, hS.F ht99⟩) hS.2.2 dX8_beginsStatement_173
  by_cases h147 : r6 = 22
  · subst h147
    refine lv_tableIn (tgt := 174) (off := 163) hx hb dX8_beginsStatement_11 (by decide) (by decide) (by decide) (by decide) ?_
    refine lv_aload_n hx hb dX8_beginsStatement_174 rfl (lv_at hl 0 rfl) ?_
    have hO : OKW G h0 a (upd (upd (upd (upd F 2 (nI sz)) 9 (nI at9)) 2 (nI sz)) 9 (nI at9)) R Z B J T Pi w := hO.to rfl
    obtain ⟨_, qr151, hqr152⟩ := hO.2.1 23 _ (sg_23 G h0 a _ _ _ _ _)
    refine pc_V0 (G := G) (As := []) (rest := []) hx hb hml hown hq hE hX pX0_al hP hD hS hA hl.1 (P_beginsChain l G h0 a (upd (upd F 2 (nI sz)) 9 (nI at9)) R Z B J T Pi w at9 sz (by omega) (by omega) hO) (gV pw_998 pw_999 pw_1000 pw_796 pw_996) hV_X8_beginsChain qr151 5 hqr152 rfl rfl rfl (Nat.le_of_ble_eq_true rfl) dX8_beginsStatement_175 ⟨Nat.le_of_ble_eq_true rfl, Nat.le_of_ble_eq_true rfl⟩ ⟨Nat.le_of_ble_eq_true rfl, Nat.le_of_ble_eq_true rfl⟩ (fun v150 u148 H locs hw149 hP hD hS => ?_)
    obtain ⟨w, r153⟩ := u148
    obtain ⟨hw149, h154, hO⟩ := hw149
    have h154 : r153 ≤ 1 := h154
    obtain rfl : v150 = some (.int (nI r153)) := hw149
    have hO : OKW G h0 a (upd (upd F 2 (nI sz)) 9 (nI at9)) R Z B J T Pi w := hO.to rfl
    refine W.widen (k := 0) (n := 0) (Nat.le_of_ble_eq_true rfl) (Nat.le_of_ble_eq_true rfl) ?_
    refine W.eq (g2 := F0 m 178 ls [.int (nI r153)]) rfl ?_
    have hz155 : r153 ≤ 1 := (by omega)
    have hO : OKW G h0 a (upd (upd F 2 (nI sz)) 9 (nI at9)) R Z B J T Pi w := hO.to rfl
    exact W.zret (v := (nI r153)) hx hb hr (nI_nar (by omega)) (fun t99 ht99 hW99 => ⟨⟨_, (w, r153), rfl, ⟨rfl, hz155, hO⟩, by rw [ht99]; exact hP, hD⟩, hS.F ht99⟩) hS.2.2 dX8_beginsStatement_178
  by_cases h156 : r6 = 23
  · subst h156
    refine lv_tableIn (tgt := 174) (off := 163) hx hb dX8_beginsStatement_11 (by decide) (by decide) (by decide) (by decide) ?_
    refine lv_aload_n hx hb dX8_beginsStatement_174 rfl (lv_at hl 0 rfl) ?_
    have hO : OKW G h0 a (upd (upd (upd (upd F 2 (nI sz)) 9 (nI at9)) 2 (nI sz)) 9 (nI at9)) R Z B J T Pi w := hO.to rfl
    obtain ⟨_, qr160, hqr161⟩ := hO.2.1 23 _ (sg_23 G h0 a _ _ _ _ _)
    refine pc_V0 (G := G) (As := []) (rest := []) hx hb hml hown hq hE hX pX0_al hP hD hS hA hl.1 (P_beginsChain l G h0 a (upd (upd F 2 (nI sz)) 9 (nI at9)) R Z B J T Pi w at9 sz (by omega) (by omega) hO) (gV pw_998 pw_999 pw_1000 pw_796 pw_996) hV_X8_beginsChain qr160 5 hqr161 rfl rfl rfl (Nat.le_of_ble_eq_true rfl) dX8_beginsStatement_175 ⟨Nat.le_of_ble_eq_true rfl, Nat.le_of_ble_eq_true rfl⟩ ⟨Nat.le_of_ble_eq_true rfl, Nat.le_of_ble_eq_true rfl⟩ (fun v159 u157 H locs hw158 hP hD hS => ?_)
    obtain ⟨w, r162⟩ := u157
    obtain ⟨hw158, h163, hO⟩ := hw158
    have h163 : r162 ≤ 1 := h163
    obtain rfl : v159 = some (.int (nI r162)) := hw158
    have hO : OKW G h0 a (upd (upd F 2 (nI sz)) 9 (nI at9)) R Z B J T Pi w := hO.to rfl
    refine W.widen (k := 0) (n := 0) (Nat.le_of_ble_eq_true rfl) (Nat.le_of_ble_eq_true rfl) ?_
    refine W.eq (g2 := F0 m 178 ls [.int (nI r162)]) rfl ?_
    have hz164 : r162 ≤ 1 := (by omega)
    have hO : OKW G h0 a (upd (upd F 2 (nI sz)) 9 (nI at9)) R Z B J T Pi w := hO.to rfl
    exact W.zret (v := (nI r162)) hx hb hr (nI_nar (by omega)) (fun t99 ht99 hW99 => ⟨⟨_, (w, r162), rfl, ⟨rfl, hz164, hO⟩, by rw [ht99]; exact hP, hD⟩, hS.F ht99⟩) hS.2.2 dX8_beginsStatement_178
  by_cases h165 : r6 = 24
  · subst h165
    refine lv_tableIn (tgt := 172) (off := 161) hx hb dX8_beginsStatement_11 (by decide) (by decide) (by decide) (by decide) ?_
    refine lv_iconst (v := 1) hx hb dX8_beginsStatement_172 (by decide) ?_
    have hz166 : 1 ≤ 1 := (by omega)
    have hO : OKW G h0 a (upd (upd F 2 (nI sz)) 9 (nI at9)) R Z B J T Pi w := hO.to rfl
    exact W.zret (v := 1) hx hb hr rfl (fun t99 ht99 hW99 => ⟨⟨_, (w, 1), rfl, ⟨rfl, hz166, hO⟩, by rw [ht99]; exact hP, hD⟩, hS.F ht99⟩) hS.2.2 dX8_beginsStatement_173
  by_cases h167 : r6 = 25
  · subst h167
    refine lv_tableIn (tgt := 174) (off := 163) hx hb dX8_beginsStatement_11 (by decide) (by decide) (by decide) (by decide) ?_
    refine lv_aload_n hx hb dX8_beginsStatement_174 rfl (lv_at hl 0 rfl) ?_
    have hO : OKW G h0 a (upd (upd (upd (upd F 2 (nI sz)) 9 (nI at9)) 2 (nI sz)) 9 (nI at9)) R Z B J T Pi w := hO.to rfl
    obtain ⟨_, qr171, hqr172⟩ := hO.2.1 23 _ (sg_23 G h0 a _ _ _ _ _)
    refine pc_V0 (G := G) (As := []) (rest := []) hx hb hml hown hq hE hX pX0_al hP hD hS hA hl.1 (P_beginsChain l G h0 a (upd (upd F 2 (nI sz)) 9 (nI at9)) R Z B J T Pi w at9 sz (by omega) (by omega) hO) (gV pw_998 pw_999 pw_1000 pw_796 pw_996) hV_X8_beginsChain qr171 5 hqr172 rfl rfl rfl (Nat.le_of_ble_eq_true rfl) dX8_beginsStatement_175 ⟨Nat.le_of_ble_eq_true rfl, Nat.le_of_ble_eq_true rfl⟩ ⟨Nat.le_of_ble_eq_true rfl, Nat.le_of_ble_eq_true rfl⟩ (fun v170 u168 H locs hw169 hP hD hS => ?_)
    obtain ⟨w, r173⟩ := u168
    obtain ⟨hw169, h174, hO⟩ := hw169
    have h174 : r173 ≤ 1 := h174
    obtain rfl : v170 = some (.int (nI r173)) := hw169
    have hO : OKW G h0 a (upd (upd F 2 (nI sz)) 9 (nI at9)) R Z B J T Pi w := hO.to rfl
    refine W.widen (k := 0) (n := 0) (Nat.le_of_ble_eq_true rfl) (Nat.le_of_ble_eq_true rfl) ?_
    refine W.eq (g2 := F0 m 178 ls [.int (nI r173)]) rfl ?_
    have hz175 : r173 ≤ 1 := (by omega)
    have hO : OKW G h0 a (upd (upd F 2 (nI sz)) 9 (nI at9)) R Z B J T Pi w := hO.to rfl
    exact W.zret (v := (nI r173)) hx hb hr (nI_nar (by omega)) (fun t99 ht99 hW99 => ⟨⟨_, (w, r173), rfl, ⟨rfl, hz175, hO⟩, by rw [ht99]; exact hP, hD⟩, hS.F ht99⟩) hS.2.2 dX8_beginsStatement_178
  by_cases h176 : r6 = 26
  · subst h176
    refine lv_tableIn (tgt := 172) (off := 161) hx hb dX8_beginsStatement_11 (by decide) (by decide) (by decide) (by decide) ?_
    refine lv_iconst (v := 1) hx hb dX8_beginsStatement_172 (by decide) ?_
    have hz177 : 1 ≤ 1 := (by omega)
    have hO : OKW G h0 a (upd (upd F 2 (nI sz)) 9 (nI at9)) R Z B J T Pi w := hO.to rfl
    exact W.zret (v := 1) hx hb hr rfl (fun t99 ht99 hW99 => ⟨⟨_, (w, 1), rfl, ⟨rfl, hz177, hO⟩, by rw [ht99]; exact hP, hD⟩, hS.F ht99⟩) hS.2.2 dX8_beginsStatement_173
  by_cases h178 : r6 = 27
  · subst h178
    refine lv_tableIn (tgt := 174) (off := 163) hx hb dX8_beginsStatement_11 (by decide) (by decide) (by decide) (by decide) ?_
    refine lv_aload_n hx hb dX8_beginsStatement_174 rfl (lv_at hl 0 rfl) ?_
    have hO : OKW G h0 a (upd (upd (upd (upd F 2 (nI sz)) 9 (nI at9)) 2 (nI sz)) 9 (nI at9)) R Z B J T Pi w := hO.to rfl
    obtain ⟨_, qr182, hqr183⟩ := hO.2.1 23 _ (sg_23 G h0 a _ _ _ _ _)
    refine pc_V0 (G := G) (As := []) (rest := []) hx hb hml hown hq hE hX pX0_al hP hD hS hA hl.1 (P_beginsChain l G h0 a (upd (upd F 2 (nI sz)) 9 (nI at9)) R Z B J T Pi w at9 sz (by omega) (by omega) hO) (gV pw_998 pw_999 pw_1000 pw_796 pw_996) hV_X8_beginsChain qr182 5 hqr183 rfl rfl rfl (Nat.le_of_ble_eq_true rfl) dX8_beginsStatement_175 ⟨Nat.le_of_ble_eq_true rfl, Nat.le_of_ble_eq_true rfl⟩ ⟨Nat.le_of_ble_eq_true rfl, Nat.le_of_ble_eq_true rfl⟩ (fun v181 u179 H locs hw180 hP hD hS => ?_)
    obtain ⟨w, r184⟩ := u179
    obtain ⟨hw180, h185, hO⟩ := hw180
    have h185 : r184 ≤ 1 := h185
    obtain rfl : v181 = some (.int (nI r184)) := hw180
    have hO : OKW G h0 a (upd (upd F 2 (nI sz)) 9 (nI at9)) R Z B J T Pi w := hO.to rfl
    refine W.widen (k := 0) (n := 0) (Nat.le_of_ble_eq_true rfl) (Nat.le_of_ble_eq_true rfl) ?_
    refine W.eq (g2 := F0 m 178 ls [.int (nI r184)]) rfl ?_
    have hz186 : r184 ≤ 1 := (by omega)
    have hO : OKW G h0 a (upd (upd F 2 (nI sz)) 9 (nI at9)) R Z B J T Pi w := hO.to rfl
    exact W.zret (v := (nI r184)) hx hb hr (nI_nar (by omega)) (fun t99 ht99 hW99 => ⟨⟨_, (w, r184), rfl, ⟨rfl, hz186, hO⟩, by rw [ht99]; exact hP, hD⟩, hS.F ht99⟩) hS.2.2 dX8_beginsStatement_178
  by_cases h187 : r6 = 28
  · subst h187
    refine lv_tableIn (tgt := 172) (off := 161) hx hb dX8_beginsStatement_11 (by decide) (by decide) (by decide) (by decide) ?_
    refine lv_iconst (v := 1) hx hb dX8_beginsStatement_172 (by decide) ?_
    have hz188 : 1 ≤ 1 := (by omega)
    have hO : OKW G h0 a (upd (upd F 2 (nI sz)) 9 (nI at9)) R Z B J T Pi w := hO.to rfl
    exact W.zret (v := 1) hx hb hr rfl (fun t99 ht99 hW99 => ⟨⟨_, (w, 1), rfl, ⟨rfl, hz188, hO⟩, by rw [ht99]; exact hP, hD⟩, hS.F ht99⟩) hS.2.2 dX8_beginsStatement_173
  by_cases h189 : r6 = 29
  · subst h189
    refine lv_tableIn (tgt := 174) (off := 163) hx hb dX8_beginsStatement_11 (by decide) (by decide) (by decide) (by decide) ?_
    refine lv_aload_n hx hb dX8_beginsStatement_174 rfl (lv_at hl 0 rfl) ?_
    have hO : OKW G h0 a (upd (upd (upd (upd F 2 (nI sz)) 9 (nI at9)) 2 (nI sz)) 9 (nI at9)) R Z B J T Pi w := hO.to rfl
    obtain ⟨_, qr193, hqr194⟩ := hO.2.1 23 _ (sg_23 G h0 a _ _ _ _ _)
    refine pc_V0 (G := G) (As := []) (rest := []) hx hb hml hown hq hE hX pX0_al hP hD hS hA hl.1 (P_beginsChain l G h0 a (upd (upd F 2 (nI sz)) 9 (nI at9)) R Z B J T Pi w at9 sz (by omega) (by omega) hO) (gV pw_998 pw_999 pw_1000 pw_796 pw_996) hV_X8_beginsChain qr193 5 hqr194 rfl rfl rfl (Nat.le_of_ble_eq_true rfl) dX8_beginsStatement_175 ⟨Nat.le_of_ble_eq_true rfl, Nat.le_of_ble_eq_true rfl⟩ ⟨Nat.le_of_ble_eq_true rfl, Nat.le_of_ble_eq_true rfl⟩ (fun v192 u190 H locs hw191 hP hD hS => ?_)
    obtain ⟨w, r195⟩ := u190
    obtain ⟨hw191, h196, hO⟩ := hw191
    have h196 : r195 ≤ 1 := h196
    obtain rfl : v192 = some (.int (nI r195)) := hw191
    have hO : OKW G h0 a (upd (upd F 2 (nI sz)) 9 (nI at9)) R Z B J T Pi w := hO.to rfl
    refine W.widen (k := 0) (n := 0) (Nat.le_of_ble_eq_true rfl) (Nat.le_of_ble_eq_true rfl) ?_
    refine W.eq (g2 := F0 m 178 ls [.int (nI r195)]) rfl ?_
    have hz197 : r195 ≤ 1 := (by omega)
    have hO : OKW G h0 a (upd (upd F 2 (nI sz)) 9 (nI at9)) R Z B J T Pi w := hO.to rfl
    exact W.zret (v := (nI r195)) hx hb hr (nI_nar (by omega)) (fun t99 ht99 hW99 => ⟨⟨_, (w, r195), rfl, ⟨rfl, hz197, hO⟩, by rw [ht99]; exact hP, hD⟩, hS.F ht99⟩) hS.2.2 dX8_beginsStatement_178
  by_cases h198 : r6 = 30
  · subst h198
    refine lv_tableIn (tgt := 174) (off := 163) hx hb dX8_beginsStatement_11 (by decide) (by decide) (by decide) (by decide) ?_
    refine lv_aload_n hx hb dX8_beginsStatement_174 rfl (lv_at hl 0 rfl) ?_
    have hO : OKW G h0 a (upd (upd (upd (upd F 2 (nI sz)) 9 (nI at9)) 2 (nI sz)) 9 (nI at9)) R Z B J T Pi w := hO.to rfl
    obtain ⟨_, qr202, hqr203⟩ := hO.2.1 23 _ (sg_23 G h0 a _ _ _ _ _)
    refine pc_V0 (G := G) (As := []) (rest := []) hx hb hml hown hq hE hX pX0_al hP hD hS hA hl.1 (P_beginsChain l G h0 a (upd (upd F 2 (nI sz)) 9 (nI at9)) R Z B J T Pi w at9 sz (by omega) (by omega) hO) (gV pw_998 pw_999 pw_1000 pw_796 pw_996) hV_X8_beginsChain qr202 5 hqr203 rfl rfl rfl (Nat.le_of_ble_eq_true rfl) dX8_beginsStatement_175 ⟨Nat.le_of_ble_eq_true rfl, Nat.le_of_ble_eq_true rfl⟩ ⟨Nat.le_of_ble_eq_true rfl, Nat.le_of_ble_eq_true rfl⟩ (fun v201 u199 H locs hw200 hP hD hS => ?_)
    obtain ⟨w, r204⟩ := u199
    obtain ⟨hw200, h205, hO⟩ := hw200
    have h205 : r204 ≤ 1 := h205
    obtain rfl : v201 = some (.int (nI r204)) := hw200
    have hO : OKW G h0 a (upd (upd F 2 (nI sz)) 9 (nI at9)) R Z B J T Pi w := hO.to rfl
    refine W.widen (k := 0) (n := 0) (Nat.le_of_ble_eq_true rfl) (Nat.le_of_ble_eq_true rfl) ?_
    refine W.eq (g2 := F0 m 178 ls [.int (nI r204)]) rfl ?_
    have hz206 : r204 ≤ 1 := (by omega)
    have hO : OKW G h0 a (upd (upd F 2 (nI sz)) 9 (nI at9)) R Z B J T Pi w := hO.to rfl
    exact W.zret (v := (nI r204)) hx hb hr (nI_nar (by omega)) (fun t99 ht99 hW99 => ⟨⟨_, (w, r204), rfl, ⟨rfl, hz206, hO⟩, by rw [ht99]; exact hP, hD⟩, hS.F ht99⟩) hS.2.2 dX8_beginsStatement_178
  by_cases h207 : r6 = 31
  · subst h207
    refine lv_tableIn (tgt := 174) (off := 163) hx hb dX8_beginsStatement_11 (by decide) (by decide) (by decide) (by decide) ?_
    refine lv_aload_n hx hb dX8_beginsStatement_174 rfl (lv_at hl 0 rfl) ?_
    have hO : OKW G h0 a (upd (upd (upd (upd F 2 (nI sz)) 9 (nI at9)) 2 (nI sz)) 9 (nI at9)) R Z B J T Pi w := hO.to rfl
    obtain ⟨_, qr211, hqr212⟩ := hO.2.1 23 _ (sg_23 G h0 a _ _ _ _ _)
    refine pc_V0 (G := G) (As := []) (rest := []) hx hb hml hown hq hE hX pX0_al hP hD hS hA hl.1 (P_beginsChain l G h0 a (upd (upd F 2 (nI sz)) 9 (nI at9)) R Z B J T Pi w at9 sz (by omega) (by omega) hO) (gV pw_998 pw_999 pw_1000 pw_796 pw_996) hV_X8_beginsChain qr211 5 hqr212 rfl rfl rfl (Nat.le_of_ble_eq_true rfl) dX8_beginsStatement_175 ⟨Nat.le_of_ble_eq_true rfl, Nat.le_of_ble_eq_true rfl⟩ ⟨Nat.le_of_ble_eq_true rfl, Nat.le_of_ble_eq_true rfl⟩ (fun v210 u208 H locs hw209 hP hD hS => ?_)
    obtain ⟨w, r213⟩ := u208
    obtain ⟨hw209, h214, hO⟩ := hw209
    have h214 : r213 ≤ 1 := h214
    obtain rfl : v210 = some (.int (nI r213)) := hw209
    have hO : OKW G h0 a (upd (upd F 2 (nI sz)) 9 (nI at9)) R Z B J T Pi w := hO.to rfl
    refine W.widen (k := 0) (n := 0) (Nat.le_of_ble_eq_true rfl) (Nat.le_of_ble_eq_true rfl) ?_
    refine W.eq (g2 := F0 m 178 ls [.int (nI r213)]) rfl ?_
    have hz215 : r213 ≤ 1 := (by omega)
    have hO : OKW G h0 a (upd (upd F 2 (nI sz)) 9 (nI at9)) R Z B J T Pi w := hO.to rfl
    exact W.zret (v := (nI r213)) hx hb hr (nI_nar (by omega)) (fun t99 ht99 hW99 => ⟨⟨_, (w, r213), rfl, ⟨rfl, hz215, hO⟩, by rw [ht99]; exact hP, hD⟩, hS.F ht99⟩) hS.2.2 dX8_beginsStatement_178
  by_cases h216 : r6 = 32
  · subst h216
    refine lv_tableIn (tgt := 172) (off := 161) hx hb dX8_beginsStatement_11 (by decide) (by decide) (by decide) (by decide) ?_
    refine lv_iconst (v := 1) hx hb dX8_beginsStatement_172 (by decide) ?_
    have hz217 : 1 ≤ 1 := (by omega)
    have hO : OKW G h0 a (upd (upd F 2 (nI sz)) 9 (nI at9)) R Z B J T Pi w := hO.to rfl
    exact W.zret (v := 1) hx hb hr rfl (fun t99 ht99 hW99 => ⟨⟨_, (w, 1), rfl, ⟨rfl, hz217, hO⟩, by rw [ht99]; exact hP, hD⟩, hS.F ht99⟩) hS.2.2 dX8_beginsStatement_173
  by_cases h218 : r6 = 33
  · subst h218
    refine lv_tableIn (tgt := 174) (off := 163) hx hb dX8_beginsStatement_11 (by decide) (by decide) (by decide) (by decide) ?_
    refine lv_aload_n hx hb dX8_beginsStatement_174 rfl (lv_at hl 0 rfl) ?_
    have hO : OKW G h0 a (upd (upd (upd (upd F 2 (nI sz)) 9 (nI at9)) 2 (nI sz)) 9 (nI at9)) R Z B J T Pi w := hO.to rfl
    obtain ⟨_, qr222, hqr223⟩ := hO.2.1 23 _ (sg_23 G h0 a _ _ _ _ _)
    refine pc_V0 (G := G) (As := []) (rest := []) hx hb hml hown hq hE hX pX0_al hP hD hS hA hl.1 (P_beginsChain l G h0 a (upd (upd F 2 (nI sz)) 9 (nI at9)) R Z B J T Pi w at9 sz (by omega) (by omega) hO) (gV pw_998 pw_999 pw_1000 pw_796 pw_996) hV_X8_beginsChain qr222 5 hqr223 rfl rfl rfl (Nat.le_of_ble_eq_true rfl) dX8_beginsStatement_175 ⟨Nat.le_of_ble_eq_true rfl, Nat.le_of_ble_eq_true rfl⟩ ⟨Nat.le_of_ble_eq_true rfl, Nat.le_of_ble_eq_true rfl⟩ (fun v221 u219 H locs hw220 hP hD hS => ?_)
    obtain ⟨w, r224⟩ := u219
    obtain ⟨hw220, h225, hO⟩ := hw220
    have h225 : r224 ≤ 1 := h225
    obtain rfl : v221 = some (.int (nI r224)) := hw220
    have hO : OKW G h0 a (upd (upd F 2 (nI sz)) 9 (nI at9)) R Z B J T Pi w := hO.to rfl
    refine W.widen (k := 0) (n := 0) (Nat.le_of_ble_eq_true rfl) (Nat.le_of_ble_eq_true rfl) ?_
    refine W.eq (g2 := F0 m 178 ls [.int (nI r224)]) rfl ?_
    have hz226 : r224 ≤ 1 := (by omega)
    have hO : OKW G h0 a (upd (upd F 2 (nI sz)) 9 (nI at9)) R Z B J T Pi w := hO.to rfl
    exact W.zret (v := (nI r224)) hx hb hr (nI_nar (by omega)) (fun t99 ht99 hW99 => ⟨⟨_, (w, r224), rfl, ⟨rfl, hz226, hO⟩, by rw [ht99]; exact hP, hD⟩, hS.F ht99⟩) hS.2.2 dX8_beginsStatement_178
  by_cases h227 : r6 = 34
  · subst h227
    refine lv_tableIn (tgt := 174) (off := 163) hx hb dX8_beginsStatement_11 (by decide) (by decide) (by decide) (by decide) ?_
    refine lv_aload_n hx hb dX8_beginsStatement_174 rfl (lv_at hl 0 rfl) ?_
    have hO : OKW G h0 a (upd (upd (upd (upd F 2 (nI sz)) 9 (nI at9)) 2 (nI sz)) 9 (nI at9)) R Z B J T Pi w := hO.to rfl
    obtain ⟨_, qr231, hqr232⟩ := hO.2.1 23 _ (sg_23 G h0 a _ _ _ _ _)
    refine pc_V0 (G := G) (As := []) (rest := []) hx hb hml hown hq hE hX pX0_al hP hD hS hA hl.1 (P_beginsChain l G h0 a (upd (upd F 2 (nI sz)) 9 (nI at9)) R Z B J T Pi w at9 sz (by omega) (by omega) hO) (gV pw_998 pw_999 pw_1000 pw_796 pw_996) hV_X8_beginsChain qr231 5 hqr232 rfl rfl rfl (Nat.le_of_ble_eq_true rfl) dX8_beginsStatement_175 ⟨Nat.le_of_ble_eq_true rfl, Nat.le_of_ble_eq_true rfl⟩ ⟨Nat.le_of_ble_eq_true rfl, Nat.le_of_ble_eq_true rfl⟩ (fun v230 u228 H locs hw229 hP hD hS => ?_)
    obtain ⟨w, r233⟩ := u228
    obtain ⟨hw229, h234, hO⟩ := hw229
    have h234 : r233 ≤ 1 := h234
    obtain rfl : v230 = some (.int (nI r233)) := hw229
    have hO : OKW G h0 a (upd (upd F 2 (nI sz)) 9 (nI at9)) R Z B J T Pi w := hO.to rfl
    refine W.widen (k := 0) (n := 0) (Nat.le_of_ble_eq_true rfl) (Nat.le_of_ble_eq_true rfl) ?_
    refine W.eq (g2 := F0 m 178 ls [.int (nI r233)]) rfl ?_
    have hz235 : r233 ≤ 1 := (by omega)
    have hO : OKW G h0 a (upd (upd F 2 (nI sz)) 9 (nI at9)) R Z B J T Pi w := hO.to rfl
    exact W.zret (v := (nI r233)) hx hb hr (nI_nar (by omega)) (fun t99 ht99 hW99 => ⟨⟨_, (w, r233), rfl, ⟨rfl, hz235, hO⟩, by rw [ht99]; exact hP, hD⟩, hS.F ht99⟩) hS.2.2 dX8_beginsStatement_178
  by_cases h236 : r6 = 35
  · subst h236
    refine lv_tableIn (tgt := 174) (off := 163) hx hb dX8_beginsStatement_11 (by decide) (by decide) (by decide) (by decide) ?_
    refine lv_aload_n hx hb dX8_beginsStatement_174 rfl (lv_at hl 0 rfl) ?_
    have hO : OKW G h0 a (upd (upd (upd (upd F 2 (nI sz)) 9 (nI at9)) 2 (nI sz)) 9 (nI at9)) R Z B J T Pi w := hO.to rfl
    obtain ⟨_, qr240, hqr241⟩ := hO.2.1 23 _ (sg_23 G h0 a _ _ _ _ _)
    refine pc_V0 (G := G) (As := []) (rest := []) hx hb hml hown hq hE hX pX0_al hP hD hS hA hl.1 (P_beginsChain l G h0 a (upd (upd F 2 (nI sz)) 9 (nI at9)) R Z B J T Pi w at9 sz (by omega) (by omega) hO) (gV pw_998 pw_999 pw_1000 pw_796 pw_996) hV_X8_beginsChain qr240 5 hqr241 rfl rfl rfl (Nat.le_of_ble_eq_true rfl) dX8_beginsStatement_175 ⟨Nat.le_of_ble_eq_true rfl, Nat.le_of_ble_eq_true rfl⟩ ⟨Nat.le_of_ble_eq_true rfl, Nat.le_of_ble_eq_true rfl⟩ (fun v239 u237 H locs hw238 hP hD hS => ?_)
    obtain ⟨w, r242⟩ := u237
    obtain ⟨hw238, h243, hO⟩ := hw238
    have h243 : r242 ≤ 1 := h243
    obtain rfl : v239 = some (.int (nI r242)) := hw238
    have hO : OKW G h0 a (upd (upd F 2 (nI sz)) 9 (nI at9)) R Z B J T Pi w := hO.to rfl
    refine W.widen (k := 0) (n := 0) (Nat.le_of_ble_eq_true rfl) (Nat.le_of_ble_eq_true rfl) ?_
    refine W.eq (g2 := F0 m 178 ls [.int (nI r242)]) rfl ?_
    have hz244 : r242 ≤ 1 := (by omega)
    have hO : OKW G h0 a (upd (upd F 2 (nI sz)) 9 (nI at9)) R Z B J T Pi w := hO.to rfl
    exact W.zret (v := (nI r242)) hx hb hr (nI_nar (by omega)) (fun t99 ht99 hW99 => ⟨⟨_, (w, r242), rfl, ⟨rfl, hz244, hO⟩, by rw [ht99]; exact hP, hD⟩, hS.F ht99⟩) hS.2.2 dX8_beginsStatement_178
  by_cases h245 : r6 = 36
  · subst h245
    refine lv_tableIn (tgt := 174) (off := 163) hx hb dX8_beginsStatement_11 (by decide) (by decide) (by decide) (by decide) ?_
    refine lv_aload_n hx hb dX8_beginsStatement_174 rfl (lv_at hl 0 rfl) ?_
    have hO : OKW G h0 a (upd (upd (upd (upd F 2 (nI sz)) 9 (nI at9)) 2 (nI sz)) 9 (nI at9)) R Z B J T Pi w := hO.to rfl
    obtain ⟨_, qr249, hqr250⟩ := hO.2.1 23 _ (sg_23 G h0 a _ _ _ _ _)
    refine pc_V0 (G := G) (As := []) (rest := []) hx hb hml hown hq hE hX pX0_al hP hD hS hA hl.1 (P_beginsChain l G h0 a (upd (upd F 2 (nI sz)) 9 (nI at9)) R Z B J T Pi w at9 sz (by omega) (by omega) hO) (gV pw_998 pw_999 pw_1000 pw_796 pw_996) hV_X8_beginsChain qr249 5 hqr250 rfl rfl rfl (Nat.le_of_ble_eq_true rfl) dX8_beginsStatement_175 ⟨Nat.le_of_ble_eq_true rfl, Nat.le_of_ble_eq_true rfl⟩ ⟨Nat.le_of_ble_eq_true rfl, Nat.le_of_ble_eq_true rfl⟩ (fun v248 u246 H locs hw247 hP hD hS => ?_)
    obtain ⟨w, r251⟩ := u246
    obtain ⟨hw247, h252, hO⟩ := hw247
    have h252 : r251 ≤ 1 := h252
    obtain rfl : v248 = some (.int (nI r251)) := hw247
    have hO : OKW G h0 a (upd (upd F 2 (nI sz)) 9 (nI at9)) R Z B J T Pi w := hO.to rfl
    refine W.widen (k := 0) (n := 0) (Nat.le_of_ble_eq_true rfl) (Nat.le_of_ble_eq_true rfl) ?_
    refine W.eq (g2 := F0 m 178 ls [.int (nI r251)]) rfl ?_
    have hz253 : r251 ≤ 1 := (by omega)
    have hO : OKW G h0 a (upd (upd F 2 (nI sz)) 9 (nI at9)) R Z B J T Pi w := hO.to rfl
    exact W.zret (v := (nI r251)) hx hb hr (nI_nar (by omega)) (fun t99 ht99 hW99 => ⟨⟨_, (w, r251), rfl, ⟨rfl, hz253, hO⟩, by rw [ht99]; exact hP, hD⟩, hS.F ht99⟩) hS.2.2 dX8_beginsStatement_178
  by_cases h254 : r6 = 37
  · subst h254
    refine lv_tableIn (tgt := 174) (off := 163) hx hb dX8_beginsStatement_11 (by decide) (by decide) (by decide) (by decide) ?_
    refine lv_aload_n hx hb dX8_beginsStatement_174 rfl (lv_at hl 0 rfl) ?_
    have hO : OKW G h0 a (upd (upd (upd (upd F 2 (nI sz)) 9 (nI at9)) 2 (nI sz)) 9 (nI at9)) R Z B J T Pi w := hO.to rfl
    obtain ⟨_, qr258, hqr259⟩ := hO.2.1 23 _ (sg_23 G h0 a _ _ _ _ _)
    refine pc_V0 (G := G) (As := []) (rest := []) hx hb hml hown hq hE hX pX0_al hP hD hS hA hl.1 (P_beginsChain l G h0 a (upd (upd F 2 (nI sz)) 9 (nI at9)) R Z B J T Pi w at9 sz (by omega) (by omega) hO) (gV pw_998 pw_999 pw_1000 pw_796 pw_996) hV_X8_beginsChain qr258 5 hqr259 rfl rfl rfl (Nat.le_of_ble_eq_true rfl) dX8_beginsStatement_175 ⟨Nat.le_of_ble_eq_true rfl, Nat.le_of_ble_eq_true rfl⟩ ⟨Nat.le_of_ble_eq_true rfl, Nat.le_of_ble_eq_true rfl⟩ (fun v257 u255 H locs hw256 hP hD hS => ?_)
    obtain ⟨w, r260⟩ := u255
    obtain ⟨hw256, h261, hO⟩ := hw256
    have h261 : r260 ≤ 1 := h261
    obtain rfl : v257 = some (.int (nI r260)) := hw256
    have hO : OKW G h0 a (upd (upd F 2 (nI sz)) 9 (nI at9)) R Z B J T Pi w := hO.to rfl
    refine W.widen (k := 0) (n := 0) (Nat.le_of_ble_eq_true rfl) (Nat.le_of_ble_eq_true rfl) ?_
    refine W.eq (g2 := F0 m 178 ls [.int (nI r260)]) rfl ?_
    have hz262 : r260 ≤ 1 := (by omega)
    have hO : OKW G h0 a (upd (upd F 2 (nI sz)) 9 (nI at9)) R Z B J T Pi w := hO.to rfl
    exact W.zret (v := (nI r260)) hx hb hr (nI_nar (by omega)) (fun t99 ht99 hW99 => ⟨⟨_, (w, r260), rfl, ⟨rfl, hz262, hO⟩, by rw [ht99]; exact hP, hD⟩, hS.F ht99⟩) hS.2.2 dX8_beginsStatement_178
  by_cases h263 : r6 = 38
  · subst h263
    refine lv_tableIn (tgt := 172) (off := 161) hx hb dX8_beginsStatement_11 (by decide) (by decide) (by decide) (by decide) ?_
    refine lv_iconst (v := 1) hx hb dX8_beginsStatement_172 (by decide) ?_
    have hz264 : 1 ≤ 1 := (by omega)
    have hO : OKW G h0 a (upd (upd F 2 (nI sz)) 9 (nI at9)) R Z B J T Pi w := hO.to rfl
    exact W.zret (v := 1) hx hb hr rfl (fun t99 ht99 hW99 => ⟨⟨_, (w, 1), rfl, ⟨rfl, hz264, hO⟩, by rw [ht99]; exact hP, hD⟩, hS.F ht99⟩) hS.2.2 dX8_beginsStatement_173
  refine lv_tableOut (tgt := 174) hx hb dX8_beginsStatement_11 (sw_out38 h9 h11 h20 h29 h31 h40 h49 h58 h67 h69 h71 h80 h89 h98 h107 h116 h125 h134 h136 h145 h147 h156 h165 h167 h176 h178 h187 h189 h198 h207 h216 h218 h227 h236 h245 h254 h263) (by decide) ?_
  refine lv_aload_n hx hb dX8_beginsStatement_174 rfl (lv_at hl 0 rfl) ?_
  have hO : OKW G h0 a (upd (upd (upd (upd F 2 (nI sz)) 9 (nI at9)) 2 (nI sz)) 9 (nI at9)) R Z B J T Pi w := hO.to rfl
  obtain ⟨_, qr268, hqr269⟩ := hO.2.1 23 _ (sg_23 G h0 a _ _ _ _ _)
  refine pc_V0 (G := G) (As := []) (rest := []) hx hb hml hown hq hE hX pX0_al hP hD hS hA hl.1 (P_beginsChain l G h0 a (upd (upd F 2 (nI sz)) 9 (nI at9)) R Z B J T Pi w at9 sz (by omega) (by omega) hO) (gV pw_998 pw_999 pw_1000 pw_796 pw_996) hV_X8_beginsChain qr268 5 hqr269 rfl rfl rfl (Nat.le_of_ble_eq_true rfl) dX8_beginsStatement_175 ⟨Nat.le_of_ble_eq_true rfl, Nat.le_of_ble_eq_true rfl⟩ ⟨Nat.le_of_ble_eq_true rfl, Nat.le_of_ble_eq_true rfl⟩ (fun v267 u265 H locs hw266 hP hD hS => ?_)
  obtain ⟨w, r270⟩ := u265
  obtain ⟨hw266, h271, hO⟩ := hw266
  have h271 : r270 ≤ 1 := h271
  obtain rfl : v267 = some (.int (nI r270)) := hw266
  have hO : OKW G h0 a (upd (upd F 2 (nI sz)) 9 (nI at9)) R Z B J T Pi w := hO.to rfl
  refine W.widen (k := 0) (n := 0) (Nat.le_of_ble_eq_true rfl) (Nat.le_of_ble_eq_true rfl) ?_
  refine W.eq (g2 := F0 m 178 ls [.int (nI r270)]) rfl ?_
  have hz272 : r270 ≤ 1 := (by omega)
  have hO : OKW G h0 a (upd (upd F 2 (nI sz)) 9 (nI at9)) R Z B J T Pi w := hO.to rfl
  exact W.zret (v := (nI r270)) hx hb hr (nI_nar (by omega)) (fun t99 ht99 hW99 => ⟨⟨_, (w, r270), rfl, ⟨rfl, hz272, hO⟩, by rw [ht99]; exact hP, hD⟩, hS.F ht99⟩) hS.2.2 dX8_beginsStatement_178
theorem dX8_takeResult_0 : decode cX8_takeResult 0 = .ok (.aload_n 0, 1) := by decide +kernel
theorem dX8_takeResult_1 : decode cX8_takeResult 1 = .ok (.bipush 27, 2) := by decide +kernel
theorem dX8_takeResult_3 : decode cX8_takeResult 3 = .ok (.invokevirtual 36, 3) := by decide +kernel
theorem dX8_takeResult_6 : decode cX8_takeResult 6 = .ok (.ifCond .eq 12, 3) := by decide +kernel
theorem dX8_takeResult_18 : decode cX8_takeResult 18 = .ok (.aload_n 0, 1) := by decide +kernel
theorem dX8_takeResult_19 : decode cX8_takeResult 19 = .ok (.iconst 1, 1) := by decide +kernel
theorem dX8_takeResult_20 : decode cX8_takeResult 20 = .ok (.invokevirtual 132, 3) := by decide +kernel
theorem dX8_takeResult_23 : decode cX8_takeResult 23 = .ok (.ireturn, 1) := by decide +kernel
theorem dX8_takeResult_9 : decode cX8_takeResult 9 = .ok (.aload_n 0, 1) := by decide +kernel
theorem dX8_takeResult_10 : decode cX8_takeResult 10 = .ok (.bipush 27, 2) := by decide +kernel
theorem dX8_takeResult_12 : decode cX8_takeResult 12 = .ok (.invokevirtual 53, 3) := by decide +kernel
theorem dX8_takeResult_15 : decode cX8_takeResult 15 = .ok (.goto 8, 3) := by decide +kernel
theorem hV_X8_takeType : yX8_takeType.cls = RX8 ∧ yX8_takeType.cls ≠ "java/lang/invoke/MethodHandle" ∧ yX8_takeType.cls ≠ "java/lang/invoke/VarHandle" ∧ (parseMethodDescriptor yX8_takeType.desc).map (fun d => d.parameters.length) = some 1 := by decide +kernel
set_option maxHeartbeats 2000000 in
set_option maxRecDepth 100000 in
theorem P_takeResult (l : Launch) (G : pT) (h0 : Nat) (a : Nat → Nat) (F : Nat → Int32) (R : Nat → Value) (Z : Int64) (B : Nat → Nat → Int32) (J : Nat → Nat → Int64) (T : Nat → Nat) (Pi : Nat → va_E → Prop) (w : va_W) (at9 : Nat) (sz : Nat) (hsz : sz ≤ 5000) (hat : at9 ≤ sz) (hO : OKW G h0 a (upd (upd F 2 (nI sz)) 9 (nI at9)) R Z B J T Pi w) (hl0 : l.stackTraces = false) : PBn l G pX0 yX8_takeResult cX8_takeResult 1 (some .int) ({ frames := 8, cells := 1, slots := 6, locals := 145 }) [.ref (a 3)] w (fun (v : Option Value) (u : va_W × (Nat × (Nat → Int32))) => v = some (.int (nI at9)) ∧ (at9 + 1 ≤ u.2.1 ∧ u.2.1 ≤ sz) ∧ (RoS (B 10) u.2.2 at9) ∧ (OKW G h0 a (upd (upd F 2 (nI sz)) 9 (nI u.2.1)) R Z (updA B 10 u.2.2) J T Pi u.1)) (fun u => u.1) (fun (u : va_W × (Nat × (Nat → Int32))) => 0) (fun (u : va_W × (Nat × (Nat → Int32))) => 0) (fun (u : va_W × (Nat → Int32) × (Nat → Value) × (Nat → Nat → Int32)) => ThQ G h0 a (upd (upd F 2 (nI sz)) 9 (nI at9)) R Z B J u) (fun u => u.1) := by
  intro sz
  refine vx_ofW (cc := cX8_takeResult) (maxL := 1) (ret := (some .int)) (by decide) rfl ?_
  intro p e s m args below meth c s₁ B9 hml hnt hv
  obtain ⟨rfl, hsz, hP, hD0, hE, hX⟩ := hv
  have hx := B9.exec
  have hb := B9.bytes
  have hr := B9.returns
  have hts := atoms_spec (ws := Cond.code yX8_takeResult cX8_takeResult 1 (some .int) :: pw) B9.pre
  have hq : ∀ w ∈ pw, w.before _ s = true := fun w h => hts w (List.mem_cons_of_mem _ h)
  have hown : s.vm.findClass RX8 = some m.cls := findClass_of_methodNamed B9.named
  have hlocks := B9.notSynchronized
  subst hsz
  have hD := hD0.self (sz := s.heap.size)
  have hA : ∀ q : Nat, s.heap.size ≤ q → va_A w s.heap.size q := fun q h => Or.inr h
  generalize va_A w s.heap.size = A at hD hE hA ⊢
  have hS : va_S A s.heap s.heap [] := va_S.rf
  have hl := lv_entry ([.ref (a 3)]) (n := 1) (Nat.le_of_ble_eq_true rfl)
  rw [lg_entry_eq]
  generalize (lg_sl ([.ref (a 3)]) ++ List.replicate (1 - (lg_sl ([.ref (a 3)])).length) Slot.unset).toArray = ls at hl ⊢
  have hl : lv_has ls 1 [(0, .ref (a 3))] := hl
  refine lv_aload_n hx hb dX8_takeResult_0 rfl (lv_at hl 0 rfl) ?_
  refine lv_bipush (v := 27) hx hb dX8_takeResult_1 (by decide) ?_
  have hO : OKW G h0 a (upd (upd (upd (upd F 2 (nI sz)) 9 (nI at9)) 2 (nI sz)) 9 (nI at9)) R Z B J T Pi w := hO.to rfl
  obtain ⟨_, qr4, hqr5⟩ := hO.2.1 23 _ (sg_23 G h0 a _ _ _ _ _)
  refine pc_V0 (G := G) (As := [.int 27]) (rest := []) hx hb hml hown hq hE hX pX0_al hP hD hS hA hl.1 (P_sees l G h0 a (upd (upd F 2 (nI sz)) 9 (nI at9)) R Z B J T Pi w 27 at9 sz (by omega) (by omega) hO) (gV pw_803 pw_804 pw_805 pw_796 pw_775) hV_X8_sees qr4 5 hqr5 rfl rfl rfl (Nat.le_of_ble_eq_true rfl) dX8_takeResult_3 ⟨(by show 0 + 0 ≤ 1; omega), (by show 0 + 0 ≤ 6; omega)⟩ ⟨Nat.le_of_ble_eq_true rfl, Nat.le_of_ble_eq_true rfl⟩ (fun v3 u1 H locs hw2 hP hD hS => ?_)
  obtain ⟨w, r6⟩ := u1
  obtain ⟨hw2, h7, h8, hO⟩ := hw2
  have h7 : r6 ≤ 1 := h7
  have h8 : SeQ ((B 7)) sz at9 27 r6 := h8
  obtain rfl : v3 = some (.int (nI r6)) := hw2
  have hO : OKW G h0 a (upd (upd F 2 (nI sz)) 9 (nI at9)) R Z B J T Pi w := hO.to rfl
  refine W.widen (k := 0) (n := 0) (Nat.le_of_ble_eq_true rfl) (Nat.le_of_ble_eq_true rfl) ?_
  refine W.eq (g2 := F0 m 6 ls [.int (nI r6)]) rfl ?_
  refine lv_if_eq (tgt := 18) hx hb dX8_takeResult_6 (by decide) (fun c9 => ?_) (fun c9 => ?_)
  · have n10 : r6 = 0 := (nI_eq (a := r6) (b := 0) (by omega) (by omega)).mp c9
    refine lv_aload_n hx hb dX8_takeResult_18 rfl (lv_at hl 0 rfl) ?_
    refine lv_iconst (v := 1) hx hb dX8_takeResult_19 (by decide) ?_
    have hO : OKW G h0 a (upd (upd (upd (upd F 2 (nI sz)) 9 (nI at9)) 2 (nI sz)) 9 (nI at9)) R Z B J T Pi w := hO.to rfl
    obtain ⟨_, qr14, hqr15⟩ := hO.2.1 23 _ (sg_23 G h0 a _ _ _ _ _)
    refine pn_V0 (G := G) (As := [.int 1]) (rest := []) hx hb hml hown hq hE hX pX0_al hP hD hS hA hl.1 (P_takeType l G h0 a (upd (upd F 2 (nI sz)) 9 (nI at9)) R Z B J T Pi w 1 at9 sz (by omega) (by omega) hO hl0) (gV pw_825 pw_826 pw_827 pw_796 pw_821) hV_X8_takeType qr14 5 hqr15 rfl rfl rfl (Nat.le_of_ble_eq_true rfl) dX8_takeResult_20 ⟨(by show 0 + 1 ≤ 1; omega), (by show 0 + 6 ≤ 6; omega)⟩ ⟨Nat.le_of_ble_eq_true rfl, Nat.le_of_ble_eq_true rfl⟩ (fun v13 u11 H locs hw12 hP hD hS => ?_) (fun ux ce9 q9 H9 locs9 hux hP9 hD9 hS9 hce hcv hcl => pb_out ux (ThQ.up (Thx.same (Thx.same Thx.rfl rfl) rfl) RhX.rfl hux) hnt hlocks hce hcv hcl hP9 hD9 hS9 (by show 0 + 1 ≤ 1; omega) (by show 0 + 6 ≤ 6; omega))
    obtain ⟨w, at16, f17⟩ := u11
    obtain ⟨hw12, h18, h19, h20, h21, hO⟩ := hw12
    have h18 : at9 + 1 ≤ at16 ∧ at16 ≤ sz := h18
    have h19 : RoS ((B 10)) f17 at9 := h19
    have h20 : TtQ ((B 7)) sz f17 at9 := h20
    have h21 : (1 : Int32) = 0 → at16 = at9 + 1 := h21
    obtain rfl : v13 = some (.int (nI at9)) := hw12
    have hO : OKW G h0 a (upd (upd F 2 (nI sz)) 9 (nI at16)) R Z (updA B 10 f17) J T Pi w := hO.to rfl
    refine W.widen (k := 0) (n := 0) (by show 0 + 0 ≤ 0; omega) (by show 0 + 0 ≤ 0; omega) ?_
    refine W.eq (g2 := F0 m 23 ls [.int (nI at9)]) rfl ?_
    refine W_size (fun hz1 hz2 => ?_)
    refine vx_ret ?_
    have hz22 : at9 + 1 ≤ at16 ∧ at16 ≤ sz := (by omega)
    have hz23 : RoS (B 10) f17 at9 := h19
    have hO : OKW G h0 a (upd (upd F 2 (nI sz)) 9 (nI at16)) R Z (updA B 10 f17) J T Pi w := hO.to rfl
    refine W.widen (k := 1) (n := 6) (by omega) (by omega) ?_
    have hzz1 : H.size ≤ s.heap.size + (0) := (by have z : 0 ≤ 0 := (by omega); omega)
    have hzz2 : hSl H ≤ hSl s.heap + (0) := (by have z : 0 ≤ 0 := (by omega); omega)
    exact W.iret (v := (nI at9)) hx hb hr (fun t99 ht99 hW99 => ⟨⟨_, (w, (at16, f17)), rfl, ⟨rfl, hz22, hz23, hO⟩, by rw [ht99]; exact hP, hD, by rw [ht99]; exact hzz1, by rw [ht99]; exact hzz2⟩, hS.F ht99⟩) hS.2.2 dX8_takeResult_23
  · have n24 : ¬ (r6 = 0) := fun h9 => c9 ((nI_eq (a := r6) (b := 0) (by omega) (by omega)).mpr h9)
    refine lv_aload_n hx hb dX8_takeResult_9 rfl (lv_at hl 0 rfl) ?_
    refine lv_bipush (v := 27) hx hb dX8_takeResult_10 (by decide) ?_
    have hO : OKW G h0 a (upd (upd (upd (upd F 2 (nI sz)) 9 (nI at9)) 2 (nI sz)) 9 (nI at9)) R Z B J T Pi w := hO.to rfl
    obtain ⟨_, qr28, hqr29⟩ := hO.2.1 23 _ (sg_23 G h0 a _ _ _ _ _)
    refine pn_V0 (G := G) (As := [.int 27]) (rest := []) hx hb hml hown hq hE hX pX0_al hP hD hS hA hl.1 (P_take l G h0 a (upd (upd F 2 (nI sz)) 9 (nI at9)) R Z B J T Pi w 27 at9 sz (by omega) (by omega) (by decide) hO hl0) (gV pw_793 pw_794 pw_795 pw_796 pw_781) hV_X8_take qr28 5 hqr29 rfl rfl rfl (Nat.le_of_ble_eq_true rfl) dX8_takeResult_12 ⟨(by show 0 + 1 ≤ 1; omega), (by show 0 + 6 ≤ 6; omega)⟩ ⟨Nat.le_of_ble_eq_true rfl, Nat.le_of_ble_eq_true rfl⟩ (fun v27 u25 H locs hw26 hP hD hS => ?_) (fun ux ce9 q9 H9 locs9 hux hP9 hD9 hS9 hce hcv hcl => pb_out ux (ThQ.up (Thx.same (Thx.same Thx.rfl rfl) rfl) RhX.rfl hux) hnt hlocks hce hcv hcl hP9 hD9 hS9 (by show 0 + 1 ≤ 1; omega) (by show 0 + 6 ≤ 6; omega))
    obtain ⟨w, _⟩ := u25
    obtain ⟨hw26, h30, h31, hO⟩ := hw26
    have h30 : at9 + 1 ≤ sz := h30
    have h31 : tkN ((B 7)) sz 67 (nI at9) = 27 := h31
    obtain rfl : v27 = some (.int (nI at9)) := hw26
    have hO : OKW G h0 a (upd (upd F 2 (nI sz)) 9 (nI (at9 + 1))) R Z B J T Pi w := hO.to rfl
    refine W.widen (k := 0) (n := 0) (by show 0 + 0 ≤ 0; omega) (by show 0 + 0 ≤ 0; omega) ?_
    refine W.eq (g2 := F0 m 15 ls [.int (nI at9)]) rfl ?_
    refine lv_goto (tgt := 23) hx hb dX8_takeResult_15 (by decide) ?_
    refine W_size (fun hz1 hz2 => ?_)
    refine vx_ret ?_
    have hz32 : at9 + 1 ≤ (at9 + 1) ∧ (at9 + 1) ≤ sz := (by omega)
    have hz33 : RoS (B 10) (B 10) at9 := (fun _ _ => rfl)
    have hO : OKW G h0 a (upd (upd F 2 (nI sz)) 9 (nI (at9 + 1))) R Z (updA B 10 (B 10)) J T Pi w := hO.to rfl
    refine W.widen (k := 1) (n := 6) (by omega) (by omega) ?_
    have hzz1 : H.size ≤ s.heap.size + (0) := (by have z : 0 ≤ 0 := (by omega); omega)
    have hzz2 : hSl H ≤ hSl s.heap + (0) := (by have z : 0 ≤ 0 := (by omega); omega)
    exact W.iret (v := (nI at9)) hx hb hr (fun t99 ht99 hW99 => ⟨⟨_, (w, ((at9 + 1), (B 10))), rfl, ⟨rfl, hz32, hz33, hO⟩, by rw [ht99]; exact hP, hD, by rw [ht99]; exact hzz1, by rw [ht99]; exact hzz2⟩, hS.F ht99⟩) hS.2.2 dX8_takeResult_23
theorem dX8_variable_0 : decode cX8_variable 0 = .ok (.new 143, 3) := by decide +kernel
theorem dX8_variable_3 : decode cX8_variable 3 = .ok (.dup, 1) := by decide +kernel
theorem dX8_variable_4 : decode cX8_variable 4 = .ok (.bipush 36, 2) := by decide +kernel
theorem dX8_variable_6 : decode cX8_variable 6 = .ok (.iload_n 2, 1) := by decide +kernel
theorem dX8_variable_7 : decode cX8_variable 7 = .ok (.iload_n 1, 1) := by decide +kernel
theorem dX8_variable_8 : decode cX8_variable 8 = .ok (.invokespecial 145, 3) := by decide +kernel
theorem dX8_variable_11 : decode cX8_variable 11 = .ok (.astore_n 3, 1) := by decide +kernel
theorem dX8_variable_12 : decode cX8_variable 12 = .ok (.aload_n 3, 1) := by decide +kernel
theorem dX8_variable_13 : decode cX8_variable 13 = .ok (.aload_n 0, 1) := by decide +kernel
theorem dX8_variable_14 : decode cX8_variable 14 = .ok (.getfield 7, 3) := by decide +kernel
theorem dX8_variable_17 : decode cX8_variable 17 = .ok (.iload_n 2, 1) := by decide +kernel
theorem dX8_variable_18 : decode cX8_variable 18 = .ok (.invokevirtual 148, 3) := by decide +kernel
theorem dX8_variable_21 : decode cX8_variable 21 = .ok (.putfield 151, 3) := by decide +kernel
theorem dX8_variable_24 : decode cX8_variable 24 = .ok (.aload_n 3, 1) := by decide +kernel
theorem dX8_variable_25 : decode cX8_variable 25 = .ok (.areturn, 1) := by decide +kernel
theorem hV_X10_valueAt : yX10_valueAt.cls = RX10 ∧ yX10_valueAt.cls ≠ "java/lang/invoke/MethodHandle" ∧ yX10_valueAt.cls ≠ "java/lang/invoke/VarHandle" ∧ (parseMethodDescriptor yX10_valueAt.desc).map (fun d => d.parameters.length) = some 1 := by decide +kernel
set_option maxHeartbeats 8000000 in
set_option maxRecDepth 100000 in
theorem P_variable (l : Launch) (G : pT) (h0 : Nat) (a : Nat → Nat) (F : Nat → Int32) (R : Nat → Value) (Z : Int64) (B : Nat → Nat → Int32) (J : Nat → Nat → Int64) (K : PK) (w : va_W) (x1 : Int32) (x2 : Int32) (sz : Nat) (O : Nat) (kr : Nat) (g : Nat → Nat → Nat) (hsz : sz ≤ 5000) (hwn : WN K g) (how : ∀ o : Nat, O = o + 1 → K.1 o = 1 ∧ (1 ≤ g 0 o → 1 < 0) ∧ ¬ K.2.1 0 o = 32) (hkr : Itv kr) (hO : OKP G h0 a (upd F 2 (nI sz)) R Z B J K w) : PM l G pX0 yX8_variable cX8_variable 4 (some (.object "JinjaTongue$Node")) ({ frames := 3, cells := 1, slots := 11, locals := 83 }) [.ref (a 3), .int x1, .int x2] w (fun (v : Option Value) (u : va_W × (Nat × PK × (Nat → Nat → Nat))) => v = some (.ref u.2.1) ∧ (NwR K u.2.2.1 g u.2.2.2 u.2.1 O kr 1) ∧ (u.2.2.1.2.1 0 u.2.1 = 36) ∧ (VaT K u.2.2.1) ∧ (OKP G h0 a (upd F 2 (nI sz)) R Z B J u.2.2.1 u.1)) (fun u => u.1) := by
  intro sz
  refine Met.ofW (cc := cX8_variable) (maxL := 4) (ret := (some (.object "JinjaTongue$Node"))) (by decide) rfl ?_
  intro p e s m args below meth c s₁ B9 hml hv
  obtain ⟨rfl, hsz, hP, hD0, hE, hX⟩ := hv
  have hx := B9.exec
  have hb := B9.bytes
  have hr := B9.returns
  have hts := atoms_spec (ws := Cond.code yX8_variable cX8_variable 4 (some (.object "JinjaTongue$Node")) :: pw) B9.pre
  have hq : ∀ w ∈ pw, w.before _ s = true := fun w h => hts w (List.mem_cons_of_mem _ h)
  have hown : s.vm.findClass RX8 = some m.cls := findClass_of_methodNamed B9.named
  have hlocks := B9.notSynchronized
  subst hsz
  have hD := hD0.self (sz := s.heap.size)
  have hA : ∀ q : Nat, s.heap.size ≤ q → va_A w s.heap.size q := fun q h => Or.inr h
  generalize va_A w s.heap.size = A at hD hE hA ⊢
  have hS : va_S A s.heap s.heap [] := va_S.rf
  have hl := lv_entry ([.ref (a 3), .int x1, .int x2]) (n := 4) (Nat.le_of_ble_eq_true rfl)
  rw [lg_entry_eq]
  generalize (lg_sl ([.ref (a 3), .int x1, .int x2]) ++ List.replicate (4 - (lg_sl ([.ref (a 3), .int x1, .int x2])).length) Slot.unset).toArray = ls at hl ⊢
  have hl : lv_has ls 4 [(0, .ref (a 3)), (1, .int x1), (2, .int x2)] := hl
  refine p_new (s9 := 1) (C := RX7) (T := TX7) (N := 11) (ci := 13) (fs := [.int 0, .int 0, .int 0, .int 0, .int 0, .int 0, .null, .null, .null, .null, .null]) hx hb hq pin_wsX70 tyX7 tyX7_ok hown (hq _ pw_870) (hq _ pw_871) (hq _ pw_872) hE hP hD hS hA hO rfl nw_X7 (by decide) (fun q => by rw [rep_1 (show (kN K q 1 0).1 q = 1 from if_pos rfl)]; unfold fsNode kN; simp only [if_true]; rfl) (by show 0 + 1 ≤ 1; omega) (by show 0 + 11 ≤ 11; omega) dX8_variable_0 (fun q1 H w hq2 hP hD hS hO => ?_)
  have hf3 : (kN K q1 1 0).1 q1 = 1 := if_pos rfl
  refine W.widen (k := 1) (n := 11) (by show 0 + 1 ≤ 1; omega) (by show 0 + 11 ≤ 11; omega) ?_
  refine lv_dup hx hb dX8_variable_3 rfl ?_
  refine lv_bipush (v := 36) hx hb dX8_variable_4 (by decide) ?_
  refine lv_iload_n hx hb dX8_variable_6 rfl (lv_at hl 2 rfl) ?_
  refine lv_iload_n hx hb dX8_variable_7 rfl (lv_at hl 1 rfl) ?_
  have hO : OKP G h0 a (upd F 2 (nI sz)) R Z B J (kN K q1 1 0) w := hO.to rfl
  obtain ⟨qr7, hqr8⟩ := p_recv hO (by rw [hf3]; decide) (rep_1 hf3)
  refine pc_I0 (G := G) (As := [.int 36, .int x2, .int x1]) (rest := [.ref q1]) hx hb hml hown hq hE hX pX0_al hP hD hS hA hl.1 (N_init l G h0 a (upd F 2 (nI sz)) R Z B J (kN K q1 1 0) w q1 36 x2 x1 (by omega) hO) pw_874 pw_875 pw_872 pw_765 rfl hS_X7_init rfl (Nat.le_of_ble_eq_true rfl) dX8_variable_8 ⟨(by show 1 + 0 ≤ 1; omega), (by show 11 + 0 ≤ 11; omega)⟩ ⟨Nat.le_of_ble_eq_true rfl, Nat.le_of_ble_eq_true rfl⟩ (fun v6 u4 H locs hw5 hP hD hS => ?_)
  obtain ⟨w, _⟩ := u4
  obtain ⟨hw5, hO⟩ := hw5
  obtain rfl : v6 = none := hw5
  have hf9 : (kI (kI (kI (kN K q1 1 0) 0 q1 36) 1 q1 x2) 2 q1 x1).1 q1 = 1 := hf3
  have hO : OKP G h0 a (upd F 2 (nI sz)) R Z B J (kI (kI (kI (kN K q1 1 0) 0 q1 36) 1 q1 x2) 2 q1 x1) w := hO.to rfl
  refine W.widen (k := 1) (n := 11) (by show 1 + 0 ≤ 1; omega) (by show 11 + 0 ≤ 11; omega) ?_
  refine W.eq (g2 := F0 m 11 ls [.ref q1]) rfl ?_
  refine lv_astore_n (lv' := [(3, .ref q1), (0, .ref (a 3)), (1, .int x1), (2, .int x2)]) hx hb dX8_variable_11 rfl hl (by decide) rfl (fun ls hl => ?_)
  refine lv_aload_n hx hb dX8_variable_12 rfl (lv_at hl 0 rfl) ?_
  refine lv_aload_n hx hb dX8_variable_13 rfl (lv_at hl 1 rfl) ?_
  refine c_get (v := .ref (a 1)) (C := RX8) (Tc := TX8) (N := 5) (ci := 5) hx hb hq pin_wsX80 hown hE hP hO 23 (sg_23 G h0 a _ _ _ _ _) rfl 0 (by decide) (hq _ pw_774) (fun _ h9 => h9) rfl dX8_variable_14 ?_
  refine lv_iload_n hx hb dX8_variable_17 rfl (lv_at hl 3 rfl) ?_
  have hO : OKW G h0 a (upd (upd F 2 (nI sz)) 2 (nI sz)) R Z B J ((kI (kI (kI (kN K q1 1 0) 0 q1 36) 1 q1 x2) 2 q1 x1).1) (fun q99 x99 => x99 = rep G a (kI (kI (kI (kN K q1 1 0) 0 q1 36) 1 q1 x2) 2 q1 x1) q99) w := hO.to rfl
  obtain ⟨_, qr13, hqr14⟩ := hO.2.1 2 _ (sg_2 G h0 a _ _ _ _ _)
  refine pc_V0 (G := G) (As := [.int x2]) (rest := [.ref q1]) hx hb hml hown hq hE hX pX0_al hP hD hS hA hl.1 (K_valueAt l G h0 a (upd F 2 (nI sz)) R Z B J ((kI (kI (kI (kN K q1 1 0) 0 q1 36) 1 q1 x2) 2 q1 x1).1) (fun q99 x99 => x99 = rep G a (kI (kI (kI (kN K q1 1 0) 0 q1 36) 1 q1 x2) 2 q1 x1) q99) w x2 sz (by omega) hO) (gV pw_876 pw_57 pw_58 pw_59 pw_39) hV_X10_valueAt qr13 7 hqr14 rfl rfl rfl (Nat.le_of_ble_eq_true rfl) dX8_variable_18 ⟨(by show 1 + 0 ≤ 1; omega), (by show 11 + 0 ≤ 11; omega)⟩ ⟨Nat.le_of_ble_eq_true rfl, Nat.le_of_ble_eq_true rfl⟩ (fun v12 u10 H locs hw11 hP hD hS => ?_)
  obtain ⟨w, r15⟩ := u10
  obtain ⟨hw11, hO⟩ := hw11
  obtain rfl : v12 = some (.int r15) := hw11
  have hO : OKP G h0 a (upd F 2 (nI sz)) R Z B J (kI (kI (kI (kN K q1 1 0) 0 q1 36) 1 q1 x2) 2 q1 x1) w := hO.to rfl
  refine W.widen (k := 1) (n := 11) (by show 1 + 0 ≤ 1; omega) (by show 11 + 0 ≤ 11; omega) ?_
  refine W.eq (g2 := F0 m 21 ls [.int r15, .ref q1]) rfl ?_
  refine p_put (v := .int r15) (ty := .int) (C := RX7) (Tc := TX7) (N := 11) (ci := 13) (K' := (kI (kI (kI (kI (kN K q1 1 0) 0 q1 36) 1 q1 x2) 2 q1 x1) 3 q1 r15)) hx hb hq pin_wsX70 tyX7 tyX7_ok nmX7 hown hE hP hD hS hO (by rw [hf9]; decide) (rep_1 hf9) rfl 3 (by decide) (hq _ pw_873) (fun _ h9 => h9) rfl (by decide +kernel) rfl rfl (Nat.le_of_ble_eq_true rfl) rfl (by rw [rep_1 (show (kI (kI (kI (kI (kN K q1 1 0) 0 q1 36) 1 q1 x2) 2 q1 x1) 3 q1 r15).1 q1 = 1 from hf9), pi_3] <;> rfl) (fun p9 hp9 => rep_kI hp9) dX8_variable_21 (fun H locs w hP hD hS hO => ?_)
  obtain ⟨K16, hK17⟩ : ∃ z : PK, z = (kI (kI (kI (kI (kN K q1 1 0) 0 q1 36) 1 q1 x2) 2 q1 x1) 3 q1 r15) := ⟨_, rfl⟩
  rw [← hK17] at hO
  have hf18 : K16.1 q1 = 1 := (by rw [hK17]; exact hf9)
  have hf19 : K16.2.1 3 q1 = r15 := by rw [hK17]; exact kI_eq
  refine lv_aload_n hx hb dX8_variable_24 rfl (lv_at hl 0 rfl) ?_
  have hlf0 := leaf_ok (q := q1) (a := 36) (b := x2) (c := x1) (O := O) (k := kr) hwn hq2 hkr (IvK.no (by decide)) (fun C => ⟨fun z => absurd z (by decide), fun z => absurd z (by decide), fun z => absurd z (by decide), fun z => absurd z (by decide), fun z => absurd z (by decide)⟩) how
  have hlf := NwR.num (f := 3) (v := r15) (by decide) hlf0
  have hk0 : K16 = kI (mkN K q1 36 x2 x1) 3 q1 r15 := hK17
  rw [← hk0] at hlf
  have hz20 : NwR K K16 g (gset (gset g q1 0 0 0) q1 1 O kr) q1 O kr 1 := hlf
  have hz21 : K16.2.1 0 q1 = 36 := (by rw [hk0]; exact (kI_of (by decide)).trans mkN_0)
  have hz22 : VaT K K16 := (by rw [hk0]; exact VaT.mk hq2)
  have hO : OKP G h0 a (upd F 2 (nI sz)) R Z B J K16 w := hO.to rfl
  refine W.widen (k := 1) (n := 11) (by omega) (by omega) ?_
  exact W.aret (v := .ref q1) hx hb hr (Or.inl ⟨_, rfl⟩) (Or.inr ⟨_, rfl⟩) (fun t99 ht99 hW99 => ⟨⟨_, (w, (q1, K16, (gset (gset g q1 0 0 0) q1 1 O kr))), rfl, ⟨rfl, hz20, hz21, hz22, hO⟩, by rw [ht99]; exact hP, hD⟩, hS.F ht99⟩) hS.2.2 dX8_variable_25
