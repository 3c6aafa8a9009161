theorem i32_lo (x : Int32) : -2147483648 ≤ x.toInt := Int32.le_toInt x
theorem i32_hi (x : Int32) : x.toInt < 2147483648 := Int32.toInt_lt x
theorem i32_succ {x y : Int32} (h : ¬ y ≤ x) : (x + 1).toInt = x.toInt + 1 := by
  have a := i32_lo x
  have b := i32_hi y
  rw [Int32.le_iff_toInt_le] at h
  rw [Int32.toInt_add, show (1 : Int32).toInt = 1 by decide]
  exact Int.bmod_eq_of_le (by omega) (by omega)
theorem dX5_land_0 : decode cX5_land 0 = .ok (.aload_n 0, 1) := by decide +kernel
theorem dX5_land_1 : decode cX5_land 1 = .ok (.aload_n 0, 1) := by decide +kernel
theorem dX5_land_2 : decode cX5_land 2 = .ok (.getfield 100, 3) := by decide +kernel
theorem dX5_land_5 : decode cX5_land 5 = .ok (.aload_n 0, 1) := by decide +kernel
theorem dX5_land_6 : decode cX5_land 6 = .ok (.getfield 96, 3) := by decide +kernel
theorem dX5_land_9 : decode cX5_land 9 = .ok (.getfield 295, 3) := by decide +kernel
theorem dX5_land_12 : decode cX5_land 12 = .ok (.iadd, 1) := by decide +kernel
theorem dX5_land_13 : decode cX5_land 13 = .ok (.putfield 103, 3) := by decide +kernel
theorem dX5_land_16 : decode cX5_land 16 = .ok (.aload_n 0, 1) := by decide +kernel
theorem dX5_land_17 : decode cX5_land 17 = .ok (.aload_n 0, 1) := by decide +kernel
theorem dX5_land_18 : decode cX5_land 18 = .ok (.getfield 11, 3) := by decide +kernel
theorem dX5_land_21 : decode cX5_land 21 = .ok (.iload_n 1, 1) := by decide +kernel
theorem dX5_land_22 : decode cX5_land 22 = .ok (.invokevirtual 350, 3) := by decide +kernel
theorem dX5_land_25 : decode cX5_land 25 = .ok (.putfield 132, 3) := by decide +kernel
theorem dX5_land_28 : decode cX5_land 28 = .ok (.aload_n 0, 1) := by decide +kernel
theorem dX5_land_29 : decode cX5_land 29 = .ok (.getfield 11, 3) := by decide +kernel
theorem dX5_land_32 : decode cX5_land 32 = .ok (.iload_n 1, 1) := by decide +kernel
theorem dX5_land_33 : decode cX5_land 33 = .ok (.invokevirtual 353, 3) := by decide +kernel
theorem dX5_land_36 : decode cX5_land 36 = .ok (.istore 5, 2) := by decide +kernel
theorem dX5_land_38 : decode cX5_land 38 = .ok (.aload_n 0, 1) := by decide +kernel
theorem dX5_land_39 : decode cX5_land 39 = .ok (.getfield 11, 3) := by decide +kernel
theorem dX5_land_42 : decode cX5_land 42 = .ok (.iload_n 1, 1) := by decide +kernel
theorem dX5_land_43 : decode cX5_land 43 = .ok (.invokevirtual 344, 3) := by decide +kernel
theorem dX5_land_46 : decode cX5_land 46 = .ok (.iconst (-1), 1) := by decide +kernel
theorem dX5_land_47 : decode cX5_land 47 = .ok (.if_icmp .ne 27, 3) := by decide +kernel
theorem dX5_land_74 : decode cX5_land 74 = .ok (.aload_n 0, 1) := by decide +kernel
theorem dX5_land_75 : decode cX5_land 75 = .ok (.iload 5, 2) := by decide +kernel
theorem dX5_land_77 : decode cX5_land 77 = .ok (.lload_n 3, 1) := by decide +kernel
theorem dX5_land_78 : decode cX5_land 78 = .ok (.invokevirtual 184, 3) := by decide +kernel
theorem dX5_land_81 : decode cX5_land 81 = .ok (.return_, 1) := by decide +kernel
theorem dX5_land_50 : decode cX5_land 50 = .ok (.aload_n 0, 1) := by decide +kernel
theorem dX5_land_51 : decode cX5_land 51 = .ok (.iload 5, 2) := by decide +kernel
theorem dX5_land_53 : decode cX5_land 53 = .ok (.iload_n 2, 1) := by decide +kernel
theorem dX5_land_54 : decode cX5_land 54 = .ok (.i2l, 1) := by decide +kernel
theorem dX5_land_55 : decode cX5_land 55 = .ok (.ldc2_w 170, 3) := by decide +kernel
theorem dX5_land_58 : decode cX5_land 58 = .ok (.land, 1) := by decide +kernel
theorem dX5_land_59 : decode cX5_land 59 = .ok (.invokevirtual 184, 3) := by decide +kernel
theorem dX5_land_62 : decode cX5_land 62 = .ok (.aload_n 0, 1) := by decide +kernel
theorem dX5_land_63 : decode cX5_land 63 = .ok (.iload 5, 2) := by decide +kernel
theorem dX5_land_65 : decode cX5_land 65 = .ok (.iconst 1, 1) := by decide +kernel
theorem dX5_land_66 : decode cX5_land 66 = .ok (.iadd, 1) := by decide +kernel
theorem dX5_land_67 : decode cX5_land 67 = .ok (.lload_n 3, 1) := by decide +kernel
theorem dX5_land_68 : decode cX5_land 68 = .ok (.invokevirtual 184, 3) := by decide +kernel
theorem dX5_land_71 : decode cX5_land 71 = .ok (.goto 10, 3) := by decide +kernel
theorem hV_X1_handler : yX1_handler.cls = RX1 ∧ yX1_handler.cls ≠ "java/lang/invoke/MethodHandle" ∧ yX1_handler.cls ≠ "java/lang/invoke/VarHandle" ∧ (parseMethodDescriptor yX1_handler.desc).map (fun d => d.parameters.length) = some 1 := by decide +kernel
theorem hV_X1_slot : yX1_slot.cls = RX1 ∧ yX1_slot.cls ≠ "java/lang/invoke/MethodHandle" ∧ yX1_slot.cls ≠ "java/lang/invoke/VarHandle" ∧ (parseMethodDescriptor yX1_slot.desc).map (fun d => d.parameters.length) = some 1 := by decide +kernel
theorem hV_X1_caught : yX1_caught.cls = RX1 ∧ yX1_caught.cls ≠ "java/lang/invoke/MethodHandle" ∧ yX1_caught.cls ≠ "java/lang/invoke/VarHandle" ∧ (parseMethodDescriptor yX1_caught.desc).map (fun d => d.parameters.length) = some 1 := by decide +kernel
set_option maxHeartbeats 16000000 in
set_option maxRecDepth 100000 in
theorem M_land (l : Launch) (G : pT) (h0 : Nat) (a : Nat → Nat) (F : Nat → Int32) (R : Nat → Value) (Z : Int64) (B : Nat → Nat → Int32) (J : Nat → Nat → Int64) (K : PK) (w : va_W) (m2 : Nat) (ba : Nat) (rg : Nat) (x : Int32) (y : Int32) (z : Int64) (g : Nat → Nat → Nat) (tp : Nat) (htp : tp ≤ 32000) (hrg : rg ≤ 625) (hms : MsO K (some m2) ba) (hwp : WPr G K g) (hO : OKP G h0 a (upd (upd (upd F 6 (nI rg)) 18 (nI ba)) 19 (nI tp)) (updR R 6 (.ref m2)) Z B J K w) : PM l G pX0 yX5_land cX5_land 6 none ({ frames := 3, cells := 0, slots := 0, locals := 84 }) [.ref (a 5), .int x, .int y, .long z] w (fun (v : Option Value) (u : va_W × (Nat × Int32 × (Nat → Nat → Int64))) => v = none ∧ (u.2.1 ≤ 32000) ∧ (OKP G h0 a (upd (upd (upd (upd F 6 (nI rg)) 18 (nI ba)) 19 (nI u.2.1)) 21 u.2.2.1) (updR R 6 (.ref m2)) Z B u.2.2.2 K u.1)) (fun u => u.1) := by
  intro sz
  refine Met.ofW (cc := cX5_land) (maxL := 6) (ret := none) (by decide) rfl ?_
  intro p e s m args below meth c s₁ B9 hml hv
  obtain ⟨rfl, hsz, hP, hD0, hE, hX⟩ := hv
  have hx := B9.exec
  have hb := B9.bytes
  have hr := B9.returns
  have hts := atoms_spec (ws := Cond.code yX5_land cX5_land 6 none :: pw) B9.pre
  have hq : ∀ w ∈ pw, w.before _ s = true := fun w h => hts w (List.mem_cons_of_mem _ h)
  have hown : s.vm.findClass RX5 = some m.cls := findClass_of_methodNamed B9.named
  have hlocks := B9.notSynchronized
  subst hsz
  have hD := hD0.self (sz := s.heap.size)
  have hA : ∀ q : Nat, s.heap.size ≤ q → va_A w s.heap.size q := fun q h => Or.inr h
  generalize va_A w s.heap.size = A at hD hE hA ⊢
  have hS : va_S A s.heap s.heap [] := va_S.rf
  have hl := lv_entry ([.ref (a 5), .int x, .int y, .long z]) (n := 6) (Nat.le_of_ble_eq_true rfl)
  rw [lg_entry_eq]
  generalize (lg_sl ([.ref (a 5), .int x, .int y, .long z]) ++ List.replicate (6 - (lg_sl ([.ref (a 5), .int x, .int y, .long z])).length) Slot.unset).toArray = ls at hl ⊢
  have hl : lv_has ls 6 [(0, .ref (a 5)), (1, .int x), (2, .int y), (3, .long z)] := hl
  have hm2 := (hms m2 rfl).1
  obtain ⟨sl2, hn2b, hn2⟩ := (hwp.2.2.2 m2 hm2).2.2.2
  have hle2 := MsO.le hms hn2 hn2b
  refine lv_aload_n hx hb dX5_land_0 rfl (lv_at hl 0 rfl) ?_
  refine lv_aload_n hx hb dX5_land_1 rfl (lv_at hl 0 rfl) ?_
  refine c_get (v := .int (nI ba)) (C := RX5) (Tc := TX5) (N := 19) (ci := 4) hx hb hq pin_wsX50 hown hE hP hO 28 (sg_28 G h0 a _ _ _ _ _) rfl 10 (by decide) (hq _ pw_504) (fun _ h9 => h9) rfl dX5_land_2 ?_
  refine lv_aload_n hx hb dX5_land_5 rfl (lv_at hl 0 rfl) ?_
  refine c_get (v := .ref m2) (C := RX5) (Tc := TX5) (N := 19) (ci := 4) hx hb hq pin_wsX50 hown hE hP hO 28 (sg_28 G h0 a _ _ _ _ _) rfl 9 (by decide) (hq _ pw_503) (fun _ h9 => h9) rfl dX5_land_6 ?_
  refine p_get (v := .int (nI sl2)) (C := RX6) (Tc := TX6) (N := 12) (ci := 12) hx hb hq pin_wsX60 hown hE hP hO (by rw [hm2]; decide) (rep_3 hm2) rfl 9 (by decide) (hq _ pw_519) (fun _ h9 => h9) (congrArg (fun z => some (Value.int z)) hn2) dX5_land_9 ?_
  refine lv_iadd hx hb dX5_land_12 ?_
  refine lv_topi (fun x1 e2 => ?_)
  obtain rfl : x1 = nI (ba + sl2) := e2.trans (nI_add (ba) (sl2))
  refine c_put (v := .int (nI (ba + sl2))) (ty := .int) (C := RX5) (Tc := TX5) (N := 19) (ci := 4) hx hb hq pin_wsX50 tyX5 tyX5_ok nmX5 hown hE hP hD hS hO 28 (sg_28 G h0 a _ _ _ _ _) rfl 11 (by decide) (hq _ pw_505) (fun _ h9 => h9) rfl (by decide +kernel) rfl rfl (Nat.le_of_ble_eq_true rfl) (sf_19 G h0 a _ _ _ _ _ (nI (ba + sl2))) dX5_land_13 (fun H locs w hP hD hS hO => ?_)
  refine lv_aload_n hx hb dX5_land_16 rfl (lv_at hl 0 rfl) ?_
  refine lv_aload_n hx hb dX5_land_17 rfl (lv_at hl 0 rfl) ?_
  refine c_get (v := .ref (a 2)) (C := RX5) (Tc := TX5) (N := 19) (ci := 4) hx hb hq pin_wsX50 hown hE hP hO 28 (sg_28 G h0 a _ _ _ _ _) rfl 0 (by decide) (hq _ pw_470) (fun _ h9 => h9) rfl dX5_land_18 ?_
  refine lv_iload_n hx hb dX5_land_21 rfl (lv_at hl 1 rfl) ?_
  have hO : OKW G h0 a (upd (upd (upd (upd F 6 (nI rg)) 18 (nI ba)) 19 (nI (ba + sl2))) 6 (nI rg)) (updR R 6 (.ref m2)) Z B J K.1 (fun q99 x99 => x99 = rep G a K q99) w := hO.to rfl
  obtain ⟨_, qr6, hqr7⟩ := hO.2.1 13 _ (sg_13 G h0 a _ _ _ _ _)
  refine pc_V0 (G := G) (As := [.int x]) (rest := [.ref (a 5)]) hx hb hml hown hq hE hX pX0_al hP hD hS hA hl.1 (K_handler l G h0 a (upd (upd (upd F 6 (nI rg)) 18 (nI ba)) 19 (nI (ba + sl2))) (updR R 6 (.ref m2)) Z B J K.1 (fun q99 x99 => x99 = rep G a K q99) w x rg (by omega) hO) (gV pw_691 pw_692 pw_693 pw_70 pw_385) hV_X1_handler qr6 1 hqr7 rfl rfl rfl (Nat.le_of_ble_eq_true rfl) dX5_land_22 ⟨Nat.le_of_ble_eq_true rfl, Nat.le_of_ble_eq_true rfl⟩ ⟨Nat.le_of_ble_eq_true rfl, Nat.le_of_ble_eq_true rfl⟩ (fun v5 u3 H locs hw4 hP hD hS => ?_)
  obtain ⟨w, r8⟩ := u3
  obtain ⟨hw4, hO⟩ := hw4
  obtain rfl : v5 = some (.int r8) := hw4
  have hO : OKP G h0 a (upd (upd (upd F 6 (nI rg)) 18 (nI ba)) 19 (nI (ba + sl2))) (updR R 6 (.ref m2)) Z B J K w := hO.to rfl
  refine W.widen (k := 0) (n := 0) (Nat.le_of_ble_eq_true rfl) (Nat.le_of_ble_eq_true rfl) ?_
  refine W.eq (g2 := F0 m 25 ls [.int r8, .ref (a 5)]) rfl ?_
  refine c_put (v := .int r8) (ty := .int) (C := RX5) (Tc := TX5) (N := 19) (ci := 4) hx hb hq pin_wsX50 tyX5 tyX5_ok nmX5 hown hE hP hD hS hO 28 (sg_28 G h0 a _ _ _ _ _) rfl 13 (by decide) (hq _ pw_566) (fun _ h9 => h9) rfl (by decide +kernel) rfl rfl (Nat.le_of_ble_eq_true rfl) (sf_21 G h0 a _ _ _ _ _ r8) dX5_land_25 (fun H locs w hP hD hS hO => ?_)
  refine lv_aload_n hx hb dX5_land_28 rfl (lv_at hl 0 rfl) ?_
  refine c_get (v := .ref (a 2)) (C := RX5) (Tc := TX5) (N := 19) (ci := 4) hx hb hq pin_wsX50 hown hE hP hO 28 (sg_28 G h0 a _ _ _ _ _) rfl 0 (by decide) (hq _ pw_470) (fun _ h9 => h9) rfl dX5_land_29 ?_
  refine lv_iload_n hx hb dX5_land_32 rfl (lv_at hl 1 rfl) ?_
  have hO : OKW G h0 a (upd (upd (upd (upd (upd F 6 (nI rg)) 18 (nI ba)) 19 (nI (ba + sl2))) 21 r8) 6 (nI rg)) (updR R 6 (.ref m2)) Z B J K.1 (fun q99 x99 => x99 = rep G a K q99) w := hO.to rfl
  obtain ⟨_, qr12, hqr13⟩ := hO.2.1 13 _ (sg_13 G h0 a _ _ _ _ _)
  refine pc_V0 (G := G) (As := [.int x]) (rest := []) hx hb hml hown hq hE hX pX0_al hP hD hS hA hl.1 (K_slot l G h0 a (upd (upd (upd (upd F 6 (nI rg)) 18 (nI ba)) 19 (nI (ba + sl2))) 21 r8) (updR R 6 (.ref m2)) Z B J K.1 (fun q99 x99 => x99 = rep G a K q99) w x rg (by omega) hO) (gV pw_694 pw_695 pw_696 pw_70 pw_386) hV_X1_slot qr12 1 hqr13 rfl rfl rfl (Nat.le_of_ble_eq_true rfl) dX5_land_33 ⟨Nat.le_of_ble_eq_true rfl, Nat.le_of_ble_eq_true rfl⟩ ⟨Nat.le_of_ble_eq_true rfl, Nat.le_of_ble_eq_true rfl⟩ (fun v11 u9 H locs hw10 hP hD hS => ?_)
  obtain ⟨w, r14⟩ := u9
  obtain ⟨hw10, hO⟩ := hw10
  obtain rfl : v11 = some (.int r14) := hw10
  have hO : OKP G h0 a (upd (upd (upd (upd F 6 (nI rg)) 18 (nI ba)) 19 (nI (ba + sl2))) 21 r8) (updR R 6 (.ref m2)) Z B J K w := hO.to rfl
  refine W.widen (k := 0) (n := 0) (Nat.le_of_ble_eq_true rfl) (Nat.le_of_ble_eq_true rfl) ?_
  refine W.eq (g2 := F0 m 36 ls [.int r14]) rfl ?_
  refine lv_istore (lv' := [(5, .int r14), (0, .ref (a 5)), (1, .int x), (2, .int y), (3, .long z)]) hx hb dX5_land_36 hl (by decide) rfl (fun ls hl => ?_)
  refine lv_aload_n hx hb dX5_land_38 rfl (lv_at hl 1 rfl) ?_
  refine c_get (v := .ref (a 2)) (C := RX5) (Tc := TX5) (N := 19) (ci := 4) hx hb hq pin_wsX50 hown hE hP hO 28 (sg_28 G h0 a _ _ _ _ _) rfl 0 (by decide) (hq _ pw_470) (fun _ h9 => h9) rfl dX5_land_39 ?_
  refine lv_iload_n hx hb dX5_land_42 rfl (lv_at hl 2 rfl) ?_
  have hO : OKW G h0 a (upd (upd (upd (upd (upd F 6 (nI rg)) 18 (nI ba)) 19 (nI (ba + sl2))) 21 r8) 6 (nI rg)) (updR R 6 (.ref m2)) Z B J K.1 (fun q99 x99 => x99 = rep G a K q99) w := hO.to rfl
  obtain ⟨_, qr18, hqr19⟩ := hO.2.1 13 _ (sg_13 G h0 a _ _ _ _ _)
  refine pc_V0 (G := G) (As := [.int x]) (rest := []) hx hb hml hown hq hE hX pX0_al hP hD hS hA hl.1 (K_caught l G h0 a (upd (upd (upd (upd F 6 (nI rg)) 18 (nI ba)) 19 (nI (ba + sl2))) 21 r8) (updR R 6 (.ref m2)) Z B J K.1 (fun q99 x99 => x99 = rep G a K q99) w x rg (by omega) hO) (gV pw_697 pw_698 pw_699 pw_70 pw_384) hV_X1_caught qr18 1 hqr19 rfl rfl rfl (Nat.le_of_ble_eq_true rfl) dX5_land_43 ⟨Nat.le_of_ble_eq_true rfl, Nat.le_of_ble_eq_true rfl⟩ ⟨Nat.le_of_ble_eq_true rfl, Nat.le_of_ble_eq_true rfl⟩ (fun v17 u15 H locs hw16 hP hD hS => ?_)
  obtain ⟨w, r20⟩ := u15
  obtain ⟨hw16, hO⟩ := hw16
  obtain rfl : v17 = some (.int r20) := hw16
  have hO : OKP G h0 a (upd (upd (upd (upd F 6 (nI rg)) 18 (nI ba)) 19 (nI (ba + sl2))) 21 r8) (updR R 6 (.ref m2)) Z B J K w := hO.to rfl
  refine W.widen (k := 0) (n := 0) (Nat.le_of_ble_eq_true rfl) (Nat.le_of_ble_eq_true rfl) ?_
  refine W.eq (g2 := F0 m 46 ls [.int r20]) rfl ?_
  refine lv_iconst (v := (-1)) hx hb dX5_land_46 (by decide) ?_
  refine lv_icmp_ne (tgt := 74) hx hb dX5_land_47 (by decide) (fun c21 => ?_) (fun c21 => ?_)
  · refine lv_aload_n hx hb dX5_land_74 rfl (lv_at hl 1 rfl) ?_
    refine lv_iload hx hb dX5_land_75 (lv_at hl 0 rfl) ?_
    refine lv_lload_n hx hb dX5_land_77 rfl (lv_at hl 4 rfl) ?_
    have hO : OKW G h0 a (upd (upd (upd (upd F 6 (nI rg)) 18 (nI ba)) 19 (nI (ba + sl2))) 21 r8) (updR R 6 (.ref m2)) Z B J K.1 (fun q99 x99 => x99 = rep G a K q99) w := hO.to rfl
    obtain ⟨_, qr25, hqr26⟩ := hO.2.1 28 _ (sg_28 G h0 a _ _ _ _ _)
    refine pc_V0 (G := G) (As := [.int r14, .long z]) (rest := []) hx hb hml hown hq hE hX pX0_al hP hD hS hA hl.1 (M_setSlot l G h0 a (upd (upd (upd (upd F 6 (nI rg)) 18 (nI ba)) 19 (nI (ba + sl2))) 21 r8) (updR R 6 (.ref m2)) Z B J K.1 (fun q99 x99 => x99 = rep G a K q99) w r14 z hO) (gV pw_625 pw_626 pw_627 pw_539 pw_596) hV_X5_setSlot qr25 4 hqr26 rfl rfl rfl (Nat.le_of_ble_eq_true rfl) dX5_land_78 ⟨Nat.le_of_ble_eq_true rfl, Nat.le_of_ble_eq_true rfl⟩ ⟨Nat.le_of_ble_eq_true rfl, Nat.le_of_ble_eq_true rfl⟩ (fun v24 u22 H locs hw23 hP hD hS => ?_)
    obtain ⟨w, J27⟩ := u22
    obtain ⟨hw23, hO⟩ := hw23
    obtain rfl : v24 = none := hw23
    have hO : OKP G h0 a (upd (upd (upd (upd F 6 (nI rg)) 18 (nI ba)) 19 (nI (ba + sl2))) 21 r8) (updR R 6 (.ref m2)) Z B J27 K w := hO.to rfl
    refine W.widen (k := 0) (n := 0) (Nat.le_of_ble_eq_true rfl) (Nat.le_of_ble_eq_true rfl) ?_
    refine W.eq (g2 := F0 m 81 ls []) rfl ?_
    have hz28 : (ba + sl2) ≤ 32000 := (by omega)
    have hO : OKP G h0 a (upd (upd (upd (upd F 6 (nI rg)) 18 (nI ba)) 19 (nI (ba + sl2))) 21 r8) (updR R 6 (.ref m2)) Z B J27 K w := hO.to rfl
    exact W.vret hx hb hr (fun t99 ht99 hW99 => ⟨⟨_, (w, ((ba + sl2), r8, J27)), rfl, ⟨rfl, hz28, hO⟩, by rw [ht99]; exact hP, hD⟩, hS.F ht99⟩) hS.2.2 dX5_land_81
  · refine lv_aload_n hx hb dX5_land_50 rfl (lv_at hl 1 rfl) ?_
    refine lv_iload hx hb dX5_land_51 (lv_at hl 0 rfl) ?_
    refine lv_iload_n hx hb dX5_land_53 rfl (lv_at hl 3 rfl) ?_
    refine lv_i2l hx hb dX5_land_54 rfl ?_
    refine lv_topl (fun x29 e30 => ?_)
    refine lv_ldc2 (v := 4294967295) hx hb hown (hq _ pw_603) dX5_land_55 ?_
    refine lv_land hx hb dX5_land_58 ?_
    refine lv_topl (fun x31 e32 => ?_)
    have hO : OKW G h0 a (upd (upd (upd (upd F 6 (nI rg)) 18 (nI ba)) 19 (nI (ba + sl2))) 21 r8) (updR R 6 (.ref m2)) Z B J K.1 (fun q99 x99 => x99 = rep G a K q99) w := hO.to rfl
    obtain ⟨_, qr36, hqr37⟩ := hO.2.1 28 _ (sg_28 G h0 a _ _ _ _ _)
    refine pc_V0 (G := G) (As := [.int r14, .long x31]) (rest := []) hx hb hml hown hq hE hX pX0_al hP hD hS hA hl.1 (M_setSlot l G h0 a (upd (upd (upd (upd F 6 (nI rg)) 18 (nI ba)) 19 (nI (ba + sl2))) 21 r8) (updR R 6 (.ref m2)) Z B J K.1 (fun q99 x99 => x99 = rep G a K q99) w r14 x31 hO) (gV pw_625 pw_626 pw_627 pw_539 pw_596) hV_X5_setSlot qr36 4 hqr37 rfl rfl rfl (Nat.le_of_ble_eq_true rfl) dX5_land_59 ⟨Nat.le_of_ble_eq_true rfl, Nat.le_of_ble_eq_true rfl⟩ ⟨Nat.le_of_ble_eq_true rfl, Nat.le_of_ble_eq_true rfl⟩ (fun v35 u33 H locs hw34 hP hD hS => ?_)
    obtain ⟨w, J38⟩ := u33
    obtain ⟨hw34, hO⟩ := hw34
    obtain rfl : v35 = none := hw34
    have hO : OKP G h0 a (upd (upd (upd (upd F 6 (nI rg)) 18 (nI ba)) 19 (nI (ba + sl2))) 21 r8) (updR R 6 (.ref m2)) Z B J38 K w := hO.to rfl
    refine W.widen (k := 0) (n := 0) (Nat.le_of_ble_eq_true rfl) (Nat.le_of_ble_eq_true rfl) ?_
    refine W.eq (g2 := F0 m 62 ls []) rfl ?_
    refine lv_aload_n hx hb dX5_land_62 rfl (lv_at hl 1 rfl) ?_
    refine lv_iload hx hb dX5_land_63 (lv_at hl 0 rfl) ?_
    refine lv_iconst (v := 1) hx hb dX5_land_65 (by decide) ?_
    refine lv_iadd hx hb dX5_land_66 ?_
    refine lv_topi (fun x39 e40 => ?_)
    refine lv_lload_n hx hb dX5_land_67 rfl (lv_at hl 4 rfl) ?_
    have hO : OKW G h0 a (upd (upd (upd (upd F 6 (nI rg)) 18 (nI ba)) 19 (nI (ba + sl2))) 21 r8) (updR R 6 (.ref m2)) Z B J38 K.1 (fun q99 x99 => x99 = rep G a K q99) w := hO.to rfl
    obtain ⟨_, qr44, hqr45⟩ := hO.2.1 28 _ (sg_28 G h0 a _ _ _ _ _)
    refine pc_V0 (G := G) (As := [.int x39, .long z]) (rest := []) hx hb hml hown hq hE hX pX0_al hP hD hS hA hl.1 (M_setSlot l G h0 a (upd (upd (upd (upd F 6 (nI rg)) 18 (nI ba)) 19 (nI (ba + sl2))) 21 r8) (updR R 6 (.ref m2)) Z B J38 K.1 (fun q99 x99 => x99 = rep G a K q99) w x39 z hO) (gV pw_625 pw_626 pw_627 pw_539 pw_596) hV_X5_setSlot qr44 4 hqr45 rfl rfl rfl (Nat.le_of_ble_eq_true rfl) dX5_land_68 ⟨Nat.le_of_ble_eq_true rfl, Nat.le_of_ble_eq_true rfl⟩ ⟨Nat.le_of_ble_eq_true rfl, Nat.le_of_ble_eq_true rfl⟩ (fun v43 u41 H locs hw42 hP hD hS => ?_)
    obtain ⟨w, J46⟩ := u41
    obtain ⟨hw42, hO⟩ := hw42
    obtain rfl : v43 = none := hw42
    have hO : OKP G h0 a (upd (upd (upd (upd F 6 (nI rg)) 18 (nI ba)) 19 (nI (ba + sl2))) 21 r8) (updR R 6 (.ref m2)) Z B J46 K w := hO.to rfl
    refine W.widen (k := 0) (n := 0) (Nat.le_of_ble_eq_true rfl) (Nat.le_of_ble_eq_true rfl) ?_
    refine W.eq (g2 := F0 m 71 ls []) rfl ?_
    refine lv_goto (tgt := 81) hx hb dX5_land_71 (by decide) ?_
    have hz47 : (ba + sl2) ≤ 32000 := (by omega)
    have hO : OKP G h0 a (upd (upd (upd (upd F 6 (nI rg)) 18 (nI ba)) 19 (nI (ba + sl2))) 21 r8) (updR R 6 (.ref m2)) Z B J46 K w := hO.to rfl
    exact W.vret hx hb hr (fun t99 ht99 hW99 => ⟨⟨_, (w, ((ba + sl2), r8, J46)), rfl, ⟨rfl, hz47, hO⟩, by rw [ht99]; exact hP, hD⟩, hS.F ht99⟩) hS.2.2 dX5_land_81
theorem dX5_handlerOf_0 : decode cX5_handlerOf 0 = .ok (.aload_n 0, 1) := by decide +kernel
theorem dX5_handlerOf_1 : decode cX5_handlerOf 1 = .ok (.getfield 96, 3) := by decide +kernel
theorem dX5_handlerOf_4 : decode cX5_handlerOf 4 = .ok (.getfield 338, 3) := by decide +kernel
theorem dX5_handlerOf_7 : decode cX5_handlerOf 7 = .ok (.istore_n 2, 1) := by decide +kernel
theorem dX5_handlerOf_8 : decode cX5_handlerOf 8 = .ok (.iload_n 2, 1) := by decide +kernel
theorem dX5_handlerOf_9 : decode cX5_handlerOf 9 = .ok (.aload_n 0, 1) := by decide +kernel
theorem dX5_handlerOf_10 : decode cX5_handlerOf 10 = .ok (.getfield 96, 3) := by decide +kernel
theorem dX5_handlerOf_13 : decode cX5_handlerOf 13 = .ok (.getfield 341, 3) := by decide +kernel
theorem dX5_handlerOf_16 : decode cX5_handlerOf 16 = .ok (.if_icmp .ge 52, 3) := by decide +kernel
theorem dX5_handlerOf_68 : decode cX5_handlerOf 68 = .ok (.iconst (-1), 1) := by decide +kernel
theorem dX5_handlerOf_69 : decode cX5_handlerOf 69 = .ok (.ireturn, 1) := by decide +kernel
theorem dX5_handlerOf_19 : decode cX5_handlerOf 19 = .ok (.aload_n 0, 1) := by decide +kernel
theorem dX5_handlerOf_20 : decode cX5_handlerOf 20 = .ok (.getfield 11, 3) := by decide +kernel
theorem dX5_handlerOf_23 : decode cX5_handlerOf 23 = .ok (.iload_n 2, 1) := by decide +kernel
theorem dX5_handlerOf_24 : decode cX5_handlerOf 24 = .ok (.invokevirtual 344, 3) := by decide +kernel
theorem dX5_handlerOf_27 : decode cX5_handlerOf 27 = .ok (.istore_n 3, 1) := by decide +kernel
theorem dX5_handlerOf_28 : decode cX5_handlerOf 28 = .ok (.aload_n 0, 1) := by decide +kernel
theorem dX5_handlerOf_29 : decode cX5_handlerOf 29 = .ok (.getfield 11, 3) := by decide +kernel
theorem dX5_handlerOf_32 : decode cX5_handlerOf 32 = .ok (.iload_n 2, 1) := by decide +kernel
theorem dX5_handlerOf_33 : decode cX5_handlerOf 33 = .ok (.aload_n 0, 1) := by decide +kernel
theorem dX5_handlerOf_34 : decode cX5_handlerOf 34 = .ok (.getfield 106, 3) := by decide +kernel
theorem dX5_handlerOf_37 : decode cX5_handlerOf 37 = .ok (.invokevirtual 347, 3) := by decide +kernel
theorem dX5_handlerOf_40 : decode cX5_handlerOf 40 = .ok (.ifCond .eq 22, 3) := by decide +kernel
theorem dX5_handlerOf_62 : decode cX5_handlerOf 62 = .ok (.iinc 2 1, 3) := by decide +kernel
theorem dX5_handlerOf_65 : decode cX5_handlerOf 65 = .ok (.goto (-57), 3) := by decide +kernel
theorem dX5_handlerOf_43 : decode cX5_handlerOf 43 = .ok (.iload_n 3, 1) := by decide +kernel
theorem dX5_handlerOf_44 : decode cX5_handlerOf 44 = .ok (.iconst (-1), 1) := by decide +kernel
theorem dX5_handlerOf_45 : decode cX5_handlerOf 45 = .ok (.if_icmp .eq 15, 3) := by decide +kernel
theorem dX5_handlerOf_60 : decode cX5_handlerOf 60 = .ok (.iload_n 2, 1) := by decide +kernel
theorem dX5_handlerOf_61 : decode cX5_handlerOf 61 = .ok (.ireturn, 1) := by decide +kernel
theorem dX5_handlerOf_48 : decode cX5_handlerOf 48 = .ok (.aload_n 0, 1) := by decide +kernel
theorem dX5_handlerOf_49 : decode cX5_handlerOf 49 = .ok (.getfield 47, 3) := by decide +kernel
theorem dX5_handlerOf_52 : decode cX5_handlerOf 52 = .ok (.iload_n 1, 1) := by decide +kernel
theorem dX5_handlerOf_53 : decode cX5_handlerOf 53 = .ok (.iload_n 3, 1) := by decide +kernel
theorem dX5_handlerOf_54 : decode cX5_handlerOf 54 = .ok (.invokevirtual 257, 3) := by decide +kernel
theorem dX5_handlerOf_57 : decode cX5_handlerOf 57 = .ok (.ifCond .eq 5, 3) := by decide +kernel
theorem hV_X1_isWithin : yX1_isWithin.cls = RX1 ∧ yX1_isWithin.cls ≠ "java/lang/invoke/MethodHandle" ∧ yX1_isWithin.cls ≠ "java/lang/invoke/VarHandle" ∧ (parseMethodDescriptor yX1_isWithin.desc).map (fun d => d.parameters.length) = some 2 := by decide +kernel
set_option maxHeartbeats 16000000 in
set_option maxRecDepth 100000 in
theorem M_handlerOf (l : Launch) (G : pT) (h0 : Nat) (a : Nat → Nat) (F : Nat → Int32) (R : Nat → Value) (Z : Int64) (B : Nat → Nat → Int32) (J : Nat → Nat → Int64) (K : PK) (w : va_W) (m2 : Nat) (rg : Nat) (x : Int32) (pq : Nat) (dr : Nat) (ml : Nat) (nd : Nat) (g : Nat → Nat → Nat) (hpb : PgB K g (a 1) pq dr ml nd) (hdc : DcR K g dr nd) (hrg : rg ≤ 625) (hm2 : K.1 m2 = 3) (hO : OKP G h0 a (upd F 6 (nI rg)) (updR (updR R 5 (.ref pq)) 6 (.ref m2)) Z B J K w) : PM l G pX0 yX5_handlerOf cX5_handlerOf 4 (some .int) ({ frames := 4, cells := 0, slots := 0, locals := 104 }) [.ref (a 5), .int x] w (fun (v : Option Value) (u : va_W × (Int32)) => v = some (.int u.2) ∧ (OKP G h0 a (upd F 6 (nI rg)) (updR (updR R 5 (.ref pq)) 6 (.ref m2)) Z B J K u.1)) (fun u => u.1) := by
  intro sz
  refine Met.ofW (cc := cX5_handlerOf) (maxL := 4) (ret := (some .int)) (by decide) rfl ?_
  intro p e s m args below meth c s₁ B9 hml hv
  obtain ⟨rfl, hsz, hP, hD0, hE, hX⟩ := hv
  have hx := B9.exec
  have hb := B9.bytes
  have hr := B9.returns
  have hts := atoms_spec (ws := Cond.code yX5_handlerOf cX5_handlerOf 4 (some .int) :: pw) B9.pre
  have hq : ∀ w ∈ pw, w.before _ s = true := fun w h => hts w (List.mem_cons_of_mem _ h)
  have hown : s.vm.findClass RX5 = some m.cls := findClass_of_methodNamed B9.named
  have hlocks := B9.notSynchronized
  subst hsz
  have hD := hD0.self (sz := s.heap.size)
  have hA : ∀ q : Nat, s.heap.size ≤ q → va_A w s.heap.size q := fun q h => Or.inr h
  generalize va_A w s.heap.size = A at hD hE hA ⊢
  have hS : va_S A s.heap s.heap [] := va_S.rf
  have hl := lv_entry ([.ref (a 5), .int x]) (n := 4) (Nat.le_of_ble_eq_true rfl)
  rw [lg_entry_eq]
  generalize (lg_sl ([.ref (a 5), .int x]) ++ List.replicate (4 - (lg_sl ([.ref (a 5), .int x])).length) Slot.unset).toArray = ls at hl ⊢
  have hl : lv_has ls 4 [(0, .ref (a 5)), (1, .int x)] := hl
  have hpg := hpb
  have hp1 := hpg.1
  have hp2 := hpg.2.1
  have hp3 := hpg.2.2.1
  have hp4 := hpg.2.2.2.1
  have hp5 := hpg.2.2.2.2.1
  have hp6 := hpg.2.2.2.2.2.1
  have hp8 := hpg.2.2.2.2.2.2.2.1
  have hp9 := hpg.2.2.2.2.2.2.2.2
  refine lv_aload_n hx hb dX5_handlerOf_0 rfl (lv_at hl 0 rfl) ?_
  refine c_get (v := .ref m2) (C := RX5) (Tc := TX5) (N := 19) (ci := 4) hx hb hq pin_wsX50 hown hE hP hO 28 (sg_28 G h0 a _ _ _ _ _) rfl 9 (by decide) (hq _ pw_503) (fun _ h9 => h9) rfl dX5_handlerOf_1 ?_
  refine p_get (v := .int (K.2.1 13 m2)) (C := RX6) (Tc := TX6) (N := 12) (ci := 12) hx hb hq pin_wsX60 hown hE hP hO (by rw [hm2]; decide) (rep_3 hm2) rfl 10 (by decide) (hq _ pw_707) (fun _ h9 => h9) rfl dX5_handlerOf_4 ?_
  refine lv_istore_n (lv' := [(2, .int (K.2.1 13 m2)), (0, .ref (a 5)), (1, .int x)]) hx hb dX5_handlerOf_7 rfl hl (by decide) rfl (fun ls hl => ?_)
  have loop_r : ∀ (n_r : Nat) (k2 : Nat) (x2 : Int32) (H : Heap) (locs : List Loc) (ls : Array Slot) (w : va_W), k2 ≤ 4294967296 → 4294967296 + 1 ≤ k2 + n_r → (x2.toInt = (K.2.1 13 m2).toInt + (k2 : Int)) → va_P G.1 pCl w H → va_D A w → va_S A s.heap H locs → OKP G h0 a (upd F 6 (nI rg)) (updR (updR R 5 (.ref pq)) 6 (.ref m2)) Z B J K w → lv_has ls 4 [(2, .int x2), (1, .int x), (0, .ref (a 5))] → W p l e (headSpec (Cond.code yX5_handlerOf cX5_handlerOf 4 (some .int) :: pw) ({ frames := 4, cells := 0, slots := 0, locals := 104 } : Room)).room s m ([.ref (a 5), .int x] : List Value).toArray below meth c H locs 0 0 (MQ below (pQ G A (fun (v : Option Value) (u : va_W × (Int32)) => v = some (.int u.2) ∧ (OKP G h0 a (upd F 6 (nI rg)) (updR (updR R 5 (.ref pq)) 6 (.ref m2)) Z B J K u.1)) (fun u => u.1)) ([.ref (a 5), .int x] : List Value).toArray s ({ frames := 4, cells := 0, slots := 0, locals := 104 } : Room).cells ({ frames := 4, cells := 0, slots := 0, locals := 104 } : Room).slots A) (F0 m 8 ls []) := by
    intro n_r
    induction n_r with
    | zero => intro k2 x2 H locs ls w hk_r hn_r; omega
    | succ n_r ih_r =>
      intro k2 x2 H locs ls w hk_r hn_r hx2 hP hD hS hO hl
      refine lv_iload_n hx hb dX5_handlerOf_8 rfl (lv_at hl 0 rfl) ?_
      refine lv_aload_n hx hb dX5_handlerOf_9 rfl (lv_at hl 2 rfl) ?_
      refine c_get (v := .ref m2) (C := RX5) (Tc := TX5) (N := 19) (ci := 4) hx hb hq pin_wsX50 hown hE hP hO 28 (sg_28 G h0 a _ _ _ _ _) rfl 9 (by decide) (hq _ pw_503) (fun _ h9 => h9) rfl dX5_handlerOf_10 ?_
      refine p_get (v := .int (K.2.1 14 m2)) (C := RX6) (Tc := TX6) (N := 12) (ci := 12) hx hb hq pin_wsX60 hown hE hP hO (by rw [hm2]; decide) (rep_3 hm2) rfl 11 (by decide) (hq _ pw_708) (fun _ h9 => h9) rfl dX5_handlerOf_13 ?_
      refine lv_icmp_ge (tgt := 68) hx hb dX5_handlerOf_16 (by decide) (fun c1 => ?_) (fun c1 => ?_)
      · refine lv_iconst (v := (-1)) hx hb dX5_handlerOf_68 (by decide) ?_
        have hO : OKP G h0 a (upd F 6 (nI rg)) (updR (updR R 5 (.ref pq)) 6 (.ref m2)) Z B J K w := hO.to rfl
        exact W.iret (v := (-1)) hx hb hr (fun t99 ht99 hW99 => ⟨⟨_, (w, ((-1) : Int32)), rfl, ⟨rfl, hO⟩, by rw [ht99]; exact hP, hD⟩, hS.F ht99⟩) hS.2.2 dX5_handlerOf_69
      · refine lv_aload_n hx hb dX5_handlerOf_19 rfl (lv_at hl 2 rfl) ?_
        refine c_get (v := .ref (a 2)) (C := RX5) (Tc := TX5) (N := 19) (ci := 4) hx hb hq pin_wsX50 hown hE hP hO 28 (sg_28 G h0 a _ _ _ _ _) rfl 0 (by decide) (hq _ pw_470) (fun _ h9 => h9) rfl dX5_handlerOf_20 ?_
        refine lv_iload_n hx hb dX5_handlerOf_23 rfl (lv_at hl 0 rfl) ?_
        have hO : OKW G h0 a (upd (upd F 6 (nI rg)) 6 (nI rg)) (updR (updR R 5 (.ref pq)) 6 (.ref m2)) Z B J K.1 (fun q99 x99 => x99 = rep G a K q99) w := hO.to rfl
        obtain ⟨_, qr5, hqr6⟩ := hO.2.1 13 _ (sg_13 G h0 a _ _ _ _ _)
        refine pc_V0 (G := G) (As := [.int x2]) (rest := []) hx hb hml hown hq hE hX pX0_al hP hD hS hA hl.1 (K_caught l G h0 a (upd F 6 (nI rg)) (updR (updR R 5 (.ref pq)) 6 (.ref m2)) Z B J K.1 (fun q99 x99 => x99 = rep G a K q99) w x2 rg (by omega) hO) (gV pw_697 pw_698 pw_699 pw_70 pw_384) hV_X1_caught qr5 1 hqr6 rfl rfl rfl (Nat.le_of_ble_eq_true rfl) dX5_handlerOf_24 ⟨Nat.le_of_ble_eq_true rfl, Nat.le_of_ble_eq_true rfl⟩ ⟨Nat.le_of_ble_eq_true rfl, Nat.le_of_ble_eq_true rfl⟩ (fun v4 u2 H locs hw3 hP hD hS => ?_)
        obtain ⟨w, r7⟩ := u2
        obtain ⟨hw3, hO⟩ := hw3
        obtain rfl : v4 = some (.int r7) := hw3
        have hO : OKP G h0 a (upd F 6 (nI rg)) (updR (updR R 5 (.ref pq)) 6 (.ref m2)) Z B J K w := hO.to rfl
        refine W.widen (k := 0) (n := 0) (Nat.le_of_ble_eq_true rfl) (Nat.le_of_ble_eq_true rfl) ?_
        refine W.eq (g2 := F0 m 27 ls [.int r7]) rfl ?_
        refine lv_istore_n (lv' := [(3, .int r7), (2, .int x2), (1, .int x), (0, .ref (a 5))]) hx hb dX5_handlerOf_27 rfl hl (by decide) rfl (fun ls hl => ?_)
        refine lv_aload_n hx hb dX5_handlerOf_28 rfl (lv_at hl 3 rfl) ?_
        refine c_get (v := .ref (a 2)) (C := RX5) (Tc := TX5) (N := 19) (ci := 4) hx hb hq pin_wsX50 hown hE hP hO 28 (sg_28 G h0 a _ _ _ _ _) rfl 0 (by decide) (hq _ pw_470) (fun _ h9 => h9) rfl dX5_handlerOf_29 ?_
        refine lv_iload_n hx hb dX5_handlerOf_32 rfl (lv_at hl 1 rfl) ?_
        refine lv_aload_n hx hb dX5_handlerOf_33 rfl (lv_at hl 3 rfl) ?_
        refine c_get (v := .int (F 20)) (C := RX5) (Tc := TX5) (N := 19) (ci := 4) hx hb hq pin_wsX50 hown hE hP hO 28 (sg_28 G h0 a _ _ _ _ _) rfl 12 (by decide) (hq _ pw_506) (fun _ h9 => h9) rfl dX5_handlerOf_34 ?_
        have hO : OKW G h0 a (upd (upd F 6 (nI rg)) 6 (nI rg)) (updR (updR R 5 (.ref pq)) 6 (.ref m2)) Z B J K.1 (fun q99 x99 => x99 = rep G a K q99) w := hO.to rfl
        obtain ⟨_, qr11, hqr12⟩ := hO.2.1 13 _ (sg_13 G h0 a _ _ _ _ _)
        refine pc_V0 (G := G) (As := [.int x2, .int (F 20)]) (rest := []) hx hb hml hown hq hE hX pX0_al hP hD hS hA hl.1 (K_isWithin l G h0 a (upd F 6 (nI rg)) (updR (updR R 5 (.ref pq)) 6 (.ref m2)) Z B J K.1 (fun q99 x99 => x99 = rep G a K q99) w x2 (F 20) rg (by omega) hO) (gV pw_709 pw_710 pw_711 pw_70 pw_383) hV_X1_isWithin qr11 1 hqr12 rfl rfl rfl (Nat.le_of_ble_eq_true rfl) dX5_handlerOf_37 ⟨Nat.le_of_ble_eq_true rfl, Nat.le_of_ble_eq_true rfl⟩ ⟨Nat.le_of_ble_eq_true rfl, Nat.le_of_ble_eq_true rfl⟩ (fun v10 u8 H locs hw9 hP hD hS => ?_)
        obtain ⟨w, r13⟩ := u8
        obtain ⟨hw9, h14, hO⟩ := hw9
        have h14 : r13 ≤ 1 := h14
        obtain rfl : v10 = some (.int (nI r13)) := hw9
        have hO : OKP G h0 a (upd F 6 (nI rg)) (updR (updR R 5 (.ref pq)) 6 (.ref m2)) Z B J K w := hO.to rfl
        refine W.widen (k := 0) (n := 0) (Nat.le_of_ble_eq_true rfl) (Nat.le_of_ble_eq_true rfl) ?_
        refine W.eq (g2 := F0 m 40 ls [.int (nI r13)]) rfl ?_
        refine lv_if_eq (tgt := 62) hx hb dX5_handlerOf_40 (by decide) (fun c15 => ?_) (fun c15 => ?_)
        · have n16 : r13 = 0 := (nI_eq (a := r13) (b := 0) (by omega) (by omega)).mp c15
          obtain ⟨x17, e18⟩ : ∃ y : Int32, y = x2 + 1 := ⟨_, rfl⟩
          refine lv_iinc (v := x17) (lv' := [(2, .int x17), (3, .int r7), (1, .int x), (0, .ref (a 5))]) hx hb dX5_handlerOf_62 hl (k := 1) rfl (by rw [e18]; rfl) (by decide) rfl (fun ls hl => ?_)
          refine lv_goto (tgt := 8) hx hb dX5_handlerOf_65 (by decide) ?_
          have hs9 := i32_succ c1
          have ha9 := i32_lo (K.2.1 13 m2)
          have hb9x := i32_hi x17
          have hx9 : x17.toInt = (K.2.1 13 m2).toInt + ((k2 + 1 : Nat) : Int) := by rw [e18, hs9, hx2]; omega
          have hO : OKP G h0 a (upd F 6 (nI rg)) (updR (updR R 5 (.ref pq)) 6 (.ref m2)) Z B J K w := hO.to rfl
          exact ih_r (k2 + 1) x17 _ _ _ _ (by omega) (by omega) hx9 hP hD hS hO (lv_sub hl [0, 2, 3] rfl)
        · have n19 : ¬ (r13 = 0) := fun h9 => c15 ((nI_eq (a := r13) (b := 0) (by omega) (by omega)).mpr h9)
          refine lv_iload_n hx hb dX5_handlerOf_43 rfl (lv_at hl 0 rfl) ?_
          refine lv_iconst (v := (-1)) hx hb dX5_handlerOf_44 (by decide) ?_
          refine lv_icmp_eq (tgt := 60) hx hb dX5_handlerOf_45 (by decide) (fun c20 => ?_) (fun c20 => ?_)
          · refine lv_iload_n hx hb dX5_handlerOf_60 rfl (lv_at hl 1 rfl) ?_
            have hO : OKP G h0 a (upd F 6 (nI rg)) (updR (updR R 5 (.ref pq)) 6 (.ref m2)) Z B J K w := hO.to rfl
            exact W.iret (v := x2) hx hb hr (fun t99 ht99 hW99 => ⟨⟨_, (w, x2), rfl, ⟨rfl, hO⟩, by rw [ht99]; exact hP, hD⟩, hS.F ht99⟩) hS.2.2 dX5_handlerOf_61
          · refine lv_aload_n hx hb dX5_handlerOf_48 rfl (lv_at hl 3 rfl) ?_
            refine c_get (v := .ref pq) (C := RX5) (Tc := TX5) (N := 19) (ci := 4) hx hb hq pin_wsX50 hown hE hP hO 28 (sg_28 G h0 a _ _ _ _ _) rfl 8 (by decide) (hq _ pw_486) (fun _ h9 => h9) rfl dX5_handlerOf_49 ?_
            refine lv_iload_n hx hb dX5_handlerOf_52 rfl (lv_at hl 2 rfl) ?_
            refine lv_iload_n hx hb dX5_handlerOf_53 rfl (lv_at hl 0 rfl) ?_
            have hO : OKP G h0 a (upd F 6 (nI rg)) (updR (updR R 5 (.ref pq)) 6 (.ref m2)) Z B J K w := hO.to rfl
            obtain ⟨qr24, hqr25⟩ := p_recv hO (by rw [hp1]; decide) (rep_7 hp1)
            refine pc_V0 (G := G) (As := [.int x, .int r7]) (rest := []) hx hb hml hown hq hE hX pX0_al hP hD hS hA hl.1 (G_fits l G h0 a (upd F 6 (nI rg)) (updR (updR R 5 (.ref pq)) 6 (.ref m2)) Z B J K w pq dr ml nd x r7 g hpb hdc hO) (gV pw_644 pw_112 pw_113 pw_106 pw_103) hV_X9_fits qr24 6 hqr25 rfl rfl rfl (Nat.le_of_ble_eq_true rfl) dX5_handlerOf_54 ⟨Nat.le_of_ble_eq_true rfl, Nat.le_of_ble_eq_true rfl⟩ ⟨Nat.le_of_ble_eq_true rfl, Nat.le_of_ble_eq_true rfl⟩ (fun v23 u21 H locs hw22 hP hD hS => ?_)
            obtain ⟨w, r26⟩ := u21
            obtain ⟨hw22, h27, hO⟩ := hw22
            have h27 : r26 ≤ 1 := h27
            obtain rfl : v23 = some (.int (nI r26)) := hw22
            have hO : OKP G h0 a (upd F 6 (nI rg)) (updR (updR R 5 (.ref pq)) 6 (.ref m2)) Z B J K w := hO.to rfl
            refine W.widen (k := 0) (n := 0) (Nat.le_of_ble_eq_true rfl) (Nat.le_of_ble_eq_true rfl) ?_
            refine W.eq (g2 := F0 m 57 ls [.int (nI r26)]) rfl ?_
            refine lv_if_eq (tgt := 62) hx hb dX5_handlerOf_57 (by decide) (fun c28 => ?_) (fun c28 => ?_)
            · have n29 : r26 = 0 := (nI_eq (a := r26) (b := 0) (by omega) (by omega)).mp c28
              obtain ⟨x30, e31⟩ : ∃ y : Int32, y = x2 + 1 := ⟨_, rfl⟩
              refine lv_iinc (v := x30) (lv' := [(2, .int x30), (3, .int r7), (1, .int x), (0, .ref (a 5))]) hx hb dX5_handlerOf_62 hl (k := 1) rfl (by rw [e31]; rfl) (by decide) rfl (fun ls hl => ?_)
              refine lv_goto (tgt := 8) hx hb dX5_handlerOf_65 (by decide) ?_
              have hs9 := i32_succ c1
              have ha9 := i32_lo (K.2.1 13 m2)
              have hb9x := i32_hi x30
              have hx9 : x30.toInt = (K.2.1 13 m2).toInt + ((k2 + 1 : Nat) : Int) := by rw [e31, hs9, hx2]; omega
              have hO : OKP G h0 a (upd F 6 (nI rg)) (updR (updR R 5 (.ref pq)) 6 (.ref m2)) Z B J K w := hO.to rfl
              exact ih_r (k2 + 1) x30 _ _ _ _ (by omega) (by omega) hx9 hP hD hS hO (lv_sub hl [0, 2, 3] rfl)
            · have n32 : ¬ (r26 = 0) := fun h9 => c28 ((nI_eq (a := r26) (b := 0) (by omega) (by omega)).mpr h9)
              refine lv_iload_n hx hb dX5_handlerOf_60 rfl (lv_at hl 1 rfl) ?_
              have hO : OKP G h0 a (upd F 6 (nI rg)) (updR (updR R 5 (.ref pq)) 6 (.ref m2)) Z B J K w := hO.to rfl
              exact W.iret (v := x2) hx hb hr (fun t99 ht99 hW99 => ⟨⟨_, (w, x2), rfl, ⟨rfl, hO⟩, by rw [ht99]; exact hP, hD⟩, hS.F ht99⟩) hS.2.2 dX5_handlerOf_61
  have hO : OKP G h0 a (upd F 6 (nI rg)) (updR (updR R 5 (.ref pq)) 6 (.ref m2)) Z B J K w := hO.to rfl
  exact loop_r (4294967296 + 1) 0 (K.2.1 13 m2) _ _ _ _ (by omega) (by omega) (by omega) hP hD hS hO (lv_sub hl [0, 2, 1] rfl)
