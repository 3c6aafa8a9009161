theorem sw_out8 {x : Int32} (h0 : ¬ x = 0) (h1 : ¬ x = 1) (h2 : ¬ x = 2) (h3 : ¬ x = 3) (h4 : ¬ x = 4) (h5 : ¬ x = 5) (h6 : ¬ x = 6) (h7 : ¬ x = 7) (h8 : ¬ x = 8) : x.toInt < 0 ∨ 8 < x.toInt := by
  have a0 : ¬ x.toInt = 0 := tJ_ne (n := 0) (by decide) h0
  have a1 : ¬ x.toInt = 1 := tJ_ne (n := 1) (by decide) h1
  have a2 : ¬ x.toInt = 2 := tJ_ne (n := 2) (by decide) h2
  have a3 : ¬ x.toInt = 3 := tJ_ne (n := 3) (by decide) h3
  have a4 : ¬ x.toInt = 4 := tJ_ne (n := 4) (by decide) h4
  have a5 : ¬ x.toInt = 5 := tJ_ne (n := 5) (by decide) h5
  have a6 : ¬ x.toInt = 6 := tJ_ne (n := 6) (by decide) h6
  have a7 : ¬ x.toInt = 7 := tJ_ne (n := 7) (by decide) h7
  have a8 : ¬ x.toInt = 8 := tJ_ne (n := 8) (by decide) h8
  omega
theorem sw_out59 {x : Int32} (h49 : ¬ x = 49) (h50 : ¬ x = 50) (h51 : ¬ x = 51) (h52 : ¬ x = 52) (h53 : ¬ x = 53) (h54 : ¬ x = 54) (h55 : ¬ x = 55) (h56 : ¬ x = 56) (h57 : ¬ x = 57) (h58 : ¬ x = 58) (h59 : ¬ x = 59) : x.toInt < 49 ∨ 59 < x.toInt := by
  have a49 : ¬ x.toInt = 49 := tJ_ne (n := 49) (by decide) h49
  have a50 : ¬ x.toInt = 50 := tJ_ne (n := 50) (by decide) h50
  have a51 : ¬ x.toInt = 51 := tJ_ne (n := 51) (by decide) h51
  have a52 : ¬ x.toInt = 52 := tJ_ne (n := 52) (by decide) h52
  have a53 : ¬ x.toInt = 53 := tJ_ne (n := 53) (by decide) h53
  have a54 : ¬ x.toInt = 54 := tJ_ne (n := 54) (by decide) h54
  have a55 : ¬ x.toInt = 55 := tJ_ne (n := 55) (by decide) h55
  have a56 : ¬ x.toInt = 56 := tJ_ne (n := 56) (by decide) h56
  have a57 : ¬ x.toInt = 57 := tJ_ne (n := 57) (by decide) h57
  have a58 : ¬ x.toInt = 58 := tJ_ne (n := 58) (by decide) h58
  have a59 : ¬ x.toInt = 59 := tJ_ne (n := 59) (by decide) h59
  omega
theorem sw_out20 {x : Int32} (h1 : ¬ x = 1) (h2 : ¬ x = 2) (h3 : ¬ x = 3) (h4 : ¬ x = 4) (h5 : ¬ x = 5) (h6 : ¬ x = 6) (h7 : ¬ x = 7) (h8 : ¬ x = 8) (h9 : ¬ x = 9) (h10 : ¬ x = 10) (h11 : ¬ x = 11) (h12 : ¬ x = 12) (h13 : ¬ x = 13) (h14 : ¬ x = 14) (h15 : ¬ x = 15) (h16 : ¬ x = 16) (h17 : ¬ x = 17) (h18 : ¬ x = 18) (h19 : ¬ x = 19) (h20 : ¬ x = 20) : x.toInt < 1 ∨ 20 < x.toInt := by
  have a1 : ¬ x.toInt = 1 := tJ_ne (n := 1) (by decide) h1
  have a2 : ¬ x.toInt = 2 := tJ_ne (n := 2) (by decide) h2
  have a3 : ¬ x.toInt = 3 := tJ_ne (n := 3) (by decide) h3
  have a4 : ¬ x.toInt = 4 := tJ_ne (n := 4) (by decide) h4
  have a5 : ¬ x.toInt = 5 := tJ_ne (n := 5) (by decide) h5
  have a6 : ¬ x.toInt = 6 := tJ_ne (n := 6) (by decide) h6
  have a7 : ¬ x.toInt = 7 := tJ_ne (n := 7) (by decide) h7
  have a8 : ¬ x.toInt = 8 := tJ_ne (n := 8) (by decide) h8
  have a9 : ¬ x.toInt = 9 := tJ_ne (n := 9) (by decide) h9
  have a10 : ¬ x.toInt = 10 := tJ_ne (n := 10) (by decide) h10
  have a11 : ¬ x.toInt = 11 := tJ_ne (n := 11) (by decide) h11
  have a12 : ¬ x.toInt = 12 := tJ_ne (n := 12) (by decide) h12
  have a13 : ¬ x.toInt = 13 := tJ_ne (n := 13) (by decide) h13
  have a14 : ¬ x.toInt = 14 := tJ_ne (n := 14) (by decide) h14
  have a15 : ¬ x.toInt = 15 := tJ_ne (n := 15) (by decide) h15
  have a16 : ¬ x.toInt = 16 := tJ_ne (n := 16) (by decide) h16
  have a17 : ¬ x.toInt = 17 := tJ_ne (n := 17) (by decide) h17
  have a18 : ¬ x.toInt = 18 := tJ_ne (n := 18) (by decide) h18
  have a19 : ¬ x.toInt = 19 := tJ_ne (n := 19) (by decide) h19
  have a20 : ¬ x.toInt = 20 := tJ_ne (n := 20) (by decide) h20
  omega
theorem dX0_fieldType_0 : decode cX0_fieldType 0 = .ok (.aload_n 1, 1) := by decide +kernel
theorem dX0_fieldType_1 : decode cX0_fieldType 1 = .ok (.ifnonnull 7, 3) := by decide +kernel
theorem dX0_fieldType_8 : decode cX0_fieldType 8 = .ok (.aload_n 1, 1) := by decide +kernel
theorem dX0_fieldType_9 : decode cX0_fieldType 9 = .ok (.aload_n 0, 1) := by decide +kernel
theorem dX0_fieldType_10 : decode cX0_fieldType 10 = .ok (.getfield 9, 3) := by decide +kernel
theorem dX0_fieldType_13 : decode cX0_fieldType 13 = .ok (.aload_n 2, 1) := by decide +kernel
theorem dX0_fieldType_14 : decode cX0_fieldType 14 = .ok (.getfield 114, 3) := by decide +kernel
theorem dX0_fieldType_17 : decode cX0_fieldType 17 = .ok (.invokevirtual 152, 3) := by decide +kernel
theorem dX0_fieldType_20 : decode cX0_fieldType 20 = .ok (.invokevirtual 350, 3) := by decide +kernel
theorem dX0_fieldType_23 : decode cX0_fieldType 23 = .ok (.astore_n 3, 1) := by decide +kernel
theorem dX0_fieldType_24 : decode cX0_fieldType 24 = .ok (.aload_n 3, 1) := by decide +kernel
theorem dX0_fieldType_25 : decode cX0_fieldType 25 = .ok (.ifnonnull 19, 3) := by decide +kernel
theorem dX0_fieldType_28 : decode cX0_fieldType 28 = .ok (.aload_n 0, 1) := by decide +kernel
theorem dX0_fieldType_29 : decode cX0_fieldType 29 = .ok (.getfield 9, 3) := by decide +kernel
theorem dX0_fieldType_32 : decode cX0_fieldType 32 = .ok (.bipush 10, 2) := by decide +kernel
theorem dX0_fieldType_34 : decode cX0_fieldType 34 = .ok (.aload_n 2, 1) := by decide +kernel
theorem dX0_fieldType_35 : decode cX0_fieldType 35 = .ok (.getfield 114, 3) := by decide +kernel
theorem dX0_fieldType_38 : decode cX0_fieldType 38 = .ok (.invokevirtual 136, 3) := by decide +kernel
theorem dX0_fieldType_44 : decode cX0_fieldType 44 = .ok (.aload_n 2, 1) := by decide +kernel
theorem dX0_fieldType_45 : decode cX0_fieldType 45 = .ok (.aload_n 3, 1) := by decide +kernel
theorem dX0_fieldType_46 : decode cX0_fieldType 46 = .ok (.getfield 226, 3) := by decide +kernel
theorem dX0_fieldType_49 : decode cX0_fieldType 49 = .ok (.putfield 226, 3) := by decide +kernel
theorem dX0_fieldType_52 : decode cX0_fieldType 52 = .ok (.aload_n 0, 1) := by decide +kernel
theorem dX0_fieldType_53 : decode cX0_fieldType 53 = .ok (.getfield 9, 3) := by decide +kernel
theorem dX0_fieldType_56 : decode cX0_fieldType 56 = .ok (.aload_n 3, 1) := by decide +kernel
theorem dX0_fieldType_57 : decode cX0_fieldType 57 = .ok (.getfield 117, 3) := by decide +kernel
theorem dX0_fieldType_60 : decode cX0_fieldType 60 = .ok (.invokevirtual 120, 3) := by decide +kernel
theorem dX0_fieldType_63 : decode cX0_fieldType 63 = .ok (.ireturn, 1) := by decide +kernel
theorem hV_X2_fieldOf : yX2_fieldOf.cls = RX2 ∧ yX2_fieldOf.cls ≠ "java/lang/invoke/MethodHandle" ∧ yX2_fieldOf.cls ≠ "java/lang/invoke/VarHandle" ∧ (parseMethodDescriptor yX2_fieldOf.desc).map (fun d => d.parameters.length) = some 1 := by decide +kernel
set_option maxHeartbeats 16000000 in
set_option maxRecDepth 100000 in
theorem B_fieldType (l : Launch) (G : pT) (h0 : Nat) (a : Nat → Nat) (F : Nat → Int32) (R : Nat → Value) (Z : Int64) (B : Nat → Nat → Int32) (J : Nat → Nat → Int64) (K : PK) (w : va_W) (d0 : Nat) (q : Nat) (sz : Nat) (g : Nat → Nat → Nat) (hsz : sz ≤ 5000) (hwp : WPr G K g) (hd0 : K.1 d0 = 4) (hqT : K.1 q = 1) (hO : OKP G h0 a (upd F 2 (nI sz)) R Z B J K w) (hl0 : l.stackTraces = false) : PBn l G pX0 yX0_fieldType cX0_fieldType 4 (some .int) ({ frames := 7, cells := 1, slots := 6, locals := 146 }) [.ref (a 4), .ref d0, .ref q] w (fun (v : Option Value) (u : va_W × (PK × Int32)) => v = some (.int u.2.2) ∧ (BdE K u.2.1) ∧ (OKP G h0 a (upd F 2 (nI sz)) R Z B J u.2.1 u.1)) (fun u => u.1) (fun (u : va_W × (PK × Int32)) => 0) (fun (u : va_W × (PK × Int32)) => 0) (fun (u : va_W × (Nat → Int32) × (Nat → Value) × (Nat → Nat → Int32)) => ThQ G h0 a (upd F 2 (nI sz)) R Z B J u) (fun u => u.1) := by
  intro sz
  refine vx_ofW (cc := cX0_fieldType) (maxL := 4) (ret := (some .int)) (by decide) rfl ?_
  intro p e s m args below meth c s₁ B9 hml hnt hv
  obtain ⟨rfl, hsz, hP, hD0, hE, hX⟩ := hv
  have hx := B9.exec
  have hb := B9.bytes
  have hr := B9.returns
  have hts := atoms_spec (ws := Cond.code yX0_fieldType cX0_fieldType 4 (some .int) :: pw) B9.pre
  have hq : ∀ w ∈ pw, w.before _ s = true := fun w h => hts w (List.mem_cons_of_mem _ h)
  have hown : s.vm.findClass RX0 = some m.cls := findClass_of_methodNamed B9.named
  have hlocks := B9.notSynchronized
  subst hsz
  have hD := hD0.self (sz := s.heap.size)
  have hA : ∀ q : Nat, s.heap.size ≤ q → va_A w s.heap.size q := fun q h => Or.inr h
  generalize va_A w s.heap.size = A at hD hE hA ⊢
  have hS : va_S A s.heap s.heap [] := va_S.rf
  have hl := lv_entry ([.ref (a 4), .ref d0, .ref q]) (n := 4) (Nat.le_of_ble_eq_true rfl)
  rw [lg_entry_eq]
  generalize (lg_sl ([.ref (a 4), .ref d0, .ref q]) ++ List.replicate (4 - (lg_sl ([.ref (a 4), .ref d0, .ref q])).length) Slot.unset).toArray = ls at hl ⊢
  have hl : lv_has ls 4 [(0, .ref (a 4)), (1, .ref d0), (2, .ref q)] := hl
  refine lv_aload_n hx hb dX0_fieldType_0 rfl (lv_at hl 1 rfl) ?_
  refine lv_ifnonnull (tgt := 8) hx hb dX0_fieldType_1 (by decide) ?_
  refine lv_aload_n hx hb dX0_fieldType_8 rfl (lv_at hl 1 rfl) ?_
  refine lv_aload_n hx hb dX0_fieldType_9 rfl (lv_at hl 0 rfl) ?_
  refine c_get (v := .ref (a 1)) (C := RX0) (Tc := TX0) (N := 13) (ci := 0) hx hb hq pin_wsX00 hown hE hP hO 24 (sg_24 G h0 a _ _ _ _ _) rfl 0 (by decide) (hq _ pw_4) (fun _ h9 => h9) rfl dX0_fieldType_10 ?_
  refine lv_aload_n hx hb dX0_fieldType_13 rfl (lv_at hl 2 rfl) ?_
  refine p_get (v := .int (K.2.1 1 q)) (C := RX7) (Tc := TX7) (N := 11) (ci := 13) hx hb hq pin_wsX70 hown hE hP hO (by rw [hqT]; decide) (rep_1 hqT) rfl 1 (by decide) (hq _ pw_81) (fun _ h9 => h9) rfl dX0_fieldType_14 ?_
  have hO : OKW G h0 a (upd (upd F 2 (nI sz)) 2 (nI sz)) R Z B J K.1 (fun q99 x99 => x99 = rep G a K q99) w := hO.to rfl
  obtain ⟨_, qr4, hqr5⟩ := hO.2.1 2 _ (sg_2 G h0 a _ _ _ _ _)
  refine pc_V0 (G := G) (As := [.int (K.2.1 1 q)]) (rest := [.ref d0]) hx hb hml hown hq hE hX pX0_al hP hD hS hA hl.1 (K_valueAt l G h0 a (upd F 2 (nI sz)) R Z B J K.1 (fun q99 x99 => x99 = rep G a K q99) w (K.2.1 1 q) sz (by omega) hO) (gV pw_56 pw_57 pw_58 pw_59 pw_39) hV_X10_valueAt qr4 7 hqr5 rfl rfl rfl (Nat.le_of_ble_eq_true rfl) dX0_fieldType_17 ⟨(by show 0 + 0 ≤ 1; omega), (by show 0 + 0 ≤ 6; omega)⟩ ⟨Nat.le_of_ble_eq_true rfl, Nat.le_of_ble_eq_true rfl⟩ (fun v3 u1 H locs hw2 hP hD hS => ?_)
  obtain ⟨w, r6⟩ := u1
  obtain ⟨hw2, hO⟩ := hw2
  obtain rfl : v3 = some (.int r6) := hw2
  have hO : OKP G h0 a (upd F 2 (nI sz)) R Z B J K w := hO.to rfl
  refine W.widen (k := 0) (n := 0) (Nat.le_of_ble_eq_true rfl) (Nat.le_of_ble_eq_true rfl) ?_
  refine W.eq (g2 := F0 m 20 ls [.int r6, .ref d0]) rfl ?_
  have hO : OKP G h0 a (upd F 2 (nI sz)) R Z B J K w := hO.to rfl
  obtain ⟨qr10, hqr11⟩ := p_recv hO (by rw [hd0]; decide) (rep_4 hd0)
  refine pc_V0 (G := G) (As := [.int r6]) (rest := []) hx hb hml hown hq hE hX pX0_al hP hD hS hA hl.1 (O_fieldOf l G h0 a (upd F 2 (nI sz)) R Z B J K w d0 r6 g hd0 hwp hO) (gV pw_143 pw_144 pw_145 pw_146 pw_141) hV_X2_fieldOf qr10 2 hqr11 rfl rfl rfl (Nat.le_of_ble_eq_true rfl) dX0_fieldType_20 ⟨(by show 0 + 0 ≤ 1; omega), (by show 0 + 0 ≤ 6; omega)⟩ ⟨Nat.le_of_ble_eq_true rfl, Nat.le_of_ble_eq_true rfl⟩ (fun v9 u7 H locs hw8 hP hD hS => ?_)
  obtain ⟨w, o12⟩ := u7
  obtain ⟨hw8, h13, hO⟩ := hw8
  have h13 : NoN K o12 := h13
  obtain rfl : v9 = some ((va_rf o12)) := hw8
  have hO : OKP G h0 a (upd F 2 (nI sz)) R Z B J K w := hO.to rfl
  refine W.widen (k := 0) (n := 0) (Nat.le_of_ble_eq_true rfl) (Nat.le_of_ble_eq_true rfl) ?_
  refine W.eq (g2 := F0 m 23 ls [(va_rf o12)]) rfl ?_
  rcases o12 with _ | d14
  · have hl : lv_has ls 4 [(0, .ref (a 4)), (1, .ref d0), (2, .ref q)] := hl
    refine W.eq (g2 := F0 m 23 ls [.null]) rfl ?_
    refine lv_astore_nN (lv' := [(3, .null), (0, .ref (a 4)), (1, .ref d0), (2, .ref q)]) hx hb dX0_fieldType_23 rfl hl (by decide) rfl (fun ls hl => ?_)
    refine lv_aload_nN hx hb dX0_fieldType_24 rfl (lv_at hl 0 rfl) ?_
    refine lv_ifnonnullN hx hb dX0_fieldType_25 ?_
    refine lv_aload_n hx hb dX0_fieldType_28 rfl (lv_at hl 1 rfl) ?_
    refine c_get (v := .ref (a 1)) (C := RX0) (Tc := TX0) (N := 13) (ci := 0) hx hb hq pin_wsX00 hown hE hP hO 24 (sg_24 G h0 a _ _ _ _ _) rfl 0 (by decide) (hq _ pw_4) (fun _ h9 => h9) rfl dX0_fieldType_29 ?_
    refine lv_bipush (v := 10) hx hb dX0_fieldType_32 (by decide) ?_
    refine lv_aload_n hx hb dX0_fieldType_34 rfl (lv_at hl 3 rfl) ?_
    refine p_get (v := .int (K.2.1 1 q)) (C := RX7) (Tc := TX7) (N := 11) (ci := 13) hx hb hq pin_wsX70 hown hE hP hO (by rw [hqT]; decide) (rep_1 hqT) rfl 1 (by decide) (hq _ pw_81) (fun _ h9 => h9) rfl dX0_fieldType_35 ?_
    have hO : OKW G h0 a (upd (upd F 2 (nI sz)) 2 (nI sz)) R Z B J K.1 (fun q99 x99 => x99 = rep G a K q99) w := hO.to rfl
    obtain ⟨_, qr18, hqr19⟩ := hO.2.1 2 _ (sg_2 G h0 a _ _ _ _ _)
    refine pn_V0 (G := G) (As := [.int 10, .int (K.2.1 1 q)]) (rest := []) hx hb hml hown hq hE hX pX0_al hP hD hS hA hl.1 (K_fail l G h0 a (upd F 2 (nI sz)) R Z B J K.1 (fun q99 x99 => x99 = rep G a K q99) w 10 (K.2.1 1 q) sz (by omega) hO hl0) (gV pw_64 pw_65 pw_66 pw_59 pw_43) hV_X10_fail qr18 7 hqr19 rfl rfl rfl (Nat.le_of_ble_eq_true rfl) dX0_fieldType_38 ⟨(by show 0 + 1 ≤ 1; omega), (by show 0 + 6 ≤ 6; omega)⟩ ⟨Nat.le_of_ble_eq_true rfl, Nat.le_of_ble_eq_true rfl⟩ (fun v17 u15 H locs hw16 hP hD hS => hw16.elim) (fun ux ce9 q9 H9 locs9 hux hP9 hD9 hS9 hce hcv hcl => pb_out ux (ThQ.up (Thx.same Thx.rfl rfl) RhX.rfl hux) hnt hlocks hce hcv hcl hP9 hD9 hS9 (by show 0 + 1 ≤ 1; omega) (by show 0 + 6 ≤ 6; omega))
  · have hl : lv_has ls 4 [(0, .ref (a 4)), (1, .ref d0), (2, .ref q)] := hl
    refine W.eq (g2 := F0 m 23 ls [.ref d14]) rfl ?_
    have hf20 : K.1 d14 = 1 := h13 d14 rfl
    refine lv_astore_n (lv' := [(3, .ref d14), (0, .ref (a 4)), (1, .ref d0), (2, .ref q)]) hx hb dX0_fieldType_23 rfl hl (by decide) rfl (fun ls hl => ?_)
    refine lv_aload_n hx hb dX0_fieldType_24 rfl (lv_at hl 0 rfl) ?_
    refine lv_ifnonnull (tgt := 44) hx hb dX0_fieldType_25 (by decide) ?_
    refine lv_aload_n hx hb dX0_fieldType_44 rfl (lv_at hl 3 rfl) ?_
    refine lv_aload_n hx hb dX0_fieldType_45 rfl (lv_at hl 0 rfl) ?_
    refine p_get (v := .int (K.2.1 5 d14)) (C := RX7) (Tc := TX7) (N := 11) (ci := 13) hx hb hq pin_wsX70 hown hE hP hO (by rw [hf20]; decide) (rep_1 hf20) rfl 5 (by decide) (hq _ pw_142) (fun _ h9 => h9) rfl dX0_fieldType_46 ?_
    refine p_put (v := .int (K.2.1 5 d14)) (ty := .int) (C := RX7) (Tc := TX7) (N := 11) (ci := 13) (K' := (kI K 5 q (K.2.1 5 d14))) hx hb hq pin_wsX70 tyX7 tyX7_ok nmX7 hown hE hP hD hS hO (by rw [hqT]; decide) (rep_1 hqT) rfl 5 (by decide) (hq _ pw_142) (fun _ h9 => h9) rfl (by decide +kernel) rfl rfl (Nat.le_of_ble_eq_true rfl) rfl (by rw [rep_1 (show (kI K 5 q (K.2.1 5 d14)).1 q = 1 from hqT), pi_5] <;> rfl) (fun p9 hp9 => rep_kI hp9) dX0_fieldType_49 (fun H locs w hP hD hS hO => ?_)
    obtain ⟨K21, hK22⟩ : ∃ z : PK, z = (kI K 5 q (K.2.1 5 d14)) := ⟨_, rfl⟩
    rw [← hK22] at hO
    have hf23 : K21.1 q = 1 := (by rw [hK22]; exact hqT)
    have hf24 : K21.1 d0 = 4 := (by rw [hK22]; exact hd0)
    have hf25 : K21.1 d14 = 1 := (by rw [hK22]; exact hf20)
    have hf26 : K21.2.1 5 q = (K.2.1 5 d14) := by rw [hK22]; exact kI_eq
    refine lv_aload_n hx hb dX0_fieldType_52 rfl (lv_at hl 1 rfl) ?_
    refine c_get (v := .ref (a 1)) (C := RX0) (Tc := TX0) (N := 13) (ci := 0) hx hb hq pin_wsX00 hown hE hP hO 24 (sg_24 G h0 a _ _ _ _ _) rfl 0 (by decide) (hq _ pw_4) (fun _ h9 => h9) rfl dX0_fieldType_53 ?_
    refine lv_aload_n hx hb dX0_fieldType_56 rfl (lv_at hl 0 rfl) ?_
    refine p_get (v := .int (K21.2.1 2 d14)) (C := RX7) (Tc := TX7) (N := 11) (ci := 13) hx hb hq pin_wsX70 hown hE hP hO (by rw [hf25]; decide) (rep_1 hf25) rfl 2 (by decide) (hq _ pw_82) (fun _ h9 => h9) rfl dX0_fieldType_57 ?_
    have hO : OKW G h0 a (upd (upd F 2 (nI sz)) 2 (nI sz)) R Z B J K21.1 (fun q99 x99 => x99 = rep G a K21 q99) w := hO.to rfl
    obtain ⟨_, qr30, hqr31⟩ := hO.2.1 2 _ (sg_2 G h0 a _ _ _ _ _)
    refine pc_V0 (G := G) (As := [.int (K21.2.1 2 d14)]) (rest := []) hx hb hml hown hq hE hX pX0_al hP hD hS hA hl.1 (K_typeAt l G h0 a (upd F 2 (nI sz)) R Z B J K21.1 (fun q99 x99 => x99 = rep G a K21 q99) w (K21.2.1 2 d14) sz (by omega) hO) (gV pw_92 pw_93 pw_94 pw_59 pw_36) hV_X10_typeAt qr30 7 hqr31 rfl rfl rfl (Nat.le_of_ble_eq_true rfl) dX0_fieldType_60 ⟨(by show 0 + 0 ≤ 1; omega), (by show 0 + 0 ≤ 6; omega)⟩ ⟨Nat.le_of_ble_eq_true rfl, Nat.le_of_ble_eq_true rfl⟩ (fun v29 u27 H locs hw28 hP hD hS => ?_)
    obtain ⟨w, r32⟩ := u27
    obtain ⟨hw28, hO⟩ := hw28
    obtain rfl : v29 = some (.int r32) := hw28
    have hO : OKP G h0 a (upd F 2 (nI sz)) R Z B J K21 w := hO.to rfl
    refine W.widen (k := 0) (n := 0) (Nat.le_of_ble_eq_true rfl) (Nat.le_of_ble_eq_true rfl) ?_
    refine W.eq (g2 := F0 m 63 ls [.int r32]) rfl ?_
    refine W_size (fun hz1 hz2 => ?_)
    refine vx_ret ?_
    have hz33 : BdE K K21 := (by rw [hK22]; exact BdE.kI (Or.inl rfl))
    have hO : OKP G h0 a (upd F 2 (nI sz)) R Z B J K21 w := hO.to rfl
    refine W.widen (k := 1) (n := 6) (by omega) (by omega) ?_
    have hzz1 : H.size ≤ s.heap.size + (0) := (by have z : 0 ≤ 0 := (by omega); omega)
    have hzz2 : hSl H ≤ hSl s.heap + (0) := (by have z : 0 ≤ 0 := (by omega); omega)
    exact W.iret (v := r32) hx hb hr (fun t99 ht99 hW99 => ⟨⟨_, (w, (K21, r32)), rfl, ⟨rfl, hz33, hO⟩, by rw [ht99]; exact hP, hD, by rw [ht99]; exact hzz1, by rw [ht99]; exact hzz2⟩, hS.F ht99⟩) hS.2.2 dX0_fieldType_63
theorem dX0_ownField_0 : decode cX0_ownField 0 = .ok (.aload_n 0, 1) := by decide +kernel
theorem dX0_ownField_1 : decode cX0_ownField 1 = .ok (.getfield 15, 3) := by decide +kernel
theorem dX0_ownField_4 : decode cX0_ownField 4 = .ok (.iconst 2, 1) := by decide +kernel
theorem dX0_ownField_5 : decode cX0_ownField 5 = .ok (.iconst 0, 1) := by decide +kernel
theorem dX0_ownField_6 : decode cX0_ownField 6 = .ok (.iconst 0, 1) := by decide +kernel
theorem dX0_ownField_7 : decode cX0_ownField 7 = .ok (.invokevirtual 140, 3) := by decide +kernel
theorem dX0_ownField_10 : decode cX0_ownField 10 = .ok (.aload_n 0, 1) := by decide +kernel
theorem dX0_ownField_11 : decode cX0_ownField 11 = .ok (.aload_n 0, 1) := by decide +kernel
theorem dX0_ownField_12 : decode cX0_ownField 12 = .ok (.getfield 69, 3) := by decide +kernel
theorem dX0_ownField_15 : decode cX0_ownField 15 = .ok (.getfield 229, 3) := by decide +kernel
theorem dX0_ownField_18 : decode cX0_ownField 18 = .ok (.aload_n 1, 1) := by decide +kernel
theorem dX0_ownField_19 : decode cX0_ownField 19 = .ok (.invokevirtual 233, 3) := by decide +kernel
theorem dX0_ownField_22 : decode cX0_ownField 22 = .ok (.ireturn, 1) := by decide +kernel
theorem hV_X0_fieldType : yX0_fieldType.cls = RX0 ∧ yX0_fieldType.cls ≠ "java/lang/invoke/MethodHandle" ∧ yX0_fieldType.cls ≠ "java/lang/invoke/VarHandle" ∧ (parseMethodDescriptor yX0_fieldType.desc).map (fun d => d.parameters.length) = some 2 := by decide +kernel
set_option maxHeartbeats 16000000 in
set_option maxRecDepth 100000 in
theorem B_ownField (l : Launch) (G : pT) (h0 : Nat) (a : Nat → Nat) (F : Nat → Int32) (R : Nat → Value) (Z : Int64) (B : Nat → Nat → Int32) (J : Nat → Nat → Int64) (K : PK) (w : va_W) (pq : Nat) (dr : Nat) (ml : Nat) (nd : Nat) (nm : Nat) (cp : Nat) (it : Nat → Nat) (s9 : Nat) (q : Nat) (mq : Nat) (cs : Nat) (vr : Nat) (sz : Nat) (n : Nat) (g : Nat → Nat → Nat) (rk : Nat → Nat) (hsz : sz ≤ 5000) (hwp : WPr G K g) (hps : PgT G K g (a 1) pq dr ml nd nm cp it s9) (hrk : RkO K rk) (hcs : cs ≤ 10000) (hvr : vr ≤ 30) (hng : Nng (B 18)) (hmq : K.1 mq = 3) (hqT : K.1 q = 1) (hqL : 1 ≤ g 0 q ∧ g 0 q ≤ n) (hO : OKP G h0 a (upd (upd (upd F 2 (nI sz)) 5 (nI cs)) 12 (nI vr)) (updR (updR R 2 (.ref pq)) 3 (.ref mq)) Z B J K w) (hl0 : l.stackTraces = false) : PBn l G pX0 yX0_ownField cX0_ownField 2 (some .int) ({ frames := (5 * n + 33), cells := 1, slots := 6, locals := (200 * n + 560) }) [.ref (a 4), .ref q] w (fun (v : Option Value) (u : va_W × (PK × (Nat → Nat → Int32) × Nat × Int32 × Int32 × Int32 × Int32)) => v = some (.int u.2.2.2.2.2.2.2) ∧ (BdE K u.2.1) ∧ (Bth B u.2.2.1) ∧ (u.2.2.2.1 ≤ 10000) ∧ (OKP G h0 a (upd (upd (upd (upd (upd (upd F 2 (nI sz)) 5 (nI u.2.2.2.1)) 12 (nI vr)) 13 u.2.2.2.2.1) 14 u.2.2.2.2.2.1) 15 u.2.2.2.2.2.2.1) (updR (updR R 2 (.ref pq)) 3 (.ref mq)) Z u.2.2.1 J u.2.1 u.1)) (fun u => u.1) (fun (u : va_W × (PK × (Nat → Nat → Int32) × Nat × Int32 × Int32 × Int32 × Int32)) => 0) (fun (u : va_W × (PK × (Nat → Nat → Int32) × Nat × Int32 × Int32 × Int32 × Int32)) => 0) (fun (u : va_W × (Nat → Int32) × (Nat → Value) × (Nat → Nat → Int32)) => ThQ G h0 a (upd (upd (upd F 2 (nI sz)) 5 (nI cs)) 12 (nI vr)) (updR (updR R 2 (.ref pq)) 3 (.ref mq)) Z B J u) (fun u => u.1) := by
  intro sz
  refine vx_ofW (cc := cX0_ownField) (maxL := 2) (ret := (some .int)) (by decide) rfl ?_
  intro p e s m args below meth c s₁ B9 hml hnt hv
  obtain ⟨rfl, hsz, hP, hD0, hE, hX⟩ := hv
  have hx := B9.exec
  have hb := B9.bytes
  have hr := B9.returns
  have hts := atoms_spec (ws := Cond.code yX0_ownField cX0_ownField 2 (some .int) :: pw) B9.pre
  have hq : ∀ w ∈ pw, w.before _ s = true := fun w h => hts w (List.mem_cons_of_mem _ h)
  have hown : s.vm.findClass RX0 = some m.cls := findClass_of_methodNamed B9.named
  have hlocks := B9.notSynchronized
  subst hsz
  have hD := hD0.self (sz := s.heap.size)
  have hA : ∀ q : Nat, s.heap.size ≤ q → va_A w s.heap.size q := fun q h => Or.inr h
  generalize va_A w s.heap.size = A at hD hE hA ⊢
  have hS : va_S A s.heap s.heap [] := va_S.rf
  have hl := lv_entry ([.ref (a 4), .ref q]) (n := 2) (Nat.le_of_ble_eq_true rfl)
  rw [lg_entry_eq]
  generalize (lg_sl ([.ref (a 4), .ref q]) ++ List.replicate (2 - (lg_sl ([.ref (a 4), .ref q])).length) Slot.unset).toArray = ls at hl ⊢
  have hl : lv_has ls 2 [(0, .ref (a 4)), (1, .ref q)] := hl
  have hpg := hps.1
  have hp1 := hpg.1
  have hp2 := hpg.2.1
  have hp3 := hpg.2.2.1
  have hp4 := hpg.2.2.2.1
  have hp5 := hpg.2.2.2.2.1
  have hp6 := hpg.2.2.2.2.2.1
  have hp8 := hpg.2.2.2.2.2.2.2.1
  have hp9 := hpg.2.2.2.2.2.2.2.2
  obtain ⟨dO, hdO, htO⟩ := (hwp.2.2.2 mq hmq).2.1
  refine lv_aload_n hx hb dX0_ownField_0 rfl (lv_at hl 0 rfl) ?_
  refine c_get (v := .ref (a 2)) (C := RX0) (Tc := TX0) (N := 13) (ci := 0) hx hb hq pin_wsX00 hown hE hP hO 24 (sg_24 G h0 a _ _ _ _ _) rfl 1 (by decide) (hq _ pw_5) (fun _ h9 => h9) rfl dX0_ownField_1 ?_
  refine lv_iconst (v := 2) hx hb dX0_ownField_4 (by decide) ?_
  refine lv_iconst (v := 0) hx hb dX0_ownField_5 (by decide) ?_
  refine lv_iconst (v := 0) hx hb dX0_ownField_6 (by decide) ?_
  have hO : OKW G h0 a (upd (upd (upd (upd F 2 (nI sz)) 5 (nI cs)) 12 (nI vr)) 5 (nI cs)) (updR (updR R 2 (.ref pq)) 3 (.ref mq)) Z B J K.1 (fun q99 x99 => x99 = rep G a K q99) w := hO.to rfl
  obtain ⟨_, qr4, hqr5⟩ := hO.2.1 13 _ (sg_13 G h0 a _ _ _ _ _)
  refine pc_V0 (G := G) (As := [.int 2, .int 0, .int (nI 0)]) (rest := []) hx hb hml hown hq hE hX pX0_al hP hD hS hA hl.1 (K_emit l G h0 a (upd (upd (upd F 2 (nI sz)) 5 (nI cs)) 12 (nI vr)) (updR (updR R 2 (.ref pq)) 3 (.ref mq)) Z B J K.1 (fun q99 x99 => x99 = rep G a K q99) w 2 0 0 cs (by omega) (by omega) hng hO) (gV pw_129 pw_130 pw_131 pw_70 pw_115) hV_X1_emit qr4 1 hqr5 rfl rfl rfl (Nat.le_of_ble_eq_true rfl) dX0_ownField_7 ⟨(by show 0 + 0 ≤ 1; omega), (by show 0 + 0 ≤ 6; omega)⟩ ⟨(by show 2 + 1 ≤ (5 * n + 33); omega), (by show 8 + (4 + 11) + 60 ≤ (200 * n + 560); omega)⟩ (fun v3 u1 H locs hw2 hP hD hS => ?_)
  obtain ⟨w, cs6, f7, f8, f9, f10⟩ := u1
  obtain ⟨hw2, h11, h12, hO⟩ := hw2
  have h11 : cs ≤ cs6 ∧ cs6 ≤ cs + 1 ∧ cs6 ≤ 10000 := h11
  have h12 : Nng f9 := h12
  obtain rfl : v3 = none := hw2
  have hO : OKP G h0 a (upd (upd (upd F 2 (nI sz)) 5 (nI cs6)) 12 (nI vr)) (updR (updR R 2 (.ref pq)) 3 (.ref mq)) Z (updA (updA (updA (updA B 16 f7) 17 f8) 18 f9) 19 f10) J K w := hO.to rfl
  refine W.widen (k := 0) (n := 0) (Nat.le_of_ble_eq_true rfl) (Nat.le_of_ble_eq_true rfl) ?_
  refine W.eq (g2 := F0 m 10 ls []) rfl ?_
  refine lv_aload_n hx hb dX0_ownField_10 rfl (lv_at hl 0 rfl) ?_
  refine lv_aload_n hx hb dX0_ownField_11 rfl (lv_at hl 0 rfl) ?_
  refine c_get (v := .ref mq) (C := RX0) (Tc := TX0) (N := 13) (ci := 0) hx hb hq pin_wsX00 hown hE hP hO 24 (sg_24 G h0 a _ _ _ _ _) rfl 7 (by decide) (hq _ pw_72) (fun _ h9 => h9) rfl dX0_ownField_12 ?_
  refine p_get (v := .ref dO) (C := RX6) (Tc := TX6) (N := 12) (ci := 12) hx hb hq pin_wsX60 hown hE hP hO (by rw [hmq]; decide) (rep_3 hmq) rfl 0 (by decide) (hq _ pw_161) (fun _ h9 => h9) (congrArg (fun z => some (va_rf z)) hdO) dX0_ownField_15 ?_
  refine lv_aload_n hx hb dX0_ownField_18 rfl (lv_at hl 1 rfl) ?_
  have hO : OKP G h0 a (upd (upd (upd (upd (upd F 2 (nI sz)) 5 (nI cs)) 12 (nI vr)) 5 (nI cs6)) 2 (nI sz)) (updR (updR R 2 (.ref pq)) 3 (.ref mq)) Z (updA (updA (updA (updA B 16 f7) 17 f8) 18 f9) 19 f10) J K w := hO.to rfl
  obtain ⟨_, qr16, hqr17⟩ := hO.2.1 24 _ (sg_24 G h0 a _ _ _ _ _)
  refine pn_V0 (G := G) (As := [.ref dO, .ref q]) (rest := []) hx hb hml hown hq hE hX pX0_al hP hD hS hA hl.1 (B_fieldType l G h0 a (upd (upd (upd (upd F 2 (nI sz)) 5 (nI cs)) 12 (nI vr)) 5 (nI cs6)) (updR (updR R 2 (.ref pq)) 3 (.ref mq)) Z (updA (updA (updA (updA B 16 f7) 17 f8) 18 f9) 19 f10) J K w dO q sz g (by omega) (BdE.wp BdE.rfl hwp) htO hqT hO hl0) (gV pw_162 pw_163 pw_164 pw_63 pw_147) hV_X0_fieldType qr16 0 hqr17 rfl rfl rfl (Nat.le_of_ble_eq_true rfl) dX0_ownField_19 ⟨(by show 0 + 1 ≤ 1; omega), (by show 0 + 6 ≤ 6; omega)⟩ ⟨(by show 7 + 1 ≤ (5 * n + 33); omega), (by show 8 + (4 + 11) + 146 ≤ (200 * n + 560); omega)⟩ (fun v15 u13 H locs hw14 hP hD hS => ?_) (fun ux ce9 q9 H9 locs9 hux hP9 hD9 hS9 hce hcv hcl => pb_out ux (ThQ.up (Thx.same (Thx.b (Thx.b8 (Thx.b (Thx.b (Thx.f Thx.rfl (by omega)) (by omega) (by decide)) (by omega) (by decide)) h12) (by omega) (by decide)) rfl) RhX.rfl hux) hnt hlocks hce hcv hcl hP9 hD9 hS9 (by show 0 + 1 ≤ 1; omega) (by show 0 + 6 ≤ 6; omega))
  obtain ⟨w, K18, r19⟩ := u13
  obtain ⟨hw14, h20, hO⟩ := hw14
  have h20 : BdE K K18 := h20
  obtain rfl : v15 = some (.int r19) := hw14
  have hf21 : K18.1 pq = 7 := (BdE.T h20 hp1 (by decide))
  have hf22 : K18.2.2.1 18 pq = some (a 1) := (BdE.C h20 (by rw [hp1]; decide) 18).trans hp2
  have hf23 : K18.2.2.1 14 pq = some dr := (BdE.C h20 (by rw [hp1]; decide) 14).trans hp3
  have hf24 : K18.1 dr = 8 := (BdE.T h20 hp4 (by decide))
  have hf25 : K18.2.2.1 15 pq = some ml := (BdE.C h20 (by rw [hp1]; decide) 15).trans hp5
  have hf26 : K18.1 ml = 5 := (BdE.T h20 hp6 (by decide))
  have hf27 : K18.2.1 24 pq = (nI nd) := (BdE.I h20 (by rw [hp1]; decide) (by decide) (by decide)).trans hp8
  have hf28 : K18.1 q = 1 := (BdE.T h20 hqT (by decide))
  have hf29 : K18.1 mq = 3 := (BdE.T h20 hmq (by decide))
  have hf30 : K18.2.2.1 5 mq = some dO := (BdE.C h20 (by rw [hmq]; decide) 5).trans hdO
  have hf31 : K18.1 dO = 4 := (BdE.T h20 htO (by decide))
  have hO : OKP G h0 a (upd (upd (upd F 2 (nI sz)) 5 (nI cs6)) 12 (nI vr)) (updR (updR R 2 (.ref pq)) 3 (.ref mq)) Z (updA (updA (updA (updA B 16 f7) 17 f8) 18 f9) 19 f10) J K18 w := hO.to rfl
  refine W.widen (k := 0) (n := 0) (by show 0 + 0 ≤ 0; omega) (by show 0 + 0 ≤ 0; omega) ?_
  refine W.eq (g2 := F0 m 22 ls [.int r19]) rfl ?_
  have hbe32 := BdE.trans BdE.rfl h20
  refine W_size (fun hz1 hz2 => ?_)
  refine vx_ret ?_
  have hz33 : BdE K K18 := hbe32
  have hz34 : Bth B (updA (updA (updA (updA B 16 f7) 17 f8) 18 f9) 19 f10) := (show Thx (upd (upd (upd F 2 (nI sz)) 5 (nI cs)) 12 (nI vr)) (upd (upd (upd (upd F 2 (nI sz)) 5 (nI cs)) 12 (nI vr)) 5 (nI cs6)) B (updA (updA (updA (updA B 16 f7) 17 f8) 18 f9) 19 f10) from (Thx.b (Thx.b8 (Thx.b (Thx.b (Thx.f Thx.rfl (by omega)) (by omega) (by decide)) (by omega) (by decide)) h12) (by omega) (by decide))).2
  have hz35 : cs6 ≤ 10000 := (by omega)
  have hO : OKP G h0 a (upd (upd (upd (upd (upd (upd F 2 (nI sz)) 5 (nI cs6)) 12 (nI vr)) 13 (F 13)) 14 (F 14)) 15 (F 15)) (updR (updR R 2 (.ref pq)) 3 (.ref mq)) Z (updA (updA (updA (updA B 16 f7) 17 f8) 18 f9) 19 f10) J K18 w := hO.to rfl
  refine W.widen (k := 1) (n := 6) (by omega) (by omega) ?_
  have hzz1 : H.size ≤ s.heap.size + (0) := (by have z : 0 ≤ 0 := (by omega); omega)
  have hzz2 : hSl H ≤ hSl s.heap + (0) := (by have z : 0 ≤ 0 := (by omega); omega)
  exact W.iret (v := r19) hx hb hr (fun t99 ht99 hW99 => ⟨⟨_, (w, (K18, (updA (updA (updA (updA B 16 f7) 17 f8) 18 f9) 19 f10), cs6, (F 13), (F 14), (F 15), r19)), rfl, ⟨rfl, hz33, hz34, hz35, hO⟩, by rw [ht99]; exact hP, hD, by rw [ht99]; exact hzz1, by rw [ht99]; exact hzz2⟩, hS.F ht99⟩) hS.2.2 dX0_ownField_22
theorem dX0_variableValue_0 : decode cX0_variableValue 0 = .ok (.aload_n 0, 1) := by decide +kernel
theorem dX0_variableValue_1 : decode cX0_variableValue 1 = .ok (.aload_n 0, 1) := by decide +kernel
theorem dX0_variableValue_2 : decode cX0_variableValue 2 = .ok (.getfield 9, 3) := by decide +kernel
theorem dX0_variableValue_5 : decode cX0_variableValue 5 = .ok (.aload_n 1, 1) := by decide +kernel
theorem dX0_variableValue_6 : decode cX0_variableValue 6 = .ok (.getfield 114, 3) := by decide +kernel
theorem dX0_variableValue_9 : decode cX0_variableValue 9 = .ok (.invokevirtual 152, 3) := by decide +kernel
theorem dX0_variableValue_12 : decode cX0_variableValue 12 = .ok (.invokevirtual 155, 3) := by decide +kernel
theorem dX0_variableValue_15 : decode cX0_variableValue 15 = .ok (.istore_n 2, 1) := by decide +kernel
theorem dX0_variableValue_16 : decode cX0_variableValue 16 = .ok (.iload_n 2, 1) := by decide +kernel
theorem dX0_variableValue_17 : decode cX0_variableValue 17 = .ok (.iconst (-1), 1) := by decide +kernel
theorem dX0_variableValue_18 : decode cX0_variableValue 18 = .ok (.if_icmp .ne 38, 3) := by decide +kernel
theorem dX0_variableValue_56 : decode cX0_variableValue 56 = .ok (.aload_n 0, 1) := by decide +kernel
theorem dX0_variableValue_57 : decode cX0_variableValue 57 = .ok (.getfield 94, 3) := by decide +kernel
theorem dX0_variableValue_60 : decode cX0_variableValue 60 = .ok (.iload_n 2, 1) := by decide +kernel
theorem dX0_variableValue_61 : decode cX0_variableValue 61 = .ok (.iushr, 1) := by decide +kernel
theorem dX0_variableValue_62 : decode cX0_variableValue 62 = .ok (.iconst 1, 1) := by decide +kernel
theorem dX0_variableValue_63 : decode cX0_variableValue 63 = .ok (.iand, 1) := by decide +kernel
theorem dX0_variableValue_64 : decode cX0_variableValue 64 = .ok (.ifCond .ne 16, 3) := by decide +kernel
theorem dX0_variableValue_80 : decode cX0_variableValue 80 = .ok (.aload_n 0, 1) := by decide +kernel
theorem dX0_variableValue_81 : decode cX0_variableValue 81 = .ok (.iconst 2, 1) := by decide +kernel
theorem dX0_variableValue_82 : decode cX0_variableValue 82 = .ok (.aload_n 0, 1) := by decide +kernel
theorem dX0_variableValue_83 : decode cX0_variableValue 83 = .ok (.getfield 26, 3) := by decide +kernel
theorem dX0_variableValue_86 : decode cX0_variableValue 86 = .ok (.iload_n 2, 1) := by decide +kernel
theorem dX0_variableValue_87 : decode cX0_variableValue 87 = .ok (.iaload, 1) := by decide +kernel
theorem dX0_variableValue_88 : decode cX0_variableValue 88 = .ok (.aload_n 0, 1) := by decide +kernel
theorem dX0_variableValue_89 : decode cX0_variableValue 89 = .ok (.getfield 23, 3) := by decide +kernel
theorem dX0_variableValue_92 : decode cX0_variableValue 92 = .ok (.iload_n 2, 1) := by decide +kernel
theorem dX0_variableValue_93 : decode cX0_variableValue 93 = .ok (.iaload, 1) := by decide +kernel
theorem dX0_variableValue_94 : decode cX0_variableValue 94 = .ok (.invokevirtual 344, 3) := by decide +kernel
theorem dX0_variableValue_97 : decode cX0_variableValue 97 = .ok (.ireturn, 1) := by decide +kernel
theorem dX0_variableValue_67 : decode cX0_variableValue 67 = .ok (.aload_n 0, 1) := by decide +kernel
theorem dX0_variableValue_68 : decode cX0_variableValue 68 = .ok (.getfield 9, 3) := by decide +kernel
theorem dX0_variableValue_71 : decode cX0_variableValue 71 = .ok (.bipush 13, 2) := by decide +kernel
theorem dX0_variableValue_73 : decode cX0_variableValue 73 = .ok (.aload_n 1, 1) := by decide +kernel
theorem dX0_variableValue_74 : decode cX0_variableValue 74 = .ok (.getfield 114, 3) := by decide +kernel
theorem dX0_variableValue_77 : decode cX0_variableValue 77 = .ok (.invokevirtual 136, 3) := by decide +kernel
theorem dX0_variableValue_21 : decode cX0_variableValue 21 = .ok (.aload_n 0, 1) := by decide +kernel
theorem dX0_variableValue_22 : decode cX0_variableValue 22 = .ok (.getfield 15, 3) := by decide +kernel
theorem dX0_variableValue_25 : decode cX0_variableValue 25 = .ok (.iconst 2, 1) := by decide +kernel
theorem dX0_variableValue_26 : decode cX0_variableValue 26 = .ok (.iconst 0, 1) := by decide +kernel
theorem dX0_variableValue_27 : decode cX0_variableValue 27 = .ok (.iconst 0, 1) := by decide +kernel
theorem dX0_variableValue_28 : decode cX0_variableValue 28 = .ok (.invokevirtual 140, 3) := by decide +kernel
theorem dX0_variableValue_31 : decode cX0_variableValue 31 = .ok (.aload_n 0, 1) := by decide +kernel
theorem dX0_variableValue_32 : decode cX0_variableValue 32 = .ok (.aload_n 0, 1) := by decide +kernel
theorem dX0_variableValue_33 : decode cX0_variableValue 33 = .ok (.getfield 69, 3) := by decide +kernel
theorem dX0_variableValue_36 : decode cX0_variableValue 36 = .ok (.getfield 229, 3) := by decide +kernel
theorem dX0_variableValue_39 : decode cX0_variableValue 39 = .ok (.aload_n 1, 1) := by decide +kernel
theorem dX0_variableValue_40 : decode cX0_variableValue 40 = .ok (.invokevirtual 233, 3) := by decide +kernel
theorem dX0_variableValue_43 : decode cX0_variableValue 43 = .ok (.istore_n 3, 1) := by decide +kernel
theorem dX0_variableValue_44 : decode cX0_variableValue 44 = .ok (.aload_n 0, 1) := by decide +kernel
theorem dX0_variableValue_45 : decode cX0_variableValue 45 = .ok (.bipush 17, 2) := by decide +kernel
theorem dX0_variableValue_47 : decode cX0_variableValue 47 = .ok (.aload_n 1, 1) := by decide +kernel
theorem dX0_variableValue_48 : decode cX0_variableValue 48 = .ok (.getfield 226, 3) := by decide +kernel
theorem dX0_variableValue_51 : decode cX0_variableValue 51 = .ok (.iload_n 3, 1) := by decide +kernel
theorem dX0_variableValue_52 : decode cX0_variableValue 52 = .ok (.invokevirtual 344, 3) := by decide +kernel
theorem dX0_variableValue_55 : decode cX0_variableValue 55 = .ok (.ireturn, 1) := by decide +kernel
set_option maxHeartbeats 16000000 in
set_option maxRecDepth 100000 in
theorem B_variableValue (l : Launch) (G : pT) (h0 : Nat) (a : Nat → Nat) (F : Nat → Int32) (R : Nat → Value) (Z : Int64) (B : Nat → Nat → Int32) (J : Nat → Nat → Int64) (K : PK) (w : va_W) (pq : Nat) (dr : Nat) (ml : Nat) (nd : Nat) (nm : Nat) (cp : Nat) (it : Nat → Nat) (s9 : Nat) (q : Nat) (mq : Nat) (cs : Nat) (vr : Nat) (sz : Nat) (n : Nat) (g : Nat → Nat → Nat) (rk : Nat → Nat) (hsz : sz ≤ 5000) (hwp : WPr G K g) (hps : PgT G K g (a 1) pq dr ml nd nm cp it s9) (hrk : RkO K rk) (hcs : cs ≤ 10000) (hvr : vr ≤ 30) (hng : Nng (B 18)) (hmq : K.1 mq = 3) (hqT : K.1 q = 1) (hqL : 1 ≤ g 0 q ∧ g 0 q ≤ n) (hO : OKP G h0 a (upd (upd (upd F 2 (nI sz)) 5 (nI cs)) 12 (nI vr)) (updR (updR R 2 (.ref pq)) 3 (.ref mq)) Z B J K w) (hl0 : l.stackTraces = false) : PBn l G pX0 yX0_variableValue cX0_variableValue 4 (some .int) ({ frames := (5 * n + 33), cells := 1, slots := 6, locals := (200 * n + 560) }) [.ref (a 4), .ref q] w (fun (v : Option Value) (u : va_W × (PK × (Nat → Nat → Int32) × Nat × Int32 × Int32 × Int32 × Int32)) => v = some (.int u.2.2.2.2.2.2.2) ∧ (BdE K u.2.1) ∧ (Bth B u.2.2.1) ∧ (u.2.2.2.1 ≤ 10000) ∧ (OKP G h0 a (upd (upd (upd (upd (upd (upd F 2 (nI sz)) 5 (nI u.2.2.2.1)) 12 (nI vr)) 13 u.2.2.2.2.1) 14 u.2.2.2.2.2.1) 15 u.2.2.2.2.2.2.1) (updR (updR R 2 (.ref pq)) 3 (.ref mq)) Z u.2.2.1 J u.2.1 u.1)) (fun u => u.1) (fun (u : va_W × (PK × (Nat → Nat → Int32) × Nat × Int32 × Int32 × Int32 × Int32)) => 0) (fun (u : va_W × (PK × (Nat → Nat → Int32) × Nat × Int32 × Int32 × Int32 × Int32)) => 0) (fun (u : va_W × (Nat → Int32) × (Nat → Value) × (Nat → Nat → Int32)) => ThQ G h0 a (upd (upd (upd F 2 (nI sz)) 5 (nI cs)) 12 (nI vr)) (updR (updR R 2 (.ref pq)) 3 (.ref mq)) Z B J u) (fun u => u.1) := by
  intro sz
  refine vx_ofW (cc := cX0_variableValue) (maxL := 4) (ret := (some .int)) (by decide) rfl ?_
  intro p e s m args below meth c s₁ B9 hml hnt hv
  obtain ⟨rfl, hsz, hP, hD0, hE, hX⟩ := hv
  have hx := B9.exec
  have hb := B9.bytes
  have hr := B9.returns
  have hts := atoms_spec (ws := Cond.code yX0_variableValue cX0_variableValue 4 (some .int) :: pw) B9.pre
  have hq : ∀ w ∈ pw, w.before _ s = true := fun w h => hts w (List.mem_cons_of_mem _ h)
  have hown : s.vm.findClass RX0 = some m.cls := findClass_of_methodNamed B9.named
  have hlocks := B9.notSynchronized
  subst hsz
  have hD := hD0.self (sz := s.heap.size)
  have hA : ∀ q : Nat, s.heap.size ≤ q → va_A w s.heap.size q := fun q h => Or.inr h
  generalize va_A w s.heap.size = A at hD hE hA ⊢
  have hS : va_S A s.heap s.heap [] := va_S.rf
  have hl := lv_entry ([.ref (a 4), .ref q]) (n := 4) (Nat.le_of_ble_eq_true rfl)
  rw [lg_entry_eq]
  generalize (lg_sl ([.ref (a 4), .ref q]) ++ List.replicate (4 - (lg_sl ([.ref (a 4), .ref q])).length) Slot.unset).toArray = ls at hl ⊢
  have hl : lv_has ls 4 [(0, .ref (a 4)), (1, .ref q)] := hl
  have hpg := hps.1
  have hp1 := hpg.1
  have hp2 := hpg.2.1
  have hp3 := hpg.2.2.1
  have hp4 := hpg.2.2.2.1
  have hp5 := hpg.2.2.2.2.1
  have hp6 := hpg.2.2.2.2.2.1
  have hp8 := hpg.2.2.2.2.2.2.2.1
  have hp9 := hpg.2.2.2.2.2.2.2.2
  obtain ⟨dO, hdO, htO⟩ := (hwp.2.2.2 mq hmq).2.1
  refine lv_aload_n hx hb dX0_variableValue_0 rfl (lv_at hl 0 rfl) ?_
  refine lv_aload_n hx hb dX0_variableValue_1 rfl (lv_at hl 0 rfl) ?_
  refine c_get (v := .ref (a 1)) (C := RX0) (Tc := TX0) (N := 13) (ci := 0) hx hb hq pin_wsX00 hown hE hP hO 24 (sg_24 G h0 a _ _ _ _ _) rfl 0 (by decide) (hq _ pw_4) (fun _ h9 => h9) rfl dX0_variableValue_2 ?_
  refine lv_aload_n hx hb dX0_variableValue_5 rfl (lv_at hl 1 rfl) ?_
  refine p_get (v := .int (K.2.1 1 q)) (C := RX7) (Tc := TX7) (N := 11) (ci := 13) hx hb hq pin_wsX70 hown hE hP hO (by rw [hqT]; decide) (rep_1 hqT) rfl 1 (by decide) (hq _ pw_81) (fun _ h9 => h9) rfl dX0_variableValue_6 ?_
  have hO : OKW G h0 a (upd (upd (upd (upd F 2 (nI sz)) 5 (nI cs)) 12 (nI vr)) 2 (nI sz)) (updR (updR R 2 (.ref pq)) 3 (.ref mq)) Z B J K.1 (fun q99 x99 => x99 = rep G a K q99) w := hO.to rfl
  obtain ⟨_, qr4, hqr5⟩ := hO.2.1 2 _ (sg_2 G h0 a _ _ _ _ _)
  refine pc_V0 (G := G) (As := [.int (K.2.1 1 q)]) (rest := [.ref (a 4)]) hx hb hml hown hq hE hX pX0_al hP hD hS hA hl.1 (K_valueAt l G h0 a (upd (upd (upd F 2 (nI sz)) 5 (nI cs)) 12 (nI vr)) (updR (updR R 2 (.ref pq)) 3 (.ref mq)) Z B J K.1 (fun q99 x99 => x99 = rep G a K q99) w (K.2.1 1 q) sz (by omega) hO) (gV pw_56 pw_57 pw_58 pw_59 pw_39) hV_X10_valueAt qr4 7 hqr5 rfl rfl rfl (Nat.le_of_ble_eq_true rfl) dX0_variableValue_9 ⟨(by show 0 + 0 ≤ 1; omega), (by show 0 + 0 ≤ 6; omega)⟩ ⟨(by show 2 + 1 ≤ (5 * n + 33); omega), (by show 8 + (2 + 11) + 60 ≤ (200 * n + 560); omega)⟩ (fun v3 u1 H locs hw2 hP hD hS => ?_)
  obtain ⟨w, r6⟩ := u1
  obtain ⟨hw2, hO⟩ := hw2
  obtain rfl : v3 = some (.int r6) := hw2
  have hO : OKP G h0 a (upd (upd (upd F 2 (nI sz)) 5 (nI cs)) 12 (nI vr)) (updR (updR R 2 (.ref pq)) 3 (.ref mq)) Z B J K w := hO.to rfl
  refine W.widen (k := 0) (n := 0) (Nat.le_of_ble_eq_true rfl) (Nat.le_of_ble_eq_true rfl) ?_
  refine W.eq (g2 := F0 m 12 ls [.int r6, .ref (a 4)]) rfl ?_
  have hO : OKW G h0 a (upd (upd (upd (upd F 2 (nI sz)) 5 (nI cs)) 12 (nI vr)) 12 (nI vr)) (updR (updR R 2 (.ref pq)) 3 (.ref mq)) Z B J K.1 (fun q99 x99 => x99 = rep G a K q99) w := hO.to rfl
  obtain ⟨_, qr10, hqr11⟩ := hO.2.1 24 _ (sg_24 G h0 a _ _ _ _ _)
  refine pc_V0 (G := G) (As := [.int r6]) (rest := []) hx hb hml hown hq hE hX pX0_al hP hD hS hA hl.1 (B_variable l G h0 a (upd (upd (upd F 2 (nI sz)) 5 (nI cs)) 12 (nI vr)) (updR (updR R 2 (.ref pq)) 3 (.ref mq)) Z B J K.1 (fun q99 x99 => x99 = rep G a K q99) w r6 vr (by omega) hO) (gV pw_60 pw_61 pw_62 pw_63 pw_41) hV_X0_variable qr10 0 hqr11 rfl rfl rfl (Nat.le_of_ble_eq_true rfl) dX0_variableValue_12 ⟨(by show 0 + 0 ≤ 1; omega), (by show 0 + 0 ≤ 6; omega)⟩ ⟨(by show 2 + 1 ≤ (5 * n + 33); omega), (by show 8 + (3 + 11) + 60 ≤ (200 * n + 560); omega)⟩ (fun v9 u7 H locs hw8 hP hD hS => ?_)
  obtain ⟨w, r12⟩ := u7
  obtain ⟨hw8, h13, hO⟩ := hw8
  have h13 : VrQ vr r12 := h13
  obtain rfl : v9 = some (.int r12) := hw8
  have hO : OKP G h0 a (upd (upd (upd F 2 (nI sz)) 5 (nI cs)) 12 (nI vr)) (updR (updR R 2 (.ref pq)) 3 (.ref mq)) Z B J K w := hO.to rfl
  refine W.widen (k := 0) (n := 0) (Nat.le_of_ble_eq_true rfl) (Nat.le_of_ble_eq_true rfl) ?_
  refine W.eq (g2 := F0 m 15 ls [.int r12]) rfl ?_
  refine lv_istore_n (lv' := [(2, .int r12), (0, .ref (a 4)), (1, .ref q)]) hx hb dX0_variableValue_15 rfl hl (by decide) rfl (fun ls hl => ?_)
  refine lv_iload_n hx hb dX0_variableValue_16 rfl (lv_at hl 0 rfl) ?_
  refine lv_iconst (v := (-1)) hx hb dX0_variableValue_17 (by decide) ?_
  refine lv_icmp_ne (tgt := 56) hx hb dX0_variableValue_18 (by decide) (fun c14 => ?_) (fun c14 => ?_)
  · obtain ⟨t9, ht9, hl9⟩ := h13.resolve_left c14
    subst ht9
    have hl : lv_has ls 4 [(2, .int (nI t9)), (0, .ref (a 4)), (1, .ref q)] := hl
    refine lv_aload_n hx hb dX0_variableValue_56 rfl (lv_at hl 1 rfl) ?_
    refine c_get (v := .int (F 13)) (C := RX0) (Tc := TX0) (N := 13) (ci := 0) hx hb hq pin_wsX00 hown hE hP hO 24 (sg_24 G h0 a _ _ _ _ _) rfl 8 (by decide) (hq _ pw_55) (fun _ h9 => h9) rfl dX0_variableValue_57 ?_
    refine lv_iload_n hx hb dX0_variableValue_60 rfl (lv_at hl 0 rfl) ?_
    refine lv_iushr hx hb dX0_variableValue_61 rfl ?_
    refine lv_topi (fun x15 e16 => ?_)
    refine lv_iconst (v := 1) hx hb dX0_variableValue_62 (by decide) ?_
    refine lv_iand hx hb dX0_variableValue_63 ?_
    refine lv_topi (fun x17 e18 => ?_)
    refine lv_if_ne (tgt := 80) hx hb dX0_variableValue_64 (by decide) (fun c19 => ?_) (fun c19 => ?_)
    · refine lv_aload_n hx hb dX0_variableValue_80 rfl (lv_at hl 1 rfl) ?_
      refine lv_iconst (v := 2) hx hb dX0_variableValue_81 (by decide) ?_
      refine lv_aload_n hx hb dX0_variableValue_82 rfl (lv_at hl 1 rfl) ?_
      refine c_get (v := .ref (a 27)) (C := RX0) (Tc := TX0) (N := 13) (ci := 0) hx hb hq pin_wsX00 hown hE hP hO 24 (sg_24 G h0 a _ _ _ _ _) rfl 4 (by decide) (hq _ pw_9) (fun _ h9 => h9) rfl dX0_variableValue_83 ?_
      refine lv_iload_n hx hb dX0_variableValue_86 rfl (lv_at hl 0 rfl) ?_
      refine c_ldi (f := (B 27)) (n := 30) (t0 := 0) hx hb hE hP hO 27 (sg_27 G h0 a _ _ _ _ _) rfl (vp_in_nI (by omega) (by decide)) dX0_variableValue_87 ?_
      rw [(nI_clamp (show t9 < 2 ^ 31 by omega))]
      refine lv_aload_n hx hb dX0_variableValue_88 rfl (lv_at hl 1 rfl) ?_
      refine c_get (v := .ref (a 26)) (C := RX0) (Tc := TX0) (N := 13) (ci := 0) hx hb hq pin_wsX00 hown hE hP hO 24 (sg_24 G h0 a _ _ _ _ _) rfl 3 (by decide) (hq _ pw_8) (fun _ h9 => h9) rfl dX0_variableValue_89 ?_
      refine lv_iload_n hx hb dX0_variableValue_92 rfl (lv_at hl 0 rfl) ?_
      refine c_ldi (f := (B 26)) (n := 30) (t0 := 0) hx hb hE hP hO 26 (sg_26 G h0 a _ _ _ _ _) rfl (vp_in_nI (by omega) (by decide)) dX0_variableValue_93 ?_
      rw [(nI_clamp (show t9 < 2 ^ 31 by omega))]
      have hO : OKW G h0 a (upd (upd (upd (upd F 2 (nI sz)) 5 (nI cs)) 12 (nI vr)) 5 (nI cs)) (updR (updR R 2 (.ref pq)) 3 (.ref mq)) Z B J K.1 (fun q99 x99 => x99 = rep G a K q99) w := hO.to rfl
      obtain ⟨_, qr23, hqr24⟩ := hO.2.1 24 _ (sg_24 G h0 a _ _ _ _ _)
      refine pc_V0 (G := G) (As := [.int 2, .int ((B 27) t9), .int ((B 26) t9)]) (rest := []) hx hb hml hown hq hE hX pX0_al hP hD hS hA hl.1 (B_give l G h0 a (upd (upd (upd F 2 (nI sz)) 5 (nI cs)) 12 (nI vr)) (updR (updR R 2 (.ref pq)) 3 (.ref mq)) Z B J K.1 (fun q99 x99 => x99 = rep G a K q99) w 2 ((B 27) t9) ((B 26) t9) cs (by omega) hng hO) (gV pw_158 pw_159 pw_160 pw_63 pw_128) hV_X0_give qr23 0 hqr24 rfl rfl rfl (Nat.le_of_ble_eq_true rfl) dX0_variableValue_94 ⟨(by show 0 + 0 ≤ 1; omega), (by show 0 + 0 ≤ 6; omega)⟩ ⟨(by show 3 + 1 ≤ (5 * n + 33); omega), (by show 8 + (4 + 11) + 83 ≤ (200 * n + 560); omega)⟩ (fun v22 u20 H locs hw21 hP hD hS => ?_)
      obtain ⟨w, cs25, f26, f27, f28, f29⟩ := u20
      obtain ⟨hw21, h30, h31, hO⟩ := hw21
      have h30 : cs ≤ cs25 ∧ cs25 ≤ cs + 1 ∧ cs25 ≤ 10000 := h30
      have h31 : Nng f28 := h31
      obtain rfl : v22 = some (.int ((B 26) t9)) := hw21
      have hO : OKP G h0 a (upd (upd (upd F 2 (nI sz)) 5 (nI cs25)) 12 (nI vr)) (updR (updR R 2 (.ref pq)) 3 (.ref mq)) Z (updA (updA (updA (updA B 16 f26) 17 f27) 18 f28) 19 f29) J K w := hO.to rfl
      refine W.widen (k := 0) (n := 0) (Nat.le_of_ble_eq_true rfl) (Nat.le_of_ble_eq_true rfl) ?_
      refine W.eq (g2 := F0 m 97 ls [.int ((B 26) t9)]) rfl ?_
      refine W_size (fun hz1 hz2 => ?_)
      refine vx_ret ?_
      have hz32 : BdE K K := BdE.rfl
      have hz33 : Bth B (updA (updA (updA (updA B 16 f26) 17 f27) 18 f28) 19 f29) := (show Thx (upd (upd (upd F 2 (nI sz)) 5 (nI cs)) 12 (nI vr)) (upd (upd (upd (upd F 2 (nI sz)) 5 (nI cs)) 12 (nI vr)) 5 (nI cs25)) B (updA (updA (updA (updA B 16 f26) 17 f27) 18 f28) 19 f29) from (Thx.b (Thx.b8 (Thx.b (Thx.b (Thx.f Thx.rfl (by omega)) (by omega) (by decide)) (by omega) (by decide)) h31) (by omega) (by decide))).2
      have hz34 : cs25 ≤ 10000 := (by omega)
      have hO : OKP G h0 a (upd (upd (upd (upd (upd (upd F 2 (nI sz)) 5 (nI cs25)) 12 (nI vr)) 13 (F 13)) 14 (F 14)) 15 (F 15)) (updR (updR R 2 (.ref pq)) 3 (.ref mq)) Z (updA (updA (updA (updA B 16 f26) 17 f27) 18 f28) 19 f29) J K w := hO.to rfl
      refine W.widen (k := 1) (n := 6) (by omega) (by omega) ?_
      have hzz1 : H.size ≤ s.heap.size + (0) := (by have z : 0 ≤ 0 := (by omega); omega)
      have hzz2 : hSl H ≤ hSl s.heap + (0) := (by have z : 0 ≤ 0 := (by omega); omega)
      exact W.iret (v := ((B 26) t9)) hx hb hr (fun t99 ht99 hW99 => ⟨⟨_, (w, (K, (updA (updA (updA (updA B 16 f26) 17 f27) 18 f28) 19 f29), cs25, (F 13), (F 14), (F 15), ((B 26) t9))), rfl, ⟨rfl, hz32, hz33, hz34, hO⟩, by rw [ht99]; exact hP, hD, by rw [ht99]; exact hzz1, by rw [ht99]; exact hzz2⟩, hS.F ht99⟩) hS.2.2 dX0_variableValue_97
    · refine lv_aload_n hx hb dX0_variableValue_67 rfl (lv_at hl 1 rfl) ?_
      refine c_get (v := .ref (a 1)) (C := RX0) (Tc := TX0) (N := 13) (ci := 0) hx hb hq pin_wsX00 hown hE hP hO 24 (sg_24 G h0 a _ _ _ _ _) rfl 0 (by decide) (hq _ pw_4) (fun _ h9 => h9) rfl dX0_variableValue_68 ?_
      refine lv_bipush (v := 13) hx hb dX0_variableValue_71 (by decide) ?_
      refine lv_aload_n hx hb dX0_variableValue_73 rfl (lv_at hl 2 rfl) ?_
      refine p_get (v := .int (K.2.1 1 q)) (C := RX7) (Tc := TX7) (N := 11) (ci := 13) hx hb hq pin_wsX70 hown hE hP hO (by rw [hqT]; decide) (rep_1 hqT) rfl 1 (by decide) (hq _ pw_81) (fun _ h9 => h9) rfl dX0_variableValue_74 ?_
      have hO : OKW G h0 a (upd (upd (upd (upd F 2 (nI sz)) 5 (nI cs)) 12 (nI vr)) 2 (nI sz)) (updR (updR R 2 (.ref pq)) 3 (.ref mq)) Z B J K.1 (fun q99 x99 => x99 = rep G a K q99) w := hO.to rfl
      obtain ⟨_, qr38, hqr39⟩ := hO.2.1 2 _ (sg_2 G h0 a _ _ _ _ _)
      refine pn_V0 (G := G) (As := [.int 13, .int (K.2.1 1 q)]) (rest := []) hx hb hml hown hq hE hX pX0_al hP hD hS hA hl.1 (K_fail l G h0 a (upd (upd (upd F 2 (nI sz)) 5 (nI cs)) 12 (nI vr)) (updR (updR R 2 (.ref pq)) 3 (.ref mq)) Z B J K.1 (fun q99 x99 => x99 = rep G a K q99) w 13 (K.2.1 1 q) sz (by omega) hO hl0) (gV pw_64 pw_65 pw_66 pw_59 pw_43) hV_X10_fail qr38 7 hqr39 rfl rfl rfl (Nat.le_of_ble_eq_true rfl) dX0_variableValue_77 ⟨(by show 0 + 1 ≤ 1; omega), (by show 0 + 6 ≤ 6; omega)⟩ ⟨(by show 6 + 1 ≤ (5 * n + 33); omega), (by show 8 + (3 + 11) + 100 ≤ (200 * n + 560); omega)⟩ (fun v37 u35 H locs hw36 hP hD hS => hw36.elim) (fun ux ce9 q9 H9 locs9 hux hP9 hD9 hS9 hce hcv hcl => pb_out ux (ThQ.up (Thx.same Thx.rfl rfl) RhX.rfl hux) hnt hlocks hce hcv hcl hP9 hD9 hS9 (by show 0 + 1 ≤ 1; omega) (by show 0 + 6 ≤ 6; omega))
  · refine lv_aload_n hx hb dX0_variableValue_21 rfl (lv_at hl 1 rfl) ?_
    refine c_get (v := .ref (a 2)) (C := RX0) (Tc := TX0) (N := 13) (ci := 0) hx hb hq pin_wsX00 hown hE hP hO 24 (sg_24 G h0 a _ _ _ _ _) rfl 1 (by decide) (hq _ pw_5) (fun _ h9 => h9) rfl dX0_variableValue_22 ?_
    refine lv_iconst (v := 2) hx hb dX0_variableValue_25 (by decide) ?_
    refine lv_iconst (v := 0) hx hb dX0_variableValue_26 (by decide) ?_
    refine lv_iconst (v := 0) hx hb dX0_variableValue_27 (by decide) ?_
    have hO : OKW G h0 a (upd (upd (upd (upd F 2 (nI sz)) 5 (nI cs)) 12 (nI vr)) 5 (nI cs)) (updR (updR R 2 (.ref pq)) 3 (.ref mq)) Z B J K.1 (fun q99 x99 => x99 = rep G a K q99) w := hO.to rfl
    obtain ⟨_, qr43, hqr44⟩ := hO.2.1 13 _ (sg_13 G h0 a _ _ _ _ _)
    refine pc_V0 (G := G) (As := [.int 2, .int 0, .int (nI 0)]) (rest := []) hx hb hml hown hq hE hX pX0_al hP hD hS hA hl.1 (K_emit l G h0 a (upd (upd (upd F 2 (nI sz)) 5 (nI cs)) 12 (nI vr)) (updR (updR R 2 (.ref pq)) 3 (.ref mq)) Z B J K.1 (fun q99 x99 => x99 = rep G a K q99) w 2 0 0 cs (by omega) (by omega) hng hO) (gV pw_129 pw_130 pw_131 pw_70 pw_115) hV_X1_emit qr43 1 hqr44 rfl rfl rfl (Nat.le_of_ble_eq_true rfl) dX0_variableValue_28 ⟨(by show 0 + 0 ≤ 1; omega), (by show 0 + 0 ≤ 6; omega)⟩ ⟨(by show 2 + 1 ≤ (5 * n + 33); omega), (by show 8 + (4 + 11) + 60 ≤ (200 * n + 560); omega)⟩ (fun v42 u40 H locs hw41 hP hD hS => ?_)
    obtain ⟨w, cs45, f46, f47, f48, f49⟩ := u40
    obtain ⟨hw41, h50, h51, hO⟩ := hw41
    have h50 : cs ≤ cs45 ∧ cs45 ≤ cs + 1 ∧ cs45 ≤ 10000 := h50
    have h51 : Nng f48 := h51
    obtain rfl : v42 = none := hw41
    have hO : OKP G h0 a (upd (upd (upd F 2 (nI sz)) 5 (nI cs45)) 12 (nI vr)) (updR (updR R 2 (.ref pq)) 3 (.ref mq)) Z (updA (updA (updA (updA B 16 f46) 17 f47) 18 f48) 19 f49) J K w := hO.to rfl
    refine W.widen (k := 0) (n := 0) (Nat.le_of_ble_eq_true rfl) (Nat.le_of_ble_eq_true rfl) ?_
    refine W.eq (g2 := F0 m 31 ls []) rfl ?_
    refine lv_aload_n hx hb dX0_variableValue_31 rfl (lv_at hl 1 rfl) ?_
    refine lv_aload_n hx hb dX0_variableValue_32 rfl (lv_at hl 1 rfl) ?_
    refine c_get (v := .ref mq) (C := RX0) (Tc := TX0) (N := 13) (ci := 0) hx hb hq pin_wsX00 hown hE hP hO 24 (sg_24 G h0 a _ _ _ _ _) rfl 7 (by decide) (hq _ pw_72) (fun _ h9 => h9) rfl dX0_variableValue_33 ?_
    refine p_get (v := .ref dO) (C := RX6) (Tc := TX6) (N := 12) (ci := 12) hx hb hq pin_wsX60 hown hE hP hO (by rw [hmq]; decide) (rep_3 hmq) rfl 0 (by decide) (hq _ pw_161) (fun _ h9 => h9) (congrArg (fun z => some (va_rf z)) hdO) dX0_variableValue_36 ?_
    refine lv_aload_n hx hb dX0_variableValue_39 rfl (lv_at hl 2 rfl) ?_
    have hO : OKP G h0 a (upd (upd (upd (upd (upd F 2 (nI sz)) 5 (nI cs)) 12 (nI vr)) 5 (nI cs45)) 2 (nI sz)) (updR (updR R 2 (.ref pq)) 3 (.ref mq)) Z (updA (updA (updA (updA B 16 f46) 17 f47) 18 f48) 19 f49) J K w := hO.to rfl
    obtain ⟨_, qr55, hqr56⟩ := hO.2.1 24 _ (sg_24 G h0 a _ _ _ _ _)
    refine pn_V0 (G := G) (As := [.ref dO, .ref q]) (rest := []) hx hb hml hown hq hE hX pX0_al hP hD hS hA hl.1 (B_fieldType l G h0 a (upd (upd (upd (upd F 2 (nI sz)) 5 (nI cs)) 12 (nI vr)) 5 (nI cs45)) (updR (updR R 2 (.ref pq)) 3 (.ref mq)) Z (updA (updA (updA (updA B 16 f46) 17 f47) 18 f48) 19 f49) J K w dO q sz g (by omega) (BdE.wp BdE.rfl hwp) htO hqT hO hl0) (gV pw_162 pw_163 pw_164 pw_63 pw_147) hV_X0_fieldType qr55 0 hqr56 rfl rfl rfl (Nat.le_of_ble_eq_true rfl) dX0_variableValue_40 ⟨(by show 0 + 1 ≤ 1; omega), (by show 0 + 6 ≤ 6; omega)⟩ ⟨(by show 7 + 1 ≤ (5 * n + 33); omega), (by show 8 + (4 + 11) + 146 ≤ (200 * n + 560); omega)⟩ (fun v54 u52 H locs hw53 hP hD hS => ?_) (fun ux ce9 q9 H9 locs9 hux hP9 hD9 hS9 hce hcv hcl => pb_out ux (ThQ.up (Thx.same (Thx.b (Thx.b8 (Thx.b (Thx.b (Thx.f Thx.rfl (by omega)) (by omega) (by decide)) (by omega) (by decide)) h51) (by omega) (by decide)) rfl) RhX.rfl hux) hnt hlocks hce hcv hcl hP9 hD9 hS9 (by show 0 + 1 ≤ 1; omega) (by show 0 + 6 ≤ 6; omega))
    obtain ⟨w, K57, r58⟩ := u52
    obtain ⟨hw53, h59, hO⟩ := hw53
    have h59 : BdE K K57 := h59
    obtain rfl : v54 = some (.int r58) := hw53
    have hf60 : K57.1 pq = 7 := (BdE.T h59 hp1 (by decide))
    have hf61 : K57.2.2.1 18 pq = some (a 1) := (BdE.C h59 (by rw [hp1]; decide) 18).trans hp2
    have hf62 : K57.2.2.1 14 pq = some dr := (BdE.C h59 (by rw [hp1]; decide) 14).trans hp3
    have hf63 : K57.1 dr = 8 := (BdE.T h59 hp4 (by decide))
    have hf64 : K57.2.2.1 15 pq = some ml := (BdE.C h59 (by rw [hp1]; decide) 15).trans hp5
    have hf65 : K57.1 ml = 5 := (BdE.T h59 hp6 (by decide))
    have hf66 : K57.2.1 24 pq = (nI nd) := (BdE.I h59 (by rw [hp1]; decide) (by decide) (by decide)).trans hp8
    have hf67 : K57.1 q = 1 := (BdE.T h59 hqT (by decide))
    have hf68 : K57.1 mq = 3 := (BdE.T h59 hmq (by decide))
    have hf69 : K57.2.2.1 5 mq = some dO := (BdE.C h59 (by rw [hmq]; decide) 5).trans hdO
    have hf70 : K57.1 dO = 4 := (BdE.T h59 htO (by decide))
    have hO : OKP G h0 a (upd (upd (upd F 2 (nI sz)) 5 (nI cs45)) 12 (nI vr)) (updR (updR R 2 (.ref pq)) 3 (.ref mq)) Z (updA (updA (updA (updA B 16 f46) 17 f47) 18 f48) 19 f49) J K57 w := hO.to rfl
    refine W.widen (k := 0) (n := 0) (by show 0 + 0 ≤ 0; omega) (by show 0 + 0 ≤ 0; omega) ?_
    refine W.eq (g2 := F0 m 43 ls [.int r58]) rfl ?_
    have hbe71 := BdE.trans BdE.rfl h59
    refine lv_istore_n (lv' := [(3, .int r58), (2, .int r12), (0, .ref (a 4)), (1, .ref q)]) hx hb dX0_variableValue_43 rfl hl (by decide) rfl (fun ls hl => ?_)
    refine lv_aload_n hx hb dX0_variableValue_44 rfl (lv_at hl 2 rfl) ?_
    refine lv_bipush (v := 17) hx hb dX0_variableValue_45 (by decide) ?_
    refine lv_aload_n hx hb dX0_variableValue_47 rfl (lv_at hl 3 rfl) ?_
    refine p_get (v := .int (K57.2.1 5 q)) (C := RX7) (Tc := TX7) (N := 11) (ci := 13) hx hb hq pin_wsX70 hown hE hP hO (by rw [hf67]; decide) (rep_1 hf67) rfl 5 (by decide) (hq _ pw_142) (fun _ h9 => h9) rfl dX0_variableValue_48 ?_
    refine lv_iload_n hx hb dX0_variableValue_51 rfl (lv_at hl 0 rfl) ?_
    have hO : OKW G h0 a (upd (upd (upd (upd F 2 (nI sz)) 5 (nI cs45)) 12 (nI vr)) 5 (nI cs45)) (updR (updR R 2 (.ref pq)) 3 (.ref mq)) Z (updA (updA (updA (updA B 16 f46) 17 f47) 18 f48) 19 f49) J K57.1 (fun q99 x99 => x99 = rep G a K57 q99) w := hO.to rfl
    obtain ⟨_, qr75, hqr76⟩ := hO.2.1 24 _ (sg_24 G h0 a _ _ _ _ _)
    refine pc_V0 (G := G) (As := [.int 17, .int (K57.2.1 5 q), .int r58]) (rest := []) hx hb hml hown hq hE hX pX0_al hP hD hS hA hl.1 (B_give l G h0 a (upd (upd (upd F 2 (nI sz)) 5 (nI cs45)) 12 (nI vr)) (updR (updR R 2 (.ref pq)) 3 (.ref mq)) Z (updA (updA (updA (updA B 16 f46) 17 f47) 18 f48) 19 f49) J K57.1 (fun q99 x99 => x99 = rep G a K57 q99) w 17 (K57.2.1 5 q) r58 cs45 (by omega) h51 hO) (gV pw_158 pw_159 pw_160 pw_63 pw_128) hV_X0_give qr75 0 hqr76 rfl rfl rfl (Nat.le_of_ble_eq_true rfl) dX0_variableValue_52 ⟨(by show 0 + 0 ≤ 1; omega), (by show 0 + 0 ≤ 6; omega)⟩ ⟨(by show 3 + 1 ≤ (5 * n + 33); omega), (by show 8 + (4 + 11) + 83 ≤ (200 * n + 560); omega)⟩ (fun v74 u72 H locs hw73 hP hD hS => ?_)
    obtain ⟨w, cs77, f78, f79, f80, f81⟩ := u72
    obtain ⟨hw73, h82, h83, hO⟩ := hw73
    have h82 : cs45 ≤ cs77 ∧ cs77 ≤ cs45 + 1 ∧ cs77 ≤ 10000 := h82
    have h83 : Nng f80 := h83
    obtain rfl : v74 = some (.int r58) := hw73
    have hO : OKP G h0 a (upd (upd (upd F 2 (nI sz)) 5 (nI cs77)) 12 (nI vr)) (updR (updR R 2 (.ref pq)) 3 (.ref mq)) Z (updA (updA (updA (updA B 16 f78) 17 f79) 18 f80) 19 f81) J K57 w := hO.to rfl
    refine W.widen (k := 0) (n := 0) (Nat.le_of_ble_eq_true rfl) (Nat.le_of_ble_eq_true rfl) ?_
    refine W.eq (g2 := F0 m 55 ls [.int r58]) rfl ?_
    refine W_size (fun hz1 hz2 => ?_)
    refine vx_ret ?_
    have hz84 : BdE K K57 := hbe71
    have hz85 : Bth B (updA (updA (updA (updA B 16 f78) 17 f79) 18 f80) 19 f81) := (show Thx (upd (upd (upd F 2 (nI sz)) 5 (nI cs)) 12 (nI vr)) (upd (upd (upd (upd F 2 (nI sz)) 5 (nI cs)) 12 (nI vr)) 5 (nI cs77)) B (updA (updA (updA (updA B 16 f78) 17 f79) 18 f80) 19 f81) from (Thx.b (Thx.b8 (Thx.b (Thx.b (Thx.f Thx.rfl (by omega)) (by omega) (by decide)) (by omega) (by decide)) h83) (by omega) (by decide))).2
    have hz86 : cs77 ≤ 10000 := (by omega)
    have hO : OKP G h0 a (upd (upd (upd (upd (upd (upd F 2 (nI sz)) 5 (nI cs77)) 12 (nI vr)) 13 (F 13)) 14 (F 14)) 15 (F 15)) (updR (updR R 2 (.ref pq)) 3 (.ref mq)) Z (updA (updA (updA (updA B 16 f78) 17 f79) 18 f80) 19 f81) J K57 w := hO.to rfl
    refine W.widen (k := 1) (n := 6) (by omega) (by omega) ?_
    have hzz1 : H.size ≤ s.heap.size + (0) := (by have z : 0 ≤ 0 := (by omega); omega)
    have hzz2 : hSl H ≤ hSl s.heap + (0) := (by have z : 0 ≤ 0 := (by omega); omega)
    exact W.iret (v := r58) hx hb hr (fun t99 ht99 hW99 => ⟨⟨_, (w, (K57, (updA (updA (updA (updA B 16 f78) 17 f79) 18 f80) 19 f81), cs77, (F 13), (F 14), (F 15), r58)), rfl, ⟨rfl, hz84, hz85, hz86, hO⟩, by rw [ht99]; exact hP, hD, by rw [ht99]; exact hzz1, by rw [ht99]; exact hzz2⟩, hS.F ht99⟩) hS.2.2 dX0_variableValue_55
theorem dX0_single_0 : decode cX0_single 0 = .ok (.aload_n 1, 1) := by decide +kernel
theorem dX0_single_1 : decode cX0_single 1 = .ok (.getfield 178, 3) := by decide +kernel
theorem dX0_single_4 : decode cX0_single 4 = .ok (.tableswitch 136 0 8 #[52, 136, 136, 71, 80, 136, 97, 136, 107], 52) := by decide +kernel
theorem dX0_single_56 : decode cX0_single 56 = .ok (.aload_n 0, 1) := by decide +kernel
theorem dX0_single_57 : decode cX0_single 57 = .ok (.iconst 1, 1) := by decide +kernel
theorem dX0_single_58 : decode cX0_single 58 = .ok (.aload_n 0, 1) := by decide +kernel
theorem dX0_single_59 : decode cX0_single 59 = .ok (.getfield 9, 3) := by decide +kernel
theorem dX0_single_62 : decode cX0_single 62 = .ok (.aload_n 1, 1) := by decide +kernel
theorem dX0_single_63 : decode cX0_single 63 = .ok (.getfield 114, 3) := by decide +kernel
theorem dX0_single_66 : decode cX0_single 66 = .ok (.invokevirtual 152, 3) := by decide +kernel
theorem dX0_single_69 : decode cX0_single 69 = .ok (.bipush 60, 2) := by decide +kernel
theorem dX0_single_71 : decode cX0_single 71 = .ok (.invokevirtual 344, 3) := by decide +kernel
theorem dX0_single_74 : decode cX0_single 74 = .ok (.ireturn, 1) := by decide +kernel
theorem dX0_single_140 : decode cX0_single 140 = .ok (.bipush 63, 2) := by decide +kernel
theorem dX0_single_142 : decode cX0_single 142 = .ok (.ireturn, 1) := by decide +kernel
theorem dX0_single_75 : decode cX0_single 75 = .ok (.aload_n 0, 1) := by decide +kernel
theorem dX0_single_76 : decode cX0_single 76 = .ok (.iconst 1, 1) := by decide +kernel
theorem dX0_single_77 : decode cX0_single 77 = .ok (.iconst 0, 1) := by decide +kernel
theorem dX0_single_78 : decode cX0_single 78 = .ok (.bipush 62, 2) := by decide +kernel
theorem dX0_single_80 : decode cX0_single 80 = .ok (.invokevirtual 344, 3) := by decide +kernel
theorem dX0_single_83 : decode cX0_single 83 = .ok (.ireturn, 1) := by decide +kernel
theorem dX0_single_84 : decode cX0_single 84 = .ok (.aload_n 0, 1) := by decide +kernel
theorem dX0_single_85 : decode cX0_single 85 = .ok (.iconst 2, 1) := by decide +kernel
theorem dX0_single_86 : decode cX0_single 86 = .ok (.iconst 0, 1) := by decide +kernel
theorem dX0_single_87 : decode cX0_single 87 = .ok (.aload_n 0, 1) := by decide +kernel
theorem dX0_single_88 : decode cX0_single 88 = .ok (.getfield 69, 3) := by decide +kernel
theorem dX0_single_91 : decode cX0_single 91 = .ok (.getfield 229, 3) := by decide +kernel
theorem dX0_single_94 : decode cX0_single 94 = .ok (.getfield 347, 3) := by decide +kernel
theorem dX0_single_97 : decode cX0_single 97 = .ok (.invokevirtual 344, 3) := by decide +kernel
theorem dX0_single_100 : decode cX0_single 100 = .ok (.ireturn, 1) := by decide +kernel
theorem dX0_single_101 : decode cX0_single 101 = .ok (.aload_n 0, 1) := by decide +kernel
theorem dX0_single_102 : decode cX0_single 102 = .ok (.bipush 12, 2) := by decide +kernel
theorem dX0_single_104 : decode cX0_single 104 = .ok (.iconst 0, 1) := by decide +kernel
theorem dX0_single_105 : decode cX0_single 105 = .ok (.bipush 60, 2) := by decide +kernel
theorem dX0_single_107 : decode cX0_single 107 = .ok (.invokevirtual 344, 3) := by decide +kernel
theorem dX0_single_110 : decode cX0_single 110 = .ok (.ireturn, 1) := by decide +kernel
theorem dX0_single_111 : decode cX0_single 111 = .ok (.aload_n 0, 1) := by decide +kernel
theorem dX0_single_112 : decode cX0_single 112 = .ok (.bipush 21, 2) := by decide +kernel
theorem dX0_single_114 : decode cX0_single 114 = .ok (.aload_n 0, 1) := by decide +kernel
theorem dX0_single_115 : decode cX0_single 115 = .ok (.getfield 9, 3) := by decide +kernel
theorem dX0_single_118 : decode cX0_single 118 = .ok (.aload_n 1, 1) := by decide +kernel
theorem dX0_single_119 : decode cX0_single 119 = .ok (.getfield 114, 3) := by decide +kernel
theorem dX0_single_122 : decode cX0_single 122 = .ok (.invokevirtual 120, 3) := by decide +kernel
theorem dX0_single_125 : decode cX0_single 125 = .ok (.aload_n 0, 1) := by decide +kernel
theorem dX0_single_126 : decode cX0_single 126 = .ok (.getfield 9, 3) := by decide +kernel
theorem dX0_single_129 : decode cX0_single 129 = .ok (.aload_n 1, 1) := by decide +kernel
theorem dX0_single_130 : decode cX0_single 130 = .ok (.getfield 114, 3) := by decide +kernel
theorem dX0_single_133 : decode cX0_single 133 = .ok (.invokevirtual 120, 3) := by decide +kernel
theorem dX0_single_136 : decode cX0_single 136 = .ok (.invokevirtual 344, 3) := by decide +kernel
theorem dX0_single_139 : decode cX0_single 139 = .ok (.ireturn, 1) := by decide +kernel
set_option maxHeartbeats 16000000 in
set_option maxRecDepth 100000 in
theorem B_single (l : Launch) (G : pT) (h0 : Nat) (a : Nat → Nat) (F : Nat → Int32) (R : Nat → Value) (Z : Int64) (B : Nat → Nat → Int32) (J : Nat → Nat → Int64) (K : PK) (w : va_W) (pq : Nat) (dr : Nat) (ml : Nat) (nd : Nat) (nm : Nat) (cp : Nat) (it : Nat → Nat) (s9 : Nat) (q : Nat) (mq : Nat) (cs : Nat) (vr : Nat) (sz : Nat) (n : Nat) (g : Nat → Nat → Nat) (rk : Nat → Nat) (hsz : sz ≤ 5000) (hwp : WPr G K g) (hps : PgT G K g (a 1) pq dr ml nd nm cp it s9) (hrk : RkO K rk) (hcs : cs ≤ 10000) (hvr : vr ≤ 30) (hng : Nng (B 18)) (hmq : K.1 mq = 3) (hqT : K.1 q = 1) (hqL : 1 ≤ g 0 q ∧ g 0 q ≤ n) (hO : OKP G h0 a (upd (upd (upd F 2 (nI sz)) 5 (nI cs)) 12 (nI vr)) (updR (updR R 2 (.ref pq)) 3 (.ref mq)) Z B J K w) (hl0 : l.stackTraces = false) : PBn l G pX0 yX0_single cX0_single 2 (some .int) ({ frames := (5 * n + 33), cells := 1, slots := 6, locals := (200 * n + 560) }) [.ref (a 4), .ref q] w (fun (v : Option Value) (u : va_W × (PK × (Nat → Nat → Int32) × Nat × Int32 × Int32 × Int32 × Int32)) => v = some (.int u.2.2.2.2.2.2.2) ∧ (BdE K u.2.1) ∧ (Bth B u.2.2.1) ∧ (u.2.2.2.1 ≤ 10000) ∧ (OKP G h0 a (upd (upd (upd (upd (upd (upd F 2 (nI sz)) 5 (nI u.2.2.2.1)) 12 (nI vr)) 13 u.2.2.2.2.1) 14 u.2.2.2.2.2.1) 15 u.2.2.2.2.2.2.1) (updR (updR R 2 (.ref pq)) 3 (.ref mq)) Z u.2.2.1 J u.2.1 u.1)) (fun u => u.1) (fun (u : va_W × (PK × (Nat → Nat → Int32) × Nat × Int32 × Int32 × Int32 × Int32)) => 0) (fun (u : va_W × (PK × (Nat → Nat → Int32) × Nat × Int32 × Int32 × Int32 × Int32)) => 0) (fun (u : va_W × (Nat → Int32) × (Nat → Value) × (Nat → Nat → Int32)) => ThQ G h0 a (upd (upd (upd F 2 (nI sz)) 5 (nI cs)) 12 (nI vr)) (updR (updR R 2 (.ref pq)) 3 (.ref mq)) Z B J u) (fun u => u.1) := by
  intro sz
  refine vx_ofW (cc := cX0_single) (maxL := 2) (ret := (some .int)) (by decide) rfl ?_
  intro p e s m args below meth c s₁ B9 hml hnt hv
  obtain ⟨rfl, hsz, hP, hD0, hE, hX⟩ := hv
  have hx := B9.exec
  have hb := B9.bytes
  have hr := B9.returns
  have hts := atoms_spec (ws := Cond.code yX0_single cX0_single 2 (some .int) :: pw) B9.pre
  have hq : ∀ w ∈ pw, w.before _ s = true := fun w h => hts w (List.mem_cons_of_mem _ h)
  have hown : s.vm.findClass RX0 = some m.cls := findClass_of_methodNamed B9.named
  have hlocks := B9.notSynchronized
  subst hsz
  have hD := hD0.self (sz := s.heap.size)
  have hA : ∀ q : Nat, s.heap.size ≤ q → va_A w s.heap.size q := fun q h => Or.inr h
  generalize va_A w s.heap.size = A at hD hE hA ⊢
  have hS : va_S A s.heap s.heap [] := va_S.rf
  have hl := lv_entry ([.ref (a 4), .ref q]) (n := 2) (Nat.le_of_ble_eq_true rfl)
  rw [lg_entry_eq]
  generalize (lg_sl ([.ref (a 4), .ref q]) ++ List.replicate (2 - (lg_sl ([.ref (a 4), .ref q])).length) Slot.unset).toArray = ls at hl ⊢
  have hl : lv_has ls 2 [(0, .ref (a 4)), (1, .ref q)] := hl
  have hpg := hps.1
  have hp1 := hpg.1
  have hp2 := hpg.2.1
  have hp3 := hpg.2.2.1
  have hp4 := hpg.2.2.2.1
  have hp5 := hpg.2.2.2.2.1
  have hp6 := hpg.2.2.2.2.2.1
  have hp8 := hpg.2.2.2.2.2.2.2.1
  have hp9 := hpg.2.2.2.2.2.2.2.2
  obtain ⟨dO, hdO, htO⟩ := (hwp.2.2.2 mq hmq).2.1
  obtain ⟨kd, hkd⟩ : ∃ z : Int32, K.2.1 0 q = z := ⟨_, rfl⟩
  refine lv_aload_n hx hb dX0_single_0 rfl (lv_at hl 1 rfl) ?_
  refine p_get (v := .int kd) (C := RX7) (Tc := TX7) (N := 11) (ci := 13) hx hb hq pin_wsX70 hown hE hP hO (by rw [hqT]; decide) (rep_1 hqT) rfl 0 (by decide) (hq _ pw_166) (fun _ h9 => h9) (congrArg (fun z => some (Value.int z)) hkd) dX0_single_1 ?_
  by_cases h1 : kd = 0
  · subst h1
    refine lv_tableIn (tgt := 56) (off := 52) hx hb dX0_single_4 (by decide) (by decide) (by decide) (by decide) ?_
    refine lv_aload_n hx hb dX0_single_56 rfl (lv_at hl 0 rfl) ?_
    refine lv_iconst (v := 1) hx hb dX0_single_57 (by decide) ?_
    refine lv_aload_n hx hb dX0_single_58 rfl (lv_at hl 0 rfl) ?_
    refine c_get (v := .ref (a 1)) (C := RX0) (Tc := TX0) (N := 13) (ci := 0) hx hb hq pin_wsX00 hown hE hP hO 24 (sg_24 G h0 a _ _ _ _ _) rfl 0 (by decide) (hq _ pw_4) (fun _ h9 => h9) rfl dX0_single_59 ?_
    refine lv_aload_n hx hb dX0_single_62 rfl (lv_at hl 1 rfl) ?_
    refine p_get (v := .int (K.2.1 1 q)) (C := RX7) (Tc := TX7) (N := 11) (ci := 13) hx hb hq pin_wsX70 hown hE hP hO (by rw [hqT]; decide) (rep_1 hqT) rfl 1 (by decide) (hq _ pw_81) (fun _ h9 => h9) rfl dX0_single_63 ?_
    have hO : OKW G h0 a (upd (upd (upd (upd F 2 (nI sz)) 5 (nI cs)) 12 (nI vr)) 2 (nI sz)) (updR (updR R 2 (.ref pq)) 3 (.ref mq)) Z B J K.1 (fun q99 x99 => x99 = rep G a K q99) w := hO.to rfl
    obtain ⟨_, qr5, hqr6⟩ := hO.2.1 2 _ (sg_2 G h0 a _ _ _ _ _)
    refine pc_V0 (G := G) (As := [.int (K.2.1 1 q)]) (rest := [.int 1, .ref (a 4)]) hx hb hml hown hq hE hX pX0_al hP hD hS hA hl.1 (K_valueAt l G h0 a (upd (upd (upd F 2 (nI sz)) 5 (nI cs)) 12 (nI vr)) (updR (updR R 2 (.ref pq)) 3 (.ref mq)) Z B J K.1 (fun q99 x99 => x99 = rep G a K q99) w (K.2.1 1 q) sz (by omega) hO) (gV pw_56 pw_57 pw_58 pw_59 pw_39) hV_X10_valueAt qr5 7 hqr6 rfl rfl rfl (Nat.le_of_ble_eq_true rfl) dX0_single_66 ⟨(by show 0 + 0 ≤ 1; omega), (by show 0 + 0 ≤ 6; omega)⟩ ⟨(by show 2 + 1 ≤ (5 * n + 33); omega), (by show 8 + (2 + 11) + 60 ≤ (200 * n + 560); omega)⟩ (fun v4 u2 H locs hw3 hP hD hS => ?_)
    obtain ⟨w, r7⟩ := u2
    obtain ⟨hw3, hO⟩ := hw3
    obtain rfl : v4 = some (.int r7) := hw3
    have hO : OKP G h0 a (upd (upd (upd F 2 (nI sz)) 5 (nI cs)) 12 (nI vr)) (updR (updR R 2 (.ref pq)) 3 (.ref mq)) Z B J K w := hO.to rfl
    refine W.widen (k := 0) (n := 0) (Nat.le_of_ble_eq_true rfl) (Nat.le_of_ble_eq_true rfl) ?_
    refine W.eq (g2 := F0 m 69 ls [.int r7, .int 1, .ref (a 4)]) rfl ?_
    refine lv_bipush (v := 60) hx hb dX0_single_69 (by decide) ?_
    have hO : OKW G h0 a (upd (upd (upd (upd F 2 (nI sz)) 5 (nI cs)) 12 (nI vr)) 5 (nI cs)) (updR (updR R 2 (.ref pq)) 3 (.ref mq)) Z B J K.1 (fun q99 x99 => x99 = rep G a K q99) w := hO.to rfl
    obtain ⟨_, qr11, hqr12⟩ := hO.2.1 24 _ (sg_24 G h0 a _ _ _ _ _)
    refine pc_V0 (G := G) (As := [.int 1, .int r7, .int 60]) (rest := []) hx hb hml hown hq hE hX pX0_al hP hD hS hA hl.1 (B_give l G h0 a (upd (upd (upd F 2 (nI sz)) 5 (nI cs)) 12 (nI vr)) (updR (updR R 2 (.ref pq)) 3 (.ref mq)) Z B J K.1 (fun q99 x99 => x99 = rep G a K q99) w 1 r7 60 cs (by omega) hng hO) (gV pw_158 pw_159 pw_160 pw_63 pw_128) hV_X0_give qr11 0 hqr12 rfl rfl rfl (Nat.le_of_ble_eq_true rfl) dX0_single_71 ⟨(by show 0 + 0 ≤ 1; omega), (by show 0 + 0 ≤ 6; omega)⟩ ⟨(by show 3 + 1 ≤ (5 * n + 33); omega), (by show 8 + (4 + 11) + 83 ≤ (200 * n + 560); omega)⟩ (fun v10 u8 H locs hw9 hP hD hS => ?_)
    obtain ⟨w, cs13, f14, f15, f16, f17⟩ := u8
    obtain ⟨hw9, h18, h19, hO⟩ := hw9
    have h18 : cs ≤ cs13 ∧ cs13 ≤ cs + 1 ∧ cs13 ≤ 10000 := h18
    have h19 : Nng f16 := h19
    obtain rfl : v10 = some (.int 60) := hw9
    have hO : OKP G h0 a (upd (upd (upd F 2 (nI sz)) 5 (nI cs13)) 12 (nI vr)) (updR (updR R 2 (.ref pq)) 3 (.ref mq)) Z (updA (updA (updA (updA B 16 f14) 17 f15) 18 f16) 19 f17) J K w := hO.to rfl
    refine W.widen (k := 0) (n := 0) (Nat.le_of_ble_eq_true rfl) (Nat.le_of_ble_eq_true rfl) ?_
    refine W.eq (g2 := F0 m 74 ls [.int 60]) rfl ?_
    refine W_size (fun hz1 hz2 => ?_)
    refine vx_ret ?_
    have hz20 : BdE K K := BdE.rfl
    have hz21 : Bth B (updA (updA (updA (updA B 16 f14) 17 f15) 18 f16) 19 f17) := (show Thx (upd (upd (upd F 2 (nI sz)) 5 (nI cs)) 12 (nI vr)) (upd (upd (upd (upd F 2 (nI sz)) 5 (nI cs)) 12 (nI vr)) 5 (nI cs13)) B (updA (updA (updA (updA B 16 f14) 17 f15) 18 f16) 19 f17) from (Thx.b (Thx.b8 (Thx.b (Thx.b (Thx.f Thx.rfl (by omega)) (by omega) (by decide)) (by omega) (by decide)) h19) (by omega) (by decide))).2
    have hz22 : cs13 ≤ 10000 := (by omega)
    have hO : OKP G h0 a (upd (upd (upd (upd (upd (upd F 2 (nI sz)) 5 (nI cs13)) 12 (nI vr)) 13 (F 13)) 14 (F 14)) 15 (F 15)) (updR (updR R 2 (.ref pq)) 3 (.ref mq)) Z (updA (updA (updA (updA B 16 f14) 17 f15) 18 f16) 19 f17) J K w := hO.to rfl
    refine W.widen (k := 1) (n := 6) (by omega) (by omega) ?_
    have hzz1 : H.size ≤ s.heap.size + (0) := (by have z : 0 ≤ 0 := (by omega); omega)
    have hzz2 : hSl H ≤ hSl s.heap + (0) := (by have z : 0 ≤ 0 := (by omega); omega)
    exact W.iret (v := 60) hx hb hr (fun t99 ht99 hW99 => ⟨⟨_, (w, (K, (updA (updA (updA (updA B 16 f14) 17 f15) 18 f16) 19 f17), cs13, (F 13), (F 14), (F 15), (60 : Int32))), rfl, ⟨rfl, hz20, hz21, hz22, hO⟩, by rw [ht99]; exact hP, hD, by rw [ht99]; exact hzz1, by rw [ht99]; exact hzz2⟩, hS.F ht99⟩) hS.2.2 dX0_single_74
  by_cases h23 : kd = 1
  · subst h23
    refine lv_tableIn (tgt := 140) (off := 136) hx hb dX0_single_4 (by decide) (by decide) (by decide) (by decide) ?_
    refine lv_bipush (v := 63) hx hb dX0_single_140 (by decide) ?_
    refine W_size (fun hz1 hz2 => ?_)
    refine vx_ret ?_
    have hz24 : BdE K K := BdE.rfl
    have hz25 : Bth B B := (show Thx (upd (upd (upd F 2 (nI sz)) 5 (nI cs)) 12 (nI vr)) (upd (upd (upd F 2 (nI sz)) 5 (nI cs)) 12 (nI vr)) B B from Thx.rfl).2
    have hz26 : cs ≤ 10000 := (by omega)
    have hO : OKP G h0 a (upd (upd (upd (upd (upd (upd F 2 (nI sz)) 5 (nI cs)) 12 (nI vr)) 13 (F 13)) 14 (F 14)) 15 (F 15)) (updR (updR R 2 (.ref pq)) 3 (.ref mq)) Z B J K w := hO.to rfl
    refine W.widen (k := 1) (n := 6) (by omega) (by omega) ?_
    have hzz1 : s.heap.size ≤ s.heap.size + (0) := (by have z : 0 ≤ 0 := (by omega); omega)
    have hzz2 : hSl s.heap ≤ hSl s.heap + (0) := (by have z : 0 ≤ 0 := (by omega); omega)
    exact W.iret (v := 63) hx hb hr (fun t99 ht99 hW99 => ⟨⟨_, (w, (K, B, cs, (F 13), (F 14), (F 15), (63 : Int32))), rfl, ⟨rfl, hz24, hz25, hz26, hO⟩, by rw [ht99]; exact hP, hD, by rw [ht99]; exact hzz1, by rw [ht99]; exact hzz2⟩, hS.F ht99⟩) hS.2.2 dX0_single_142
  by_cases h27 : kd = 2
  · subst h27
    refine lv_tableIn (tgt := 140) (off := 136) hx hb dX0_single_4 (by decide) (by decide) (by decide) (by decide) ?_
    refine lv_bipush (v := 63) hx hb dX0_single_140 (by decide) ?_
    refine W_size (fun hz1 hz2 => ?_)
    refine vx_ret ?_
    have hz28 : BdE K K := BdE.rfl
    have hz29 : Bth B B := (show Thx (upd (upd (upd F 2 (nI sz)) 5 (nI cs)) 12 (nI vr)) (upd (upd (upd F 2 (nI sz)) 5 (nI cs)) 12 (nI vr)) B B from Thx.rfl).2
    have hz30 : cs ≤ 10000 := (by omega)
    have hO : OKP G h0 a (upd (upd (upd (upd (upd (upd F 2 (nI sz)) 5 (nI cs)) 12 (nI vr)) 13 (F 13)) 14 (F 14)) 15 (F 15)) (updR (updR R 2 (.ref pq)) 3 (.ref mq)) Z B J K w := hO.to rfl
    refine W.widen (k := 1) (n := 6) (by omega) (by omega) ?_
    have hzz1 : s.heap.size ≤ s.heap.size + (0) := (by have z : 0 ≤ 0 := (by omega); omega)
    have hzz2 : hSl s.heap ≤ hSl s.heap + (0) := (by have z : 0 ≤ 0 := (by omega); omega)
    exact W.iret (v := 63) hx hb hr (fun t99 ht99 hW99 => ⟨⟨_, (w, (K, B, cs, (F 13), (F 14), (F 15), (63 : Int32))), rfl, ⟨rfl, hz28, hz29, hz30, hO⟩, by rw [ht99]; exact hP, hD, by rw [ht99]; exact hzz1, by rw [ht99]; exact hzz2⟩, hS.F ht99⟩) hS.2.2 dX0_single_142
  by_cases h31 : kd = 3
  · subst h31
    refine lv_tableIn (tgt := 75) (off := 71) hx hb dX0_single_4 (by decide) (by decide) (by decide) (by decide) ?_
    refine lv_aload_n hx hb dX0_single_75 rfl (lv_at hl 0 rfl) ?_
    refine lv_iconst (v := 1) hx hb dX0_single_76 (by decide) ?_
    refine lv_iconst (v := 0) hx hb dX0_single_77 (by decide) ?_
    refine lv_bipush (v := 62) hx hb dX0_single_78 (by decide) ?_
    have hO : OKW G h0 a (upd (upd (upd (upd F 2 (nI sz)) 5 (nI cs)) 12 (nI vr)) 5 (nI cs)) (updR (updR R 2 (.ref pq)) 3 (.ref mq)) Z B J K.1 (fun q99 x99 => x99 = rep G a K q99) w := hO.to rfl
    obtain ⟨_, qr35, hqr36⟩ := hO.2.1 24 _ (sg_24 G h0 a _ _ _ _ _)
    refine pc_V0 (G := G) (As := [.int 1, .int 0, .int 62]) (rest := []) hx hb hml hown hq hE hX pX0_al hP hD hS hA hl.1 (B_give l G h0 a (upd (upd (upd F 2 (nI sz)) 5 (nI cs)) 12 (nI vr)) (updR (updR R 2 (.ref pq)) 3 (.ref mq)) Z B J K.1 (fun q99 x99 => x99 = rep G a K q99) w 1 0 62 cs (by omega) hng hO) (gV pw_158 pw_159 pw_160 pw_63 pw_128) hV_X0_give qr35 0 hqr36 rfl rfl rfl (Nat.le_of_ble_eq_true rfl) dX0_single_80 ⟨(by show 0 + 0 ≤ 1; omega), (by show 0 + 0 ≤ 6; omega)⟩ ⟨(by show 3 + 1 ≤ (5 * n + 33); omega), (by show 8 + (4 + 11) + 83 ≤ (200 * n + 560); omega)⟩ (fun v34 u32 H locs hw33 hP hD hS => ?_)
    obtain ⟨w, cs37, f38, f39, f40, f41⟩ := u32
    obtain ⟨hw33, h42, h43, hO⟩ := hw33
    have h42 : cs ≤ cs37 ∧ cs37 ≤ cs + 1 ∧ cs37 ≤ 10000 := h42
    have h43 : Nng f40 := h43
    obtain rfl : v34 = some (.int 62) := hw33
    have hO : OKP G h0 a (upd (upd (upd F 2 (nI sz)) 5 (nI cs37)) 12 (nI vr)) (updR (updR R 2 (.ref pq)) 3 (.ref mq)) Z (updA (updA (updA (updA B 16 f38) 17 f39) 18 f40) 19 f41) J K w := hO.to rfl
    refine W.widen (k := 0) (n := 0) (Nat.le_of_ble_eq_true rfl) (Nat.le_of_ble_eq_true rfl) ?_
    refine W.eq (g2 := F0 m 83 ls [.int 62]) rfl ?_
    refine W_size (fun hz1 hz2 => ?_)
    refine vx_ret ?_
    have hz44 : BdE K K := BdE.rfl
    have hz45 : Bth B (updA (updA (updA (updA B 16 f38) 17 f39) 18 f40) 19 f41) := (show Thx (upd (upd (upd F 2 (nI sz)) 5 (nI cs)) 12 (nI vr)) (upd (upd (upd (upd F 2 (nI sz)) 5 (nI cs)) 12 (nI vr)) 5 (nI cs37)) B (updA (updA (updA (updA B 16 f38) 17 f39) 18 f40) 19 f41) from (Thx.b (Thx.b8 (Thx.b (Thx.b (Thx.f Thx.rfl (by omega)) (by omega) (by decide)) (by omega) (by decide)) h43) (by omega) (by decide))).2
    have hz46 : cs37 ≤ 10000 := (by omega)
    have hO : OKP G h0 a (upd (upd (upd (upd (upd (upd F 2 (nI sz)) 5 (nI cs37)) 12 (nI vr)) 13 (F 13)) 14 (F 14)) 15 (F 15)) (updR (updR R 2 (.ref pq)) 3 (.ref mq)) Z (updA (updA (updA (updA B 16 f38) 17 f39) 18 f40) 19 f41) J K w := hO.to rfl
    refine W.widen (k := 1) (n := 6) (by omega) (by omega) ?_
    have hzz1 : H.size ≤ s.heap.size + (0) := (by have z : 0 ≤ 0 := (by omega); omega)
    have hzz2 : hSl H ≤ hSl s.heap + (0) := (by have z : 0 ≤ 0 := (by omega); omega)
    exact W.iret (v := 62) hx hb hr (fun t99 ht99 hW99 => ⟨⟨_, (w, (K, (updA (updA (updA (updA B 16 f38) 17 f39) 18 f40) 19 f41), cs37, (F 13), (F 14), (F 15), (62 : Int32))), rfl, ⟨rfl, hz44, hz45, hz46, hO⟩, by rw [ht99]; exact hP, hD, by rw [ht99]; exact hzz1, by rw [ht99]; exact hzz2⟩, hS.F ht99⟩) hS.2.2 dX0_single_83
  by_cases h47 : kd = 4
  · subst h47
    refine lv_tableIn (tgt := 84) (off := 80) hx hb dX0_single_4 (by decide) (by decide) (by decide) (by decide) ?_
    refine lv_aload_n hx hb dX0_single_84 rfl (lv_at hl 0 rfl) ?_
    refine lv_iconst (v := 2) hx hb dX0_single_85 (by decide) ?_
    refine lv_iconst (v := 0) hx hb dX0_single_86 (by decide) ?_
    refine lv_aload_n hx hb dX0_single_87 rfl (lv_at hl 0 rfl) ?_
    refine c_get (v := .ref mq) (C := RX0) (Tc := TX0) (N := 13) (ci := 0) hx hb hq pin_wsX00 hown hE hP hO 24 (sg_24 G h0 a _ _ _ _ _) rfl 7 (by decide) (hq _ pw_72) (fun _ h9 => h9) rfl dX0_single_88 ?_
    refine p_get (v := .ref dO) (C := RX6) (Tc := TX6) (N := 12) (ci := 12) hx hb hq pin_wsX60 hown hE hP hO (by rw [hmq]; decide) (rep_3 hmq) rfl 0 (by decide) (hq _ pw_161) (fun _ h9 => h9) (congrArg (fun z => some (va_rf z)) hdO) dX0_single_91 ?_
    refine p_get (v := .int (K.2.1 15 dO)) (C := RX2) (Tc := TX2) (N := 13) (ci := 2) hx hb hq pin_wsX20 hown hE hP hO (by rw [htO]; decide) (rep_4 htO) rfl 0 (by decide) (hq _ pw_167) (fun _ h9 => h9) rfl dX0_single_94 ?_
    have hO : OKW G h0 a (upd (upd (upd (upd F 2 (nI sz)) 5 (nI cs)) 12 (nI vr)) 5 (nI cs)) (updR (updR R 2 (.ref pq)) 3 (.ref mq)) Z B J K.1 (fun q99 x99 => x99 = rep G a K q99) w := hO.to rfl
    obtain ⟨_, qr51, hqr52⟩ := hO.2.1 24 _ (sg_24 G h0 a _ _ _ _ _)
    refine pc_V0 (G := G) (As := [.int 2, .int 0, .int (K.2.1 15 dO)]) (rest := []) hx hb hml hown hq hE hX pX0_al hP hD hS hA hl.1 (B_give l G h0 a (upd (upd (upd F 2 (nI sz)) 5 (nI cs)) 12 (nI vr)) (updR (updR R 2 (.ref pq)) 3 (.ref mq)) Z B J K.1 (fun q99 x99 => x99 = rep G a K q99) w 2 0 (K.2.1 15 dO) cs (by omega) hng hO) (gV pw_158 pw_159 pw_160 pw_63 pw_128) hV_X0_give qr51 0 hqr52 rfl rfl rfl (Nat.le_of_ble_eq_true rfl) dX0_single_97 ⟨(by show 0 + 0 ≤ 1; omega), (by show 0 + 0 ≤ 6; omega)⟩ ⟨(by show 3 + 1 ≤ (5 * n + 33); omega), (by show 8 + (4 + 11) + 83 ≤ (200 * n + 560); omega)⟩ (fun v50 u48 H locs hw49 hP hD hS => ?_)
    obtain ⟨w, cs53, f54, f55, f56, f57⟩ := u48
    obtain ⟨hw49, h58, h59, hO⟩ := hw49
    have h58 : cs ≤ cs53 ∧ cs53 ≤ cs + 1 ∧ cs53 ≤ 10000 := h58
    have h59 : Nng f56 := h59
    obtain rfl : v50 = some (.int (K.2.1 15 dO)) := hw49
    have hO : OKP G h0 a (upd (upd (upd F 2 (nI sz)) 5 (nI cs53)) 12 (nI vr)) (updR (updR R 2 (.ref pq)) 3 (.ref mq)) Z (updA (updA (updA (updA B 16 f54) 17 f55) 18 f56) 19 f57) J K w := hO.to rfl
    refine W.widen (k := 0) (n := 0) (Nat.le_of_ble_eq_true rfl) (Nat.le_of_ble_eq_true rfl) ?_
    refine W.eq (g2 := F0 m 100 ls [.int (K.2.1 15 dO)]) rfl ?_
    refine W_size (fun hz1 hz2 => ?_)
    refine vx_ret ?_
    have hz60 : BdE K K := BdE.rfl
    have hz61 : Bth B (updA (updA (updA (updA B 16 f54) 17 f55) 18 f56) 19 f57) := (show Thx (upd (upd (upd F 2 (nI sz)) 5 (nI cs)) 12 (nI vr)) (upd (upd (upd (upd F 2 (nI sz)) 5 (nI cs)) 12 (nI vr)) 5 (nI cs53)) B (updA (updA (updA (updA B 16 f54) 17 f55) 18 f56) 19 f57) from (Thx.b (Thx.b8 (Thx.b (Thx.b (Thx.f Thx.rfl (by omega)) (by omega) (by decide)) (by omega) (by decide)) h59) (by omega) (by decide))).2
    have hz62 : cs53 ≤ 10000 := (by omega)
    have hO : OKP G h0 a (upd (upd (upd (upd (upd (upd F 2 (nI sz)) 5 (nI cs53)) 12 (nI vr)) 13 (F 13)) 14 (F 14)) 15 (F 15)) (updR (updR R 2 (.ref pq)) 3 (.ref mq)) Z (updA (updA (updA (updA B 16 f54) 17 f55) 18 f56) 19 f57) J K w := hO.to rfl
    refine W.widen (k := 1) (n := 6) (by omega) (by omega) ?_
    have hzz1 : H.size ≤ s.heap.size + (0) := (by have z : 0 ≤ 0 := (by omega); omega)
    have hzz2 : hSl H ≤ hSl s.heap + (0) := (by have z : 0 ≤ 0 := (by omega); omega)
    exact W.iret (v := (K.2.1 15 dO)) hx hb hr (fun t99 ht99 hW99 => ⟨⟨_, (w, (K, (updA (updA (updA (updA B 16 f54) 17 f55) 18 f56) 19 f57), cs53, (F 13), (F 14), (F 15), (K.2.1 15 dO))), rfl, ⟨rfl, hz60, hz61, hz62, hO⟩, by rw [ht99]; exact hP, hD, by rw [ht99]; exact hzz1, by rw [ht99]; exact hzz2⟩, hS.F ht99⟩) hS.2.2 dX0_single_100
  by_cases h63 : kd = 5
  · subst h63
    refine lv_tableIn (tgt := 140) (off := 136) hx hb dX0_single_4 (by decide) (by decide) (by decide) (by decide) ?_
    refine lv_bipush (v := 63) hx hb dX0_single_140 (by decide) ?_
    refine W_size (fun hz1 hz2 => ?_)
    refine vx_ret ?_
    have hz64 : BdE K K := BdE.rfl
    have hz65 : Bth B B := (show Thx (upd (upd (upd F 2 (nI sz)) 5 (nI cs)) 12 (nI vr)) (upd (upd (upd F 2 (nI sz)) 5 (nI cs)) 12 (nI vr)) B B from Thx.rfl).2
    have hz66 : cs ≤ 10000 := (by omega)
    have hO : OKP G h0 a (upd (upd (upd (upd (upd (upd F 2 (nI sz)) 5 (nI cs)) 12 (nI vr)) 13 (F 13)) 14 (F 14)) 15 (F 15)) (updR (updR R 2 (.ref pq)) 3 (.ref mq)) Z B J K w := hO.to rfl
    refine W.widen (k := 1) (n := 6) (by omega) (by omega) ?_
    have hzz1 : s.heap.size ≤ s.heap.size + (0) := (by have z : 0 ≤ 0 := (by omega); omega)
    have hzz2 : hSl s.heap ≤ hSl s.heap + (0) := (by have z : 0 ≤ 0 := (by omega); omega)
    exact W.iret (v := 63) hx hb hr (fun t99 ht99 hW99 => ⟨⟨_, (w, (K, B, cs, (F 13), (F 14), (F 15), (63 : Int32))), rfl, ⟨rfl, hz64, hz65, hz66, hO⟩, by rw [ht99]; exact hP, hD, by rw [ht99]; exact hzz1, by rw [ht99]; exact hzz2⟩, hS.F ht99⟩) hS.2.2 dX0_single_142
  by_cases h67 : kd = 6
  · subst h67
    refine lv_tableIn (tgt := 101) (off := 97) hx hb dX0_single_4 (by decide) (by decide) (by decide) (by decide) ?_
    refine lv_aload_n hx hb dX0_single_101 rfl (lv_at hl 0 rfl) ?_
    refine lv_bipush (v := 12) hx hb dX0_single_102 (by decide) ?_
    refine lv_iconst (v := 0) hx hb dX0_single_104 (by decide) ?_
    refine lv_bipush (v := 60) hx hb dX0_single_105 (by decide) ?_
    have hO : OKW G h0 a (upd (upd (upd (upd F 2 (nI sz)) 5 (nI cs)) 12 (nI vr)) 5 (nI cs)) (updR (updR R 2 (.ref pq)) 3 (.ref mq)) Z B J K.1 (fun q99 x99 => x99 = rep G a K q99) w := hO.to rfl
    obtain ⟨_, qr71, hqr72⟩ := hO.2.1 24 _ (sg_24 G h0 a _ _ _ _ _)
    refine pc_V0 (G := G) (As := [.int 12, .int 0, .int 60]) (rest := []) hx hb hml hown hq hE hX pX0_al hP hD hS hA hl.1 (B_give l G h0 a (upd (upd (upd F 2 (nI sz)) 5 (nI cs)) 12 (nI vr)) (updR (updR R 2 (.ref pq)) 3 (.ref mq)) Z B J K.1 (fun q99 x99 => x99 = rep G a K q99) w 12 0 60 cs (by omega) hng hO) (gV pw_158 pw_159 pw_160 pw_63 pw_128) hV_X0_give qr71 0 hqr72 rfl rfl rfl (Nat.le_of_ble_eq_true rfl) dX0_single_107 ⟨(by show 0 + 0 ≤ 1; omega), (by show 0 + 0 ≤ 6; omega)⟩ ⟨(by show 3 + 1 ≤ (5 * n + 33); omega), (by show 8 + (4 + 11) + 83 ≤ (200 * n + 560); omega)⟩ (fun v70 u68 H locs hw69 hP hD hS => ?_)
    obtain ⟨w, cs73, f74, f75, f76, f77⟩ := u68
    obtain ⟨hw69, h78, h79, hO⟩ := hw69
    have h78 : cs ≤ cs73 ∧ cs73 ≤ cs + 1 ∧ cs73 ≤ 10000 := h78
    have h79 : Nng f76 := h79
    obtain rfl : v70 = some (.int 60) := hw69
    have hO : OKP G h0 a (upd (upd (upd F 2 (nI sz)) 5 (nI cs73)) 12 (nI vr)) (updR (updR R 2 (.ref pq)) 3 (.ref mq)) Z (updA (updA (updA (updA B 16 f74) 17 f75) 18 f76) 19 f77) J K w := hO.to rfl
    refine W.widen (k := 0) (n := 0) (Nat.le_of_ble_eq_true rfl) (Nat.le_of_ble_eq_true rfl) ?_
    refine W.eq (g2 := F0 m 110 ls [.int 60]) rfl ?_
    refine W_size (fun hz1 hz2 => ?_)
    refine vx_ret ?_
    have hz80 : BdE K K := BdE.rfl
    have hz81 : Bth B (updA (updA (updA (updA B 16 f74) 17 f75) 18 f76) 19 f77) := (show Thx (upd (upd (upd F 2 (nI sz)) 5 (nI cs)) 12 (nI vr)) (upd (upd (upd (upd F 2 (nI sz)) 5 (nI cs)) 12 (nI vr)) 5 (nI cs73)) B (updA (updA (updA (updA B 16 f74) 17 f75) 18 f76) 19 f77) from (Thx.b (Thx.b8 (Thx.b (Thx.b (Thx.f Thx.rfl (by omega)) (by omega) (by decide)) (by omega) (by decide)) h79) (by omega) (by decide))).2
    have hz82 : cs73 ≤ 10000 := (by omega)
    have hO : OKP G h0 a (upd (upd (upd (upd (upd (upd F 2 (nI sz)) 5 (nI cs73)) 12 (nI vr)) 13 (F 13)) 14 (F 14)) 15 (F 15)) (updR (updR R 2 (.ref pq)) 3 (.ref mq)) Z (updA (updA (updA (updA B 16 f74) 17 f75) 18 f76) 19 f77) J K w := hO.to rfl
    refine W.widen (k := 1) (n := 6) (by omega) (by omega) ?_
    have hzz1 : H.size ≤ s.heap.size + (0) := (by have z : 0 ≤ 0 := (by omega); omega)
    have hzz2 : hSl H ≤ hSl s.heap + (0) := (by have z : 0 ≤ 0 := (by omega); omega)
    exact W.iret (v := 60) hx hb hr (fun t99 ht99 hW99 => ⟨⟨_, (w, (K, (updA (updA (updA (updA B 16 f74) 17 f75) 18 f76) 19 f77), cs73, (F 13), (F 14), (F 15), (60 : Int32))), rfl, ⟨rfl, hz80, hz81, hz82, hO⟩, by rw [ht99]; exact hP, hD, by rw [ht99]; exact hzz1, by rw [ht99]; exact hzz2⟩, hS.F ht99⟩) hS.2.2 dX0_single_110
  by_cases h83 : kd = 7
  · subst h83
    refine lv_tableIn (tgt := 140) (off := 136) hx hb dX0_single_4 (by decide) (by decide) (by decide) (by decide) ?_
    refine lv_bipush (v := 63) hx hb dX0_single_140 (by decide) ?_
    refine W_size (fun hz1 hz2 => ?_)
    refine vx_ret ?_
    have hz84 : BdE K K := BdE.rfl
    have hz85 : Bth B B := (show Thx (upd (upd (upd F 2 (nI sz)) 5 (nI cs)) 12 (nI vr)) (upd (upd (upd F 2 (nI sz)) 5 (nI cs)) 12 (nI vr)) B B from Thx.rfl).2
    have hz86 : cs ≤ 10000 := (by omega)
    have hO : OKP G h0 a (upd (upd (upd (upd (upd (upd F 2 (nI sz)) 5 (nI cs)) 12 (nI vr)) 13 (F 13)) 14 (F 14)) 15 (F 15)) (updR (updR R 2 (.ref pq)) 3 (.ref mq)) Z B J K w := hO.to rfl
    refine W.widen (k := 1) (n := 6) (by omega) (by omega) ?_
    have hzz1 : s.heap.size ≤ s.heap.size + (0) := (by have z : 0 ≤ 0 := (by omega); omega)
    have hzz2 : hSl s.heap ≤ hSl s.heap + (0) := (by have z : 0 ≤ 0 := (by omega); omega)
    exact W.iret (v := 63) hx hb hr (fun t99 ht99 hW99 => ⟨⟨_, (w, (K, B, cs, (F 13), (F 14), (F 15), (63 : Int32))), rfl, ⟨rfl, hz84, hz85, hz86, hO⟩, by rw [ht99]; exact hP, hD, by rw [ht99]; exact hzz1, by rw [ht99]; exact hzz2⟩, hS.F ht99⟩) hS.2.2 dX0_single_142
  by_cases h87 : kd = 8
  · subst h87
    refine lv_tableIn (tgt := 111) (off := 107) hx hb dX0_single_4 (by decide) (by decide) (by decide) (by decide) ?_
    refine lv_aload_n hx hb dX0_single_111 rfl (lv_at hl 0 rfl) ?_
    refine lv_bipush (v := 21) hx hb dX0_single_112 (by decide) ?_
    refine lv_aload_n hx hb dX0_single_114 rfl (lv_at hl 0 rfl) ?_
    refine c_get (v := .ref (a 1)) (C := RX0) (Tc := TX0) (N := 13) (ci := 0) hx hb hq pin_wsX00 hown hE hP hO 24 (sg_24 G h0 a _ _ _ _ _) rfl 0 (by decide) (hq _ pw_4) (fun _ h9 => h9) rfl dX0_single_115 ?_
    refine lv_aload_n hx hb dX0_single_118 rfl (lv_at hl 1 rfl) ?_
    refine p_get (v := .int (K.2.1 1 q)) (C := RX7) (Tc := TX7) (N := 11) (ci := 13) hx hb hq pin_wsX70 hown hE hP hO (by rw [hqT]; decide) (rep_1 hqT) rfl 1 (by decide) (hq _ pw_81) (fun _ h9 => h9) rfl dX0_single_119 ?_
    have hO : OKW G h0 a (upd (upd (upd (upd F 2 (nI sz)) 5 (nI cs)) 12 (nI vr)) 2 (nI sz)) (updR (updR R 2 (.ref pq)) 3 (.ref mq)) Z B J K.1 (fun q99 x99 => x99 = rep G a K q99) w := hO.to rfl
    obtain ⟨_, qr91, hqr92⟩ := hO.2.1 2 _ (sg_2 G h0 a _ _ _ _ _)
    refine pc_V0 (G := G) (As := [.int (K.2.1 1 q)]) (rest := [.int 21, .ref (a 4)]) hx hb hml hown hq hE hX pX0_al hP hD hS hA hl.1 (K_typeAt l G h0 a (upd (upd (upd F 2 (nI sz)) 5 (nI cs)) 12 (nI vr)) (updR (updR R 2 (.ref pq)) 3 (.ref mq)) Z B J K.1 (fun q99 x99 => x99 = rep G a K q99) w (K.2.1 1 q) sz (by omega) hO) (gV pw_92 pw_93 pw_94 pw_59 pw_36) hV_X10_typeAt qr91 7 hqr92 rfl rfl rfl (Nat.le_of_ble_eq_true rfl) dX0_single_122 ⟨(by show 0 + 0 ≤ 1; omega), (by show 0 + 0 ≤ 6; omega)⟩ ⟨(by show 2 + 1 ≤ (5 * n + 33); omega), (by show 8 + (2 + 11) + 60 ≤ (200 * n + 560); omega)⟩ (fun v90 u88 H locs hw89 hP hD hS => ?_)
    obtain ⟨w, r93⟩ := u88
    obtain ⟨hw89, hO⟩ := hw89
    obtain rfl : v90 = some (.int r93) := hw89
    have hO : OKP G h0 a (upd (upd (upd F 2 (nI sz)) 5 (nI cs)) 12 (nI vr)) (updR (updR R 2 (.ref pq)) 3 (.ref mq)) Z B J K w := hO.to rfl
    refine W.widen (k := 0) (n := 0) (Nat.le_of_ble_eq_true rfl) (Nat.le_of_ble_eq_true rfl) ?_
    refine W.eq (g2 := F0 m 125 ls [.int r93, .int 21, .ref (a 4)]) rfl ?_
    refine lv_aload_n hx hb dX0_single_125 rfl (lv_at hl 0 rfl) ?_
    refine c_get (v := .ref (a 1)) (C := RX0) (Tc := TX0) (N := 13) (ci := 0) hx hb hq pin_wsX00 hown hE hP hO 24 (sg_24 G h0 a _ _ _ _ _) rfl 0 (by decide) (hq _ pw_4) (fun _ h9 => h9) rfl dX0_single_126 ?_
    refine lv_aload_n hx hb dX0_single_129 rfl (lv_at hl 1 rfl) ?_
    refine p_get (v := .int (K.2.1 1 q)) (C := RX7) (Tc := TX7) (N := 11) (ci := 13) hx hb hq pin_wsX70 hown hE hP hO (by rw [hqT]; decide) (rep_1 hqT) rfl 1 (by decide) (hq _ pw_81) (fun _ h9 => h9) rfl dX0_single_130 ?_
    have hO : OKW G h0 a (upd (upd (upd (upd F 2 (nI sz)) 5 (nI cs)) 12 (nI vr)) 2 (nI sz)) (updR (updR R 2 (.ref pq)) 3 (.ref mq)) Z B J K.1 (fun q99 x99 => x99 = rep G a K q99) w := hO.to rfl
    obtain ⟨_, qr97, hqr98⟩ := hO.2.1 2 _ (sg_2 G h0 a _ _ _ _ _)
    refine pc_V0 (G := G) (As := [.int (K.2.1 1 q)]) (rest := [.int r93, .int 21, .ref (a 4)]) hx hb hml hown hq hE hX pX0_al hP hD hS hA hl.1 (K_typeAt l G h0 a (upd (upd (upd F 2 (nI sz)) 5 (nI cs)) 12 (nI vr)) (updR (updR R 2 (.ref pq)) 3 (.ref mq)) Z B J K.1 (fun q99 x99 => x99 = rep G a K q99) w (K.2.1 1 q) sz (by omega) hO) (gV pw_92 pw_93 pw_94 pw_59 pw_36) hV_X10_typeAt qr97 7 hqr98 rfl rfl rfl (Nat.le_of_ble_eq_true rfl) dX0_single_133 ⟨(by show 0 + 0 ≤ 1; omega), (by show 0 + 0 ≤ 6; omega)⟩ ⟨(by show 2 + 1 ≤ (5 * n + 33); omega), (by show 8 + (2 + 11) + 60 ≤ (200 * n + 560); omega)⟩ (fun v96 u94 H locs hw95 hP hD hS => ?_)
    obtain ⟨w, r99⟩ := u94
    obtain ⟨hw95, hO⟩ := hw95
    obtain rfl : v96 = some (.int r99) := hw95
    have hO : OKP G h0 a (upd (upd (upd F 2 (nI sz)) 5 (nI cs)) 12 (nI vr)) (updR (updR R 2 (.ref pq)) 3 (.ref mq)) Z B J K w := hO.to rfl
    refine W.widen (k := 0) (n := 0) (Nat.le_of_ble_eq_true rfl) (Nat.le_of_ble_eq_true rfl) ?_
    refine W.eq (g2 := F0 m 136 ls [.int r99, .int r93, .int 21, .ref (a 4)]) rfl ?_
    have hO : OKW G h0 a (upd (upd (upd (upd F 2 (nI sz)) 5 (nI cs)) 12 (nI vr)) 5 (nI cs)) (updR (updR R 2 (.ref pq)) 3 (.ref mq)) Z B J K.1 (fun q99 x99 => x99 = rep G a K q99) w := hO.to rfl
    obtain ⟨_, qr103, hqr104⟩ := hO.2.1 24 _ (sg_24 G h0 a _ _ _ _ _)
    refine pc_V0 (G := G) (As := [.int 21, .int r93, .int r99]) (rest := []) hx hb hml hown hq hE hX pX0_al hP hD hS hA hl.1 (B_give l G h0 a (upd (upd (upd F 2 (nI sz)) 5 (nI cs)) 12 (nI vr)) (updR (updR R 2 (.ref pq)) 3 (.ref mq)) Z B J K.1 (fun q99 x99 => x99 = rep G a K q99) w 21 r93 r99 cs (by omega) hng hO) (gV pw_158 pw_159 pw_160 pw_63 pw_128) hV_X0_give qr103 0 hqr104 rfl rfl rfl (Nat.le_of_ble_eq_true rfl) dX0_single_136 ⟨(by show 0 + 0 ≤ 1; omega), (by show 0 + 0 ≤ 6; omega)⟩ ⟨(by show 3 + 1 ≤ (5 * n + 33); omega), (by show 8 + (4 + 11) + 83 ≤ (200 * n + 560); omega)⟩ (fun v102 u100 H locs hw101 hP hD hS => ?_)
    obtain ⟨w, cs105, f106, f107, f108, f109⟩ := u100
    obtain ⟨hw101, h110, h111, hO⟩ := hw101
    have h110 : cs ≤ cs105 ∧ cs105 ≤ cs + 1 ∧ cs105 ≤ 10000 := h110
    have h111 : Nng f108 := h111
    obtain rfl : v102 = some (.int r99) := hw101
    have hO : OKP G h0 a (upd (upd (upd F 2 (nI sz)) 5 (nI cs105)) 12 (nI vr)) (updR (updR R 2 (.ref pq)) 3 (.ref mq)) Z (updA (updA (updA (updA B 16 f106) 17 f107) 18 f108) 19 f109) J K w := hO.to rfl
    refine W.widen (k := 0) (n := 0) (Nat.le_of_ble_eq_true rfl) (Nat.le_of_ble_eq_true rfl) ?_
    refine W.eq (g2 := F0 m 139 ls [.int r99]) rfl ?_
    refine W_size (fun hz1 hz2 => ?_)
    refine vx_ret ?_
    have hz112 : BdE K K := BdE.rfl
    have hz113 : Bth B (updA (updA (updA (updA B 16 f106) 17 f107) 18 f108) 19 f109) := (show Thx (upd (upd (upd F 2 (nI sz)) 5 (nI cs)) 12 (nI vr)) (upd (upd (upd (upd F 2 (nI sz)) 5 (nI cs)) 12 (nI vr)) 5 (nI cs105)) B (updA (updA (updA (updA B 16 f106) 17 f107) 18 f108) 19 f109) from (Thx.b (Thx.b8 (Thx.b (Thx.b (Thx.f Thx.rfl (by omega)) (by omega) (by decide)) (by omega) (by decide)) h111) (by omega) (by decide))).2
    have hz114 : cs105 ≤ 10000 := (by omega)
    have hO : OKP G h0 a (upd (upd (upd (upd (upd (upd F 2 (nI sz)) 5 (nI cs105)) 12 (nI vr)) 13 (F 13)) 14 (F 14)) 15 (F 15)) (updR (updR R 2 (.ref pq)) 3 (.ref mq)) Z (updA (updA (updA (updA B 16 f106) 17 f107) 18 f108) 19 f109) J K w := hO.to rfl
    refine W.widen (k := 1) (n := 6) (by omega) (by omega) ?_
    have hzz1 : H.size ≤ s.heap.size + (0) := (by have z : 0 ≤ 0 := (by omega); omega)
    have hzz2 : hSl H ≤ hSl s.heap + (0) := (by have z : 0 ≤ 0 := (by omega); omega)
    exact W.iret (v := r99) hx hb hr (fun t99 ht99 hW99 => ⟨⟨_, (w, (K, (updA (updA (updA (updA B 16 f106) 17 f107) 18 f108) 19 f109), cs105, (F 13), (F 14), (F 15), r99)), rfl, ⟨rfl, hz112, hz113, hz114, hO⟩, by rw [ht99]; exact hP, hD, by rw [ht99]; exact hzz1, by rw [ht99]; exact hzz2⟩, hS.F ht99⟩) hS.2.2 dX0_single_139
  refine lv_tableOut (tgt := 140) hx hb dX0_single_4 (sw_out8 h1 h23 h27 h31 h47 h63 h67 h83 h87) (by decide) ?_
  refine lv_bipush (v := 63) hx hb dX0_single_140 (by decide) ?_
  refine W_size (fun hz1 hz2 => ?_)
  refine vx_ret ?_
  have hz115 : BdE K K := BdE.rfl
  have hz116 : Bth B B := (show Thx (upd (upd (upd F 2 (nI sz)) 5 (nI cs)) 12 (nI vr)) (upd (upd (upd F 2 (nI sz)) 5 (nI cs)) 12 (nI vr)) B B from Thx.rfl).2
  have hz117 : cs ≤ 10000 := (by omega)
  have hO : OKP G h0 a (upd (upd (upd (upd (upd (upd F 2 (nI sz)) 5 (nI cs)) 12 (nI vr)) 13 (F 13)) 14 (F 14)) 15 (F 15)) (updR (updR R 2 (.ref pq)) 3 (.ref mq)) Z B J K w := hO.to rfl
  refine W.widen (k := 1) (n := 6) (by omega) (by omega) ?_
  have hzz1 : s.heap.size ≤ s.heap.size + (0) := (by have z : 0 ≤ 0 := (by omega); omega)
  have hzz2 : hSl s.heap ≤ hSl s.heap + (0) := (by have z : 0 ≤ 0 := (by omega); omega)
  exact W.iret (v := 63) hx hb hr (fun t99 ht99 hW99 => ⟨⟨_, (w, (K, B, cs, (F 13), (F 14), (F 15), (63 : Int32))), rfl, ⟨rfl, hz115, hz116, hz117, hO⟩, by rw [ht99]; exact hP, hD, by rw [ht99]; exact hzz1, by rw [ht99]; exact hzz2⟩, hS.F ht99⟩) hS.2.2 dX0_single_142
theorem dX0_fieldBehind_0 : decode cX0_fieldBehind 0 = .ok (.aload_n 0, 1) := by decide +kernel
theorem dX0_fieldBehind_1 : decode cX0_fieldBehind 1 = .ok (.getfield 29, 3) := by decide +kernel
theorem dX0_fieldBehind_4 : decode cX0_fieldBehind 4 = .ok (.aload_n 0, 1) := by decide +kernel
theorem dX0_fieldBehind_5 : decode cX0_fieldBehind 5 = .ok (.aload_n 1, 1) := by decide +kernel
theorem dX0_fieldBehind_6 : decode cX0_fieldBehind 6 = .ok (.getfield 165, 3) := by decide +kernel
theorem dX0_fieldBehind_9 : decode cX0_fieldBehind 9 = .ok (.invokevirtual 209, 3) := by decide +kernel
theorem dX0_fieldBehind_12 : decode cX0_fieldBehind 12 = .ok (.invokevirtual 44, 3) := by decide +kernel
theorem dX0_fieldBehind_15 : decode cX0_fieldBehind 15 = .ok (.astore_n 2, 1) := by decide +kernel
theorem dX0_fieldBehind_16 : decode cX0_fieldBehind 16 = .ok (.aload_n 2, 1) := by decide +kernel
theorem dX0_fieldBehind_17 : decode cX0_fieldBehind 17 = .ok (.ifnull 10, 3) := by decide +kernel
theorem dX0_fieldBehind_27 : decode cX0_fieldBehind 27 = .ok (.aload_n 0, 1) := by decide +kernel
theorem dX0_fieldBehind_28 : decode cX0_fieldBehind 28 = .ok (.getfield 9, 3) := by decide +kernel
theorem dX0_fieldBehind_31 : decode cX0_fieldBehind 31 = .ok (.bipush 11, 2) := by decide +kernel
theorem dX0_fieldBehind_33 : decode cX0_fieldBehind 33 = .ok (.aload_n 1, 1) := by decide +kernel
theorem dX0_fieldBehind_34 : decode cX0_fieldBehind 34 = .ok (.getfield 165, 3) := by decide +kernel
theorem dX0_fieldBehind_37 : decode cX0_fieldBehind 37 = .ok (.getfield 117, 3) := by decide +kernel
theorem dX0_fieldBehind_40 : decode cX0_fieldBehind 40 = .ok (.invokevirtual 136, 3) := by decide +kernel
theorem dX0_fieldBehind_20 : decode cX0_fieldBehind 20 = .ok (.aload_n 2, 1) := by decide +kernel
theorem dX0_fieldBehind_21 : decode cX0_fieldBehind 21 = .ok (.getfield 280, 3) := by decide +kernel
theorem dX0_fieldBehind_24 : decode cX0_fieldBehind 24 = .ok (.ifCond .eq 19, 3) := by decide +kernel
theorem dX0_fieldBehind_43 : decode cX0_fieldBehind 43 = .ok (.aload_n 0, 1) := by decide +kernel
theorem dX0_fieldBehind_44 : decode cX0_fieldBehind 44 = .ok (.aload_n 2, 1) := by decide +kernel
theorem dX0_fieldBehind_45 : decode cX0_fieldBehind 45 = .ok (.aload_n 1, 1) := by decide +kernel
theorem dX0_fieldBehind_46 : decode cX0_fieldBehind 46 = .ok (.invokevirtual 233, 3) := by decide +kernel
theorem dX0_fieldBehind_49 : decode cX0_fieldBehind 49 = .ok (.ireturn, 1) := by decide +kernel
set_option maxHeartbeats 16000000 in
set_option maxRecDepth 100000 in
theorem B_fieldBehind (l : Launch) (G : pT) (h0 : Nat) (a : Nat → Nat) (F : Nat → Int32) (R : Nat → Value) (Z : Int64) (B : Nat → Nat → Int32) (J : Nat → Nat → Int64) (K : PK) (w : va_W) (pq : Nat) (dr : Nat) (ml : Nat) (nd : Nat) (nm : Nat) (cp : Nat) (it : Nat → Nat) (s9 : Nat) (q : Nat) (mq : Nat) (cs : Nat) (vr : Nat) (sz : Nat) (n : Nat) (q1 : Nat) (g : Nat → Nat → Nat) (rk : Nat → Nat) (hsz : sz ≤ 5000) (hwp : WPr G K g) (hps : PgT G K g (a 1) pq dr ml nd nm cp it s9) (hrk : RkO K rk) (hcs : cs ≤ 10000) (hvr : vr ≤ 30) (hng : Nng (B 18)) (hmq : K.1 mq = 3) (hqT : K.1 q = 1) (hqL : 1 ≤ g 0 q ∧ g 0 q ≤ n) (hc0 : K.2.2.1 0 q = some q1) (ht0 : K.1 q1 = 1) (hv0 : 1 ≤ g 0 q1 ∧ g 0 q1 + 1 ≤ n) (ihv : IhV l G n) (hO : OKP G h0 a (upd (upd (upd F 2 (nI sz)) 5 (nI cs)) 12 (nI vr)) (updR (updR R 2 (.ref pq)) 3 (.ref mq)) Z B J K w) (hl0 : l.stackTraces = false) : PBn l G pX0 yX0_fieldBehind cX0_fieldBehind 3 (some .int) ({ frames := (5 * n + 33), cells := 1, slots := 6, locals := (200 * n + 560) }) [.ref (a 4), .ref q] w (fun (v : Option Value) (u : va_W × (PK × (Nat → Nat → Int32) × Nat × Int32 × Int32 × Int32 × Int32)) => v = some (.int u.2.2.2.2.2.2.2) ∧ (BdE K u.2.1) ∧ (Bth B u.2.2.1) ∧ (u.2.2.2.1 ≤ 10000) ∧ (OKP G h0 a (upd (upd (upd (upd (upd (upd F 2 (nI sz)) 5 (nI u.2.2.2.1)) 12 (nI vr)) 13 u.2.2.2.2.1) 14 u.2.2.2.2.2.1) 15 u.2.2.2.2.2.2.1) (updR (updR R 2 (.ref pq)) 3 (.ref mq)) Z u.2.2.1 J u.2.1 u.1)) (fun u => u.1) (fun (u : va_W × (PK × (Nat → Nat → Int32) × Nat × Int32 × Int32 × Int32 × Int32)) => 0) (fun (u : va_W × (PK × (Nat → Nat → Int32) × Nat × Int32 × Int32 × Int32 × Int32)) => 0) (fun (u : va_W × (Nat → Int32) × (Nat → Value) × (Nat → Nat → Int32)) => ThQ G h0 a (upd (upd (upd F 2 (nI sz)) 5 (nI cs)) 12 (nI vr)) (updR (updR R 2 (.ref pq)) 3 (.ref mq)) Z B J u) (fun u => u.1) := by
  intro sz
  refine vx_ofW (cc := cX0_fieldBehind) (maxL := 3) (ret := (some .int)) (by decide) rfl ?_
  intro p e s m args below meth c s₁ B9 hml hnt hv
  obtain ⟨rfl, hsz, hP, hD0, hE, hX⟩ := hv
  have hx := B9.exec
  have hb := B9.bytes
  have hr := B9.returns
  have hts := atoms_spec (ws := Cond.code yX0_fieldBehind cX0_fieldBehind 3 (some .int) :: pw) B9.pre
  have hq : ∀ w ∈ pw, w.before _ s = true := fun w h => hts w (List.mem_cons_of_mem _ h)
  have hown : s.vm.findClass RX0 = some m.cls := findClass_of_methodNamed B9.named
  have hlocks := B9.notSynchronized
  subst hsz
  have hD := hD0.self (sz := s.heap.size)
  have hA : ∀ q : Nat, s.heap.size ≤ q → va_A w s.heap.size q := fun q h => Or.inr h
  generalize va_A w s.heap.size = A at hD hE hA ⊢
  have hS : va_S A s.heap s.heap [] := va_S.rf
  have hl := lv_entry ([.ref (a 4), .ref q]) (n := 3) (Nat.le_of_ble_eq_true rfl)
  rw [lg_entry_eq]
  generalize (lg_sl ([.ref (a 4), .ref q]) ++ List.replicate (3 - (lg_sl ([.ref (a 4), .ref q])).length) Slot.unset).toArray = ls at hl ⊢
  have hl : lv_has ls 3 [(0, .ref (a 4)), (1, .ref q)] := hl
  have hpg := hps.1
  have hp1 := hpg.1
  have hp2 := hpg.2.1
  have hp3 := hpg.2.2.1
  have hp4 := hpg.2.2.2.1
  have hp5 := hpg.2.2.2.2.1
  have hp6 := hpg.2.2.2.2.2.1
  have hp8 := hpg.2.2.2.2.2.2.2.1
  have hp9 := hpg.2.2.2.2.2.2.2.2
  refine lv_aload_n hx hb dX0_fieldBehind_0 rfl (lv_at hl 0 rfl) ?_
  refine c_get (v := .ref pq) (C := RX0) (Tc := TX0) (N := 13) (ci := 0) hx hb hq pin_wsX00 hown hE hP hO 24 (sg_24 G h0 a _ _ _ _ _) rfl 6 (by decide) (hq _ pw_110) (fun _ h9 => h9) rfl dX0_fieldBehind_1 ?_
  refine lv_aload_n hx hb dX0_fieldBehind_4 rfl (lv_at hl 0 rfl) ?_
  refine lv_aload_n hx hb dX0_fieldBehind_5 rfl (lv_at hl 1 rfl) ?_
  refine p_get (v := .ref q1) (C := RX7) (Tc := TX7) (N := 11) (ci := 13) hx hb hq pin_wsX70 hown hE hP hO (by rw [hqT]; decide) (rep_1 hqT) rfl 6 (by decide) (hq _ pw_180) (fun _ h9 => h9) (congrArg (fun z => some (va_rf z)) hc0) dX0_fieldBehind_6 ?_
  have hO : OKP G h0 a (upd (upd (upd (upd (upd (upd F 2 (nI sz)) 5 (nI cs)) 12 (nI vr)) 2 (nI sz)) 5 (nI cs)) 12 (nI vr)) (updR (updR (updR (updR R 2 (.ref pq)) 3 (.ref mq)) 2 (.ref pq)) 3 (.ref mq)) Z B J K w := hO.to rfl
  obtain ⟨_, qr4, hqr5⟩ := hO.2.1 24 _ (sg_24 G h0 a _ _ _ _ _)
  refine pn_V0 (G := G) (As := [.ref q1]) (rest := [.ref pq]) hx hb hml hown hq hE hX pX0_al hP hD hS hA hl.1 ((ihv (by omega)) h0 a (upd (upd (upd F 2 (nI sz)) 5 (nI cs)) 12 (nI vr)) (updR (updR R 2 (.ref pq)) 3 (.ref mq)) Z B J K w pq dr ml nd nm cp it s9 q1 mq cs vr sz g rk (by omega) (BdE.wp BdE.rfl hwp) (BdE.pt BdE.rfl hwp hps) (BdE.rko BdE.rfl hrk) (by omega) (by omega) hng hmq ht0 ⟨hv0.1, (by have z9 := hv0; omega)⟩ hO hl0) (gV pw_173 pw_174 pw_175 pw_63 pw_224) hV_X0_value qr4 0 hqr5 rfl rfl rfl (Nat.le_of_ble_eq_true rfl) dX0_fieldBehind_9 ⟨(by show 0 + 1 ≤ 1; omega), (by show 0 + 6 ≤ 6; omega)⟩ ⟨(by show (5 * (n - 1) + 34) + 1 ≤ (5 * n + 33); omega), (by show 8 + (3 + 11) + (200 * (n - 1) + 600) ≤ (200 * n + 560); omega)⟩ (fun v3 u1 H locs hw2 hP hD hS => ?_) (fun ux ce9 q9 H9 locs9 hux hP9 hD9 hS9 hce hcv hcl => pb_out ux (ThQ.up (Thx.same (Thx.same (Thx.same Thx.rfl rfl) rfl) rfl) (show RhX (updR (updR R 2 (.ref pq)) 3 (.ref mq)) (updR (updR (updR (updR R 2 (.ref pq)) 3 (.ref mq)) 2 (.ref pq)) 3 (.ref mq)) from fun k9 hk9 => by unfold updR; simp only [show ¬ k9 = 1 by omega, show ¬ k9 = 2 by omega, show ¬ k9 = 3 by omega, show ¬ k9 = 4 by omega, if_false]) hux) hnt hlocks hce hcv hcl hP9 hD9 hS9 (by show 0 + 1 ≤ 1; omega) (by show 0 + 6 ≤ 6; omega))
  obtain ⟨w, K6, B7, cs8, as9, wt10, wf11, r12⟩ := u1
  obtain ⟨hw2, h13, h14, h15, hO⟩ := hw2
  have h13 : BdE K K6 := h13
  have h14 : Bth B B7 := h14
  have h15 : cs8 ≤ 10000 := h15
  obtain rfl : v3 = some (.int r12) := hw2
  have hf16 : K6.1 pq = 7 := (BdE.T h13 hp1 (by decide))
  have hf17 : K6.2.2.1 18 pq = some (a 1) := (BdE.C h13 (by rw [hp1]; decide) 18).trans hp2
  have hf18 : K6.2.2.1 14 pq = some dr := (BdE.C h13 (by rw [hp1]; decide) 14).trans hp3
  have hf19 : K6.1 dr = 8 := (BdE.T h13 hp4 (by decide))
  have hf20 : K6.2.2.1 15 pq = some ml := (BdE.C h13 (by rw [hp1]; decide) 15).trans hp5
  have hf21 : K6.1 ml = 5 := (BdE.T h13 hp6 (by decide))
  have hf22 : K6.2.1 24 pq = (nI nd) := (BdE.I h13 (by rw [hp1]; decide) (by decide) (by decide)).trans hp8
  have hf23 : K6.1 q = 1 := (BdE.T h13 hqT (by decide))
  have hf24 : K6.1 mq = 3 := (BdE.T h13 hmq (by decide))
  have hf25 : K6.2.2.1 0 q = some q1 := (BdE.C h13 (by rw [hqT]; decide) 0).trans hc0
  have hf26 : K6.1 q1 = 1 := (BdE.T h13 ht0 (by decide))
  have hO : OKP G h0 a (upd (upd (upd (upd (upd (upd F 2 (nI sz)) 5 (nI cs8)) 12 (nI vr)) 13 as9) 14 wt10) 15 wf11) (updR (updR R 2 (.ref pq)) 3 (.ref mq)) Z B7 J K6 w := hO.to rfl
  refine W.widen (k := 0) (n := 0) (by show 0 + 0 ≤ 0; omega) (by show 0 + 0 ≤ 0; omega) ?_
  refine W.eq (g2 := F0 m 12 ls [.int r12, .ref pq]) rfl ?_
  have hbe27 := BdE.trans BdE.rfl h13
  have hbb28 : Bth B B7 := Bth.trans (show Thx (upd (upd (upd F 2 (nI sz)) 5 (nI cs)) 12 (nI vr)) (upd (upd (upd F 2 (nI sz)) 5 (nI cs)) 12 (nI vr)) B B from Thx.rfl).2 h14
  have hng29 : Nng (B7 18) := h14.2 hng
  have hO : OKP G h0 a (upd (upd (upd (upd (upd (upd F 2 (nI sz)) 5 (nI cs8)) 12 (nI vr)) 13 as9) 14 wt10) 15 wf11) (updR (updR R 2 (.ref pq)) 3 (.ref mq)) Z B7 J K6 w := hO.to rfl
  obtain ⟨qr33, hqr34⟩ := p_recv hO (by rw [hf16]; decide) (rep_7 hf16)
  refine pc_V0 (G := G) (As := [.int r12]) (rest := []) hx hb hml hown hq hE hX pX0_al hP hD hS hA hl.1 (G_decl l G h0 a (upd (upd (upd (upd (upd (upd F 2 (nI sz)) 5 (nI cs8)) 12 (nI vr)) 13 as9) 14 wt10) 15 wf11) (updR (updR R 2 (.ref pq)) 3 (.ref mq)) Z B7 J K6 w pq dr ml nd r12 g (BdE.pt hbe27 hwp hps).1 (BdE.pt hbe27 hwp hps).2.1 hO) (gV pw_181 pw_182 pw_183 pw_106 pw_13) hV_X9_decl qr33 6 hqr34 rfl rfl rfl (Nat.le_of_ble_eq_true rfl) dX0_fieldBehind_12 ⟨(by show 0 + 0 ≤ 1; omega), (by show 0 + 0 ≤ 6; omega)⟩ ⟨(by show 2 + 1 ≤ (5 * n + 33); omega), (by show 8 + (2 + 11) + 60 ≤ (200 * n + 560); omega)⟩ (fun v32 u30 H locs hw31 hP hD hS => ?_)
  obtain ⟨w, o35⟩ := u30
  obtain ⟨hw31, h36, h37, hO⟩ := hw31
  have h36 : DoN K6 o35 := h36
  have h37 : DoK K6 dr nd r12 o35 := h37
  obtain rfl : v32 = some ((va_rf o35)) := hw31
  have hO : OKP G h0 a (upd (upd (upd (upd (upd (upd F 2 (nI sz)) 5 (nI cs8)) 12 (nI vr)) 13 as9) 14 wt10) 15 wf11) (updR (updR R 2 (.ref pq)) 3 (.ref mq)) Z B7 J K6 w := hO.to rfl
  refine W.widen (k := 0) (n := 0) (Nat.le_of_ble_eq_true rfl) (Nat.le_of_ble_eq_true rfl) ?_
  refine W.eq (g2 := F0 m 15 ls [(va_rf o35)]) rfl ?_
  rcases o35 with _ | d38
  · have hl : lv_has ls 3 [(0, .ref (a 4)), (1, .ref q)] := hl
    refine W.eq (g2 := F0 m 15 ls [.null]) rfl ?_
    refine lv_astore_nN (lv' := [(2, .null), (0, .ref (a 4)), (1, .ref q)]) hx hb dX0_fieldBehind_15 rfl hl (by decide) rfl (fun ls hl => ?_)
    refine lv_aload_nN hx hb dX0_fieldBehind_16 rfl (lv_at hl 0 rfl) ?_
    refine lv_ifnullN (tgt := 27) hx hb dX0_fieldBehind_17 (by decide) ?_
    refine lv_aload_n hx hb dX0_fieldBehind_27 rfl (lv_at hl 1 rfl) ?_
    refine c_get (v := .ref (a 1)) (C := RX0) (Tc := TX0) (N := 13) (ci := 0) hx hb hq pin_wsX00 hown hE hP hO 24 (sg_24 G h0 a _ _ _ _ _) rfl 0 (by decide) (hq _ pw_4) (fun _ h9 => h9) rfl dX0_fieldBehind_28 ?_
    refine lv_bipush (v := 11) hx hb dX0_fieldBehind_31 (by decide) ?_
    refine lv_aload_n hx hb dX0_fieldBehind_33 rfl (lv_at hl 2 rfl) ?_
    refine p_get (v := .ref q1) (C := RX7) (Tc := TX7) (N := 11) (ci := 13) hx hb hq pin_wsX70 hown hE hP hO (by rw [hf23]; decide) (rep_1 hf23) rfl 6 (by decide) (hq _ pw_180) (fun _ h9 => h9) (congrArg (fun z => some (va_rf z)) hf25) dX0_fieldBehind_34 ?_
    refine p_get (v := .int (K6.2.1 2 q1)) (C := RX7) (Tc := TX7) (N := 11) (ci := 13) hx hb hq pin_wsX70 hown hE hP hO (by rw [hf26]; decide) (rep_1 hf26) rfl 2 (by decide) (hq _ pw_82) (fun _ h9 => h9) rfl dX0_fieldBehind_37 ?_
    have hO : OKW G h0 a (upd (upd (upd (upd (upd (upd (upd (upd F 2 (nI sz)) 5 (nI cs)) 12 (nI vr)) 5 (nI cs8)) 13 as9) 14 wt10) 15 wf11) 2 (nI sz)) (updR (updR R 2 (.ref pq)) 3 (.ref mq)) Z B7 J K6.1 (fun q99 x99 => x99 = rep G a K6 q99) w := hO.to rfl
    obtain ⟨_, qr42, hqr43⟩ := hO.2.1 2 _ (sg_2 G h0 a _ _ _ _ _)
    refine pn_V0 (G := G) (As := [.int 11, .int (K6.2.1 2 q1)]) (rest := []) hx hb hml hown hq hE hX pX0_al hP hD hS hA hl.1 (K_fail l G h0 a (upd (upd (upd (upd (upd (upd (upd F 2 (nI sz)) 5 (nI cs)) 12 (nI vr)) 5 (nI cs8)) 13 as9) 14 wt10) 15 wf11) (updR (updR R 2 (.ref pq)) 3 (.ref mq)) Z B7 J K6.1 (fun q99 x99 => x99 = rep G a K6 q99) w 11 (K6.2.1 2 q1) sz (by omega) hO hl0) (gV pw_64 pw_65 pw_66 pw_59 pw_43) hV_X10_fail qr42 7 hqr43 rfl rfl rfl (Nat.le_of_ble_eq_true rfl) dX0_fieldBehind_40 ⟨(by show 0 + 1 ≤ 1; omega), (by show 0 + 6 ≤ 6; omega)⟩ ⟨(by show 6 + 1 ≤ (5 * n + 33); omega), (by show 8 + (3 + 11) + 100 ≤ (200 * n + 560); omega)⟩ (fun v41 u39 H locs hw40 hP hD hS => hw40.elim) (fun ux ce9 q9 H9 locs9 hux hP9 hD9 hS9 hce hcv hcl => pb_out ux (ThQ.up (Thx.same (Thx.f (Thx.f (Thx.f (Thx.f (Bth.thx hbb28) (by omega)) (by omega)) (by omega)) (by omega)) rfl) RhX.rfl hux) hnt hlocks hce hcv hcl hP9 hD9 hS9 (by show 0 + 1 ≤ 1; omega) (by show 0 + 6 ≤ 6; omega))
  · have hl : lv_has ls 3 [(0, .ref (a 4)), (1, .ref q)] := hl
    refine W.eq (g2 := F0 m 15 ls [.ref d38]) rfl ?_
    have hf44 : K6.1 d38 = 4 := h36 d38 rfl
    refine lv_astore_n (lv' := [(2, .ref d38), (0, .ref (a 4)), (1, .ref q)]) hx hb dX0_fieldBehind_15 rfl hl (by decide) rfl (fun ls hl => ?_)
    refine lv_aload_n hx hb dX0_fieldBehind_16 rfl (lv_at hl 0 rfl) ?_
    refine lv_ifnull hx hb dX0_fieldBehind_17 ?_
    refine lv_aload_n hx hb dX0_fieldBehind_20 rfl (lv_at hl 0 rfl) ?_
    refine p_get (v := .int (K6.2.1 18 d38)) (C := RX2) (Tc := TX2) (N := 13) (ci := 2) hx hb hq pin_wsX20 hown hE hP hO (by rw [hf44]; decide) (rep_4 hf44) rfl 3 (by decide) (hq _ pw_211) (fun _ h9 => h9) rfl dX0_fieldBehind_21 ?_
    refine lv_if_eq (tgt := 43) hx hb dX0_fieldBehind_24 (by decide) (fun c45 => ?_) (fun c45 => ?_)
    · refine lv_aload_n hx hb dX0_fieldBehind_43 rfl (lv_at hl 1 rfl) ?_
      refine lv_aload_n hx hb dX0_fieldBehind_44 rfl (lv_at hl 0 rfl) ?_
      refine lv_aload_n hx hb dX0_fieldBehind_45 rfl (lv_at hl 2 rfl) ?_
      have hO : OKP G h0 a (upd (upd (upd (upd (upd (upd (upd (upd F 2 (nI sz)) 5 (nI cs)) 12 (nI vr)) 5 (nI cs8)) 13 as9) 14 wt10) 15 wf11) 2 (nI sz)) (updR (updR R 2 (.ref pq)) 3 (.ref mq)) Z B7 J K6 w := hO.to rfl
      obtain ⟨_, qr49, hqr50⟩ := hO.2.1 24 _ (sg_24 G h0 a _ _ _ _ _)
      refine pn_V0 (G := G) (As := [.ref d38, .ref q]) (rest := []) hx hb hml hown hq hE hX pX0_al hP hD hS hA hl.1 (B_fieldType l G h0 a (upd (upd (upd (upd (upd (upd (upd F 2 (nI sz)) 5 (nI cs)) 12 (nI vr)) 5 (nI cs8)) 13 as9) 14 wt10) 15 wf11) (updR (updR R 2 (.ref pq)) 3 (.ref mq)) Z B7 J K6 w d38 q sz g (by omega) (BdE.wp hbe27 hwp) hf44 hf23 hO hl0) (gV pw_162 pw_163 pw_164 pw_63 pw_147) hV_X0_fieldType qr49 0 hqr50 rfl rfl rfl (Nat.le_of_ble_eq_true rfl) dX0_fieldBehind_46 ⟨(by show 0 + 1 ≤ 1; omega), (by show 0 + 6 ≤ 6; omega)⟩ ⟨(by show 7 + 1 ≤ (5 * n + 33); omega), (by show 8 + (4 + 11) + 146 ≤ (200 * n + 560); omega)⟩ (fun v48 u46 H locs hw47 hP hD hS => ?_) (fun ux ce9 q9 H9 locs9 hux hP9 hD9 hS9 hce hcv hcl => pb_out ux (ThQ.up (Thx.same (Thx.f (Thx.f (Thx.f (Thx.f (Bth.thx hbb28) (by omega)) (by omega)) (by omega)) (by omega)) rfl) RhX.rfl hux) hnt hlocks hce hcv hcl hP9 hD9 hS9 (by show 0 + 1 ≤ 1; omega) (by show 0 + 6 ≤ 6; omega))
      obtain ⟨w, K51, r52⟩ := u46
      obtain ⟨hw47, h53, hO⟩ := hw47
      have h53 : BdE K6 K51 := h53
      obtain rfl : v48 = some (.int r52) := hw47
      have hf54 : K51.1 pq = 7 := (BdE.T h53 hf16 (by decide))
      have hf55 : K51.2.2.1 18 pq = some (a 1) := (BdE.C h53 (by rw [hf16]; decide) 18).trans hf17
      have hf56 : K51.2.2.1 14 pq = some dr := (BdE.C h53 (by rw [hf16]; decide) 14).trans hf18
      have hf57 : K51.1 dr = 8 := (BdE.T h53 hf19 (by decide))
      have hf58 : K51.2.2.1 15 pq = some ml := (BdE.C h53 (by rw [hf16]; decide) 15).trans hf20
      have hf59 : K51.1 ml = 5 := (BdE.T h53 hf21 (by decide))
      have hf60 : K51.2.1 24 pq = (nI nd) := (BdE.I h53 (by rw [hf16]; decide) (by decide) (by decide)).trans hf22
      have hf61 : K51.1 q = 1 := (BdE.T h53 hf23 (by decide))
      have hf62 : K51.1 mq = 3 := (BdE.T h53 hf24 (by decide))
      have hf63 : K51.2.2.1 0 q = some q1 := (BdE.C h53 (by rw [hf23]; decide) 0).trans hf25
      have hf64 : K51.1 q1 = 1 := (BdE.T h53 hf26 (by decide))
      have hf65 : K51.1 d38 = 4 := (BdE.T h53 hf44 (by decide))
      have hO : OKP G h0 a (upd (upd (upd (upd (upd (upd F 2 (nI sz)) 5 (nI cs8)) 12 (nI vr)) 13 as9) 14 wt10) 15 wf11) (updR (updR R 2 (.ref pq)) 3 (.ref mq)) Z B7 J K51 w := hO.to rfl
      refine W.widen (k := 0) (n := 0) (by show 0 + 0 ≤ 0; omega) (by show 0 + 0 ≤ 0; omega) ?_
      refine W.eq (g2 := F0 m 49 ls [.int r52]) rfl ?_
      have hbe66 := BdE.trans hbe27 h53
      refine W_size (fun hz1 hz2 => ?_)
      refine vx_ret ?_
      have hz67 : BdE K K51 := hbe66
      have hz68 : Bth B B7 := (show Thx (upd (upd (upd F 2 (nI sz)) 5 (nI cs)) 12 (nI vr)) (upd (upd (upd (upd (upd (upd (upd F 2 (nI sz)) 5 (nI cs)) 12 (nI vr)) 5 (nI cs8)) 13 as9) 14 wt10) 15 wf11) B B7 from (Thx.f (Thx.f (Thx.f (Thx.f (Bth.thx hbb28) (by omega)) (by omega)) (by omega)) (by omega))).2
      have hz69 : cs8 ≤ 10000 := (by omega)
      have hO : OKP G h0 a (upd (upd (upd (upd (upd (upd F 2 (nI sz)) 5 (nI cs8)) 12 (nI vr)) 13 as9) 14 wt10) 15 wf11) (updR (updR R 2 (.ref pq)) 3 (.ref mq)) Z B7 J K51 w := hO.to rfl
      refine W.widen (k := 1) (n := 6) (by omega) (by omega) ?_
      have hzz1 : H.size ≤ s.heap.size + (0) := (by have z : 0 ≤ 0 := (by omega); omega)
      have hzz2 : hSl H ≤ hSl s.heap + (0) := (by have z : 0 ≤ 0 := (by omega); omega)
      exact W.iret (v := r52) hx hb hr (fun t99 ht99 hW99 => ⟨⟨_, (w, (K51, B7, cs8, as9, wt10, wf11, r52)), rfl, ⟨rfl, hz67, hz68, hz69, hO⟩, by rw [ht99]; exact hP, hD, by rw [ht99]; exact hzz1, by rw [ht99]; exact hzz2⟩, hS.F ht99⟩) hS.2.2 dX0_fieldBehind_49
    · refine lv_aload_n hx hb dX0_fieldBehind_27 rfl (lv_at hl 1 rfl) ?_
      refine c_get (v := .ref (a 1)) (C := RX0) (Tc := TX0) (N := 13) (ci := 0) hx hb hq pin_wsX00 hown hE hP hO 24 (sg_24 G h0 a _ _ _ _ _) rfl 0 (by decide) (hq _ pw_4) (fun _ h9 => h9) rfl dX0_fieldBehind_28 ?_
      refine lv_bipush (v := 11) hx hb dX0_fieldBehind_31 (by decide) ?_
      refine lv_aload_n hx hb dX0_fieldBehind_33 rfl (lv_at hl 2 rfl) ?_
      refine p_get (v := .ref q1) (C := RX7) (Tc := TX7) (N := 11) (ci := 13) hx hb hq pin_wsX70 hown hE hP hO (by rw [hf23]; decide) (rep_1 hf23) rfl 6 (by decide) (hq _ pw_180) (fun _ h9 => h9) (congrArg (fun z => some (va_rf z)) hf25) dX0_fieldBehind_34 ?_
      refine p_get (v := .int (K6.2.1 2 q1)) (C := RX7) (Tc := TX7) (N := 11) (ci := 13) hx hb hq pin_wsX70 hown hE hP hO (by rw [hf26]; decide) (rep_1 hf26) rfl 2 (by decide) (hq _ pw_82) (fun _ h9 => h9) rfl dX0_fieldBehind_37 ?_
      have hO : OKW G h0 a (upd (upd (upd (upd (upd (upd (upd (upd F 2 (nI sz)) 5 (nI cs)) 12 (nI vr)) 5 (nI cs8)) 13 as9) 14 wt10) 15 wf11) 2 (nI sz)) (updR (updR R 2 (.ref pq)) 3 (.ref mq)) Z B7 J K6.1 (fun q99 x99 => x99 = rep G a K6 q99) w := hO.to rfl
      obtain ⟨_, qr73, hqr74⟩ := hO.2.1 2 _ (sg_2 G h0 a _ _ _ _ _)
      refine pn_V0 (G := G) (As := [.int 11, .int (K6.2.1 2 q1)]) (rest := []) hx hb hml hown hq hE hX pX0_al hP hD hS hA hl.1 (K_fail l G h0 a (upd (upd (upd (upd (upd (upd (upd F 2 (nI sz)) 5 (nI cs)) 12 (nI vr)) 5 (nI cs8)) 13 as9) 14 wt10) 15 wf11) (updR (updR R 2 (.ref pq)) 3 (.ref mq)) Z B7 J K6.1 (fun q99 x99 => x99 = rep G a K6 q99) w 11 (K6.2.1 2 q1) sz (by omega) hO hl0) (gV pw_64 pw_65 pw_66 pw_59 pw_43) hV_X10_fail qr73 7 hqr74 rfl rfl rfl (Nat.le_of_ble_eq_true rfl) dX0_fieldBehind_40 ⟨(by show 0 + 1 ≤ 1; omega), (by show 0 + 6 ≤ 6; omega)⟩ ⟨(by show 6 + 1 ≤ (5 * n + 33); omega), (by show 8 + (3 + 11) + 100 ≤ (200 * n + 560); omega)⟩ (fun v72 u70 H locs hw71 hP hD hS => hw71.elim) (fun ux ce9 q9 H9 locs9 hux hP9 hD9 hS9 hce hcv hcl => pb_out ux (ThQ.up (Thx.same (Thx.f (Thx.f (Thx.f (Thx.f (Bth.thx hbb28) (by omega)) (by omega)) (by omega)) (by omega)) rfl) RhX.rfl hux) hnt hlocks hce hcv hcl hP9 hD9 hS9 (by show 0 + 1 ≤ 1; omega) (by show 0 + 6 ≤ 6; omega))
theorem dX0_check_0 : decode cX0_check 0 = .ok (.aload_n 0, 1) := by decide +kernel
theorem dX0_check_1 : decode cX0_check 1 = .ok (.aload_n 1, 1) := by decide +kernel
theorem dX0_check_2 : decode cX0_check 2 = .ok (.getfield 165, 3) := by decide +kernel
theorem dX0_check_5 : decode cX0_check 5 = .ok (.invokevirtual 209, 3) := by decide +kernel
theorem dX0_check_8 : decode cX0_check 8 = .ok (.invokestatic 372, 3) := by decide +kernel
theorem dX0_check_11 : decode cX0_check 11 = .ok (.ifCond .ne 19, 3) := by decide +kernel
theorem dX0_check_30 : decode cX0_check 30 = .ok (.aload_n 0, 1) := by decide +kernel
theorem dX0_check_31 : decode cX0_check 31 = .ok (.getfield 9, 3) := by decide +kernel
theorem dX0_check_34 : decode cX0_check 34 = .ok (.aload_n 1, 1) := by decide +kernel
theorem dX0_check_35 : decode cX0_check 35 = .ok (.getfield 114, 3) := by decide +kernel
theorem dX0_check_38 : decode cX0_check 38 = .ok (.iconst 1, 1) := by decide +kernel
theorem dX0_check_39 : decode cX0_check 39 = .ok (.iadd, 1) := by decide +kernel
theorem dX0_check_40 : decode cX0_check 40 = .ok (.invokevirtual 120, 3) := by decide +kernel
theorem dX0_check_43 : decode cX0_check 43 = .ok (.istore_n 2, 1) := by decide +kernel
theorem dX0_check_44 : decode cX0_check 44 = .ok (.iload_n 2, 1) := by decide +kernel
theorem dX0_check_45 : decode cX0_check 45 = .ok (.invokestatic 372, 3) := by decide +kernel
theorem dX0_check_48 : decode cX0_check 48 = .ok (.ifCond .ne 18, 3) := by decide +kernel
theorem dX0_check_66 : decode cX0_check 66 = .ok (.aload_n 0, 1) := by decide +kernel
theorem dX0_check_67 : decode cX0_check 67 = .ok (.getfield 9, 3) := by decide +kernel
theorem dX0_check_70 : decode cX0_check 70 = .ok (.aload_n 1, 1) := by decide +kernel
theorem dX0_check_71 : decode cX0_check 71 = .ok (.getfield 114, 3) := by decide +kernel
theorem dX0_check_74 : decode cX0_check 74 = .ok (.invokevirtual 306, 3) := by decide +kernel
theorem dX0_check_77 : decode cX0_check 77 = .ok (.bipush 15, 2) := by decide +kernel
theorem dX0_check_79 : decode cX0_check 79 = .ok (.if_icmp .ne 13, 3) := by decide +kernel
theorem dX0_check_92 : decode cX0_check 92 = .ok (.aload_n 0, 1) := by decide +kernel
theorem dX0_check_93 : decode cX0_check 93 = .ok (.bipush 15, 2) := by decide +kernel
theorem dX0_check_95 : decode cX0_check 95 = .ok (.iload_n 2, 1) := by decide +kernel
theorem dX0_check_96 : decode cX0_check 96 = .ok (.iload_n 2, 1) := by decide +kernel
theorem dX0_check_97 : decode cX0_check 97 = .ok (.invokevirtual 344, 3) := by decide +kernel
theorem dX0_check_100 : decode cX0_check 100 = .ok (.ireturn, 1) := by decide +kernel
theorem dX0_check_82 : decode cX0_check 82 = .ok (.aload_n 0, 1) := by decide +kernel
theorem dX0_check_83 : decode cX0_check 83 = .ok (.bipush 14, 2) := by decide +kernel
theorem dX0_check_85 : decode cX0_check 85 = .ok (.iload_n 2, 1) := by decide +kernel
theorem dX0_check_86 : decode cX0_check 86 = .ok (.bipush 61, 2) := by decide +kernel
theorem dX0_check_88 : decode cX0_check 88 = .ok (.invokevirtual 344, 3) := by decide +kernel
theorem dX0_check_91 : decode cX0_check 91 = .ok (.ireturn, 1) := by decide +kernel
theorem dX0_check_51 : decode cX0_check 51 = .ok (.aload_n 0, 1) := by decide +kernel
theorem dX0_check_52 : decode cX0_check 52 = .ok (.getfield 9, 3) := by decide +kernel
theorem dX0_check_55 : decode cX0_check 55 = .ok (.bipush 11, 2) := by decide +kernel
theorem dX0_check_57 : decode cX0_check 57 = .ok (.aload_n 1, 1) := by decide +kernel
theorem dX0_check_58 : decode cX0_check 58 = .ok (.getfield 114, 3) := by decide +kernel
theorem dX0_check_61 : decode cX0_check 61 = .ok (.iconst 1, 1) := by decide +kernel
theorem dX0_check_62 : decode cX0_check 62 = .ok (.iadd, 1) := by decide +kernel
theorem dX0_check_63 : decode cX0_check 63 = .ok (.invokevirtual 136, 3) := by decide +kernel
theorem dX0_check_14 : decode cX0_check 14 = .ok (.aload_n 0, 1) := by decide +kernel
theorem dX0_check_15 : decode cX0_check 15 = .ok (.getfield 9, 3) := by decide +kernel
theorem dX0_check_18 : decode cX0_check 18 = .ok (.bipush 11, 2) := by decide +kernel
theorem dX0_check_20 : decode cX0_check 20 = .ok (.aload_n 1, 1) := by decide +kernel
theorem dX0_check_21 : decode cX0_check 21 = .ok (.getfield 165, 3) := by decide +kernel
theorem dX0_check_24 : decode cX0_check 24 = .ok (.getfield 117, 3) := by decide +kernel
theorem dX0_check_27 : decode cX0_check 27 = .ok (.invokevirtual 136, 3) := by decide +kernel
set_option maxHeartbeats 16000000 in
set_option maxRecDepth 100000 in
theorem B_check (l : Launch) (G : pT) (h0 : Nat) (a : Nat → Nat) (F : Nat → Int32) (R : Nat → Value) (Z : Int64) (B : Nat → Nat → Int32) (J : Nat → Nat → Int64) (K : PK) (w : va_W) (pq : Nat) (dr : Nat) (ml : Nat) (nd : Nat) (nm : Nat) (cp : Nat) (it : Nat → Nat) (s9 : Nat) (q : Nat) (mq : Nat) (cs : Nat) (vr : Nat) (sz : Nat) (n : Nat) (q1 : Nat) (g : Nat → Nat → Nat) (rk : Nat → Nat) (hsz : sz ≤ 5000) (hwp : WPr G K g) (hps : PgT G K g (a 1) pq dr ml nd nm cp it s9) (hrk : RkO K rk) (hcs : cs ≤ 10000) (hvr : vr ≤ 30) (hng : Nng (B 18)) (hmq : K.1 mq = 3) (hqT : K.1 q = 1) (hqL : 1 ≤ g 0 q ∧ g 0 q ≤ n) (hc0 : K.2.2.1 0 q = some q1) (ht0 : K.1 q1 = 1) (hv0 : 1 ≤ g 0 q1 ∧ g 0 q1 + 1 ≤ n) (ihv : IhV l G n) (hO : OKP G h0 a (upd (upd (upd F 2 (nI sz)) 5 (nI cs)) 12 (nI vr)) (updR (updR R 2 (.ref pq)) 3 (.ref mq)) Z B J K w) (hl0 : l.stackTraces = false) : PBn l G pX0 yX0_check cX0_check 3 (some .int) ({ frames := (5 * n + 33), cells := 1, slots := 6, locals := (200 * n + 560) }) [.ref (a 4), .ref q] w (fun (v : Option Value) (u : va_W × (PK × (Nat → Nat → Int32) × Nat × Int32 × Int32 × Int32 × Int32)) => v = some (.int u.2.2.2.2.2.2.2) ∧ (BdE K u.2.1) ∧ (Bth B u.2.2.1) ∧ (u.2.2.2.1 ≤ 10000) ∧ (OKP G h0 a (upd (upd (upd (upd (upd (upd F 2 (nI sz)) 5 (nI u.2.2.2.1)) 12 (nI vr)) 13 u.2.2.2.2.1) 14 u.2.2.2.2.2.1) 15 u.2.2.2.2.2.2.1) (updR (updR R 2 (.ref pq)) 3 (.ref mq)) Z u.2.2.1 J u.2.1 u.1)) (fun u => u.1) (fun (u : va_W × (PK × (Nat → Nat → Int32) × Nat × Int32 × Int32 × Int32 × Int32)) => 0) (fun (u : va_W × (PK × (Nat → Nat → Int32) × Nat × Int32 × Int32 × Int32 × Int32)) => 0) (fun (u : va_W × (Nat → Int32) × (Nat → Value) × (Nat → Nat → Int32)) => ThQ G h0 a (upd (upd (upd F 2 (nI sz)) 5 (nI cs)) 12 (nI vr)) (updR (updR R 2 (.ref pq)) 3 (.ref mq)) Z B J u) (fun u => u.1) := by
  intro sz
  refine vx_ofW (cc := cX0_check) (maxL := 3) (ret := (some .int)) (by decide) rfl ?_
  intro p e s m args below meth c s₁ B9 hml hnt hv
  obtain ⟨rfl, hsz, hP, hD0, hE, hX⟩ := hv
  have hx := B9.exec
  have hb := B9.bytes
  have hr := B9.returns
  have hts := atoms_spec (ws := Cond.code yX0_check cX0_check 3 (some .int) :: pw) B9.pre
  have hq : ∀ w ∈ pw, w.before _ s = true := fun w h => hts w (List.mem_cons_of_mem _ h)
  have hown : s.vm.findClass RX0 = some m.cls := findClass_of_methodNamed B9.named
  have hlocks := B9.notSynchronized
  subst hsz
  have hD := hD0.self (sz := s.heap.size)
  have hA : ∀ q : Nat, s.heap.size ≤ q → va_A w s.heap.size q := fun q h => Or.inr h
  generalize va_A w s.heap.size = A at hD hE hA ⊢
  have hS : va_S A s.heap s.heap [] := va_S.rf
  have hl := lv_entry ([.ref (a 4), .ref q]) (n := 3) (Nat.le_of_ble_eq_true rfl)
  rw [lg_entry_eq]
  generalize (lg_sl ([.ref (a 4), .ref q]) ++ List.replicate (3 - (lg_sl ([.ref (a 4), .ref q])).length) Slot.unset).toArray = ls at hl ⊢
  have hl : lv_has ls 3 [(0, .ref (a 4)), (1, .ref q)] := hl
  have hpg := hps.1
  have hp1 := hpg.1
  have hp2 := hpg.2.1
  have hp3 := hpg.2.2.1
  have hp4 := hpg.2.2.2.1
  have hp5 := hpg.2.2.2.2.1
  have hp6 := hpg.2.2.2.2.2.1
  have hp8 := hpg.2.2.2.2.2.2.2.1
  have hp9 := hpg.2.2.2.2.2.2.2.2
  refine lv_aload_n hx hb dX0_check_0 rfl (lv_at hl 0 rfl) ?_
  refine lv_aload_n hx hb dX0_check_1 rfl (lv_at hl 1 rfl) ?_
  refine p_get (v := .ref q1) (C := RX7) (Tc := TX7) (N := 11) (ci := 13) hx hb hq pin_wsX70 hown hE hP hO (by rw [hqT]; decide) (rep_1 hqT) rfl 6 (by decide) (hq _ pw_180) (fun _ h9 => h9) (congrArg (fun z => some (va_rf z)) hc0) dX0_check_2 ?_
  have hO : OKP G h0 a (upd (upd (upd (upd (upd (upd F 2 (nI sz)) 5 (nI cs)) 12 (nI vr)) 2 (nI sz)) 5 (nI cs)) 12 (nI vr)) (updR (updR (updR (updR R 2 (.ref pq)) 3 (.ref mq)) 2 (.ref pq)) 3 (.ref mq)) Z B J K w := hO.to rfl
  obtain ⟨_, qr4, hqr5⟩ := hO.2.1 24 _ (sg_24 G h0 a _ _ _ _ _)
  refine pn_V0 (G := G) (As := [.ref q1]) (rest := []) hx hb hml hown hq hE hX pX0_al hP hD hS hA hl.1 ((ihv (by omega)) h0 a (upd (upd (upd F 2 (nI sz)) 5 (nI cs)) 12 (nI vr)) (updR (updR R 2 (.ref pq)) 3 (.ref mq)) Z B J K w pq dr ml nd nm cp it s9 q1 mq cs vr sz g rk (by omega) (BdE.wp BdE.rfl hwp) (BdE.pt BdE.rfl hwp hps) (BdE.rko BdE.rfl hrk) (by omega) (by omega) hng hmq ht0 ⟨hv0.1, (by have z9 := hv0; omega)⟩ hO hl0) (gV pw_173 pw_174 pw_175 pw_63 pw_224) hV_X0_value qr4 0 hqr5 rfl rfl rfl (Nat.le_of_ble_eq_true rfl) dX0_check_5 ⟨(by show 0 + 1 ≤ 1; omega), (by show 0 + 6 ≤ 6; omega)⟩ ⟨(by show (5 * (n - 1) + 34) + 1 ≤ (5 * n + 33); omega), (by show 8 + (3 + 11) + (200 * (n - 1) + 600) ≤ (200 * n + 560); omega)⟩ (fun v3 u1 H locs hw2 hP hD hS => ?_) (fun ux ce9 q9 H9 locs9 hux hP9 hD9 hS9 hce hcv hcl => pb_out ux (ThQ.up (Thx.same (Thx.same (Thx.same Thx.rfl rfl) rfl) rfl) (show RhX (updR (updR R 2 (.ref pq)) 3 (.ref mq)) (updR (updR (updR (updR R 2 (.ref pq)) 3 (.ref mq)) 2 (.ref pq)) 3 (.ref mq)) from fun k9 hk9 => by unfold updR; simp only [show ¬ k9 = 1 by omega, show ¬ k9 = 2 by omega, show ¬ k9 = 3 by omega, show ¬ k9 = 4 by omega, if_false]) hux) hnt hlocks hce hcv hcl hP9 hD9 hS9 (by show 0 + 1 ≤ 1; omega) (by show 0 + 6 ≤ 6; omega))
  obtain ⟨w, K6, B7, cs8, as9, wt10, wf11, r12⟩ := u1
  obtain ⟨hw2, h13, h14, h15, hO⟩ := hw2
  have h13 : BdE K K6 := h13
  have h14 : Bth B B7 := h14
  have h15 : cs8 ≤ 10000 := h15
  obtain rfl : v3 = some (.int r12) := hw2
  have hf16 : K6.1 pq = 7 := (BdE.T h13 hp1 (by decide))
  have hf17 : K6.2.2.1 18 pq = some (a 1) := (BdE.C h13 (by rw [hp1]; decide) 18).trans hp2
  have hf18 : K6.2.2.1 14 pq = some dr := (BdE.C h13 (by rw [hp1]; decide) 14).trans hp3
  have hf19 : K6.1 dr = 8 := (BdE.T h13 hp4 (by decide))
  have hf20 : K6.2.2.1 15 pq = some ml := (BdE.C h13 (by rw [hp1]; decide) 15).trans hp5
  have hf21 : K6.1 ml = 5 := (BdE.T h13 hp6 (by decide))
  have hf22 : K6.2.1 24 pq = (nI nd) := (BdE.I h13 (by rw [hp1]; decide) (by decide) (by decide)).trans hp8
  have hf23 : K6.1 q = 1 := (BdE.T h13 hqT (by decide))
  have hf24 : K6.1 mq = 3 := (BdE.T h13 hmq (by decide))
  have hf25 : K6.2.2.1 0 q = some q1 := (BdE.C h13 (by rw [hqT]; decide) 0).trans hc0
  have hf26 : K6.1 q1 = 1 := (BdE.T h13 ht0 (by decide))
  have hO : OKP G h0 a (upd (upd (upd (upd (upd (upd F 2 (nI sz)) 5 (nI cs8)) 12 (nI vr)) 13 as9) 14 wt10) 15 wf11) (updR (updR R 2 (.ref pq)) 3 (.ref mq)) Z B7 J K6 w := hO.to rfl
  refine W.widen (k := 0) (n := 0) (by show 0 + 0 ≤ 0; omega) (by show 0 + 0 ≤ 0; omega) ?_
  refine W.eq (g2 := F0 m 8 ls [.int r12]) rfl ?_
  have hbe27 := BdE.trans BdE.rfl h13
  have hbb28 : Bth B B7 := Bth.trans (show Thx (upd (upd (upd F 2 (nI sz)) 5 (nI cs)) 12 (nI vr)) (upd (upd (upd F 2 (nI sz)) 5 (nI cs)) 12 (nI vr)) B B from Thx.rfl).2 h14
  have hng29 : Nng (B7 18) := h14.2 hng
  have hO : OKW G h0 a (upd (upd (upd (upd (upd (upd F 2 (nI sz)) 5 (nI cs8)) 12 (nI vr)) 13 as9) 14 wt10) 15 wf11) (updR (updR R 2 (.ref pq)) 3 (.ref mq)) Z B7 J K6.1 (fun q99 x99 => x99 = rep G a K6 q99) w := hO.to rfl
  refine pc_S0 (G := G) (As := [.int r12]) (rest := []) hx hb hml hown hq hE hX pX0_al hP hD hS hA hl.1 (G_isReference l G h0 a (upd (upd (upd (upd (upd (upd F 2 (nI sz)) 5 (nI cs8)) 12 (nI vr)) 13 as9) 14 wt10) 15 wf11) (updR (updR R 2 (.ref pq)) 3 (.ref mq)) Z B7 J K6.1 (fun q99 x99 => x99 = rep G a K6 q99) w r12 hO) (gS pw_191 pw_105 pw_106 pw_100) hS_X9_isReference rfl (Nat.le_of_ble_eq_true rfl) dX0_check_8 ⟨(by show 0 + 0 ≤ 1; omega), (by show 0 + 0 ≤ 6; omega)⟩ ⟨(by show 2 + 1 ≤ (5 * n + 33); omega), (by show 8 + (1 + 11) + 60 ≤ (200 * n + 560); omega)⟩ (fun v32 u30 H locs hw31 hP hD hS => ?_)
  obtain ⟨w, r33⟩ := u30
  obtain ⟨hw31, h34, hO⟩ := hw31
  have h34 : r33 ≤ 1 := h34
  obtain rfl : v32 = some (.int (nI r33)) := hw31
  have hO : OKP G h0 a (upd (upd (upd (upd (upd (upd F 2 (nI sz)) 5 (nI cs8)) 12 (nI vr)) 13 as9) 14 wt10) 15 wf11) (updR (updR R 2 (.ref pq)) 3 (.ref mq)) Z B7 J K6 w := hO.to rfl
  refine W.widen (k := 0) (n := 0) (Nat.le_of_ble_eq_true rfl) (Nat.le_of_ble_eq_true rfl) ?_
  refine W.eq (g2 := F0 m 11 ls [.int (nI r33)]) rfl ?_
  refine lv_if_ne (tgt := 30) hx hb dX0_check_11 (by decide) (fun c35 => ?_) (fun c35 => ?_)
  · have n36 : ¬ (r33 = 0) := fun h9 => c35 ((nI_eq (a := r33) (b := 0) (by omega) (by omega)).mpr h9)
    refine lv_aload_n hx hb dX0_check_30 rfl (lv_at hl 0 rfl) ?_
    refine c_get (v := .ref (a 1)) (C := RX0) (Tc := TX0) (N := 13) (ci := 0) hx hb hq pin_wsX00 hown hE hP hO 24 (sg_24 G h0 a _ _ _ _ _) rfl 0 (by decide) (hq _ pw_4) (fun _ h9 => h9) rfl dX0_check_31 ?_
    refine lv_aload_n hx hb dX0_check_34 rfl (lv_at hl 1 rfl) ?_
    refine p_get (v := .int (K6.2.1 1 q)) (C := RX7) (Tc := TX7) (N := 11) (ci := 13) hx hb hq pin_wsX70 hown hE hP hO (by rw [hf23]; decide) (rep_1 hf23) rfl 1 (by decide) (hq _ pw_81) (fun _ h9 => h9) rfl dX0_check_35 ?_
    refine lv_iconst (v := 1) hx hb dX0_check_38 (by decide) ?_
    refine lv_iadd hx hb dX0_check_39 ?_
    refine lv_topi (fun x37 e38 => ?_)
    have hO : OKW G h0 a (upd (upd (upd (upd (upd (upd (upd F 2 (nI sz)) 5 (nI cs8)) 12 (nI vr)) 13 as9) 14 wt10) 15 wf11) 2 (nI sz)) (updR (updR R 2 (.ref pq)) 3 (.ref mq)) Z B7 J K6.1 (fun q99 x99 => x99 = rep G a K6 q99) w := hO.to rfl
    obtain ⟨_, qr42, hqr43⟩ := hO.2.1 2 _ (sg_2 G h0 a _ _ _ _ _)
    refine pc_V0 (G := G) (As := [.int x37]) (rest := []) hx hb hml hown hq hE hX pX0_al hP hD hS hA hl.1 (K_typeAt l G h0 a (upd (upd (upd (upd (upd (upd F 2 (nI sz)) 5 (nI cs8)) 12 (nI vr)) 13 as9) 14 wt10) 15 wf11) (updR (updR R 2 (.ref pq)) 3 (.ref mq)) Z B7 J K6.1 (fun q99 x99 => x99 = rep G a K6 q99) w x37 sz (by omega) hO) (gV pw_92 pw_93 pw_94 pw_59 pw_36) hV_X10_typeAt qr42 7 hqr43 rfl rfl rfl (Nat.le_of_ble_eq_true rfl) dX0_check_40 ⟨(by show 0 + 0 ≤ 1; omega), (by show 0 + 0 ≤ 6; omega)⟩ ⟨(by show 2 + 1 ≤ (5 * n + 33); omega), (by show 8 + (2 + 11) + 60 ≤ (200 * n + 560); omega)⟩ (fun v41 u39 H locs hw40 hP hD hS => ?_)
    obtain ⟨w, r44⟩ := u39
    obtain ⟨hw40, hO⟩ := hw40
    obtain rfl : v41 = some (.int r44) := hw40
    have hO : OKP G h0 a (upd (upd (upd (upd (upd (upd F 2 (nI sz)) 5 (nI cs8)) 12 (nI vr)) 13 as9) 14 wt10) 15 wf11) (updR (updR R 2 (.ref pq)) 3 (.ref mq)) Z B7 J K6 w := hO.to rfl
    refine W.widen (k := 0) (n := 0) (Nat.le_of_ble_eq_true rfl) (Nat.le_of_ble_eq_true rfl) ?_
    refine W.eq (g2 := F0 m 43 ls [.int r44]) rfl ?_
    refine lv_istore_n (lv' := [(2, .int r44), (0, .ref (a 4)), (1, .ref q)]) hx hb dX0_check_43 rfl hl (by decide) rfl (fun ls hl => ?_)
    refine lv_iload_n hx hb dX0_check_44 rfl (lv_at hl 0 rfl) ?_
    have hO : OKW G h0 a (upd (upd (upd (upd (upd (upd F 2 (nI sz)) 5 (nI cs8)) 12 (nI vr)) 13 as9) 14 wt10) 15 wf11) (updR (updR R 2 (.ref pq)) 3 (.ref mq)) Z B7 J K6.1 (fun q99 x99 => x99 = rep G a K6 q99) w := hO.to rfl
    refine pc_S0 (G := G) (As := [.int r44]) (rest := []) hx hb hml hown hq hE hX pX0_al hP hD hS hA hl.1 (G_isReference l G h0 a (upd (upd (upd (upd (upd (upd F 2 (nI sz)) 5 (nI cs8)) 12 (nI vr)) 13 as9) 14 wt10) 15 wf11) (updR (updR R 2 (.ref pq)) 3 (.ref mq)) Z B7 J K6.1 (fun q99 x99 => x99 = rep G a K6 q99) w r44 hO) (gS pw_191 pw_105 pw_106 pw_100) hS_X9_isReference rfl (Nat.le_of_ble_eq_true rfl) dX0_check_45 ⟨(by show 0 + 0 ≤ 1; omega), (by show 0 + 0 ≤ 6; omega)⟩ ⟨(by show 2 + 1 ≤ (5 * n + 33); omega), (by show 8 + (1 + 11) + 60 ≤ (200 * n + 560); omega)⟩ (fun v47 u45 H locs hw46 hP hD hS => ?_)
    obtain ⟨w, r48⟩ := u45
    obtain ⟨hw46, h49, hO⟩ := hw46
    have h49 : r48 ≤ 1 := h49
    obtain rfl : v47 = some (.int (nI r48)) := hw46
    have hO : OKP G h0 a (upd (upd (upd (upd (upd (upd F 2 (nI sz)) 5 (nI cs8)) 12 (nI vr)) 13 as9) 14 wt10) 15 wf11) (updR (updR R 2 (.ref pq)) 3 (.ref mq)) Z B7 J K6 w := hO.to rfl
    refine W.widen (k := 0) (n := 0) (Nat.le_of_ble_eq_true rfl) (Nat.le_of_ble_eq_true rfl) ?_
    refine W.eq (g2 := F0 m 48 ls [.int (nI r48)]) rfl ?_
    refine lv_if_ne (tgt := 66) hx hb dX0_check_48 (by decide) (fun c50 => ?_) (fun c50 => ?_)
    · have n51 : ¬ (r48 = 0) := fun h9 => c50 ((nI_eq (a := r48) (b := 0) (by omega) (by omega)).mpr h9)
      refine lv_aload_n hx hb dX0_check_66 rfl (lv_at hl 1 rfl) ?_
      refine c_get (v := .ref (a 1)) (C := RX0) (Tc := TX0) (N := 13) (ci := 0) hx hb hq pin_wsX00 hown hE hP hO 24 (sg_24 G h0 a _ _ _ _ _) rfl 0 (by decide) (hq _ pw_4) (fun _ h9 => h9) rfl dX0_check_67 ?_
      refine lv_aload_n hx hb dX0_check_70 rfl (lv_at hl 2 rfl) ?_
      refine p_get (v := .int (K6.2.1 1 q)) (C := RX7) (Tc := TX7) (N := 11) (ci := 13) hx hb hq pin_wsX70 hown hE hP hO (by rw [hf23]; decide) (rep_1 hf23) rfl 1 (by decide) (hq _ pw_81) (fun _ h9 => h9) rfl dX0_check_71 ?_
      have hO : OKW G h0 a (upd (upd (upd (upd (upd (upd (upd F 2 (nI sz)) 5 (nI cs8)) 12 (nI vr)) 13 as9) 14 wt10) 15 wf11) 2 (nI sz)) (updR (updR R 2 (.ref pq)) 3 (.ref mq)) Z B7 J K6.1 (fun q99 x99 => x99 = rep G a K6 q99) w := hO.to rfl
      obtain ⟨_, qr55, hqr56⟩ := hO.2.1 2 _ (sg_2 G h0 a _ _ _ _ _)
      refine pc_V0 (G := G) (As := [.int (K6.2.1 1 q)]) (rest := []) hx hb hml hown hq hE hX pX0_al hP hD hS hA hl.1 (K_kindAt l G h0 a (upd (upd (upd (upd (upd (upd F 2 (nI sz)) 5 (nI cs8)) 12 (nI vr)) 13 as9) 14 wt10) 15 wf11) (updR (updR R 2 (.ref pq)) 3 (.ref mq)) Z B7 J K6.1 (fun q99 x99 => x99 = rep G a K6 q99) w (K6.2.1 1 q) sz (by omega) hO) (gV pw_192 pw_193 pw_194 pw_59 pw_126) hV_X10_kindAt qr55 7 hqr56 rfl rfl rfl (Nat.le_of_ble_eq_true rfl) dX0_check_74 ⟨(by show 0 + 0 ≤ 1; omega), (by show 0 + 0 ≤ 6; omega)⟩ ⟨(by show 2 + 1 ≤ (5 * n + 33); omega), (by show 8 + (2 + 11) + 60 ≤ (200 * n + 560); omega)⟩ (fun v54 u52 H locs hw53 hP hD hS => ?_)
      obtain ⟨w, r57⟩ := u52
      obtain ⟨hw53, h58, hO⟩ := hw53
      have h58 : r57 = 67 ∨ ∃ t : Nat, (K6.2.1 1 q) = nI t ∧ t < sz := h58
      obtain rfl : v54 = some (.int r57) := hw53
      have hO : OKP G h0 a (upd (upd (upd (upd (upd (upd F 2 (nI sz)) 5 (nI cs8)) 12 (nI vr)) 13 as9) 14 wt10) 15 wf11) (updR (updR R 2 (.ref pq)) 3 (.ref mq)) Z B7 J K6 w := hO.to rfl
      refine W.widen (k := 0) (n := 0) (Nat.le_of_ble_eq_true rfl) (Nat.le_of_ble_eq_true rfl) ?_
      refine W.eq (g2 := F0 m 77 ls [.int r57]) rfl ?_
      refine lv_bipush (v := 15) hx hb dX0_check_77 (by decide) ?_
      refine lv_icmp_ne (tgt := 92) hx hb dX0_check_79 (by decide) (fun c59 => ?_) (fun c59 => ?_)
      · refine lv_aload_n hx hb dX0_check_92 rfl (lv_at hl 1 rfl) ?_
        refine lv_bipush (v := 15) hx hb dX0_check_93 (by decide) ?_
        refine lv_iload_n hx hb dX0_check_95 rfl (lv_at hl 0 rfl) ?_
        refine lv_iload_n hx hb dX0_check_96 rfl (lv_at hl 0 rfl) ?_
        have hO : OKW G h0 a (upd (upd (upd (upd (upd (upd (upd F 2 (nI sz)) 5 (nI cs8)) 12 (nI vr)) 13 as9) 14 wt10) 15 wf11) 5 (nI cs8)) (updR (updR R 2 (.ref pq)) 3 (.ref mq)) Z B7 J K6.1 (fun q99 x99 => x99 = rep G a K6 q99) w := hO.to rfl
        obtain ⟨_, qr63, hqr64⟩ := hO.2.1 24 _ (sg_24 G h0 a _ _ _ _ _)
        refine pc_V0 (G := G) (As := [.int 15, .int r44, .int r44]) (rest := []) hx hb hml hown hq hE hX pX0_al hP hD hS hA hl.1 (B_give l G h0 a (upd (upd (upd (upd (upd (upd F 2 (nI sz)) 5 (nI cs8)) 12 (nI vr)) 13 as9) 14 wt10) 15 wf11) (updR (updR R 2 (.ref pq)) 3 (.ref mq)) Z B7 J K6.1 (fun q99 x99 => x99 = rep G a K6 q99) w 15 r44 r44 cs8 (by omega) hng29 hO) (gV pw_158 pw_159 pw_160 pw_63 pw_128) hV_X0_give qr63 0 hqr64 rfl rfl rfl (Nat.le_of_ble_eq_true rfl) dX0_check_97 ⟨(by show 0 + 0 ≤ 1; omega), (by show 0 + 0 ≤ 6; omega)⟩ ⟨(by show 3 + 1 ≤ (5 * n + 33); omega), (by show 8 + (4 + 11) + 83 ≤ (200 * n + 560); omega)⟩ (fun v62 u60 H locs hw61 hP hD hS => ?_)
        obtain ⟨w, cs65, f66, f67, f68, f69⟩ := u60
        obtain ⟨hw61, h70, h71, hO⟩ := hw61
        have h70 : cs8 ≤ cs65 ∧ cs65 ≤ cs8 + 1 ∧ cs65 ≤ 10000 := h70
        have h71 : Nng f68 := h71
        obtain rfl : v62 = some (.int r44) := hw61
        have hO : OKP G h0 a (upd (upd (upd (upd (upd (upd F 2 (nI sz)) 5 (nI cs65)) 12 (nI vr)) 13 as9) 14 wt10) 15 wf11) (updR (updR R 2 (.ref pq)) 3 (.ref mq)) Z (updA (updA (updA (updA B7 16 f66) 17 f67) 18 f68) 19 f69) J K6 w := hO.to rfl
        refine W.widen (k := 0) (n := 0) (Nat.le_of_ble_eq_true rfl) (Nat.le_of_ble_eq_true rfl) ?_
        refine W.eq (g2 := F0 m 100 ls [.int r44]) rfl ?_
        refine W_size (fun hz1 hz2 => ?_)
        refine vx_ret ?_
        have hz72 : BdE K K6 := hbe27
        have hz73 : Bth B (updA (updA (updA (updA B7 16 f66) 17 f67) 18 f68) 19 f69) := (show Thx (upd (upd (upd F 2 (nI sz)) 5 (nI cs)) 12 (nI vr)) (upd (upd (upd (upd (upd (upd (upd F 2 (nI sz)) 5 (nI cs)) 12 (nI vr)) 5 (nI cs65)) 13 as9) 14 wt10) 15 wf11) B (updA (updA (updA (updA B7 16 f66) 17 f67) 18 f68) 19 f69) from (Thx.b (Thx.b8 (Thx.b (Thx.b (Thx.f (Thx.f (Thx.f (Thx.f (Bth.thx hbb28) (by omega)) (by omega)) (by omega)) (by omega)) (by omega) (by decide)) (by omega) (by decide)) h71) (by omega) (by decide))).2
        have hz74 : cs65 ≤ 10000 := (by omega)
        have hO : OKP G h0 a (upd (upd (upd (upd (upd (upd F 2 (nI sz)) 5 (nI cs65)) 12 (nI vr)) 13 as9) 14 wt10) 15 wf11) (updR (updR R 2 (.ref pq)) 3 (.ref mq)) Z (updA (updA (updA (updA B7 16 f66) 17 f67) 18 f68) 19 f69) J K6 w := hO.to rfl
        refine W.widen (k := 1) (n := 6) (by omega) (by omega) ?_
        have hzz1 : H.size ≤ s.heap.size + (0) := (by have z : 0 ≤ 0 := (by omega); omega)
        have hzz2 : hSl H ≤ hSl s.heap + (0) := (by have z : 0 ≤ 0 := (by omega); omega)
        exact W.iret (v := r44) hx hb hr (fun t99 ht99 hW99 => ⟨⟨_, (w, (K6, (updA (updA (updA (updA B7 16 f66) 17 f67) 18 f68) 19 f69), cs65, as9, wt10, wf11, r44)), rfl, ⟨rfl, hz72, hz73, hz74, hO⟩, by rw [ht99]; exact hP, hD, by rw [ht99]; exact hzz1, by rw [ht99]; exact hzz2⟩, hS.F ht99⟩) hS.2.2 dX0_check_100
      · refine lv_aload_n hx hb dX0_check_82 rfl (lv_at hl 1 rfl) ?_
        refine lv_bipush (v := 14) hx hb dX0_check_83 (by decide) ?_
        refine lv_iload_n hx hb dX0_check_85 rfl (lv_at hl 0 rfl) ?_
        refine lv_bipush (v := 61) hx hb dX0_check_86 (by decide) ?_
        have hO : OKW G h0 a (upd (upd (upd (upd (upd (upd (upd F 2 (nI sz)) 5 (nI cs8)) 12 (nI vr)) 13 as9) 14 wt10) 15 wf11) 5 (nI cs8)) (updR (updR R 2 (.ref pq)) 3 (.ref mq)) Z B7 J K6.1 (fun q99 x99 => x99 = rep G a K6 q99) w := hO.to rfl
        obtain ⟨_, qr78, hqr79⟩ := hO.2.1 24 _ (sg_24 G h0 a _ _ _ _ _)
        refine pc_V0 (G := G) (As := [.int 14, .int r44, .int 61]) (rest := []) hx hb hml hown hq hE hX pX0_al hP hD hS hA hl.1 (B_give l G h0 a (upd (upd (upd (upd (upd (upd F 2 (nI sz)) 5 (nI cs8)) 12 (nI vr)) 13 as9) 14 wt10) 15 wf11) (updR (updR R 2 (.ref pq)) 3 (.ref mq)) Z B7 J K6.1 (fun q99 x99 => x99 = rep G a K6 q99) w 14 r44 61 cs8 (by omega) hng29 hO) (gV pw_158 pw_159 pw_160 pw_63 pw_128) hV_X0_give qr78 0 hqr79 rfl rfl rfl (Nat.le_of_ble_eq_true rfl) dX0_check_88 ⟨(by show 0 + 0 ≤ 1; omega), (by show 0 + 0 ≤ 6; omega)⟩ ⟨(by show 3 + 1 ≤ (5 * n + 33); omega), (by show 8 + (4 + 11) + 83 ≤ (200 * n + 560); omega)⟩ (fun v77 u75 H locs hw76 hP hD hS => ?_)
        obtain ⟨w, cs80, f81, f82, f83, f84⟩ := u75
        obtain ⟨hw76, h85, h86, hO⟩ := hw76
        have h85 : cs8 ≤ cs80 ∧ cs80 ≤ cs8 + 1 ∧ cs80 ≤ 10000 := h85
        have h86 : Nng f83 := h86
        obtain rfl : v77 = some (.int 61) := hw76
        have hO : OKP G h0 a (upd (upd (upd (upd (upd (upd F 2 (nI sz)) 5 (nI cs80)) 12 (nI vr)) 13 as9) 14 wt10) 15 wf11) (updR (updR R 2 (.ref pq)) 3 (.ref mq)) Z (updA (updA (updA (updA B7 16 f81) 17 f82) 18 f83) 19 f84) J K6 w := hO.to rfl
        refine W.widen (k := 0) (n := 0) (Nat.le_of_ble_eq_true rfl) (Nat.le_of_ble_eq_true rfl) ?_
        refine W.eq (g2 := F0 m 91 ls [.int 61]) rfl ?_
        refine W_size (fun hz1 hz2 => ?_)
        refine vx_ret ?_
        have hz87 : BdE K K6 := hbe27
        have hz88 : Bth B (updA (updA (updA (updA B7 16 f81) 17 f82) 18 f83) 19 f84) := (show Thx (upd (upd (upd F 2 (nI sz)) 5 (nI cs)) 12 (nI vr)) (upd (upd (upd (upd (upd (upd (upd F 2 (nI sz)) 5 (nI cs)) 12 (nI vr)) 5 (nI cs80)) 13 as9) 14 wt10) 15 wf11) B (updA (updA (updA (updA B7 16 f81) 17 f82) 18 f83) 19 f84) from (Thx.b (Thx.b8 (Thx.b (Thx.b (Thx.f (Thx.f (Thx.f (Thx.f (Bth.thx hbb28) (by omega)) (by omega)) (by omega)) (by omega)) (by omega) (by decide)) (by omega) (by decide)) h86) (by omega) (by decide))).2
        have hz89 : cs80 ≤ 10000 := (by omega)
        have hO : OKP G h0 a (upd (upd (upd (upd (upd (upd F 2 (nI sz)) 5 (nI cs80)) 12 (nI vr)) 13 as9) 14 wt10) 15 wf11) (updR (updR R 2 (.ref pq)) 3 (.ref mq)) Z (updA (updA (updA (updA B7 16 f81) 17 f82) 18 f83) 19 f84) J K6 w := hO.to rfl
        refine W.widen (k := 1) (n := 6) (by omega) (by omega) ?_
        have hzz1 : H.size ≤ s.heap.size + (0) := (by have z : 0 ≤ 0 := (by omega); omega)
        have hzz2 : hSl H ≤ hSl s.heap + (0) := (by have z : 0 ≤ 0 := (by omega); omega)
        exact W.iret (v := 61) hx hb hr (fun t99 ht99 hW99 => ⟨⟨_, (w, (K6, (updA (updA (updA (updA B7 16 f81) 17 f82) 18 f83) 19 f84), cs80, as9, wt10, wf11, (61 : Int32))), rfl, ⟨rfl, hz87, hz88, hz89, hO⟩, by rw [ht99]; exact hP, hD, by rw [ht99]; exact hzz1, by rw [ht99]; exact hzz2⟩, hS.F ht99⟩) hS.2.2 dX0_check_91
    · have n90 : r48 = 0 := (nI_eq (a := r48) (b := 0) (by omega) (by omega)).mp c50
      refine lv_aload_n hx hb dX0_check_51 rfl (lv_at hl 1 rfl) ?_
      refine c_get (v := .ref (a 1)) (C := RX0) (Tc := TX0) (N := 13) (ci := 0) hx hb hq pin_wsX00 hown hE hP hO 24 (sg_24 G h0 a _ _ _ _ _) rfl 0 (by decide) (hq _ pw_4) (fun _ h9 => h9) rfl dX0_check_52 ?_
      refine lv_bipush (v := 11) hx hb dX0_check_55 (by decide) ?_
      refine lv_aload_n hx hb dX0_check_57 rfl (lv_at hl 2 rfl) ?_
      refine p_get (v := .int (K6.2.1 1 q)) (C := RX7) (Tc := TX7) (N := 11) (ci := 13) hx hb hq pin_wsX70 hown hE hP hO (by rw [hf23]; decide) (rep_1 hf23) rfl 1 (by decide) (hq _ pw_81) (fun _ h9 => h9) rfl dX0_check_58 ?_
      refine lv_iconst (v := 1) hx hb dX0_check_61 (by decide) ?_
      refine lv_iadd hx hb dX0_check_62 ?_
      refine lv_topi (fun x91 e92 => ?_)
      have hO : OKW G h0 a (upd (upd (upd (upd (upd (upd (upd (upd F 2 (nI sz)) 5 (nI cs)) 12 (nI vr)) 5 (nI cs8)) 13 as9) 14 wt10) 15 wf11) 2 (nI sz)) (updR (updR R 2 (.ref pq)) 3 (.ref mq)) Z B7 J K6.1 (fun q99 x99 => x99 = rep G a K6 q99) w := hO.to rfl
      obtain ⟨_, qr96, hqr97⟩ := hO.2.1 2 _ (sg_2 G h0 a _ _ _ _ _)
      refine pn_V0 (G := G) (As := [.int 11, .int x91]) (rest := []) hx hb hml hown hq hE hX pX0_al hP hD hS hA hl.1 (K_fail l G h0 a (upd (upd (upd (upd (upd (upd (upd F 2 (nI sz)) 5 (nI cs)) 12 (nI vr)) 5 (nI cs8)) 13 as9) 14 wt10) 15 wf11) (updR (updR R 2 (.ref pq)) 3 (.ref mq)) Z B7 J K6.1 (fun q99 x99 => x99 = rep G a K6 q99) w 11 x91 sz (by omega) hO hl0) (gV pw_64 pw_65 pw_66 pw_59 pw_43) hV_X10_fail qr96 7 hqr97 rfl rfl rfl (Nat.le_of_ble_eq_true rfl) dX0_check_63 ⟨(by show 0 + 1 ≤ 1; omega), (by show 0 + 6 ≤ 6; omega)⟩ ⟨(by show 6 + 1 ≤ (5 * n + 33); omega), (by show 8 + (3 + 11) + 100 ≤ (200 * n + 560); omega)⟩ (fun v95 u93 H locs hw94 hP hD hS => hw94.elim) (fun ux ce9 q9 H9 locs9 hux hP9 hD9 hS9 hce hcv hcl => pb_out ux (ThQ.up (Thx.same (Thx.f (Thx.f (Thx.f (Thx.f (Bth.thx hbb28) (by omega)) (by omega)) (by omega)) (by omega)) rfl) RhX.rfl hux) hnt hlocks hce hcv hcl hP9 hD9 hS9 (by show 0 + 1 ≤ 1; omega) (by show 0 + 6 ≤ 6; omega))
  · have n98 : r33 = 0 := (nI_eq (a := r33) (b := 0) (by omega) (by omega)).mp c35
    refine lv_aload_n hx hb dX0_check_14 rfl (lv_at hl 0 rfl) ?_
    refine c_get (v := .ref (a 1)) (C := RX0) (Tc := TX0) (N := 13) (ci := 0) hx hb hq pin_wsX00 hown hE hP hO 24 (sg_24 G h0 a _ _ _ _ _) rfl 0 (by decide) (hq _ pw_4) (fun _ h9 => h9) rfl dX0_check_15 ?_
    refine lv_bipush (v := 11) hx hb dX0_check_18 (by decide) ?_
    refine lv_aload_n hx hb dX0_check_20 rfl (lv_at hl 1 rfl) ?_
    refine p_get (v := .ref q1) (C := RX7) (Tc := TX7) (N := 11) (ci := 13) hx hb hq pin_wsX70 hown hE hP hO (by rw [hf23]; decide) (rep_1 hf23) rfl 6 (by decide) (hq _ pw_180) (fun _ h9 => h9) (congrArg (fun z => some (va_rf z)) hf25) dX0_check_21 ?_
    refine p_get (v := .int (K6.2.1 2 q1)) (C := RX7) (Tc := TX7) (N := 11) (ci := 13) hx hb hq pin_wsX70 hown hE hP hO (by rw [hf26]; decide) (rep_1 hf26) rfl 2 (by decide) (hq _ pw_82) (fun _ h9 => h9) rfl dX0_check_24 ?_
    have hO : OKW G h0 a (upd (upd (upd (upd (upd (upd (upd (upd F 2 (nI sz)) 5 (nI cs)) 12 (nI vr)) 5 (nI cs8)) 13 as9) 14 wt10) 15 wf11) 2 (nI sz)) (updR (updR R 2 (.ref pq)) 3 (.ref mq)) Z B7 J K6.1 (fun q99 x99 => x99 = rep G a K6 q99) w := hO.to rfl
    obtain ⟨_, qr102, hqr103⟩ := hO.2.1 2 _ (sg_2 G h0 a _ _ _ _ _)
    refine pn_V0 (G := G) (As := [.int 11, .int (K6.2.1 2 q1)]) (rest := []) hx hb hml hown hq hE hX pX0_al hP hD hS hA hl.1 (K_fail l G h0 a (upd (upd (upd (upd (upd (upd (upd F 2 (nI sz)) 5 (nI cs)) 12 (nI vr)) 5 (nI cs8)) 13 as9) 14 wt10) 15 wf11) (updR (updR R 2 (.ref pq)) 3 (.ref mq)) Z B7 J K6.1 (fun q99 x99 => x99 = rep G a K6 q99) w 11 (K6.2.1 2 q1) sz (by omega) hO hl0) (gV pw_64 pw_65 pw_66 pw_59 pw_43) hV_X10_fail qr102 7 hqr103 rfl rfl rfl (Nat.le_of_ble_eq_true rfl) dX0_check_27 ⟨(by show 0 + 1 ≤ 1; omega), (by show 0 + 6 ≤ 6; omega)⟩ ⟨(by show 6 + 1 ≤ (5 * n + 33); omega), (by show 8 + (3 + 11) + 100 ≤ (200 * n + 560); omega)⟩ (fun v101 u99 H locs hw100 hP hD hS => hw100.elim) (fun ux ce9 q9 H9 locs9 hux hP9 hD9 hS9 hce hcv hcl => pb_out ux (ThQ.up (Thx.same (Thx.f (Thx.f (Thx.f (Thx.f (Bth.thx hbb28) (by omega)) (by omega)) (by omega)) (by omega)) rfl) RhX.rfl hux) hnt hlocks hce hcv hcl hP9 hD9 hS9 (by show 0 + 1 ≤ 1; omega) (by show 0 + 6 ≤ 6; omega))
theorem dX0_truth_0 : decode cX0_truth 0 = .ok (.aload_n 0, 1) := by decide +kernel
theorem dX0_truth_1 : decode cX0_truth 1 = .ok (.iload_n 1, 1) := by decide +kernel
theorem dX0_truth_2 : decode cX0_truth 2 = .ok (.ifCond .eq 10, 3) := by decide +kernel
theorem dX0_truth_12 : decode cX0_truth 12 = .ok (.iconst (-1), 1) := by decide +kernel
theorem dX0_truth_13 : decode cX0_truth 13 = .ok (.putfield 240, 3) := by decide +kernel
theorem dX0_truth_16 : decode cX0_truth 16 = .ok (.aload_n 0, 1) := by decide +kernel
theorem dX0_truth_17 : decode cX0_truth 17 = .ok (.iload_n 1, 1) := by decide +kernel
theorem dX0_truth_18 : decode cX0_truth 18 = .ok (.ifCond .eq 7, 3) := by decide +kernel
theorem dX0_truth_25 : decode cX0_truth 25 = .ok (.aload_n 0, 1) := by decide +kernel
theorem dX0_truth_26 : decode cX0_truth 26 = .ok (.getfield 94, 3) := by decide +kernel
theorem dX0_truth_29 : decode cX0_truth 29 = .ok (.putfield 237, 3) := by decide +kernel
theorem dX0_truth_32 : decode cX0_truth 32 = .ok (.aload_n 0, 1) := by decide +kernel
theorem dX0_truth_33 : decode cX0_truth 33 = .ok (.iconst 1, 1) := by decide +kernel
theorem dX0_truth_34 : decode cX0_truth 34 = .ok (.iload_n 1, 1) := by decide +kernel
theorem dX0_truth_35 : decode cX0_truth 35 = .ok (.ifCond .eq 7, 3) := by decide +kernel
theorem dX0_truth_42 : decode cX0_truth 42 = .ok (.iconst 0, 1) := by decide +kernel
theorem dX0_truth_43 : decode cX0_truth 43 = .ok (.bipush 61, 2) := by decide +kernel
theorem dX0_truth_45 : decode cX0_truth 45 = .ok (.invokevirtual 344, 3) := by decide +kernel
theorem dX0_truth_48 : decode cX0_truth 48 = .ok (.ireturn, 1) := by decide +kernel
theorem dX0_truth_38 : decode cX0_truth 38 = .ok (.iconst 1, 1) := by decide +kernel
theorem dX0_truth_39 : decode cX0_truth 39 = .ok (.goto 4, 3) := by decide +kernel
theorem dX0_truth_21 : decode cX0_truth 21 = .ok (.iconst (-1), 1) := by decide +kernel
theorem dX0_truth_22 : decode cX0_truth 22 = .ok (.goto 7, 3) := by decide +kernel
theorem dX0_truth_5 : decode cX0_truth 5 = .ok (.aload_n 0, 1) := by decide +kernel
theorem dX0_truth_6 : decode cX0_truth 6 = .ok (.getfield 94, 3) := by decide +kernel
theorem dX0_truth_9 : decode cX0_truth 9 = .ok (.goto 4, 3) := by decide +kernel
set_option maxHeartbeats 16000000 in
set_option maxRecDepth 100000 in
theorem B_truth (l : Launch) (G : pT) (h0 : Nat) (a : Nat → Nat) (F : Nat → Int32) (R : Nat → Value) (Z : Int64) (B : Nat → Nat → Int32) (J : Nat → Nat → Int64) (K : PK) (w : va_W) (pq : Nat) (dr : Nat) (ml : Nat) (nd : Nat) (nm : Nat) (cp : Nat) (it : Nat → Nat) (s9 : Nat) (q : Nat) (mq : Nat) (cs : Nat) (vr : Nat) (sz : Nat) (n : Nat) (b9 : Nat) (g : Nat → Nat → Nat) (rk : Nat → Nat) (hsz : sz ≤ 5000) (hwp : WPr G K g) (hps : PgT G K g (a 1) pq dr ml nd nm cp it s9) (hrk : RkO K rk) (hcs : cs ≤ 10000) (hvr : vr ≤ 30) (hng : Nng (B 18)) (hmq : K.1 mq = 3) (hqT : K.1 q = 1) (hqL : 1 ≤ g 0 q ∧ g 0 q ≤ n) (hb9 : b9 ≤ 1) (hO : OKP G h0 a (upd (upd (upd F 2 (nI sz)) 5 (nI cs)) 12 (nI vr)) (updR (updR R 2 (.ref pq)) 3 (.ref mq)) Z B J K w) (hl0 : l.stackTraces = false) : PBn l G pX0 yX0_truth cX0_truth 2 (some .int) ({ frames := (5 * n + 33), cells := 1, slots := 6, locals := (200 * n + 560) }) [.ref (a 4), .int (nI b9)] w (fun (v : Option Value) (u : va_W × (PK × (Nat → Nat → Int32) × Nat × Int32 × Int32 × Int32 × Int32)) => v = some (.int u.2.2.2.2.2.2.2) ∧ (BdE K u.2.1) ∧ (Bth B u.2.2.1) ∧ (u.2.2.2.1 ≤ 10000) ∧ (OKP G h0 a (upd (upd (upd (upd (upd (upd F 2 (nI sz)) 5 (nI u.2.2.2.1)) 12 (nI vr)) 13 u.2.2.2.2.1) 14 u.2.2.2.2.2.1) 15 u.2.2.2.2.2.2.1) (updR (updR R 2 (.ref pq)) 3 (.ref mq)) Z u.2.2.1 J u.2.1 u.1)) (fun u => u.1) (fun (u : va_W × (PK × (Nat → Nat → Int32) × Nat × Int32 × Int32 × Int32 × Int32)) => 0) (fun (u : va_W × (PK × (Nat → Nat → Int32) × Nat × Int32 × Int32 × Int32 × Int32)) => 0) (fun (u : va_W × (Nat → Int32) × (Nat → Value) × (Nat → Nat → Int32)) => ThQ G h0 a (upd (upd (upd F 2 (nI sz)) 5 (nI cs)) 12 (nI vr)) (updR (updR R 2 (.ref pq)) 3 (.ref mq)) Z B J u) (fun u => u.1) := by
  intro sz
  refine vx_ofW (cc := cX0_truth) (maxL := 2) (ret := (some .int)) (by decide) rfl ?_
  intro p e s m args below meth c s₁ B9 hml hnt hv
  obtain ⟨rfl, hsz, hP, hD0, hE, hX⟩ := hv
  have hx := B9.exec
  have hb := B9.bytes
  have hr := B9.returns
  have hts := atoms_spec (ws := Cond.code yX0_truth cX0_truth 2 (some .int) :: pw) B9.pre
  have hq : ∀ w ∈ pw, w.before _ s = true := fun w h => hts w (List.mem_cons_of_mem _ h)
  have hown : s.vm.findClass RX0 = some m.cls := findClass_of_methodNamed B9.named
  have hlocks := B9.notSynchronized
  subst hsz
  have hD := hD0.self (sz := s.heap.size)
  have hA : ∀ q : Nat, s.heap.size ≤ q → va_A w s.heap.size q := fun q h => Or.inr h
  generalize va_A w s.heap.size = A at hD hE hA ⊢
  have hS : va_S A s.heap s.heap [] := va_S.rf
  have hl := lv_entry ([.ref (a 4), .int (nI b9)]) (n := 2) (Nat.le_of_ble_eq_true rfl)
  rw [lg_entry_eq]
  generalize (lg_sl ([.ref (a 4), .int (nI b9)]) ++ List.replicate (2 - (lg_sl ([.ref (a 4), .int (nI b9)])).length) Slot.unset).toArray = ls at hl ⊢
  have hl : lv_has ls 2 [(0, .ref (a 4)), (1, .int (nI b9))] := hl
  have hpg := hps.1
  have hp1 := hpg.1
  have hp2 := hpg.2.1
  have hp3 := hpg.2.2.1
  have hp4 := hpg.2.2.2.1
  have hp5 := hpg.2.2.2.2.1
  have hp6 := hpg.2.2.2.2.2.1
  have hp8 := hpg.2.2.2.2.2.2.2.1
  have hp9 := hpg.2.2.2.2.2.2.2.2
  refine lv_aload_n hx hb dX0_truth_0 rfl (lv_at hl 0 rfl) ?_
  refine lv_iload_n hx hb dX0_truth_1 rfl (lv_at hl 1 rfl) ?_
  refine lv_if_eq (tgt := 12) hx hb dX0_truth_2 (by decide) (fun c1 => ?_) (fun c1 => ?_)
  · have n2 : b9 = 0 := (nI_eq (a := b9) (b := 0) (by omega) (by omega)).mp c1
    refine lv_iconst (v := (-1)) hx hb dX0_truth_12 (by decide) ?_
    refine c_put (v := .int (-1)) (ty := .int) (C := RX0) (Tc := TX0) (N := 13) (ci := 0) hx hb hq pin_wsX00 tyX0 tyX0_ok nmX0 hown hE hP hD hS hO 24 (sg_24 G h0 a _ _ _ _ _) rfl 9 (by decide) (hq _ pw_156) (fun _ h9 => h9) rfl (by decide +kernel) rfl rfl (Nat.le_of_ble_eq_true rfl) (sf_14 G h0 a _ _ _ _ _ (-1)) dX0_truth_13 (fun H locs w hP hD hS hO => ?_)
    refine lv_aload_n hx hb dX0_truth_16 rfl (lv_at hl 0 rfl) ?_
    refine lv_iload_n hx hb dX0_truth_17 rfl (lv_at hl 1 rfl) ?_
    refine lv_if_eq (tgt := 25) hx hb dX0_truth_18 (by decide) (fun c3 => ?_) (fun c3 => ?_)
    · have n4 : b9 = 0 := (nI_eq (a := b9) (b := 0) (by omega) (by omega)).mp c3
      refine lv_aload_n hx hb dX0_truth_25 rfl (lv_at hl 0 rfl) ?_
      refine c_get (v := .int (F 13)) (C := RX0) (Tc := TX0) (N := 13) (ci := 0) hx hb hq pin_wsX00 hown hE hP hO 24 (sg_24 G h0 a _ _ _ _ _) rfl 8 (by decide) (hq _ pw_55) (fun _ h9 => h9) rfl dX0_truth_26 ?_
      refine c_put (v := .int (F 13)) (ty := .int) (C := RX0) (Tc := TX0) (N := 13) (ci := 0) hx hb hq pin_wsX00 tyX0 tyX0_ok nmX0 hown hE hP hD hS hO 24 (sg_24 G h0 a _ _ _ _ _) rfl 10 (by decide) (hq _ pw_157) (fun _ h9 => h9) rfl (by decide +kernel) rfl rfl (Nat.le_of_ble_eq_true rfl) (sf_15 G h0 a _ _ _ _ _ (F 13)) dX0_truth_29 (fun H locs w hP hD hS hO => ?_)
      refine lv_aload_n hx hb dX0_truth_32 rfl (lv_at hl 0 rfl) ?_
      refine lv_iconst (v := 1) hx hb dX0_truth_33 (by decide) ?_
      refine lv_iload_n hx hb dX0_truth_34 rfl (lv_at hl 1 rfl) ?_
      refine lv_if_eq (tgt := 42) hx hb dX0_truth_35 (by decide) (fun c5 => ?_) (fun c5 => ?_)
      · have n6 : b9 = 0 := (nI_eq (a := b9) (b := 0) (by omega) (by omega)).mp c5
        refine lv_iconst (v := 0) hx hb dX0_truth_42 (by decide) ?_
        refine lv_bipush (v := 61) hx hb dX0_truth_43 (by decide) ?_
        have hO : OKW G h0 a (upd (upd (upd (upd (upd (upd F 2 (nI sz)) 5 (nI cs)) 12 (nI vr)) 14 (-1)) 15 (F 13)) 5 (nI cs)) (updR (updR R 2 (.ref pq)) 3 (.ref mq)) Z B J K.1 (fun q99 x99 => x99 = rep G a K q99) w := hO.to rfl
        obtain ⟨_, qr10, hqr11⟩ := hO.2.1 24 _ (sg_24 G h0 a _ _ _ _ _)
        refine pc_V0 (G := G) (As := [.int 1, .int 0, .int 61]) (rest := []) hx hb hml hown hq hE hX pX0_al hP hD hS hA hl.1 (B_give l G h0 a (upd (upd (upd (upd (upd F 2 (nI sz)) 5 (nI cs)) 12 (nI vr)) 14 (-1)) 15 (F 13)) (updR (updR R 2 (.ref pq)) 3 (.ref mq)) Z B J K.1 (fun q99 x99 => x99 = rep G a K q99) w 1 0 61 cs (by omega) hng hO) (gV pw_158 pw_159 pw_160 pw_63 pw_128) hV_X0_give qr10 0 hqr11 rfl rfl rfl (Nat.le_of_ble_eq_true rfl) dX0_truth_45 ⟨(by show 0 + 0 ≤ 1; omega), (by show 0 + 0 ≤ 6; omega)⟩ ⟨(by show 3 + 1 ≤ (5 * n + 33); omega), (by show 8 + (4 + 11) + 83 ≤ (200 * n + 560); omega)⟩ (fun v9 u7 H locs hw8 hP hD hS => ?_)
        obtain ⟨w, cs12, f13, f14, f15, f16⟩ := u7
        obtain ⟨hw8, h17, h18, hO⟩ := hw8
        have h17 : cs ≤ cs12 ∧ cs12 ≤ cs + 1 ∧ cs12 ≤ 10000 := h17
        have h18 : Nng f15 := h18
        obtain rfl : v9 = some (.int 61) := hw8
        have hO : OKP G h0 a (upd (upd (upd (upd (upd F 2 (nI sz)) 5 (nI cs12)) 12 (nI vr)) 14 (-1)) 15 (F 13)) (updR (updR R 2 (.ref pq)) 3 (.ref mq)) Z (updA (updA (updA (updA B 16 f13) 17 f14) 18 f15) 19 f16) J K w := hO.to rfl
        refine W.widen (k := 0) (n := 0) (Nat.le_of_ble_eq_true rfl) (Nat.le_of_ble_eq_true rfl) ?_
        refine W.eq (g2 := F0 m 48 ls [.int 61]) rfl ?_
        refine W_size (fun hz1 hz2 => ?_)
        refine vx_ret ?_
        have hz19 : BdE K K := BdE.rfl
        have hz20 : Bth B (updA (updA (updA (updA B 16 f13) 17 f14) 18 f15) 19 f16) := (show Thx (upd (upd (upd F 2 (nI sz)) 5 (nI cs)) 12 (nI vr)) (upd (upd (upd (upd (upd (upd F 2 (nI sz)) 5 (nI cs)) 12 (nI vr)) 5 (nI cs12)) 14 (-1)) 15 (F 13)) B (updA (updA (updA (updA B 16 f13) 17 f14) 18 f15) 19 f16) from (Thx.b (Thx.b8 (Thx.b (Thx.b (Thx.f (Thx.f (Thx.f Thx.rfl (by omega)) (by omega)) (by omega)) (by omega) (by decide)) (by omega) (by decide)) h18) (by omega) (by decide))).2
        have hz21 : cs12 ≤ 10000 := (by omega)
        have hO : OKP G h0 a (upd (upd (upd (upd (upd (upd F 2 (nI sz)) 5 (nI cs12)) 12 (nI vr)) 13 (F 13)) 14 ((-1) : Int32)) 15 (F 13)) (updR (updR R 2 (.ref pq)) 3 (.ref mq)) Z (updA (updA (updA (updA B 16 f13) 17 f14) 18 f15) 19 f16) J K w := hO.to rfl
        refine W.widen (k := 1) (n := 6) (by omega) (by omega) ?_
        have hzz1 : H.size ≤ s.heap.size + (0) := (by have z : 0 ≤ 0 := (by omega); omega)
        have hzz2 : hSl H ≤ hSl s.heap + (0) := (by have z : 0 ≤ 0 := (by omega); omega)
        exact W.iret (v := 61) hx hb hr (fun t99 ht99 hW99 => ⟨⟨_, (w, (K, (updA (updA (updA (updA B 16 f13) 17 f14) 18 f15) 19 f16), cs12, (F 13), ((-1) : Int32), (F 13), (61 : Int32))), rfl, ⟨rfl, hz19, hz20, hz21, hO⟩, by rw [ht99]; exact hP, hD, by rw [ht99]; exact hzz1, by rw [ht99]; exact hzz2⟩, hS.F ht99⟩) hS.2.2 dX0_truth_48
      · have n22 : ¬ (b9 = 0) := fun h9 => c5 ((nI_eq (a := b9) (b := 0) (by omega) (by omega)).mpr h9)
        refine lv_iconst (v := 1) hx hb dX0_truth_38 (by decide) ?_
        refine lv_goto (tgt := 43) hx hb dX0_truth_39 (by decide) ?_
        refine lv_bipush (v := 61) hx hb dX0_truth_43 (by decide) ?_
        have hO : OKW G h0 a (upd (upd (upd (upd (upd (upd F 2 (nI sz)) 5 (nI cs)) 12 (nI vr)) 14 (-1)) 15 (F 13)) 5 (nI cs)) (updR (updR R 2 (.ref pq)) 3 (.ref mq)) Z B J K.1 (fun q99 x99 => x99 = rep G a K q99) w := hO.to rfl
        obtain ⟨_, qr26, hqr27⟩ := hO.2.1 24 _ (sg_24 G h0 a _ _ _ _ _)
        refine pc_V0 (G := G) (As := [.int 1, .int 1, .int 61]) (rest := []) hx hb hml hown hq hE hX pX0_al hP hD hS hA hl.1 (B_give l G h0 a (upd (upd (upd (upd (upd F 2 (nI sz)) 5 (nI cs)) 12 (nI vr)) 14 (-1)) 15 (F 13)) (updR (updR R 2 (.ref pq)) 3 (.ref mq)) Z B J K.1 (fun q99 x99 => x99 = rep G a K q99) w 1 1 61 cs (by omega) hng hO) (gV pw_158 pw_159 pw_160 pw_63 pw_128) hV_X0_give qr26 0 hqr27 rfl rfl rfl (Nat.le_of_ble_eq_true rfl) dX0_truth_45 ⟨(by show 0 + 0 ≤ 1; omega), (by show 0 + 0 ≤ 6; omega)⟩ ⟨(by show 3 + 1 ≤ (5 * n + 33); omega), (by show 8 + (4 + 11) + 83 ≤ (200 * n + 560); omega)⟩ (fun v25 u23 H locs hw24 hP hD hS => ?_)
        obtain ⟨w, cs28, f29, f30, f31, f32⟩ := u23
        obtain ⟨hw24, h33, h34, hO⟩ := hw24
        have h33 : cs ≤ cs28 ∧ cs28 ≤ cs + 1 ∧ cs28 ≤ 10000 := h33
        have h34 : Nng f31 := h34
        obtain rfl : v25 = some (.int 61) := hw24
        have hO : OKP G h0 a (upd (upd (upd (upd (upd F 2 (nI sz)) 5 (nI cs28)) 12 (nI vr)) 14 (-1)) 15 (F 13)) (updR (updR R 2 (.ref pq)) 3 (.ref mq)) Z (updA (updA (updA (updA B 16 f29) 17 f30) 18 f31) 19 f32) J K w := hO.to rfl
        refine W.widen (k := 0) (n := 0) (Nat.le_of_ble_eq_true rfl) (Nat.le_of_ble_eq_true rfl) ?_
        refine W.eq (g2 := F0 m 48 ls [.int 61]) rfl ?_
        refine W_size (fun hz1 hz2 => ?_)
        refine vx_ret ?_
        have hz35 : BdE K K := BdE.rfl
        have hz36 : Bth B (updA (updA (updA (updA B 16 f29) 17 f30) 18 f31) 19 f32) := (show Thx (upd (upd (upd F 2 (nI sz)) 5 (nI cs)) 12 (nI vr)) (upd (upd (upd (upd (upd (upd F 2 (nI sz)) 5 (nI cs)) 12 (nI vr)) 5 (nI cs28)) 14 (-1)) 15 (F 13)) B (updA (updA (updA (updA B 16 f29) 17 f30) 18 f31) 19 f32) from (Thx.b (Thx.b8 (Thx.b (Thx.b (Thx.f (Thx.f (Thx.f Thx.rfl (by omega)) (by omega)) (by omega)) (by omega) (by decide)) (by omega) (by decide)) h34) (by omega) (by decide))).2
        have hz37 : cs28 ≤ 10000 := (by omega)
        have hO : OKP G h0 a (upd (upd (upd (upd (upd (upd F 2 (nI sz)) 5 (nI cs28)) 12 (nI vr)) 13 (F 13)) 14 ((-1) : Int32)) 15 (F 13)) (updR (updR R 2 (.ref pq)) 3 (.ref mq)) Z (updA (updA (updA (updA B 16 f29) 17 f30) 18 f31) 19 f32) J K w := hO.to rfl
        refine W.widen (k := 1) (n := 6) (by omega) (by omega) ?_
        have hzz1 : H.size ≤ s.heap.size + (0) := (by have z : 0 ≤ 0 := (by omega); omega)
        have hzz2 : hSl H ≤ hSl s.heap + (0) := (by have z : 0 ≤ 0 := (by omega); omega)
        exact W.iret (v := 61) hx hb hr (fun t99 ht99 hW99 => ⟨⟨_, (w, (K, (updA (updA (updA (updA B 16 f29) 17 f30) 18 f31) 19 f32), cs28, (F 13), ((-1) : Int32), (F 13), (61 : Int32))), rfl, ⟨rfl, hz35, hz36, hz37, hO⟩, by rw [ht99]; exact hP, hD, by rw [ht99]; exact hzz1, by rw [ht99]; exact hzz2⟩, hS.F ht99⟩) hS.2.2 dX0_truth_48
    · have n38 : ¬ (b9 = 0) := fun h9 => c3 ((nI_eq (a := b9) (b := 0) (by omega) (by omega)).mpr h9)
      refine lv_iconst (v := (-1)) hx hb dX0_truth_21 (by decide) ?_
      refine lv_goto (tgt := 29) hx hb dX0_truth_22 (by decide) ?_
      refine c_put (v := .int (-1)) (ty := .int) (C := RX0) (Tc := TX0) (N := 13) (ci := 0) hx hb hq pin_wsX00 tyX0 tyX0_ok nmX0 hown hE hP hD hS hO 24 (sg_24 G h0 a _ _ _ _ _) rfl 10 (by decide) (hq _ pw_157) (fun _ h9 => h9) rfl (by decide +kernel) rfl rfl (Nat.le_of_ble_eq_true rfl) (sf_15 G h0 a _ _ _ _ _ (-1)) dX0_truth_29 (fun H locs w hP hD hS hO => ?_)
      refine lv_aload_n hx hb dX0_truth_32 rfl (lv_at hl 0 rfl) ?_
      refine lv_iconst (v := 1) hx hb dX0_truth_33 (by decide) ?_
      refine lv_iload_n hx hb dX0_truth_34 rfl (lv_at hl 1 rfl) ?_
      refine lv_if_eq (tgt := 42) hx hb dX0_truth_35 (by decide) (fun c39 => ?_) (fun c39 => ?_)
      · have n40 : b9 = 0 := (nI_eq (a := b9) (b := 0) (by omega) (by omega)).mp c39
        refine lv_iconst (v := 0) hx hb dX0_truth_42 (by decide) ?_
        refine lv_bipush (v := 61) hx hb dX0_truth_43 (by decide) ?_
        have hO : OKW G h0 a (upd (upd (upd (upd (upd (upd F 2 (nI sz)) 5 (nI cs)) 12 (nI vr)) 14 (-1)) 15 (-1)) 5 (nI cs)) (updR (updR R 2 (.ref pq)) 3 (.ref mq)) Z B J K.1 (fun q99 x99 => x99 = rep G a K q99) w := hO.to rfl
        obtain ⟨_, qr44, hqr45⟩ := hO.2.1 24 _ (sg_24 G h0 a _ _ _ _ _)
        refine pc_V0 (G := G) (As := [.int 1, .int 0, .int 61]) (rest := []) hx hb hml hown hq hE hX pX0_al hP hD hS hA hl.1 (B_give l G h0 a (upd (upd (upd (upd (upd F 2 (nI sz)) 5 (nI cs)) 12 (nI vr)) 14 (-1)) 15 (-1)) (updR (updR R 2 (.ref pq)) 3 (.ref mq)) Z B J K.1 (fun q99 x99 => x99 = rep G a K q99) w 1 0 61 cs (by omega) hng hO) (gV pw_158 pw_159 pw_160 pw_63 pw_128) hV_X0_give qr44 0 hqr45 rfl rfl rfl (Nat.le_of_ble_eq_true rfl) dX0_truth_45 ⟨(by show 0 + 0 ≤ 1; omega), (by show 0 + 0 ≤ 6; omega)⟩ ⟨(by show 3 + 1 ≤ (5 * n + 33); omega), (by show 8 + (4 + 11) + 83 ≤ (200 * n + 560); omega)⟩ (fun v43 u41 H locs hw42 hP hD hS => ?_)
        obtain ⟨w, cs46, f47, f48, f49, f50⟩ := u41
        obtain ⟨hw42, h51, h52, hO⟩ := hw42
        have h51 : cs ≤ cs46 ∧ cs46 ≤ cs + 1 ∧ cs46 ≤ 10000 := h51
        have h52 : Nng f49 := h52
        obtain rfl : v43 = some (.int 61) := hw42
        have hO : OKP G h0 a (upd (upd (upd (upd (upd F 2 (nI sz)) 5 (nI cs46)) 12 (nI vr)) 14 (-1)) 15 (-1)) (updR (updR R 2 (.ref pq)) 3 (.ref mq)) Z (updA (updA (updA (updA B 16 f47) 17 f48) 18 f49) 19 f50) J K w := hO.to rfl
        refine W.widen (k := 0) (n := 0) (Nat.le_of_ble_eq_true rfl) (Nat.le_of_ble_eq_true rfl) ?_
        refine W.eq (g2 := F0 m 48 ls [.int 61]) rfl ?_
        refine W_size (fun hz1 hz2 => ?_)
        refine vx_ret ?_
        have hz53 : BdE K K := BdE.rfl
        have hz54 : Bth B (updA (updA (updA (updA B 16 f47) 17 f48) 18 f49) 19 f50) := (show Thx (upd (upd (upd F 2 (nI sz)) 5 (nI cs)) 12 (nI vr)) (upd (upd (upd (upd (upd (upd F 2 (nI sz)) 5 (nI cs)) 12 (nI vr)) 5 (nI cs46)) 14 (-1)) 15 (-1)) B (updA (updA (updA (updA B 16 f47) 17 f48) 18 f49) 19 f50) from (Thx.b (Thx.b8 (Thx.b (Thx.b (Thx.f (Thx.f (Thx.f Thx.rfl (by omega)) (by omega)) (by omega)) (by omega) (by decide)) (by omega) (by decide)) h52) (by omega) (by decide))).2
        have hz55 : cs46 ≤ 10000 := (by omega)
        have hO : OKP G h0 a (upd (upd (upd (upd (upd (upd F 2 (nI sz)) 5 (nI cs46)) 12 (nI vr)) 13 (F 13)) 14 ((-1) : Int32)) 15 ((-1) : Int32)) (updR (updR R 2 (.ref pq)) 3 (.ref mq)) Z (updA (updA (updA (updA B 16 f47) 17 f48) 18 f49) 19 f50) J K w := hO.to rfl
        refine W.widen (k := 1) (n := 6) (by omega) (by omega) ?_
        have hzz1 : H.size ≤ s.heap.size + (0) := (by have z : 0 ≤ 0 := (by omega); omega)
        have hzz2 : hSl H ≤ hSl s.heap + (0) := (by have z : 0 ≤ 0 := (by omega); omega)
        exact W.iret (v := 61) hx hb hr (fun t99 ht99 hW99 => ⟨⟨_, (w, (K, (updA (updA (updA (updA B 16 f47) 17 f48) 18 f49) 19 f50), cs46, (F 13), ((-1) : Int32), ((-1) : Int32), (61 : Int32))), rfl, ⟨rfl, hz53, hz54, hz55, hO⟩, by rw [ht99]; exact hP, hD, by rw [ht99]; exact hzz1, by rw [ht99]; exact hzz2⟩, hS.F ht99⟩) hS.2.2 dX0_truth_48
      · have n56 : ¬ (b9 = 0) := fun h9 => c39 ((nI_eq (a := b9) (b := 0) (by omega) (by omega)).mpr h9)
        refine lv_iconst (v := 1) hx hb dX0_truth_38 (by decide) ?_
        refine lv_goto (tgt := 43) hx hb dX0_truth_39 (by decide) ?_
        refine lv_bipush (v := 61) hx hb dX0_truth_43 (by decide) ?_
        have hO : OKW G h0 a (upd (upd (upd (upd (upd (upd F 2 (nI sz)) 5 (nI cs)) 12 (nI vr)) 14 (-1)) 15 (-1)) 5 (nI cs)) (updR (updR R 2 (.ref pq)) 3 (.ref mq)) Z B J K.1 (fun q99 x99 => x99 = rep G a K q99) w := hO.to rfl
        obtain ⟨_, qr60, hqr61⟩ := hO.2.1 24 _ (sg_24 G h0 a _ _ _ _ _)
        refine pc_V0 (G := G) (As := [.int 1, .int 1, .int 61]) (rest := []) hx hb hml hown hq hE hX pX0_al hP hD hS hA hl.1 (B_give l G h0 a (upd (upd (upd (upd (upd F 2 (nI sz)) 5 (nI cs)) 12 (nI vr)) 14 (-1)) 15 (-1)) (updR (updR R 2 (.ref pq)) 3 (.ref mq)) Z B J K.1 (fun q99 x99 => x99 = rep G a K q99) w 1 1 61 cs (by omega) hng hO) (gV pw_158 pw_159 pw_160 pw_63 pw_128) hV_X0_give qr60 0 hqr61 rfl rfl rfl (Nat.le_of_ble_eq_true rfl) dX0_truth_45 ⟨(by show 0 + 0 ≤ 1; omega), (by show 0 + 0 ≤ 6; omega)⟩ ⟨(by show 3 + 1 ≤ (5 * n + 33); omega), (by show 8 + (4 + 11) + 83 ≤ (200 * n + 560); omega)⟩ (fun v59 u57 H locs hw58 hP hD hS => ?_)
        obtain ⟨w, cs62, f63, f64, f65, f66⟩ := u57
        obtain ⟨hw58, h67, h68, hO⟩ := hw58
        have h67 : cs ≤ cs62 ∧ cs62 ≤ cs + 1 ∧ cs62 ≤ 10000 := h67
        have h68 : Nng f65 := h68
        obtain rfl : v59 = some (.int 61) := hw58
        have hO : OKP G h0 a (upd (upd (upd (upd (upd F 2 (nI sz)) 5 (nI cs62)) 12 (nI vr)) 14 (-1)) 15 (-1)) (updR (updR R 2 (.ref pq)) 3 (.ref mq)) Z (updA (updA (updA (updA B 16 f63) 17 f64) 18 f65) 19 f66) J K w := hO.to rfl
        refine W.widen (k := 0) (n := 0) (Nat.le_of_ble_eq_true rfl) (Nat.le_of_ble_eq_true rfl) ?_
        refine W.eq (g2 := F0 m 48 ls [.int 61]) rfl ?_
        refine W_size (fun hz1 hz2 => ?_)
        refine vx_ret ?_
        have hz69 : BdE K K := BdE.rfl
        have hz70 : Bth B (updA (updA (updA (updA B 16 f63) 17 f64) 18 f65) 19 f66) := (show Thx (upd (upd (upd F 2 (nI sz)) 5 (nI cs)) 12 (nI vr)) (upd (upd (upd (upd (upd (upd F 2 (nI sz)) 5 (nI cs)) 12 (nI vr)) 5 (nI cs62)) 14 (-1)) 15 (-1)) B (updA (updA (updA (updA B 16 f63) 17 f64) 18 f65) 19 f66) from (Thx.b (Thx.b8 (Thx.b (Thx.b (Thx.f (Thx.f (Thx.f Thx.rfl (by omega)) (by omega)) (by omega)) (by omega) (by decide)) (by omega) (by decide)) h68) (by omega) (by decide))).2
        have hz71 : cs62 ≤ 10000 := (by omega)
        have hO : OKP G h0 a (upd (upd (upd (upd (upd (upd F 2 (nI sz)) 5 (nI cs62)) 12 (nI vr)) 13 (F 13)) 14 ((-1) : Int32)) 15 ((-1) : Int32)) (updR (updR R 2 (.ref pq)) 3 (.ref mq)) Z (updA (updA (updA (updA B 16 f63) 17 f64) 18 f65) 19 f66) J K w := hO.to rfl
        refine W.widen (k := 1) (n := 6) (by omega) (by omega) ?_
        have hzz1 : H.size ≤ s.heap.size + (0) := (by have z : 0 ≤ 0 := (by omega); omega)
        have hzz2 : hSl H ≤ hSl s.heap + (0) := (by have z : 0 ≤ 0 := (by omega); omega)
        exact W.iret (v := 61) hx hb hr (fun t99 ht99 hW99 => ⟨⟨_, (w, (K, (updA (updA (updA (updA B 16 f63) 17 f64) 18 f65) 19 f66), cs62, (F 13), ((-1) : Int32), ((-1) : Int32), (61 : Int32))), rfl, ⟨rfl, hz69, hz70, hz71, hO⟩, by rw [ht99]; exact hP, hD, by rw [ht99]; exact hzz1, by rw [ht99]; exact hzz2⟩, hS.F ht99⟩) hS.2.2 dX0_truth_48
  · have n72 : ¬ (b9 = 0) := fun h9 => c1 ((nI_eq (a := b9) (b := 0) (by omega) (by omega)).mpr h9)
    refine lv_aload_n hx hb dX0_truth_5 rfl (lv_at hl 0 rfl) ?_
    refine c_get (v := .int (F 13)) (C := RX0) (Tc := TX0) (N := 13) (ci := 0) hx hb hq pin_wsX00 hown hE hP hO 24 (sg_24 G h0 a _ _ _ _ _) rfl 8 (by decide) (hq _ pw_55) (fun _ h9 => h9) rfl dX0_truth_6 ?_
    refine lv_goto (tgt := 13) hx hb dX0_truth_9 (by decide) ?_
    refine c_put (v := .int (F 13)) (ty := .int) (C := RX0) (Tc := TX0) (N := 13) (ci := 0) hx hb hq pin_wsX00 tyX0 tyX0_ok nmX0 hown hE hP hD hS hO 24 (sg_24 G h0 a _ _ _ _ _) rfl 9 (by decide) (hq _ pw_156) (fun _ h9 => h9) rfl (by decide +kernel) rfl rfl (Nat.le_of_ble_eq_true rfl) (sf_14 G h0 a _ _ _ _ _ (F 13)) dX0_truth_13 (fun H locs w hP hD hS hO => ?_)
    refine lv_aload_n hx hb dX0_truth_16 rfl (lv_at hl 0 rfl) ?_
    refine lv_iload_n hx hb dX0_truth_17 rfl (lv_at hl 1 rfl) ?_
    refine lv_if_eq (tgt := 25) hx hb dX0_truth_18 (by decide) (fun c73 => ?_) (fun c73 => ?_)
    · have n74 : b9 = 0 := (nI_eq (a := b9) (b := 0) (by omega) (by omega)).mp c73
      refine lv_aload_n hx hb dX0_truth_25 rfl (lv_at hl 0 rfl) ?_
      refine c_get (v := .int (F 13)) (C := RX0) (Tc := TX0) (N := 13) (ci := 0) hx hb hq pin_wsX00 hown hE hP hO 24 (sg_24 G h0 a _ _ _ _ _) rfl 8 (by decide) (hq _ pw_55) (fun _ h9 => h9) rfl dX0_truth_26 ?_
      refine c_put (v := .int (F 13)) (ty := .int) (C := RX0) (Tc := TX0) (N := 13) (ci := 0) hx hb hq pin_wsX00 tyX0 tyX0_ok nmX0 hown hE hP hD hS hO 24 (sg_24 G h0 a _ _ _ _ _) rfl 10 (by decide) (hq _ pw_157) (fun _ h9 => h9) rfl (by decide +kernel) rfl rfl (Nat.le_of_ble_eq_true rfl) (sf_15 G h0 a _ _ _ _ _ (F 13)) dX0_truth_29 (fun H locs w hP hD hS hO => ?_)
      refine lv_aload_n hx hb dX0_truth_32 rfl (lv_at hl 0 rfl) ?_
      refine lv_iconst (v := 1) hx hb dX0_truth_33 (by decide) ?_
      refine lv_iload_n hx hb dX0_truth_34 rfl (lv_at hl 1 rfl) ?_
      refine lv_if_eq (tgt := 42) hx hb dX0_truth_35 (by decide) (fun c75 => ?_) (fun c75 => ?_)
      · have n76 : b9 = 0 := (nI_eq (a := b9) (b := 0) (by omega) (by omega)).mp c75
        refine lv_iconst (v := 0) hx hb dX0_truth_42 (by decide) ?_
        refine lv_bipush (v := 61) hx hb dX0_truth_43 (by decide) ?_
        have hO : OKW G h0 a (upd (upd (upd (upd (upd (upd F 2 (nI sz)) 5 (nI cs)) 12 (nI vr)) 14 (F 13)) 15 (F 13)) 5 (nI cs)) (updR (updR R 2 (.ref pq)) 3 (.ref mq)) Z B J K.1 (fun q99 x99 => x99 = rep G a K q99) w := hO.to rfl
        obtain ⟨_, qr80, hqr81⟩ := hO.2.1 24 _ (sg_24 G h0 a _ _ _ _ _)
        refine pc_V0 (G := G) (As := [.int 1, .int 0, .int 61]) (rest := []) hx hb hml hown hq hE hX pX0_al hP hD hS hA hl.1 (B_give l G h0 a (upd (upd (upd (upd (upd F 2 (nI sz)) 5 (nI cs)) 12 (nI vr)) 14 (F 13)) 15 (F 13)) (updR (updR R 2 (.ref pq)) 3 (.ref mq)) Z B J K.1 (fun q99 x99 => x99 = rep G a K q99) w 1 0 61 cs (by omega) hng hO) (gV pw_158 pw_159 pw_160 pw_63 pw_128) hV_X0_give qr80 0 hqr81 rfl rfl rfl (Nat.le_of_ble_eq_true rfl) dX0_truth_45 ⟨(by show 0 + 0 ≤ 1; omega), (by show 0 + 0 ≤ 6; omega)⟩ ⟨(by show 3 + 1 ≤ (5 * n + 33); omega), (by show 8 + (4 + 11) + 83 ≤ (200 * n + 560); omega)⟩ (fun v79 u77 H locs hw78 hP hD hS => ?_)
        obtain ⟨w, cs82, f83, f84, f85, f86⟩ := u77
        obtain ⟨hw78, h87, h88, hO⟩ := hw78
        have h87 : cs ≤ cs82 ∧ cs82 ≤ cs + 1 ∧ cs82 ≤ 10000 := h87
        have h88 : Nng f85 := h88
        obtain rfl : v79 = some (.int 61) := hw78
        have hO : OKP G h0 a (upd (upd (upd (upd (upd F 2 (nI sz)) 5 (nI cs82)) 12 (nI vr)) 14 (F 13)) 15 (F 13)) (updR (updR R 2 (.ref pq)) 3 (.ref mq)) Z (updA (updA (updA (updA B 16 f83) 17 f84) 18 f85) 19 f86) J K w := hO.to rfl
        refine W.widen (k := 0) (n := 0) (Nat.le_of_ble_eq_true rfl) (Nat.le_of_ble_eq_true rfl) ?_
        refine W.eq (g2 := F0 m 48 ls [.int 61]) rfl ?_
        refine W_size (fun hz1 hz2 => ?_)
        refine vx_ret ?_
        have hz89 : BdE K K := BdE.rfl
        have hz90 : Bth B (updA (updA (updA (updA B 16 f83) 17 f84) 18 f85) 19 f86) := (show Thx (upd (upd (upd F 2 (nI sz)) 5 (nI cs)) 12 (nI vr)) (upd (upd (upd (upd (upd (upd F 2 (nI sz)) 5 (nI cs)) 12 (nI vr)) 5 (nI cs82)) 14 (F 13)) 15 (F 13)) B (updA (updA (updA (updA B 16 f83) 17 f84) 18 f85) 19 f86) from (Thx.b (Thx.b8 (Thx.b (Thx.b (Thx.f (Thx.f (Thx.f Thx.rfl (by omega)) (by omega)) (by omega)) (by omega) (by decide)) (by omega) (by decide)) h88) (by omega) (by decide))).2
        have hz91 : cs82 ≤ 10000 := (by omega)
        have hO : OKP G h0 a (upd (upd (upd (upd (upd (upd F 2 (nI sz)) 5 (nI cs82)) 12 (nI vr)) 13 (F 13)) 14 (F 13)) 15 (F 13)) (updR (updR R 2 (.ref pq)) 3 (.ref mq)) Z (updA (updA (updA (updA B 16 f83) 17 f84) 18 f85) 19 f86) J K w := hO.to rfl
        refine W.widen (k := 1) (n := 6) (by omega) (by omega) ?_
        have hzz1 : H.size ≤ s.heap.size + (0) := (by have z : 0 ≤ 0 := (by omega); omega)
        have hzz2 : hSl H ≤ hSl s.heap + (0) := (by have z : 0 ≤ 0 := (by omega); omega)
        exact W.iret (v := 61) hx hb hr (fun t99 ht99 hW99 => ⟨⟨_, (w, (K, (updA (updA (updA (updA B 16 f83) 17 f84) 18 f85) 19 f86), cs82, (F 13), (F 13), (F 13), (61 : Int32))), rfl, ⟨rfl, hz89, hz90, hz91, hO⟩, by rw [ht99]; exact hP, hD, by rw [ht99]; exact hzz1, by rw [ht99]; exact hzz2⟩, hS.F ht99⟩) hS.2.2 dX0_truth_48
      · have n92 : ¬ (b9 = 0) := fun h9 => c75 ((nI_eq (a := b9) (b := 0) (by omega) (by omega)).mpr h9)
        refine lv_iconst (v := 1) hx hb dX0_truth_38 (by decide) ?_
        refine lv_goto (tgt := 43) hx hb dX0_truth_39 (by decide) ?_
        refine lv_bipush (v := 61) hx hb dX0_truth_43 (by decide) ?_
        have hO : OKW G h0 a (upd (upd (upd (upd (upd (upd F 2 (nI sz)) 5 (nI cs)) 12 (nI vr)) 14 (F 13)) 15 (F 13)) 5 (nI cs)) (updR (updR R 2 (.ref pq)) 3 (.ref mq)) Z B J K.1 (fun q99 x99 => x99 = rep G a K q99) w := hO.to rfl
        obtain ⟨_, qr96, hqr97⟩ := hO.2.1 24 _ (sg_24 G h0 a _ _ _ _ _)
        refine pc_V0 (G := G) (As := [.int 1, .int 1, .int 61]) (rest := []) hx hb hml hown hq hE hX pX0_al hP hD hS hA hl.1 (B_give l G h0 a (upd (upd (upd (upd (upd F 2 (nI sz)) 5 (nI cs)) 12 (nI vr)) 14 (F 13)) 15 (F 13)) (updR (updR R 2 (.ref pq)) 3 (.ref mq)) Z B J K.1 (fun q99 x99 => x99 = rep G a K q99) w 1 1 61 cs (by omega) hng hO) (gV pw_158 pw_159 pw_160 pw_63 pw_128) hV_X0_give qr96 0 hqr97 rfl rfl rfl (Nat.le_of_ble_eq_true rfl) dX0_truth_45 ⟨(by show 0 + 0 ≤ 1; omega), (by show 0 + 0 ≤ 6; omega)⟩ ⟨(by show 3 + 1 ≤ (5 * n + 33); omega), (by show 8 + (4 + 11) + 83 ≤ (200 * n + 560); omega)⟩ (fun v95 u93 H locs hw94 hP hD hS => ?_)
        obtain ⟨w, cs98, f99, f100, f101, f102⟩ := u93
        obtain ⟨hw94, h103, h104, hO⟩ := hw94
        have h103 : cs ≤ cs98 ∧ cs98 ≤ cs + 1 ∧ cs98 ≤ 10000 := h103
        have h104 : Nng f101 := h104
        obtain rfl : v95 = some (.int 61) := hw94
        have hO : OKP G h0 a (upd (upd (upd (upd (upd F 2 (nI sz)) 5 (nI cs98)) 12 (nI vr)) 14 (F 13)) 15 (F 13)) (updR (updR R 2 (.ref pq)) 3 (.ref mq)) Z (updA (updA (updA (updA B 16 f99) 17 f100) 18 f101) 19 f102) J K w := hO.to rfl
        refine W.widen (k := 0) (n := 0) (Nat.le_of_ble_eq_true rfl) (Nat.le_of_ble_eq_true rfl) ?_
        refine W.eq (g2 := F0 m 48 ls [.int 61]) rfl ?_
        refine W_size (fun hz1 hz2 => ?_)
        refine vx_ret ?_
        have hz105 : BdE K K := BdE.rfl
        have hz106 : Bth B (updA (updA (updA (updA B 16 f99) 17 f100) 18 f101) 19 f102) := (show Thx (upd (upd (upd F 2 (nI sz)) 5 (nI cs)) 12 (nI vr)) (upd (upd (upd (upd (upd (upd F 2 (nI sz)) 5 (nI cs)) 12 (nI vr)) 5 (nI cs98)) 14 (F 13)) 15 (F 13)) B (updA (updA (updA (updA B 16 f99) 17 f100) 18 f101) 19 f102) from (Thx.b (Thx.b8 (Thx.b (Thx.b (Thx.f (Thx.f (Thx.f Thx.rfl (by omega)) (by omega)) (by omega)) (by omega) (by decide)) (by omega) (by decide)) h104) (by omega) (by decide))).2
        have hz107 : cs98 ≤ 10000 := (by omega)
        have hO : OKP G h0 a (upd (upd (upd (upd (upd (upd F 2 (nI sz)) 5 (nI cs98)) 12 (nI vr)) 13 (F 13)) 14 (F 13)) 15 (F 13)) (updR (updR R 2 (.ref pq)) 3 (.ref mq)) Z (updA (updA (updA (updA B 16 f99) 17 f100) 18 f101) 19 f102) J K w := hO.to rfl
        refine W.widen (k := 1) (n := 6) (by omega) (by omega) ?_
        have hzz1 : H.size ≤ s.heap.size + (0) := (by have z : 0 ≤ 0 := (by omega); omega)
        have hzz2 : hSl H ≤ hSl s.heap + (0) := (by have z : 0 ≤ 0 := (by omega); omega)
        exact W.iret (v := 61) hx hb hr (fun t99 ht99 hW99 => ⟨⟨_, (w, (K, (updA (updA (updA (updA B 16 f99) 17 f100) 18 f101) 19 f102), cs98, (F 13), (F 13), (F 13), (61 : Int32))), rfl, ⟨rfl, hz105, hz106, hz107, hO⟩, by rw [ht99]; exact hP, hD, by rw [ht99]; exact hzz1, by rw [ht99]; exact hzz2⟩, hS.F ht99⟩) hS.2.2 dX0_truth_48
    · have n108 : ¬ (b9 = 0) := fun h9 => c73 ((nI_eq (a := b9) (b := 0) (by omega) (by omega)).mpr h9)
      refine lv_iconst (v := (-1)) hx hb dX0_truth_21 (by decide) ?_
      refine lv_goto (tgt := 29) hx hb dX0_truth_22 (by decide) ?_
      refine c_put (v := .int (-1)) (ty := .int) (C := RX0) (Tc := TX0) (N := 13) (ci := 0) hx hb hq pin_wsX00 tyX0 tyX0_ok nmX0 hown hE hP hD hS hO 24 (sg_24 G h0 a _ _ _ _ _) rfl 10 (by decide) (hq _ pw_157) (fun _ h9 => h9) rfl (by decide +kernel) rfl rfl (Nat.le_of_ble_eq_true rfl) (sf_15 G h0 a _ _ _ _ _ (-1)) dX0_truth_29 (fun H locs w hP hD hS hO => ?_)
      refine lv_aload_n hx hb dX0_truth_32 rfl (lv_at hl 0 rfl) ?_
      refine lv_iconst (v := 1) hx hb dX0_truth_33 (by decide) ?_
      refine lv_iload_n hx hb dX0_truth_34 rfl (lv_at hl 1 rfl) ?_
      refine lv_if_eq (tgt := 42) hx hb dX0_truth_35 (by decide) (fun c109 => ?_) (fun c109 => ?_)
      · have n110 : b9 = 0 := (nI_eq (a := b9) (b := 0) (by omega) (by omega)).mp c109
        refine lv_iconst (v := 0) hx hb dX0_truth_42 (by decide) ?_
        refine lv_bipush (v := 61) hx hb dX0_truth_43 (by decide) ?_
        have hO : OKW G h0 a (upd (upd (upd (upd (upd (upd F 2 (nI sz)) 5 (nI cs)) 12 (nI vr)) 14 (F 13)) 15 (-1)) 5 (nI cs)) (updR (updR R 2 (.ref pq)) 3 (.ref mq)) Z B J K.1 (fun q99 x99 => x99 = rep G a K q99) w := hO.to rfl
        obtain ⟨_, qr114, hqr115⟩ := hO.2.1 24 _ (sg_24 G h0 a _ _ _ _ _)
        refine pc_V0 (G := G) (As := [.int 1, .int 0, .int 61]) (rest := []) hx hb hml hown hq hE hX pX0_al hP hD hS hA hl.1 (B_give l G h0 a (upd (upd (upd (upd (upd F 2 (nI sz)) 5 (nI cs)) 12 (nI vr)) 14 (F 13)) 15 (-1)) (updR (updR R 2 (.ref pq)) 3 (.ref mq)) Z B J K.1 (fun q99 x99 => x99 = rep G a K q99) w 1 0 61 cs (by omega) hng hO) (gV pw_158 pw_159 pw_160 pw_63 pw_128) hV_X0_give qr114 0 hqr115 rfl rfl rfl (Nat.le_of_ble_eq_true rfl) dX0_truth_45 ⟨(by show 0 + 0 ≤ 1; omega), (by show 0 + 0 ≤ 6; omega)⟩ ⟨(by show 3 + 1 ≤ (5 * n + 33); omega), (by show 8 + (4 + 11) + 83 ≤ (200 * n + 560); omega)⟩ (fun v113 u111 H locs hw112 hP hD hS => ?_)
        obtain ⟨w, cs116, f117, f118, f119, f120⟩ := u111
        obtain ⟨hw112, h121, h122, hO⟩ := hw112
        have h121 : cs ≤ cs116 ∧ cs116 ≤ cs + 1 ∧ cs116 ≤ 10000 := h121
        have h122 : Nng f119 := h122
        obtain rfl : v113 = some (.int 61) := hw112
        have hO : OKP G h0 a (upd (upd (upd (upd (upd F 2 (nI sz)) 5 (nI cs116)) 12 (nI vr)) 14 (F 13)) 15 (-1)) (updR (updR R 2 (.ref pq)) 3 (.ref mq)) Z (updA (updA (updA (updA B 16 f117) 17 f118) 18 f119) 19 f120) J K w := hO.to rfl
        refine W.widen (k := 0) (n := 0) (Nat.le_of_ble_eq_true rfl) (Nat.le_of_ble_eq_true rfl) ?_
        refine W.eq (g2 := F0 m 48 ls [.int 61]) rfl ?_
        refine W_size (fun hz1 hz2 => ?_)
        refine vx_ret ?_
        have hz123 : BdE K K := BdE.rfl
        have hz124 : Bth B (updA (updA (updA (updA B 16 f117) 17 f118) 18 f119) 19 f120) := (show Thx (upd (upd (upd F 2 (nI sz)) 5 (nI cs)) 12 (nI vr)) (upd (upd (upd (upd (upd (upd F 2 (nI sz)) 5 (nI cs)) 12 (nI vr)) 5 (nI cs116)) 14 (F 13)) 15 (-1)) B (updA (updA (updA (updA B 16 f117) 17 f118) 18 f119) 19 f120) from (Thx.b (Thx.b8 (Thx.b (Thx.b (Thx.f (Thx.f (Thx.f Thx.rfl (by omega)) (by omega)) (by omega)) (by omega) (by decide)) (by omega) (by decide)) h122) (by omega) (by decide))).2
        have hz125 : cs116 ≤ 10000 := (by omega)
        have hO : OKP G h0 a (upd (upd (upd (upd (upd (upd F 2 (nI sz)) 5 (nI cs116)) 12 (nI vr)) 13 (F 13)) 14 (F 13)) 15 ((-1) : Int32)) (updR (updR R 2 (.ref pq)) 3 (.ref mq)) Z (updA (updA (updA (updA B 16 f117) 17 f118) 18 f119) 19 f120) J K w := hO.to rfl
        refine W.widen (k := 1) (n := 6) (by omega) (by omega) ?_
        have hzz1 : H.size ≤ s.heap.size + (0) := (by have z : 0 ≤ 0 := (by omega); omega)
        have hzz2 : hSl H ≤ hSl s.heap + (0) := (by have z : 0 ≤ 0 := (by omega); omega)
        exact W.iret (v := 61) hx hb hr (fun t99 ht99 hW99 => ⟨⟨_, (w, (K, (updA (updA (updA (updA B 16 f117) 17 f118) 18 f119) 19 f120), cs116, (F 13), (F 13), ((-1) : Int32), (61 : Int32))), rfl, ⟨rfl, hz123, hz124, hz125, hO⟩, by rw [ht99]; exact hP, hD, by rw [ht99]; exact hzz1, by rw [ht99]; exact hzz2⟩, hS.F ht99⟩) hS.2.2 dX0_truth_48
      · have n126 : ¬ (b9 = 0) := fun h9 => c109 ((nI_eq (a := b9) (b := 0) (by omega) (by omega)).mpr h9)
        refine lv_iconst (v := 1) hx hb dX0_truth_38 (by decide) ?_
        refine lv_goto (tgt := 43) hx hb dX0_truth_39 (by decide) ?_
        refine lv_bipush (v := 61) hx hb dX0_truth_43 (by decide) ?_
        have hO : OKW G h0 a (upd (upd (upd (upd (upd (upd F 2 (nI sz)) 5 (nI cs)) 12 (nI vr)) 14 (F 13)) 15 (-1)) 5 (nI cs)) (updR (updR R 2 (.ref pq)) 3 (.ref mq)) Z B J K.1 (fun q99 x99 => x99 = rep G a K q99) w := hO.to rfl
        obtain ⟨_, qr130, hqr131⟩ := hO.2.1 24 _ (sg_24 G h0 a _ _ _ _ _)
        refine pc_V0 (G := G) (As := [.int 1, .int 1, .int 61]) (rest := []) hx hb hml hown hq hE hX pX0_al hP hD hS hA hl.1 (B_give l G h0 a (upd (upd (upd (upd (upd F 2 (nI sz)) 5 (nI cs)) 12 (nI vr)) 14 (F 13)) 15 (-1)) (updR (updR R 2 (.ref pq)) 3 (.ref mq)) Z B J K.1 (fun q99 x99 => x99 = rep G a K q99) w 1 1 61 cs (by omega) hng hO) (gV pw_158 pw_159 pw_160 pw_63 pw_128) hV_X0_give qr130 0 hqr131 rfl rfl rfl (Nat.le_of_ble_eq_true rfl) dX0_truth_45 ⟨(by show 0 + 0 ≤ 1; omega), (by show 0 + 0 ≤ 6; omega)⟩ ⟨(by show 3 + 1 ≤ (5 * n + 33); omega), (by show 8 + (4 + 11) + 83 ≤ (200 * n + 560); omega)⟩ (fun v129 u127 H locs hw128 hP hD hS => ?_)
        obtain ⟨w, cs132, f133, f134, f135, f136⟩ := u127
        obtain ⟨hw128, h137, h138, hO⟩ := hw128
        have h137 : cs ≤ cs132 ∧ cs132 ≤ cs + 1 ∧ cs132 ≤ 10000 := h137
        have h138 : Nng f135 := h138
        obtain rfl : v129 = some (.int 61) := hw128
        have hO : OKP G h0 a (upd (upd (upd (upd (upd F 2 (nI sz)) 5 (nI cs132)) 12 (nI vr)) 14 (F 13)) 15 (-1)) (updR (updR R 2 (.ref pq)) 3 (.ref mq)) Z (updA (updA (updA (updA B 16 f133) 17 f134) 18 f135) 19 f136) J K w := hO.to rfl
        refine W.widen (k := 0) (n := 0) (Nat.le_of_ble_eq_true rfl) (Nat.le_of_ble_eq_true rfl) ?_
        refine W.eq (g2 := F0 m 48 ls [.int 61]) rfl ?_
        refine W_size (fun hz1 hz2 => ?_)
        refine vx_ret ?_
        have hz139 : BdE K K := BdE.rfl
        have hz140 : Bth B (updA (updA (updA (updA B 16 f133) 17 f134) 18 f135) 19 f136) := (show Thx (upd (upd (upd F 2 (nI sz)) 5 (nI cs)) 12 (nI vr)) (upd (upd (upd (upd (upd (upd F 2 (nI sz)) 5 (nI cs)) 12 (nI vr)) 5 (nI cs132)) 14 (F 13)) 15 (-1)) B (updA (updA (updA (updA B 16 f133) 17 f134) 18 f135) 19 f136) from (Thx.b (Thx.b8 (Thx.b (Thx.b (Thx.f (Thx.f (Thx.f Thx.rfl (by omega)) (by omega)) (by omega)) (by omega) (by decide)) (by omega) (by decide)) h138) (by omega) (by decide))).2
        have hz141 : cs132 ≤ 10000 := (by omega)
        have hO : OKP G h0 a (upd (upd (upd (upd (upd (upd F 2 (nI sz)) 5 (nI cs132)) 12 (nI vr)) 13 (F 13)) 14 (F 13)) 15 ((-1) : Int32)) (updR (updR R 2 (.ref pq)) 3 (.ref mq)) Z (updA (updA (updA (updA B 16 f133) 17 f134) 18 f135) 19 f136) J K w := hO.to rfl
        refine W.widen (k := 1) (n := 6) (by omega) (by omega) ?_
        have hzz1 : H.size ≤ s.heap.size + (0) := (by have z : 0 ≤ 0 := (by omega); omega)
        have hzz2 : hSl H ≤ hSl s.heap + (0) := (by have z : 0 ≤ 0 := (by omega); omega)
        exact W.iret (v := 61) hx hb hr (fun t99 ht99 hW99 => ⟨⟨_, (w, (K, (updA (updA (updA (updA B 16 f133) 17 f134) 18 f135) 19 f136), cs132, (F 13), (F 13), ((-1) : Int32), (61 : Int32))), rfl, ⟨rfl, hz139, hz140, hz141, hO⟩, by rw [ht99]; exact hP, hD, by rw [ht99]; exact hzz1, by rw [ht99]; exact hzz2⟩, hS.F ht99⟩) hS.2.2 dX0_truth_48
