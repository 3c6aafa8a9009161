theorem sw_m44_64 {x : Int32} (h44 : ¬ x = 44) (h45 : ¬ x = 45) (h46 : ¬ x = 46) (h47 : ¬ x = 47) (h48 : ¬ x = 48) (h49 : ¬ x = 49) (h50 : ¬ x = 50) (h51 : ¬ x = 51) (h52 : ¬ x = 52) (h53 : ¬ x = 53) (h54 : ¬ x = 54) (h55 : ¬ x = 55) (h56 : ¬ x = 56) (h57 : ¬ x = 57) (h58 : ¬ x = 58) (h59 : ¬ x = 59) (h60 : ¬ x = 60) (h61 : ¬ x = 61) (h62 : ¬ x = 62) (h63 : ¬ x = 63) (h64 : ¬ x = 64) : x.toInt < 44 ∨ 64 < x.toInt := by
  have a44 : ¬ x.toInt = 44 := tJ_ne (n := 44) (by decide) h44
  have a45 : ¬ x.toInt = 45 := tJ_ne (n := 45) (by decide) h45
  have a46 : ¬ x.toInt = 46 := tJ_ne (n := 46) (by decide) h46
  have a47 : ¬ x.toInt = 47 := tJ_ne (n := 47) (by decide) h47
  have a48 : ¬ x.toInt = 48 := tJ_ne (n := 48) (by decide) h48
  have a49 : ¬ x.toInt = 49 := tJ_ne (n := 49) (by decide) h49
  have a50 : ¬ x.toInt = 50 := tJ_ne (n := 50) (by decide) h50
  have a51 : ¬ x.toInt = 51 := tJ_ne (n := 51) (by decide) h51
  have a52 : ¬ x.toInt = 52 := tJ_ne (n := 52) (by decide) h52
  have a53 : ¬ x.toInt = 53 := tJ_ne (n := 53) (by decide) h53
  have a54 : ¬ x.toInt = 54 := tJ_ne (n := 54) (by decide) h54
  have a55 : ¬ x.toInt = 55 := tJ_ne (n := 55) (by decide) h55
  have a56 : ¬ x.toInt = 56 := tJ_ne (n := 56) (by decide) h56
  have a57 : ¬ x.toInt = 57 := tJ_ne (n := 57) (by decide) h57
  have a58 : ¬ x.toInt = 58 := tJ_ne (n := 58) (by decide) h58
  have a59 : ¬ x.toInt = 59 := tJ_ne (n := 59) (by decide) h59
  have a60 : ¬ x.toInt = 60 := tJ_ne (n := 60) (by decide) h60
  have a61 : ¬ x.toInt = 61 := tJ_ne (n := 61) (by decide) h61
  have a62 : ¬ x.toInt = 62 := tJ_ne (n := 62) (by decide) h62
  have a63 : ¬ x.toInt = 63 := tJ_ne (n := 63) (by decide) h63
  have a64 : ¬ x.toInt = 64 := tJ_ne (n := 64) (by decide) h64
  omega
theorem sw_m47_59 {x : Int32} (h47 : ¬ x = 47) (h48 : ¬ x = 48) (h49 : ¬ x = 49) (h50 : ¬ x = 50) (h51 : ¬ x = 51) (h52 : ¬ x = 52) (h53 : ¬ x = 53) (h54 : ¬ x = 54) (h55 : ¬ x = 55) (h56 : ¬ x = 56) (h57 : ¬ x = 57) (h58 : ¬ x = 58) (h59 : ¬ x = 59) : x.toInt < 47 ∨ 59 < x.toInt := by
  have a47 : ¬ x.toInt = 47 := tJ_ne (n := 47) (by decide) h47
  have a48 : ¬ x.toInt = 48 := tJ_ne (n := 48) (by decide) h48
  have a49 : ¬ x.toInt = 49 := tJ_ne (n := 49) (by decide) h49
  have a50 : ¬ x.toInt = 50 := tJ_ne (n := 50) (by decide) h50
  have a51 : ¬ x.toInt = 51 := tJ_ne (n := 51) (by decide) h51
  have a52 : ¬ x.toInt = 52 := tJ_ne (n := 52) (by decide) h52
  have a53 : ¬ x.toInt = 53 := tJ_ne (n := 53) (by decide) h53
  have a54 : ¬ x.toInt = 54 := tJ_ne (n := 54) (by decide) h54
  have a55 : ¬ x.toInt = 55 := tJ_ne (n := 55) (by decide) h55
  have a56 : ¬ x.toInt = 56 := tJ_ne (n := 56) (by decide) h56
  have a57 : ¬ x.toInt = 57 := tJ_ne (n := 57) (by decide) h57
  have a58 : ¬ x.toInt = 58 := tJ_ne (n := 58) (by decide) h58
  have a59 : ¬ x.toInt = 59 := tJ_ne (n := 59) (by decide) h59
  omega
theorem sw_m0_13 {x : Int32} (h0 : ¬ x = 0) (h1 : ¬ x = 1) (h2 : ¬ x = 2) (h3 : ¬ x = 3) (h4 : ¬ x = 4) (h5 : ¬ x = 5) (h6 : ¬ x = 6) (h7 : ¬ x = 7) (h8 : ¬ x = 8) (h9 : ¬ x = 9) (h10 : ¬ x = 10) (h11 : ¬ x = 11) (h12 : ¬ x = 12) (h13 : ¬ x = 13) : x.toInt < 0 ∨ 13 < x.toInt := by
  have a0 : ¬ x.toInt = 0 := tJ_ne (n := 0) (by decide) h0
  have a1 : ¬ x.toInt = 1 := tJ_ne (n := 1) (by decide) h1
  have a2 : ¬ x.toInt = 2 := tJ_ne (n := 2) (by decide) h2
  have a3 : ¬ x.toInt = 3 := tJ_ne (n := 3) (by decide) h3
  have a4 : ¬ x.toInt = 4 := tJ_ne (n := 4) (by decide) h4
  have a5 : ¬ x.toInt = 5 := tJ_ne (n := 5) (by decide) h5
  have a6 : ¬ x.toInt = 6 := tJ_ne (n := 6) (by decide) h6
  have a7 : ¬ x.toInt = 7 := tJ_ne (n := 7) (by decide) h7
  have a8 : ¬ x.toInt = 8 := tJ_ne (n := 8) (by decide) h8
  have a9 : ¬ x.toInt = 9 := tJ_ne (n := 9) (by decide) h9
  have a10 : ¬ x.toInt = 10 := tJ_ne (n := 10) (by decide) h10
  have a11 : ¬ x.toInt = 11 := tJ_ne (n := 11) (by decide) h11
  have a12 : ¬ x.toInt = 12 := tJ_ne (n := 12) (by decide) h12
  have a13 : ¬ x.toInt = 13 := tJ_ne (n := 13) (by decide) h13
  omega
theorem dX5_refuse_0 : decode cX5_refuse 0 = .ok (.aload_n 0, 1) := by decide +kernel
theorem dX5_refuse_1 : decode cX5_refuse 1 = .ok (.dup, 1) := by decide +kernel
theorem dX5_refuse_2 : decode cX5_refuse 2 = .ok (.getfield 163, 3) := by decide +kernel
theorem dX5_refuse_5 : decode cX5_refuse 5 = .ok (.iconst 1, 1) := by decide +kernel
theorem dX5_refuse_6 : decode cX5_refuse 6 = .ok (.iadd, 1) := by decide +kernel
theorem dX5_refuse_7 : decode cX5_refuse 7 = .ok (.putfield 163, 3) := by decide +kernel
theorem dX5_refuse_10 : decode cX5_refuse 10 = .ok (.aload_n 0, 1) := by decide +kernel
theorem dX5_refuse_11 : decode cX5_refuse 11 = .ok (.iconst 0, 1) := by decide +kernel
theorem dX5_refuse_12 : decode cX5_refuse 12 = .ok (.putfield 116, 3) := by decide +kernel
theorem dX5_refuse_15 : decode cX5_refuse 15 = .ok (.return_, 1) := by decide +kernel
set_option maxHeartbeats 8000000 in
set_option maxRecDepth 100000 in
theorem M_refuse (l : Launch) (G : pT) (h0 : Nat) (a : Nat → Nat) (F : Nat → Int32) (R : Nat → Value) (Z : Int64) (B : Nat → Nat → Int32) (J : Nat → Nat → Int64) (T : Nat → Nat) (Pi : Nat → va_E → Prop) (w : va_W) (hO : OKW G h0 a F R Z B J T Pi w) : PM l G pX0 yX5_refuse cX5_refuse 1 none ({ frames := 2, cells := 0, slots := 0, locals := 60 }) [.ref (a 5)] w (fun (v : Option Value) (u : va_W × (Int32 × Int32)) => v = none ∧ (OKW G h0 a (upd (upd F 23 u.2.1) 25 u.2.2) R Z B J T Pi u.1)) (fun u => u.1) := by
  intro sz
  refine Met.ofW (cc := cX5_refuse) (maxL := 1) (ret := none) (by decide) rfl ?_
  intro p e s m args below meth c s₁ B9 hml hv
  obtain ⟨rfl, hsz, hP, hD0, hE, hX⟩ := hv
  have hx := B9.exec
  have hb := B9.bytes
  have hr := B9.returns
  have hts := atoms_spec (ws := Cond.code yX5_refuse cX5_refuse 1 none :: pw) B9.pre
  have hq : ∀ w ∈ pw, w.before _ s = true := fun w h => hts w (List.mem_cons_of_mem _ h)
  have hown : s.vm.findClass RX5 = some m.cls := findClass_of_methodNamed B9.named
  have hlocks := B9.notSynchronized
  subst hsz
  have hD := hD0.self (sz := s.heap.size)
  have hA : ∀ q : Nat, s.heap.size ≤ q → va_A w s.heap.size q := fun q h => Or.inr h
  generalize va_A w s.heap.size = A at hD hE hA ⊢
  have hS : va_S A s.heap s.heap [] := va_S.rf
  have hl := lv_entry ([.ref (a 5)]) (n := 1) (Nat.le_of_ble_eq_true rfl)
  rw [lg_entry_eq]
  generalize (lg_sl ([.ref (a 5)]) ++ List.replicate (1 - (lg_sl ([.ref (a 5)])).length) Slot.unset).toArray = ls at hl ⊢
  have hl : lv_has ls 1 [(0, .ref (a 5))] := hl
  refine lv_aload_n hx hb dX5_refuse_0 rfl (lv_at hl 0 rfl) ?_
  refine lv_dup hx hb dX5_refuse_1 rfl ?_
  refine c_get (v := .int (F 25)) (C := RX5) (Tc := TX5) (N := 19) (ci := 4) hx hb hq pin_wsX50 hown hE hP hO 28 (sg_28 G h0 a _ _ _ _ _) rfl 18 (by decide) (hq _ pw_512) (fun _ h9 => h9) rfl dX5_refuse_2 ?_
  refine lv_iconst (v := 1) hx hb dX5_refuse_5 (by decide) ?_
  refine lv_iadd hx hb dX5_refuse_6 ?_
  refine lv_topi (fun x1 e2 => ?_)
  refine c_put (v := .int x1) (ty := .int) (C := RX5) (Tc := TX5) (N := 19) (ci := 4) hx hb hq pin_wsX50 tyX5 tyX5_ok nmX5 hown hE hP hD hS hO 28 (sg_28 G h0 a _ _ _ _ _) rfl 18 (by decide) (hq _ pw_512) (fun _ h9 => h9) rfl (by decide +kernel) rfl rfl (Nat.le_of_ble_eq_true rfl) (sf_25 G h0 a _ _ _ _ _ x1) dX5_refuse_7 (fun H locs w hP hD hS hO => ?_)
  refine lv_aload_n hx hb dX5_refuse_10 rfl (lv_at hl 0 rfl) ?_
  refine lv_iconst (v := 0) hx hb dX5_refuse_11 (by decide) ?_
  refine c_put (v := .int 0) (ty := .int) (C := RX5) (Tc := TX5) (N := 19) (ci := 4) hx hb hq pin_wsX50 tyX5 tyX5_ok nmX5 hown hE hP hD hS hO 28 (sg_28 G h0 a _ _ _ _ _) rfl 16 (by decide) (hq _ pw_513) (fun _ h9 => h9) rfl (by decide +kernel) rfl rfl (Nat.le_of_ble_eq_true rfl) (sf_23 G h0 a _ _ _ _ _ 0) dX5_refuse_12 (fun H locs w hP hD hS hO => ?_)
  have hO : OKW G h0 a (upd (upd F 23 (0 : Int32)) 25 x1) R Z B J T Pi w := hO.to rfl
  exact W.vret hx hb hr (fun t99 ht99 hW99 => ⟨⟨_, (w, ((0 : Int32), x1)), rfl, ⟨rfl, hO⟩, by rw [ht99]; exact hP, hD⟩, hS.F ht99⟩) hS.2.2 dX5_refuse_15
theorem dX5_push_0 : decode cX5_push 0 = .ok (.aload_n 0, 1) := by decide +kernel
theorem dX5_push_1 : decode cX5_push 1 = .ok (.getfield 103, 3) := by decide +kernel
theorem dX5_push_4 : decode cX5_push 4 = .ok (.ifCond .lt 15, 3) := by decide +kernel
theorem dX5_push_19 : decode cX5_push 19 = .ok (.aload_n 0, 1) := by decide +kernel
theorem dX5_push_20 : decode cX5_push 20 = .ok (.invokevirtual 160, 3) := by decide +kernel
theorem dX5_push_23 : decode cX5_push 23 = .ok (.return_, 1) := by decide +kernel
theorem dX5_push_7 : decode cX5_push 7 = .ok (.aload_n 0, 1) := by decide +kernel
theorem dX5_push_8 : decode cX5_push 8 = .ok (.getfield 103, 3) := by decide +kernel
theorem dX5_push_11 : decode cX5_push 11 = .ok (.aload_n 0, 1) := by decide +kernel
theorem dX5_push_12 : decode cX5_push 12 = .ok (.getfield 22, 3) := by decide +kernel
theorem dX5_push_15 : decode cX5_push 15 = .ok (.arraylength, 1) := by decide +kernel
theorem dX5_push_16 : decode cX5_push 16 = .ok (.if_icmp .lt 8, 3) := by decide +kernel
theorem dX5_push_24 : decode cX5_push 24 = .ok (.aload_n 0, 1) := by decide +kernel
theorem dX5_push_25 : decode cX5_push 25 = .ok (.getfield 22, 3) := by decide +kernel
theorem dX5_push_28 : decode cX5_push 28 = .ok (.aload_n 0, 1) := by decide +kernel
theorem dX5_push_29 : decode cX5_push 29 = .ok (.getfield 103, 3) := by decide +kernel
theorem dX5_push_32 : decode cX5_push 32 = .ok (.lload_n 1, 1) := by decide +kernel
theorem dX5_push_33 : decode cX5_push 33 = .ok (.lastore, 1) := by decide +kernel
theorem dX5_push_34 : decode cX5_push 34 = .ok (.aload_n 0, 1) := by decide +kernel
theorem dX5_push_35 : decode cX5_push 35 = .ok (.dup, 1) := by decide +kernel
theorem dX5_push_36 : decode cX5_push 36 = .ok (.getfield 103, 3) := by decide +kernel
theorem dX5_push_39 : decode cX5_push 39 = .ok (.iconst 1, 1) := by decide +kernel
theorem dX5_push_40 : decode cX5_push 40 = .ok (.iadd, 1) := by decide +kernel
theorem dX5_push_41 : decode cX5_push 41 = .ok (.putfield 103, 3) := by decide +kernel
theorem dX5_push_44 : decode cX5_push 44 = .ok (.return_, 1) := by decide +kernel
theorem hV_X5_refuse : yX5_refuse.cls = RX5 ∧ yX5_refuse.cls ≠ "java/lang/invoke/MethodHandle" ∧ yX5_refuse.cls ≠ "java/lang/invoke/VarHandle" ∧ (parseMethodDescriptor yX5_refuse.desc).map (fun d => d.parameters.length) = some 0 := by decide +kernel
set_option maxHeartbeats 8000000 in
set_option maxRecDepth 100000 in
theorem M_push (l : Launch) (G : pT) (h0 : Nat) (a : Nat → Nat) (F : Nat → Int32) (R : Nat → Value) (Z : Int64) (B : Nat → Nat → Int32) (J : Nat → Nat → Int64) (T : Nat → Nat) (Pi : Nat → va_E → Prop) (w : va_W) (x : Int64) (tp : Nat) (htp : tp ≤ 32000) (hO : OKW G h0 a (upd F 19 (nI tp)) R Z B J T Pi w) : PM l G pX0 yX5_push cX5_push 3 none ({ frames := 3, cells := 0, slots := 0, locals := 80 }) [.ref (a 5), .long x] w (fun (v : Option Value) (u : va_W × (Nat × Int32 × Int32 × (Nat → Nat → Int64))) => v = none ∧ (u.2.1 ≤ 32000) ∧ (OKW G h0 a (upd (upd (upd F 19 (nI u.2.1)) 23 u.2.2.1) 25 u.2.2.2.1) R Z B u.2.2.2.2 T Pi u.1)) (fun u => u.1) := by
  intro sz
  refine Met.ofW (cc := cX5_push) (maxL := 3) (ret := none) (by decide) rfl ?_
  intro p e s m args below meth c s₁ B9 hml hv
  obtain ⟨rfl, hsz, hP, hD0, hE, hX⟩ := hv
  have hx := B9.exec
  have hb := B9.bytes
  have hr := B9.returns
  have hts := atoms_spec (ws := Cond.code yX5_push cX5_push 3 none :: pw) B9.pre
  have hq : ∀ w ∈ pw, w.before _ s = true := fun w h => hts w (List.mem_cons_of_mem _ h)
  have hown : s.vm.findClass RX5 = some m.cls := findClass_of_methodNamed B9.named
  have hlocks := B9.notSynchronized
  subst hsz
  have hD := hD0.self (sz := s.heap.size)
  have hA : ∀ q : Nat, s.heap.size ≤ q → va_A w s.heap.size q := fun q h => Or.inr h
  generalize va_A w s.heap.size = A at hD hE hA ⊢
  have hS : va_S A s.heap s.heap [] := va_S.rf
  have hl := lv_entry ([.ref (a 5), .long x]) (n := 3) (Nat.le_of_ble_eq_true rfl)
  rw [lg_entry_eq]
  generalize (lg_sl ([.ref (a 5), .long x]) ++ List.replicate (3 - (lg_sl ([.ref (a 5), .long x])).length) Slot.unset).toArray = ls at hl ⊢
  have hl : lv_has ls 3 [(0, .ref (a 5)), (1, .long x)] := hl
  refine lv_aload_n hx hb dX5_push_0 rfl (lv_at hl 0 rfl) ?_
  refine c_get (v := .int (nI tp)) (C := RX5) (Tc := TX5) (N := 19) (ci := 4) hx hb hq pin_wsX50 hown hE hP hO 28 (sg_28 G h0 a _ _ _ _ _) rfl 11 (by decide) (hq _ pw_505) (fun _ h9 => h9) rfl dX5_push_1 ?_
  refine lv_if_lt (tgt := 19) hx hb dX5_push_4 (by decide) (fun c1 => ?_) (fun c1 => ?_)
  · have n2 : tp < 0 := (nI_ltI (a := tp) (b := 0) (by omega) (by omega)).mp c1
    refine lv_aload_n hx hb dX5_push_19 rfl (lv_at hl 0 rfl) ?_
    have hO : OKW G h0 a (upd F 19 (nI tp)) R Z B J T Pi w := hO.to rfl
    obtain ⟨_, qr6, hqr7⟩ := hO.2.1 28 _ (sg_28 G h0 a _ _ _ _ _)
    refine pc_V0 (G := G) (As := []) (rest := []) hx hb hml hown hq hE hX pX0_al hP hD hS hA hl.1 (M_refuse l G h0 a (upd F 19 (nI tp)) R Z B J T Pi w hO) (gV pw_536 pw_537 pw_538 pw_539 pw_511) hV_X5_refuse qr6 4 hqr7 rfl rfl rfl (Nat.le_of_ble_eq_true rfl) dX5_push_20 ⟨Nat.le_of_ble_eq_true rfl, Nat.le_of_ble_eq_true rfl⟩ ⟨Nat.le_of_ble_eq_true rfl, Nat.le_of_ble_eq_true rfl⟩ (fun v5 u3 H locs hw4 hP hD hS => ?_)
    obtain ⟨w, en8, rf9⟩ := u3
    obtain ⟨hw4, hO⟩ := hw4
    obtain rfl : v5 = none := hw4
    have hO : OKW G h0 a (upd (upd (upd F 19 (nI tp)) 23 en8) 25 rf9) R Z B J T Pi w := hO.to rfl
    refine W.widen (k := 0) (n := 0) (Nat.le_of_ble_eq_true rfl) (Nat.le_of_ble_eq_true rfl) ?_
    refine W.eq (g2 := F0 m 23 ls []) rfl ?_
    have hz10 : tp ≤ 32000 := (by omega)
    have hO : OKW G h0 a (upd (upd (upd F 19 (nI tp)) 23 en8) 25 rf9) R Z B J T Pi w := hO.to rfl
    exact W.vret hx hb hr (fun t99 ht99 hW99 => ⟨⟨_, (w, (tp, en8, rf9, J)), rfl, ⟨rfl, hz10, hO⟩, by rw [ht99]; exact hP, hD⟩, hS.F ht99⟩) hS.2.2 dX5_push_23
  · have n11 : ¬ (tp < 0) := fun h9 => c1 ((nI_ltI (a := tp) (b := 0) (by omega) (by omega)).mpr h9)
    refine lv_aload_n hx hb dX5_push_7 rfl (lv_at hl 0 rfl) ?_
    refine c_get (v := .int (nI tp)) (C := RX5) (Tc := TX5) (N := 19) (ci := 4) hx hb hq pin_wsX50 hown hE hP hO 28 (sg_28 G h0 a _ _ _ _ _) rfl 11 (by decide) (hq _ pw_505) (fun _ h9 => h9) rfl dX5_push_8 ?_
    refine lv_aload_n hx hb dX5_push_11 rfl (lv_at hl 0 rfl) ?_
    refine c_get (v := .ref (a 29)) (C := RX5) (Tc := TX5) (N := 19) (ci := 4) hx hb hq pin_wsX50 hown hE hP hO 28 (sg_28 G h0 a _ _ _ _ _) rfl 2 (by decide) (hq _ pw_474) (fun _ h9 => h9) rfl dX5_push_12 ?_
    refine c_len (n := 0) (t0 := 2) (v := 32000) hx hb hE hP hO 32 (sg_32 G h0 a _ _ _ _ _) rfl rfl dX5_push_15 ?_
    refine lv_icmp_lt (tgt := 24) hx hb dX5_push_16 (by decide) (fun c12 => ?_) (fun c12 => ?_)
    · have n13 : tp < 32000 := (nI_ltI (a := tp) (b := 32000) (by omega) (by omega)).mp c12
      refine lv_aload_n hx hb dX5_push_24 rfl (lv_at hl 0 rfl) ?_
      refine c_get (v := .ref (a 29)) (C := RX5) (Tc := TX5) (N := 19) (ci := 4) hx hb hq pin_wsX50 hown hE hP hO 28 (sg_28 G h0 a _ _ _ _ _) rfl 2 (by decide) (hq _ pw_474) (fun _ h9 => h9) rfl dX5_push_25 ?_
      refine lv_aload_n hx hb dX5_push_28 rfl (lv_at hl 0 rfl) ?_
      refine c_get (v := .int (nI tp)) (C := RX5) (Tc := TX5) (N := 19) (ci := 4) hx hb hq pin_wsX50 hown hE hP hO 28 (sg_28 G h0 a _ _ _ _ _) rfl 11 (by decide) (hq _ pw_505) (fun _ h9 => h9) rfl dX5_push_29 ?_
      refine lv_lload_n hx hb dX5_push_32 rfl (lv_at hl 1 rfl) ?_
      refine c_stl (f := (J 29)) (n := 32000) (t0 := 2) hx hb hE hP hD hS hO 32 (sg_32 G h0 a _ _ _ _ _) rfl (vp_in_nI (by omega) (by decide)) (sj_29 G h0 a _ _ _ _ _ _) dX5_push_33 (fun H locs w hP hD hS hO => ?_)
      rw [(nI_clamp (show tp < 2 ^ 31 by omega))] at hO
      refine lv_aload_n hx hb dX5_push_34 rfl (lv_at hl 0 rfl) ?_
      refine lv_dup hx hb dX5_push_35 rfl ?_
      refine c_get (v := .int (nI tp)) (C := RX5) (Tc := TX5) (N := 19) (ci := 4) hx hb hq pin_wsX50 hown hE hP hO 28 (sg_28 G h0 a _ _ _ _ _) rfl 11 (by decide) (hq _ pw_505) (fun _ h9 => h9) rfl dX5_push_36 ?_
      refine lv_iconst (v := 1) hx hb dX5_push_39 (by decide) ?_
      refine lv_iadd hx hb dX5_push_40 ?_
      refine lv_topi (fun x14 e15 => ?_)
      obtain rfl : x14 = nI (tp + 1) := e15.trans (nI_add (tp) (1))
      refine c_put (v := .int (nI (tp + 1))) (ty := .int) (C := RX5) (Tc := TX5) (N := 19) (ci := 4) hx hb hq pin_wsX50 tyX5 tyX5_ok nmX5 hown hE hP hD hS hO 28 (sg_28 G h0 a _ _ _ _ _) rfl 11 (by decide) (hq _ pw_505) (fun _ h9 => h9) rfl (by decide +kernel) rfl rfl (Nat.le_of_ble_eq_true rfl) (sf_19 G h0 a _ _ _ _ _ (nI (tp + 1))) dX5_push_41 (fun H locs w hP hD hS hO => ?_)
      have hz16 : (tp + 1) ≤ 32000 := (by omega)
      have hO : OKW G h0 a (upd (upd (upd F 19 (nI (tp + 1))) 23 (F 23)) 25 (F 25)) R Z B (updJ J 29 (vp_updL (J 29) tp x)) T Pi w := hO.to rfl
      exact W.vret hx hb hr (fun t99 ht99 hW99 => ⟨⟨_, (w, ((tp + 1), (F 23), (F 25), (updJ J 29 (vp_updL (J 29) tp x)))), rfl, ⟨rfl, hz16, hO⟩, by rw [ht99]; exact hP, hD⟩, hS.F ht99⟩) hS.2.2 dX5_push_44
    · have n17 : ¬ (tp < 32000) := fun h9 => c12 ((nI_ltI (a := tp) (b := 32000) (by omega) (by omega)).mpr h9)
      refine lv_aload_n hx hb dX5_push_19 rfl (lv_at hl 0 rfl) ?_
      have hO : OKW G h0 a (upd F 19 (nI tp)) R Z B J T Pi w := hO.to rfl
      obtain ⟨_, qr21, hqr22⟩ := hO.2.1 28 _ (sg_28 G h0 a _ _ _ _ _)
      refine pc_V0 (G := G) (As := []) (rest := []) hx hb hml hown hq hE hX pX0_al hP hD hS hA hl.1 (M_refuse l G h0 a (upd F 19 (nI tp)) R Z B J T Pi w hO) (gV pw_536 pw_537 pw_538 pw_539 pw_511) hV_X5_refuse qr21 4 hqr22 rfl rfl rfl (Nat.le_of_ble_eq_true rfl) dX5_push_20 ⟨Nat.le_of_ble_eq_true rfl, Nat.le_of_ble_eq_true rfl⟩ ⟨Nat.le_of_ble_eq_true rfl, Nat.le_of_ble_eq_true rfl⟩ (fun v20 u18 H locs hw19 hP hD hS => ?_)
      obtain ⟨w, en23, rf24⟩ := u18
      obtain ⟨hw19, hO⟩ := hw19
      obtain rfl : v20 = none := hw19
      have hO : OKW G h0 a (upd (upd (upd F 19 (nI tp)) 23 en23) 25 rf24) R Z B J T Pi w := hO.to rfl
      refine W.widen (k := 0) (n := 0) (Nat.le_of_ble_eq_true rfl) (Nat.le_of_ble_eq_true rfl) ?_
      refine W.eq (g2 := F0 m 23 ls []) rfl ?_
      have hz25 : tp ≤ 32000 := (by omega)
      have hO : OKW G h0 a (upd (upd (upd F 19 (nI tp)) 23 en23) 25 rf24) R Z B J T Pi w := hO.to rfl
      exact W.vret hx hb hr (fun t99 ht99 hW99 => ⟨⟨_, (w, (tp, en23, rf24, J)), rfl, ⟨rfl, hz25, hO⟩, by rw [ht99]; exact hP, hD⟩, hS.F ht99⟩) hS.2.2 dX5_push_23
theorem dX5_pop_0 : decode cX5_pop 0 = .ok (.aload_n 0, 1) := by decide +kernel
theorem dX5_pop_1 : decode cX5_pop 1 = .ok (.getfield 103, 3) := by decide +kernel
theorem dX5_pop_4 : decode cX5_pop 4 = .ok (.ifCond .le 15, 3) := by decide +kernel
theorem dX5_pop_19 : decode cX5_pop 19 = .ok (.aload_n 0, 1) := by decide +kernel
theorem dX5_pop_20 : decode cX5_pop 20 = .ok (.invokevirtual 160, 3) := by decide +kernel
theorem dX5_pop_23 : decode cX5_pop 23 = .ok (.lconst 0, 1) := by decide +kernel
theorem dX5_pop_24 : decode cX5_pop 24 = .ok (.lreturn, 1) := by decide +kernel
theorem dX5_pop_7 : decode cX5_pop 7 = .ok (.aload_n 0, 1) := by decide +kernel
theorem dX5_pop_8 : decode cX5_pop 8 = .ok (.getfield 103, 3) := by decide +kernel
theorem dX5_pop_11 : decode cX5_pop 11 = .ok (.aload_n 0, 1) := by decide +kernel
theorem dX5_pop_12 : decode cX5_pop 12 = .ok (.getfield 22, 3) := by decide +kernel
theorem dX5_pop_15 : decode cX5_pop 15 = .ok (.arraylength, 1) := by decide +kernel
theorem dX5_pop_16 : decode cX5_pop 16 = .ok (.if_icmp .le 9, 3) := by decide +kernel
theorem dX5_pop_25 : decode cX5_pop 25 = .ok (.aload_n 0, 1) := by decide +kernel
theorem dX5_pop_26 : decode cX5_pop 26 = .ok (.dup, 1) := by decide +kernel
theorem dX5_pop_27 : decode cX5_pop 27 = .ok (.getfield 103, 3) := by decide +kernel
theorem dX5_pop_30 : decode cX5_pop 30 = .ok (.iconst 1, 1) := by decide +kernel
theorem dX5_pop_31 : decode cX5_pop 31 = .ok (.isub, 1) := by decide +kernel
theorem dX5_pop_32 : decode cX5_pop 32 = .ok (.putfield 103, 3) := by decide +kernel
theorem dX5_pop_35 : decode cX5_pop 35 = .ok (.aload_n 0, 1) := by decide +kernel
theorem dX5_pop_36 : decode cX5_pop 36 = .ok (.getfield 22, 3) := by decide +kernel
theorem dX5_pop_39 : decode cX5_pop 39 = .ok (.aload_n 0, 1) := by decide +kernel
theorem dX5_pop_40 : decode cX5_pop 40 = .ok (.getfield 103, 3) := by decide +kernel
theorem dX5_pop_43 : decode cX5_pop 43 = .ok (.laload, 1) := by decide +kernel
theorem dX5_pop_44 : decode cX5_pop 44 = .ok (.lreturn, 1) := by decide +kernel
set_option maxHeartbeats 8000000 in
set_option maxRecDepth 100000 in
theorem M_pop (l : Launch) (G : pT) (h0 : Nat) (a : Nat → Nat) (F : Nat → Int32) (R : Nat → Value) (Z : Int64) (B : Nat → Nat → Int32) (J : Nat → Nat → Int64) (T : Nat → Nat) (Pi : Nat → va_E → Prop) (w : va_W) (tp : Nat) (htp : tp ≤ 32000) (hO : OKW G h0 a (upd F 19 (nI tp)) R Z B J T Pi w) : PM l G pX0 yX5_pop cX5_pop 1 (some .long) ({ frames := 3, cells := 0, slots := 0, locals := 80 }) [.ref (a 5)] w (fun (v : Option Value) (u : va_W × (Int64 × Nat × Int32 × Int32 × (Nat → Nat → Int64))) => v = some (.long u.2.1) ∧ (u.2.2.1 ≤ 32000) ∧ (OKW G h0 a (upd (upd (upd F 19 (nI u.2.2.1)) 23 u.2.2.2.1) 25 u.2.2.2.2.1) R Z B u.2.2.2.2.2 T Pi u.1)) (fun u => u.1) := by
  intro sz
  refine Met.ofW (cc := cX5_pop) (maxL := 1) (ret := (some .long)) (by decide) rfl ?_
  intro p e s m args below meth c s₁ B9 hml hv
  obtain ⟨rfl, hsz, hP, hD0, hE, hX⟩ := hv
  have hx := B9.exec
  have hb := B9.bytes
  have hr := B9.returns
  have hts := atoms_spec (ws := Cond.code yX5_pop cX5_pop 1 (some .long) :: pw) B9.pre
  have hq : ∀ w ∈ pw, w.before _ s = true := fun w h => hts w (List.mem_cons_of_mem _ h)
  have hown : s.vm.findClass RX5 = some m.cls := findClass_of_methodNamed B9.named
  have hlocks := B9.notSynchronized
  subst hsz
  have hD := hD0.self (sz := s.heap.size)
  have hA : ∀ q : Nat, s.heap.size ≤ q → va_A w s.heap.size q := fun q h => Or.inr h
  generalize va_A w s.heap.size = A at hD hE hA ⊢
  have hS : va_S A s.heap s.heap [] := va_S.rf
  have hl := lv_entry ([.ref (a 5)]) (n := 1) (Nat.le_of_ble_eq_true rfl)
  rw [lg_entry_eq]
  generalize (lg_sl ([.ref (a 5)]) ++ List.replicate (1 - (lg_sl ([.ref (a 5)])).length) Slot.unset).toArray = ls at hl ⊢
  have hl : lv_has ls 1 [(0, .ref (a 5))] := hl
  refine lv_aload_n hx hb dX5_pop_0 rfl (lv_at hl 0 rfl) ?_
  refine c_get (v := .int (nI tp)) (C := RX5) (Tc := TX5) (N := 19) (ci := 4) hx hb hq pin_wsX50 hown hE hP hO 28 (sg_28 G h0 a _ _ _ _ _) rfl 11 (by decide) (hq _ pw_505) (fun _ h9 => h9) rfl dX5_pop_1 ?_
  refine lv_if_le (tgt := 19) hx hb dX5_pop_4 (by decide) (fun c1 => ?_) (fun c1 => ?_)
  · have n2 : tp ≤ 0 := (nI_leI (a := tp) (b := 0) (by omega) (by omega)).mp c1
    refine lv_aload_n hx hb dX5_pop_19 rfl (lv_at hl 0 rfl) ?_
    have hO : OKW G h0 a (upd F 19 (nI tp)) R Z B J T Pi w := hO.to rfl
    obtain ⟨_, qr6, hqr7⟩ := hO.2.1 28 _ (sg_28 G h0 a _ _ _ _ _)
    refine pc_V0 (G := G) (As := []) (rest := []) hx hb hml hown hq hE hX pX0_al hP hD hS hA hl.1 (M_refuse l G h0 a (upd F 19 (nI tp)) R Z B J T Pi w hO) (gV pw_536 pw_537 pw_538 pw_539 pw_511) hV_X5_refuse qr6 4 hqr7 rfl rfl rfl (Nat.le_of_ble_eq_true rfl) dX5_pop_20 ⟨Nat.le_of_ble_eq_true rfl, Nat.le_of_ble_eq_true rfl⟩ ⟨Nat.le_of_ble_eq_true rfl, Nat.le_of_ble_eq_true rfl⟩ (fun v5 u3 H locs hw4 hP hD hS => ?_)
    obtain ⟨w, en8, rf9⟩ := u3
    obtain ⟨hw4, hO⟩ := hw4
    obtain rfl : v5 = none := hw4
    have hO : OKW G h0 a (upd (upd (upd F 19 (nI tp)) 23 en8) 25 rf9) R Z B J T Pi w := hO.to rfl
    refine W.widen (k := 0) (n := 0) (Nat.le_of_ble_eq_true rfl) (Nat.le_of_ble_eq_true rfl) ?_
    refine W.eq (g2 := F0 m 23 ls []) rfl ?_
    refine lv_lconst (v := 0) hx hb dX5_pop_23 (by decide) ?_
    have hz10 : tp ≤ 32000 := (by omega)
    have hO : OKW G h0 a (upd (upd (upd F 19 (nI tp)) 23 en8) 25 rf9) R Z B J T Pi w := hO.to rfl
    exact W.lret (v := 0) hx hb hr (fun t99 ht99 hW99 => ⟨⟨_, (w, ((0 : Int64), tp, en8, rf9, J)), rfl, ⟨rfl, hz10, hO⟩, by rw [ht99]; exact hP, hD⟩, hS.F ht99⟩) hS.2.2 dX5_pop_24
  · have n11 : ¬ (tp ≤ 0) := fun h9 => c1 ((nI_leI (a := tp) (b := 0) (by omega) (by omega)).mpr h9)
    refine lv_aload_n hx hb dX5_pop_7 rfl (lv_at hl 0 rfl) ?_
    refine c_get (v := .int (nI tp)) (C := RX5) (Tc := TX5) (N := 19) (ci := 4) hx hb hq pin_wsX50 hown hE hP hO 28 (sg_28 G h0 a _ _ _ _ _) rfl 11 (by decide) (hq _ pw_505) (fun _ h9 => h9) rfl dX5_pop_8 ?_
    refine lv_aload_n hx hb dX5_pop_11 rfl (lv_at hl 0 rfl) ?_
    refine c_get (v := .ref (a 29)) (C := RX5) (Tc := TX5) (N := 19) (ci := 4) hx hb hq pin_wsX50 hown hE hP hO 28 (sg_28 G h0 a _ _ _ _ _) rfl 2 (by decide) (hq _ pw_474) (fun _ h9 => h9) rfl dX5_pop_12 ?_
    refine c_len (n := 0) (t0 := 2) (v := 32000) hx hb hE hP hO 32 (sg_32 G h0 a _ _ _ _ _) rfl rfl dX5_pop_15 ?_
    refine lv_icmp_le (tgt := 25) hx hb dX5_pop_16 (by decide) (fun c12 => ?_) (fun c12 => ?_)
    · have n13 : tp ≤ 32000 := (nI_leI (a := tp) (b := 32000) (by omega) (by omega)).mp c12
      refine lv_aload_n hx hb dX5_pop_25 rfl (lv_at hl 0 rfl) ?_
      refine lv_dup hx hb dX5_pop_26 rfl ?_
      refine c_get (v := .int (nI tp)) (C := RX5) (Tc := TX5) (N := 19) (ci := 4) hx hb hq pin_wsX50 hown hE hP hO 28 (sg_28 G h0 a _ _ _ _ _) rfl 11 (by decide) (hq _ pw_505) (fun _ h9 => h9) rfl dX5_pop_27 ?_
      refine lv_iconst (v := 1) hx hb dX5_pop_30 (by decide) ?_
      refine lv_isub hx hb dX5_pop_31 ?_
      refine lv_topi (fun x14 e15 => ?_)
      obtain rfl : x14 = nI (tp - 1) := e15.trans (nI_subN (a := 1) (b := tp) (by omega))
      refine c_put (v := .int (nI (tp - 1))) (ty := .int) (C := RX5) (Tc := TX5) (N := 19) (ci := 4) hx hb hq pin_wsX50 tyX5 tyX5_ok nmX5 hown hE hP hD hS hO 28 (sg_28 G h0 a _ _ _ _ _) rfl 11 (by decide) (hq _ pw_505) (fun _ h9 => h9) rfl (by decide +kernel) rfl rfl (Nat.le_of_ble_eq_true rfl) (sf_19 G h0 a _ _ _ _ _ (nI (tp - 1))) dX5_pop_32 (fun H locs w hP hD hS hO => ?_)
      refine lv_aload_n hx hb dX5_pop_35 rfl (lv_at hl 0 rfl) ?_
      refine c_get (v := .ref (a 29)) (C := RX5) (Tc := TX5) (N := 19) (ci := 4) hx hb hq pin_wsX50 hown hE hP hO 28 (sg_28 G h0 a _ _ _ _ _) rfl 2 (by decide) (hq _ pw_474) (fun _ h9 => h9) rfl dX5_pop_36 ?_
      refine lv_aload_n hx hb dX5_pop_39 rfl (lv_at hl 0 rfl) ?_
      refine c_get (v := .int (nI (tp - 1))) (C := RX5) (Tc := TX5) (N := 19) (ci := 4) hx hb hq pin_wsX50 hown hE hP hO 28 (sg_28 G h0 a _ _ _ _ _) rfl 11 (by decide) (hq _ pw_505) (fun _ h9 => h9) rfl dX5_pop_40 ?_
      refine c_ldl (f := (J 29)) (n := 32000) (t0 := 2) hx hb hE hP hO 32 (sg_32 G h0 a _ _ _ _ _) rfl (vp_in_nI (by omega) (by decide)) dX5_pop_43 ?_
      rw [(nI_clamp (show (tp - 1) < 2 ^ 31 by omega))]
      refine lv_topl (fun x16 e17 => ?_)
      have hz18 : (tp - 1) ≤ 32000 := (by omega)
      have hO : OKW G h0 a (upd (upd (upd F 19 (nI (tp - 1))) 23 (F 23)) 25 (F 25)) R Z B J T Pi w := hO.to rfl
      exact W.lret (v := x16) hx hb hr (fun t99 ht99 hW99 => ⟨⟨_, (w, (x16, (tp - 1), (F 23), (F 25), J)), rfl, ⟨rfl, hz18, hO⟩, by rw [ht99]; exact hP, hD⟩, hS.F ht99⟩) hS.2.2 dX5_pop_44
    · have n19 : ¬ (tp ≤ 32000) := fun h9 => c12 ((nI_leI (a := tp) (b := 32000) (by omega) (by omega)).mpr h9)
      refine lv_aload_n hx hb dX5_pop_19 rfl (lv_at hl 0 rfl) ?_
      have hO : OKW G h0 a (upd F 19 (nI tp)) R Z B J T Pi w := hO.to rfl
      obtain ⟨_, qr23, hqr24⟩ := hO.2.1 28 _ (sg_28 G h0 a _ _ _ _ _)
      refine pc_V0 (G := G) (As := []) (rest := []) hx hb hml hown hq hE hX pX0_al hP hD hS hA hl.1 (M_refuse l G h0 a (upd F 19 (nI tp)) R Z B J T Pi w hO) (gV pw_536 pw_537 pw_538 pw_539 pw_511) hV_X5_refuse qr23 4 hqr24 rfl rfl rfl (Nat.le_of_ble_eq_true rfl) dX5_pop_20 ⟨Nat.le_of_ble_eq_true rfl, Nat.le_of_ble_eq_true rfl⟩ ⟨Nat.le_of_ble_eq_true rfl, Nat.le_of_ble_eq_true rfl⟩ (fun v22 u20 H locs hw21 hP hD hS => ?_)
      obtain ⟨w, en25, rf26⟩ := u20
      obtain ⟨hw21, hO⟩ := hw21
      obtain rfl : v22 = none := hw21
      have hO : OKW G h0 a (upd (upd (upd F 19 (nI tp)) 23 en25) 25 rf26) R Z B J T Pi w := hO.to rfl
      refine W.widen (k := 0) (n := 0) (Nat.le_of_ble_eq_true rfl) (Nat.le_of_ble_eq_true rfl) ?_
      refine W.eq (g2 := F0 m 23 ls []) rfl ?_
      refine lv_lconst (v := 0) hx hb dX5_pop_23 (by decide) ?_
      have hz27 : tp ≤ 32000 := (by omega)
      have hO : OKW G h0 a (upd (upd (upd F 19 (nI tp)) 23 en25) 25 rf26) R Z B J T Pi w := hO.to rfl
      exact W.lret (v := 0) hx hb hr (fun t99 ht99 hW99 => ⟨⟨_, (w, ((0 : Int64), tp, en25, rf26, J)), rfl, ⟨rfl, hz27, hO⟩, by rw [ht99]; exact hP, hD⟩, hS.F ht99⟩) hS.2.2 dX5_pop_24
theorem dX5_pushNumber_0 : decode cX5_pushNumber 0 = .ok (.aload_n 0, 1) := by decide +kernel
theorem dX5_pushNumber_1 : decode cX5_pushNumber 1 = .ok (.iload_n 1, 1) := by decide +kernel
theorem dX5_pushNumber_2 : decode cX5_pushNumber 2 = .ok (.i2l, 1) := by decide +kernel
theorem dX5_pushNumber_3 : decode cX5_pushNumber 3 = .ok (.ldc2_w 170, 3) := by decide +kernel
theorem dX5_pushNumber_6 : decode cX5_pushNumber 6 = .ok (.land, 1) := by decide +kernel
theorem dX5_pushNumber_7 : decode cX5_pushNumber 7 = .ok (.invokevirtual 172, 3) := by decide +kernel
theorem dX5_pushNumber_10 : decode cX5_pushNumber 10 = .ok (.return_, 1) := by decide +kernel
theorem hV_X5_push : yX5_push.cls = RX5 ∧ yX5_push.cls ≠ "java/lang/invoke/MethodHandle" ∧ yX5_push.cls ≠ "java/lang/invoke/VarHandle" ∧ (parseMethodDescriptor yX5_push.desc).map (fun d => d.parameters.length) = some 1 := by decide +kernel
set_option maxHeartbeats 8000000 in
set_option maxRecDepth 100000 in
theorem M_pushNumber (l : Launch) (G : pT) (h0 : Nat) (a : Nat → Nat) (F : Nat → Int32) (R : Nat → Value) (Z : Int64) (B : Nat → Nat → Int32) (J : Nat → Nat → Int64) (T : Nat → Nat) (Pi : Nat → va_E → Prop) (w : va_W) (x : Int32) (tp : Nat) (htp : tp ≤ 32000) (hO : OKW G h0 a (upd F 19 (nI tp)) R Z B J T Pi w) : PM l G pX0 yX5_pushNumber cX5_pushNumber 2 none ({ frames := 4, cells := 0, slots := 0, locals := 102 }) [.ref (a 5), .int x] w (fun (v : Option Value) (u : va_W × (Nat × Int32 × Int32 × (Nat → Nat → Int64))) => v = none ∧ (u.2.1 ≤ 32000) ∧ (OKW G h0 a (upd (upd (upd F 19 (nI u.2.1)) 23 u.2.2.1) 25 u.2.2.2.1) R Z B u.2.2.2.2 T Pi u.1)) (fun u => u.1) := by
  intro sz
  refine Met.ofW (cc := cX5_pushNumber) (maxL := 2) (ret := none) (by decide) rfl ?_
  intro p e s m args below meth c s₁ B9 hml hv
  obtain ⟨rfl, hsz, hP, hD0, hE, hX⟩ := hv
  have hx := B9.exec
  have hb := B9.bytes
  have hr := B9.returns
  have hts := atoms_spec (ws := Cond.code yX5_pushNumber cX5_pushNumber 2 none :: pw) B9.pre
  have hq : ∀ w ∈ pw, w.before _ s = true := fun w h => hts w (List.mem_cons_of_mem _ h)
  have hown : s.vm.findClass RX5 = some m.cls := findClass_of_methodNamed B9.named
  have hlocks := B9.notSynchronized
  subst hsz
  have hD := hD0.self (sz := s.heap.size)
  have hA : ∀ q : Nat, s.heap.size ≤ q → va_A w s.heap.size q := fun q h => Or.inr h
  generalize va_A w s.heap.size = A at hD hE hA ⊢
  have hS : va_S A s.heap s.heap [] := va_S.rf
  have hl := lv_entry ([.ref (a 5), .int x]) (n := 2) (Nat.le_of_ble_eq_true rfl)
  rw [lg_entry_eq]
  generalize (lg_sl ([.ref (a 5), .int x]) ++ List.replicate (2 - (lg_sl ([.ref (a 5), .int x])).length) Slot.unset).toArray = ls at hl ⊢
  have hl : lv_has ls 2 [(0, .ref (a 5)), (1, .int x)] := hl
  refine lv_aload_n hx hb dX5_pushNumber_0 rfl (lv_at hl 0 rfl) ?_
  refine lv_iload_n hx hb dX5_pushNumber_1 rfl (lv_at hl 1 rfl) ?_
  refine lv_i2l hx hb dX5_pushNumber_2 rfl ?_
  refine lv_topl (fun x1 e2 => ?_)
  refine lv_ldc2 (v := 4294967295) hx hb hown (hq _ pw_603) dX5_pushNumber_3 ?_
  refine lv_land hx hb dX5_pushNumber_6 ?_
  refine lv_topl (fun x3 e4 => ?_)
  have hO : OKW G h0 a (upd (upd F 19 (nI tp)) 19 (nI tp)) R Z B J T Pi w := hO.to rfl
  obtain ⟨_, qr8, hqr9⟩ := hO.2.1 28 _ (sg_28 G h0 a _ _ _ _ _)
  refine pc_V0 (G := G) (As := [.long x3]) (rest := []) hx hb hml hown hq hE hX pX0_al hP hD hS hA hl.1 (M_push l G h0 a (upd F 19 (nI tp)) R Z B J T Pi w x3 tp (by omega) hO) (gV pw_549 pw_550 pw_551 pw_539 pw_535) hV_X5_push qr8 4 hqr9 rfl rfl rfl (Nat.le_of_ble_eq_true rfl) dX5_pushNumber_7 ⟨Nat.le_of_ble_eq_true rfl, Nat.le_of_ble_eq_true rfl⟩ ⟨Nat.le_of_ble_eq_true rfl, Nat.le_of_ble_eq_true rfl⟩ (fun v7 u5 H locs hw6 hP hD hS => ?_)
  obtain ⟨w, tp10, en11, rf12, J13⟩ := u5
  obtain ⟨hw6, h14, hO⟩ := hw6
  have h14 : tp10 ≤ 32000 := h14
  obtain rfl : v7 = none := hw6
  have hO : OKW G h0 a (upd (upd (upd F 19 (nI tp10)) 23 en11) 25 rf12) R Z B J13 T Pi w := hO.to rfl
  refine W.widen (k := 0) (n := 0) (Nat.le_of_ble_eq_true rfl) (Nat.le_of_ble_eq_true rfl) ?_
  refine W.eq (g2 := F0 m 10 ls []) rfl ?_
  have hz15 : tp10 ≤ 32000 := (by omega)
  have hO : OKW G h0 a (upd (upd (upd F 19 (nI tp10)) 23 en11) 25 rf12) R Z B J13 T Pi w := hO.to rfl
  exact W.vret hx hb hr (fun t99 ht99 hW99 => ⟨⟨_, (w, (tp10, en11, rf12, J13)), rfl, ⟨rfl, hz15, hO⟩, by rw [ht99]; exact hP, hD⟩, hS.F ht99⟩) hS.2.2 dX5_pushNumber_10
theorem dX5_pushTruth_0 : decode cX5_pushTruth 0 = .ok (.aload_n 0, 1) := by decide +kernel
theorem dX5_pushTruth_1 : decode cX5_pushTruth 1 = .ok (.iload_n 1, 1) := by decide +kernel
theorem dX5_pushTruth_2 : decode cX5_pushTruth 2 = .ok (.ifCond .eq 7, 3) := by decide +kernel
theorem dX5_pushTruth_9 : decode cX5_pushTruth 9 = .ok (.lconst 0, 1) := by decide +kernel
theorem dX5_pushTruth_10 : decode cX5_pushTruth 10 = .ok (.invokevirtual 172, 3) := by decide +kernel
theorem dX5_pushTruth_13 : decode cX5_pushTruth 13 = .ok (.return_, 1) := by decide +kernel
theorem dX5_pushTruth_5 : decode cX5_pushTruth 5 = .ok (.lconst 1, 1) := by decide +kernel
theorem dX5_pushTruth_6 : decode cX5_pushTruth 6 = .ok (.goto 4, 3) := by decide +kernel
set_option maxHeartbeats 8000000 in
set_option maxRecDepth 100000 in
theorem M_pushTruth (l : Launch) (G : pT) (h0 : Nat) (a : Nat → Nat) (F : Nat → Int32) (R : Nat → Value) (Z : Int64) (B : Nat → Nat → Int32) (J : Nat → Nat → Int64) (T : Nat → Nat) (Pi : Nat → va_E → Prop) (w : va_W) (b9 : Nat) (tp : Nat) (htp : tp ≤ 32000) (hb9 : b9 ≤ 1) (hO : OKW G h0 a (upd F 19 (nI tp)) R Z B J T Pi w) : PM l G pX0 yX5_pushTruth cX5_pushTruth 2 none ({ frames := 4, cells := 0, slots := 0, locals := 102 }) [.ref (a 5), .int (nI b9)] w (fun (v : Option Value) (u : va_W × (Nat × Int32 × Int32 × (Nat → Nat → Int64))) => v = none ∧ (u.2.1 ≤ 32000) ∧ (OKW G h0 a (upd (upd (upd F 19 (nI u.2.1)) 23 u.2.2.1) 25 u.2.2.2.1) R Z B u.2.2.2.2 T Pi u.1)) (fun u => u.1) := by
  intro sz
  refine Met.ofW (cc := cX5_pushTruth) (maxL := 2) (ret := none) (by decide) rfl ?_
  intro p e s m args below meth c s₁ B9 hml hv
  obtain ⟨rfl, hsz, hP, hD0, hE, hX⟩ := hv
  have hx := B9.exec
  have hb := B9.bytes
  have hr := B9.returns
  have hts := atoms_spec (ws := Cond.code yX5_pushTruth cX5_pushTruth 2 none :: pw) B9.pre
  have hq : ∀ w ∈ pw, w.before _ s = true := fun w h => hts w (List.mem_cons_of_mem _ h)
  have hown : s.vm.findClass RX5 = some m.cls := findClass_of_methodNamed B9.named
  have hlocks := B9.notSynchronized
  subst hsz
  have hD := hD0.self (sz := s.heap.size)
  have hA : ∀ q : Nat, s.heap.size ≤ q → va_A w s.heap.size q := fun q h => Or.inr h
  generalize va_A w s.heap.size = A at hD hE hA ⊢
  have hS : va_S A s.heap s.heap [] := va_S.rf
  have hl := lv_entry ([.ref (a 5), .int (nI b9)]) (n := 2) (Nat.le_of_ble_eq_true rfl)
  rw [lg_entry_eq]
  generalize (lg_sl ([.ref (a 5), .int (nI b9)]) ++ List.replicate (2 - (lg_sl ([.ref (a 5), .int (nI b9)])).length) Slot.unset).toArray = ls at hl ⊢
  have hl : lv_has ls 2 [(0, .ref (a 5)), (1, .int (nI b9))] := hl
  refine lv_aload_n hx hb dX5_pushTruth_0 rfl (lv_at hl 0 rfl) ?_
  refine lv_iload_n hx hb dX5_pushTruth_1 rfl (lv_at hl 1 rfl) ?_
  refine lv_if_eq (tgt := 9) hx hb dX5_pushTruth_2 (by decide) (fun c1 => ?_) (fun c1 => ?_)
  · have n2 : b9 = 0 := (nI_eq (a := b9) (b := 0) (by omega) (by omega)).mp c1
    refine lv_lconst (v := 0) hx hb dX5_pushTruth_9 (by decide) ?_
    have hO : OKW G h0 a (upd (upd F 19 (nI tp)) 19 (nI tp)) R Z B J T Pi w := hO.to rfl
    obtain ⟨_, qr6, hqr7⟩ := hO.2.1 28 _ (sg_28 G h0 a _ _ _ _ _)
    refine pc_V0 (G := G) (As := [.long 0]) (rest := []) hx hb hml hown hq hE hX pX0_al hP hD hS hA hl.1 (M_push l G h0 a (upd F 19 (nI tp)) R Z B J T Pi w 0 tp (by omega) hO) (gV pw_549 pw_550 pw_551 pw_539 pw_535) hV_X5_push qr6 4 hqr7 rfl rfl rfl (Nat.le_of_ble_eq_true rfl) dX5_pushTruth_10 ⟨Nat.le_of_ble_eq_true rfl, Nat.le_of_ble_eq_true rfl⟩ ⟨Nat.le_of_ble_eq_true rfl, Nat.le_of_ble_eq_true rfl⟩ (fun v5 u3 H locs hw4 hP hD hS => ?_)
    obtain ⟨w, tp8, en9, rf10, J11⟩ := u3
    obtain ⟨hw4, h12, hO⟩ := hw4
    have h12 : tp8 ≤ 32000 := h12
    obtain rfl : v5 = none := hw4
    have hO : OKW G h0 a (upd (upd (upd F 19 (nI tp8)) 23 en9) 25 rf10) R Z B J11 T Pi w := hO.to rfl
    refine W.widen (k := 0) (n := 0) (Nat.le_of_ble_eq_true rfl) (Nat.le_of_ble_eq_true rfl) ?_
    refine W.eq (g2 := F0 m 13 ls []) rfl ?_
    have hz13 : tp8 ≤ 32000 := (by omega)
    have hO : OKW G h0 a (upd (upd (upd F 19 (nI tp8)) 23 en9) 25 rf10) R Z B J11 T Pi w := hO.to rfl
    exact W.vret hx hb hr (fun t99 ht99 hW99 => ⟨⟨_, (w, (tp8, en9, rf10, J11)), rfl, ⟨rfl, hz13, hO⟩, by rw [ht99]; exact hP, hD⟩, hS.F ht99⟩) hS.2.2 dX5_pushTruth_13
  · have n14 : ¬ (b9 = 0) := fun h9 => c1 ((nI_eq (a := b9) (b := 0) (by omega) (by omega)).mpr h9)
    refine lv_lconst (v := 1) hx hb dX5_pushTruth_5 (by decide) ?_
    refine lv_goto (tgt := 10) hx hb dX5_pushTruth_6 (by decide) ?_
    have hO : OKW G h0 a (upd (upd F 19 (nI tp)) 19 (nI tp)) R Z B J T Pi w := hO.to rfl
    obtain ⟨_, qr18, hqr19⟩ := hO.2.1 28 _ (sg_28 G h0 a _ _ _ _ _)
    refine pc_V0 (G := G) (As := [.long 1]) (rest := []) hx hb hml hown hq hE hX pX0_al hP hD hS hA hl.1 (M_push l G h0 a (upd F 19 (nI tp)) R Z B J T Pi w 1 tp (by omega) hO) (gV pw_549 pw_550 pw_551 pw_539 pw_535) hV_X5_push qr18 4 hqr19 rfl rfl rfl (Nat.le_of_ble_eq_true rfl) dX5_pushTruth_10 ⟨Nat.le_of_ble_eq_true rfl, Nat.le_of_ble_eq_true rfl⟩ ⟨Nat.le_of_ble_eq_true rfl, Nat.le_of_ble_eq_true rfl⟩ (fun v17 u15 H locs hw16 hP hD hS => ?_)
    obtain ⟨w, tp20, en21, rf22, J23⟩ := u15
    obtain ⟨hw16, h24, hO⟩ := hw16
    have h24 : tp20 ≤ 32000 := h24
    obtain rfl : v17 = none := hw16
    have hO : OKW G h0 a (upd (upd (upd F 19 (nI tp20)) 23 en21) 25 rf22) R Z B J23 T Pi w := hO.to rfl
    refine W.widen (k := 0) (n := 0) (Nat.le_of_ble_eq_true rfl) (Nat.le_of_ble_eq_true rfl) ?_
    refine W.eq (g2 := F0 m 13 ls []) rfl ?_
    have hz25 : tp20 ≤ 32000 := (by omega)
    have hO : OKW G h0 a (upd (upd (upd F 19 (nI tp20)) 23 en21) 25 rf22) R Z B J23 T Pi w := hO.to rfl
    exact W.vret hx hb hr (fun t99 ht99 hW99 => ⟨⟨_, (w, (tp20, en21, rf22, J23)), rfl, ⟨rfl, hz25, hO⟩, by rw [ht99]; exact hP, hD⟩, hS.F ht99⟩) hS.2.2 dX5_pushTruth_13
theorem dX5_slotAt_0 : decode cX5_slotAt 0 = .ok (.aload_n 0, 1) := by decide +kernel
theorem dX5_slotAt_1 : decode cX5_slotAt 1 = .ok (.getfield 100, 3) := by decide +kernel
theorem dX5_slotAt_4 : decode cX5_slotAt 4 = .ok (.iload_n 1, 1) := by decide +kernel
theorem dX5_slotAt_5 : decode cX5_slotAt 5 = .ok (.iadd, 1) := by decide +kernel
theorem dX5_slotAt_6 : decode cX5_slotAt 6 = .ok (.istore_n 2, 1) := by decide +kernel
theorem dX5_slotAt_7 : decode cX5_slotAt 7 = .ok (.iload_n 2, 1) := by decide +kernel
theorem dX5_slotAt_8 : decode cX5_slotAt 8 = .ok (.ifCond .lt 21, 3) := by decide +kernel
theorem dX5_slotAt_29 : decode cX5_slotAt 29 = .ok (.lconst 0, 1) := by decide +kernel
theorem dX5_slotAt_30 : decode cX5_slotAt 30 = .ok (.lreturn, 1) := by decide +kernel
theorem dX5_slotAt_11 : decode cX5_slotAt 11 = .ok (.iload_n 2, 1) := by decide +kernel
theorem dX5_slotAt_12 : decode cX5_slotAt 12 = .ok (.aload_n 0, 1) := by decide +kernel
theorem dX5_slotAt_13 : decode cX5_slotAt 13 = .ok (.getfield 22, 3) := by decide +kernel
theorem dX5_slotAt_16 : decode cX5_slotAt 16 = .ok (.arraylength, 1) := by decide +kernel
theorem dX5_slotAt_17 : decode cX5_slotAt 17 = .ok (.if_icmp .ge 12, 3) := by decide +kernel
theorem dX5_slotAt_20 : decode cX5_slotAt 20 = .ok (.aload_n 0, 1) := by decide +kernel
theorem dX5_slotAt_21 : decode cX5_slotAt 21 = .ok (.getfield 22, 3) := by decide +kernel
theorem dX5_slotAt_24 : decode cX5_slotAt 24 = .ok (.iload_n 2, 1) := by decide +kernel
theorem dX5_slotAt_25 : decode cX5_slotAt 25 = .ok (.laload, 1) := by decide +kernel
theorem dX5_slotAt_26 : decode cX5_slotAt 26 = .ok (.goto 4, 3) := by decide +kernel
set_option maxHeartbeats 8000000 in
set_option maxRecDepth 100000 in
theorem M_slotAt (l : Launch) (G : pT) (h0 : Nat) (a : Nat → Nat) (F : Nat → Int32) (R : Nat → Value) (Z : Int64) (B : Nat → Nat → Int32) (J : Nat → Nat → Int64) (T : Nat → Nat) (Pi : Nat → va_E → Prop) (w : va_W) (x : Int32) (hO : OKW G h0 a F R Z B J T Pi w) : PM l G pX0 yX5_slotAt cX5_slotAt 3 (some .long) ({ frames := 2, cells := 0, slots := 0, locals := 60 }) [.ref (a 5), .int x] w (fun (v : Option Value) (u : va_W × (Int64)) => v = some (.long u.2) ∧ (OKW G h0 a F R Z B J T Pi u.1)) (fun u => u.1) := by
  intro sz
  refine Met.ofW (cc := cX5_slotAt) (maxL := 3) (ret := (some .long)) (by decide) rfl ?_
  intro p e s m args below meth c s₁ B9 hml hv
  obtain ⟨rfl, hsz, hP, hD0, hE, hX⟩ := hv
  have hx := B9.exec
  have hb := B9.bytes
  have hr := B9.returns
  have hts := atoms_spec (ws := Cond.code yX5_slotAt cX5_slotAt 3 (some .long) :: pw) B9.pre
  have hq : ∀ w ∈ pw, w.before _ s = true := fun w h => hts w (List.mem_cons_of_mem _ h)
  have hown : s.vm.findClass RX5 = some m.cls := findClass_of_methodNamed B9.named
  have hlocks := B9.notSynchronized
  subst hsz
  have hD := hD0.self (sz := s.heap.size)
  have hA : ∀ q : Nat, s.heap.size ≤ q → va_A w s.heap.size q := fun q h => Or.inr h
  generalize va_A w s.heap.size = A at hD hE hA ⊢
  have hS : va_S A s.heap s.heap [] := va_S.rf
  have hl := lv_entry ([.ref (a 5), .int x]) (n := 3) (Nat.le_of_ble_eq_true rfl)
  rw [lg_entry_eq]
  generalize (lg_sl ([.ref (a 5), .int x]) ++ List.replicate (3 - (lg_sl ([.ref (a 5), .int x])).length) Slot.unset).toArray = ls at hl ⊢
  have hl : lv_has ls 3 [(0, .ref (a 5)), (1, .int x)] := hl
  refine lv_aload_n hx hb dX5_slotAt_0 rfl (lv_at hl 0 rfl) ?_
  refine c_get (v := .int (F 18)) (C := RX5) (Tc := TX5) (N := 19) (ci := 4) hx hb hq pin_wsX50 hown hE hP hO 28 (sg_28 G h0 a _ _ _ _ _) rfl 10 (by decide) (hq _ pw_504) (fun _ h9 => h9) rfl dX5_slotAt_1 ?_
  refine lv_iload_n hx hb dX5_slotAt_4 rfl (lv_at hl 1 rfl) ?_
  refine lv_iadd hx hb dX5_slotAt_5 ?_
  refine lv_topi (fun x1 e2 => ?_)
  refine lv_istore_n (lv' := [(2, .int x1), (0, .ref (a 5)), (1, .int x)]) hx hb dX5_slotAt_6 rfl hl (by decide) rfl (fun ls hl => ?_)
  refine lv_iload_n hx hb dX5_slotAt_7 rfl (lv_at hl 0 rfl) ?_
  refine lv_if_lt (tgt := 29) hx hb dX5_slotAt_8 (by decide) (fun c3 => ?_) (fun c3 => ?_)
  · refine lv_lconst (v := 0) hx hb dX5_slotAt_29 (by decide) ?_
    have hO : OKW G h0 a F R Z B J T Pi w := hO.to rfl
    exact W.lret (v := 0) hx hb hr (fun t99 ht99 hW99 => ⟨⟨_, (w, (0 : Int64)), rfl, ⟨rfl, hO⟩, by rw [ht99]; exact hP, hD⟩, hS.F ht99⟩) hS.2.2 dX5_slotAt_30
  · obtain ⟨a9, ht_a9, hb_a9⟩ := nI_nn2 ( c3)
    have cc4 := c3
    rw [ht_a9] at cc4
    have n5 : ¬ (a9 < 0) := fun h9 => cc4 ((nI_ltI (a := a9) (b := 0) (by omega) (by omega)).mpr h9)
    rw [ht_a9] at hl
    refine lv_iload_n hx hb dX5_slotAt_11 rfl (lv_at hl 0 rfl) ?_
    refine lv_aload_n hx hb dX5_slotAt_12 rfl (lv_at hl 1 rfl) ?_
    refine c_get (v := .ref (a 29)) (C := RX5) (Tc := TX5) (N := 19) (ci := 4) hx hb hq pin_wsX50 hown hE hP hO 28 (sg_28 G h0 a _ _ _ _ _) rfl 2 (by decide) (hq _ pw_474) (fun _ h9 => h9) rfl dX5_slotAt_13 ?_
    refine c_len (n := 0) (t0 := 2) (v := 32000) hx hb hE hP hO 32 (sg_32 G h0 a _ _ _ _ _) rfl rfl dX5_slotAt_16 ?_
    refine lv_icmp_ge (tgt := 29) hx hb dX5_slotAt_17 (by decide) (fun c6 => ?_) (fun c6 => ?_)
    · have n7 : 32000 ≤ a9 := (nI_leI (a := 32000) (b := a9) (by omega) (by omega)).mp c6
      refine lv_lconst (v := 0) hx hb dX5_slotAt_29 (by decide) ?_
      have hO : OKW G h0 a F R Z B J T Pi w := hO.to rfl
      exact W.lret (v := 0) hx hb hr (fun t99 ht99 hW99 => ⟨⟨_, (w, (0 : Int64)), rfl, ⟨rfl, hO⟩, by rw [ht99]; exact hP, hD⟩, hS.F ht99⟩) hS.2.2 dX5_slotAt_30
    · have n8 : ¬ (32000 ≤ a9) := fun h9 => c6 ((nI_leI (a := 32000) (b := a9) (by omega) (by omega)).mpr h9)
      refine lv_aload_n hx hb dX5_slotAt_20 rfl (lv_at hl 1 rfl) ?_
      refine c_get (v := .ref (a 29)) (C := RX5) (Tc := TX5) (N := 19) (ci := 4) hx hb hq pin_wsX50 hown hE hP hO 28 (sg_28 G h0 a _ _ _ _ _) rfl 2 (by decide) (hq _ pw_474) (fun _ h9 => h9) rfl dX5_slotAt_21 ?_
      refine lv_iload_n hx hb dX5_slotAt_24 rfl (lv_at hl 0 rfl) ?_
      refine c_ldl (f := (J 29)) (n := 32000) (t0 := 2) hx hb hE hP hO 32 (sg_32 G h0 a _ _ _ _ _) rfl (vp_in_nI (by omega) (by decide)) dX5_slotAt_25 ?_
      rw [(nI_clamp (show a9 < 2 ^ 31 by omega))]
      refine lv_topl (fun x9 e10 => ?_)
      refine lv_goto (tgt := 30) hx hb dX5_slotAt_26 (by decide) ?_
      have hO : OKW G h0 a F R Z B J T Pi w := hO.to rfl
      exact W.lret (v := x9) hx hb hr (fun t99 ht99 hW99 => ⟨⟨_, (w, x9), rfl, ⟨rfl, hO⟩, by rw [ht99]; exact hP, hD⟩, hS.F ht99⟩) hS.2.2 dX5_slotAt_30
theorem dX5_setSlot_0 : decode cX5_setSlot 0 = .ok (.aload_n 0, 1) := by decide +kernel
theorem dX5_setSlot_1 : decode cX5_setSlot 1 = .ok (.getfield 100, 3) := by decide +kernel
theorem dX5_setSlot_4 : decode cX5_setSlot 4 = .ok (.iload_n 1, 1) := by decide +kernel
theorem dX5_setSlot_5 : decode cX5_setSlot 5 = .ok (.iadd, 1) := by decide +kernel
theorem dX5_setSlot_6 : decode cX5_setSlot 6 = .ok (.istore 4, 2) := by decide +kernel
theorem dX5_setSlot_8 : decode cX5_setSlot 8 = .ok (.iload 4, 2) := by decide +kernel
theorem dX5_setSlot_10 : decode cX5_setSlot 10 = .ok (.ifCond .lt 21, 3) := by decide +kernel
theorem dX5_setSlot_31 : decode cX5_setSlot 31 = .ok (.return_, 1) := by decide +kernel
theorem dX5_setSlot_13 : decode cX5_setSlot 13 = .ok (.iload 4, 2) := by decide +kernel
theorem dX5_setSlot_15 : decode cX5_setSlot 15 = .ok (.aload_n 0, 1) := by decide +kernel
theorem dX5_setSlot_16 : decode cX5_setSlot 16 = .ok (.getfield 22, 3) := by decide +kernel
theorem dX5_setSlot_19 : decode cX5_setSlot 19 = .ok (.arraylength, 1) := by decide +kernel
theorem dX5_setSlot_20 : decode cX5_setSlot 20 = .ok (.if_icmp .ge 11, 3) := by decide +kernel
theorem dX5_setSlot_23 : decode cX5_setSlot 23 = .ok (.aload_n 0, 1) := by decide +kernel
theorem dX5_setSlot_24 : decode cX5_setSlot 24 = .ok (.getfield 22, 3) := by decide +kernel
theorem dX5_setSlot_27 : decode cX5_setSlot 27 = .ok (.iload 4, 2) := by decide +kernel
theorem dX5_setSlot_29 : decode cX5_setSlot 29 = .ok (.lload_n 2, 1) := by decide +kernel
theorem dX5_setSlot_30 : decode cX5_setSlot 30 = .ok (.lastore, 1) := by decide +kernel
set_option maxHeartbeats 8000000 in
set_option maxRecDepth 100000 in
theorem M_setSlot (l : Launch) (G : pT) (h0 : Nat) (a : Nat → Nat) (F : Nat → Int32) (R : Nat → Value) (Z : Int64) (B : Nat → Nat → Int32) (J : Nat → Nat → Int64) (T : Nat → Nat) (Pi : Nat → va_E → Prop) (w : va_W) (x : Int32) (y : Int64) (hO : OKW G h0 a F R Z B J T Pi w) : PM l G pX0 yX5_setSlot cX5_setSlot 5 none ({ frames := 2, cells := 0, slots := 0, locals := 60 }) [.ref (a 5), .int x, .long y] w (fun (v : Option Value) (u : va_W × ((Nat → Nat → Int64))) => v = none ∧ (OKW G h0 a F R Z B u.2 T Pi u.1)) (fun u => u.1) := by
  intro sz
  refine Met.ofW (cc := cX5_setSlot) (maxL := 5) (ret := none) (by decide) rfl ?_
  intro p e s m args below meth c s₁ B9 hml hv
  obtain ⟨rfl, hsz, hP, hD0, hE, hX⟩ := hv
  have hx := B9.exec
  have hb := B9.bytes
  have hr := B9.returns
  have hts := atoms_spec (ws := Cond.code yX5_setSlot cX5_setSlot 5 none :: pw) B9.pre
  have hq : ∀ w ∈ pw, w.before _ s = true := fun w h => hts w (List.mem_cons_of_mem _ h)
  have hown : s.vm.findClass RX5 = some m.cls := findClass_of_methodNamed B9.named
  have hlocks := B9.notSynchronized
  subst hsz
  have hD := hD0.self (sz := s.heap.size)
  have hA : ∀ q : Nat, s.heap.size ≤ q → va_A w s.heap.size q := fun q h => Or.inr h
  generalize va_A w s.heap.size = A at hD hE hA ⊢
  have hS : va_S A s.heap s.heap [] := va_S.rf
  have hl := lv_entry ([.ref (a 5), .int x, .long y]) (n := 5) (Nat.le_of_ble_eq_true rfl)
  rw [lg_entry_eq]
  generalize (lg_sl ([.ref (a 5), .int x, .long y]) ++ List.replicate (5 - (lg_sl ([.ref (a 5), .int x, .long y])).length) Slot.unset).toArray = ls at hl ⊢
  have hl : lv_has ls 5 [(0, .ref (a 5)), (1, .int x), (2, .long y)] := hl
  refine lv_aload_n hx hb dX5_setSlot_0 rfl (lv_at hl 0 rfl) ?_
  refine c_get (v := .int (F 18)) (C := RX5) (Tc := TX5) (N := 19) (ci := 4) hx hb hq pin_wsX50 hown hE hP hO 28 (sg_28 G h0 a _ _ _ _ _) rfl 10 (by decide) (hq _ pw_504) (fun _ h9 => h9) rfl dX5_setSlot_1 ?_
  refine lv_iload_n hx hb dX5_setSlot_4 rfl (lv_at hl 1 rfl) ?_
  refine lv_iadd hx hb dX5_setSlot_5 ?_
  refine lv_topi (fun x1 e2 => ?_)
  refine lv_istore (lv' := [(4, .int x1), (0, .ref (a 5)), (1, .int x), (2, .long y)]) hx hb dX5_setSlot_6 hl (by decide) rfl (fun ls hl => ?_)
  refine lv_iload hx hb dX5_setSlot_8 (lv_at hl 0 rfl) ?_
  refine lv_if_lt (tgt := 31) hx hb dX5_setSlot_10 (by decide) (fun c3 => ?_) (fun c3 => ?_)
  · have hO : OKW G h0 a F R Z B J T Pi w := hO.to rfl
    exact W.vret hx hb hr (fun t99 ht99 hW99 => ⟨⟨_, (w, J), rfl, ⟨rfl, hO⟩, by rw [ht99]; exact hP, hD⟩, hS.F ht99⟩) hS.2.2 dX5_setSlot_31
  · obtain ⟨a9, ht_a9, hb_a9⟩ := nI_nn2 ( c3)
    have cc4 := c3
    rw [ht_a9] at cc4
    have n5 : ¬ (a9 < 0) := fun h9 => cc4 ((nI_ltI (a := a9) (b := 0) (by omega) (by omega)).mpr h9)
    rw [ht_a9] at hl
    refine lv_iload hx hb dX5_setSlot_13 (lv_at hl 0 rfl) ?_
    refine lv_aload_n hx hb dX5_setSlot_15 rfl (lv_at hl 1 rfl) ?_
    refine c_get (v := .ref (a 29)) (C := RX5) (Tc := TX5) (N := 19) (ci := 4) hx hb hq pin_wsX50 hown hE hP hO 28 (sg_28 G h0 a _ _ _ _ _) rfl 2 (by decide) (hq _ pw_474) (fun _ h9 => h9) rfl dX5_setSlot_16 ?_
    refine c_len (n := 0) (t0 := 2) (v := 32000) hx hb hE hP hO 32 (sg_32 G h0 a _ _ _ _ _) rfl rfl dX5_setSlot_19 ?_
    refine lv_icmp_ge (tgt := 31) hx hb dX5_setSlot_20 (by decide) (fun c6 => ?_) (fun c6 => ?_)
    · have n7 : 32000 ≤ a9 := (nI_leI (a := 32000) (b := a9) (by omega) (by omega)).mp c6
      have hO : OKW G h0 a F R Z B J T Pi w := hO.to rfl
      exact W.vret hx hb hr (fun t99 ht99 hW99 => ⟨⟨_, (w, J), rfl, ⟨rfl, hO⟩, by rw [ht99]; exact hP, hD⟩, hS.F ht99⟩) hS.2.2 dX5_setSlot_31
    · have n8 : ¬ (32000 ≤ a9) := fun h9 => c6 ((nI_leI (a := 32000) (b := a9) (by omega) (by omega)).mpr h9)
      refine lv_aload_n hx hb dX5_setSlot_23 rfl (lv_at hl 1 rfl) ?_
      refine c_get (v := .ref (a 29)) (C := RX5) (Tc := TX5) (N := 19) (ci := 4) hx hb hq pin_wsX50 hown hE hP hO 28 (sg_28 G h0 a _ _ _ _ _) rfl 2 (by decide) (hq _ pw_474) (fun _ h9 => h9) rfl dX5_setSlot_24 ?_
      refine lv_iload hx hb dX5_setSlot_27 (lv_at hl 0 rfl) ?_
      refine lv_lload_n hx hb dX5_setSlot_29 rfl (lv_at hl 3 rfl) ?_
      refine c_stl (f := (J 29)) (n := 32000) (t0 := 2) hx hb hE hP hD hS hO 32 (sg_32 G h0 a _ _ _ _ _) rfl (vp_in_nI (by omega) (by decide)) (sj_29 G h0 a _ _ _ _ _ _) dX5_setSlot_30 (fun H locs w hP hD hS hO => ?_)
      rw [(nI_clamp (show a9 < 2 ^ 31 by omega))] at hO
      have hO : OKW G h0 a F R Z B (updJ J 29 (vp_updL (J 29) a9 y)) T Pi w := hO.to rfl
      exact W.vret hx hb hr (fun t99 ht99 hW99 => ⟨⟨_, (w, (updJ J 29 (vp_updL (J 29) a9 y))), rfl, ⟨rfl, hO⟩, by rw [ht99]; exact hP, hD⟩, hS.F ht99⟩) hS.2.2 dX5_setSlot_31
theorem dX5_burn_0 : decode cX5_burn 0 = .ok (.aload_n 0, 1) := by decide +kernel
theorem dX5_burn_1 : decode cX5_burn 1 = .ok (.getfield 36, 3) := by decide +kernel
theorem dX5_burn_4 : decode cX5_burn 4 = .ok (.iconst 5, 1) := by decide +kernel
theorem dX5_burn_5 : decode cX5_burn 5 = .ok (.iaload, 1) := by decide +kernel
theorem dX5_burn_6 : decode cX5_burn 6 = .ok (.ifCond .gt 10, 3) := by decide +kernel
theorem dX5_burn_16 : decode cX5_burn 16 = .ok (.aload_n 0, 1) := by decide +kernel
theorem dX5_burn_17 : decode cX5_burn 17 = .ok (.getfield 36, 3) := by decide +kernel
theorem dX5_burn_20 : decode cX5_burn 20 = .ok (.iconst 5, 1) := by decide +kernel
theorem dX5_burn_21 : decode cX5_burn 21 = .ok (.dup2, 1) := by decide +kernel
theorem dX5_burn_22 : decode cX5_burn 22 = .ok (.iaload, 1) := by decide +kernel
theorem dX5_burn_23 : decode cX5_burn 23 = .ok (.iconst 1, 1) := by decide +kernel
theorem dX5_burn_24 : decode cX5_burn 24 = .ok (.isub, 1) := by decide +kernel
theorem dX5_burn_25 : decode cX5_burn 25 = .ok (.iastore, 1) := by decide +kernel
theorem dX5_burn_26 : decode cX5_burn 26 = .ok (.iconst 1, 1) := by decide +kernel
theorem dX5_burn_27 : decode cX5_burn 27 = .ok (.ireturn, 1) := by decide +kernel
theorem dX5_burn_9 : decode cX5_burn 9 = .ok (.aload_n 0, 1) := by decide +kernel
theorem dX5_burn_10 : decode cX5_burn 10 = .ok (.iconst 2, 1) := by decide +kernel
theorem dX5_burn_11 : decode cX5_burn 11 = .ok (.putfield 116, 3) := by decide +kernel
theorem dX5_burn_14 : decode cX5_burn 14 = .ok (.iconst 0, 1) := by decide +kernel
theorem dX5_burn_15 : decode cX5_burn 15 = .ok (.ireturn, 1) := by decide +kernel
set_option maxHeartbeats 8000000 in
set_option maxRecDepth 100000 in
theorem M_burn (l : Launch) (G : pT) (h0 : Nat) (a : Nat → Nat) (F : Nat → Int32) (R : Nat → Value) (Z : Int64) (B : Nat → Nat → Int32) (J : Nat → Nat → Int64) (T : Nat → Nat) (Pi : Nat → va_E → Prop) (w : va_W) (hO : OKW G h0 a F R Z B J T Pi w) : PM l G pX0 yX5_burn cX5_burn 1 (some .boolean) ({ frames := 2, cells := 0, slots := 0, locals := 60 }) [.ref (a 5)] w (fun (v : Option Value) (u : va_W × (Nat × Int32 × (Nat → Int32))) => v = some (.int (nI u.2.1)) ∧ (u.2.1 ≤ 1) ∧ (OKW G h0 a (upd F 23 u.2.2.1) R Z (updA B 33 u.2.2.2) J T Pi u.1)) (fun u => u.1) := by
  intro sz
  refine Met.ofW (cc := cX5_burn) (maxL := 1) (ret := (some .boolean)) (by decide) rfl ?_
  intro p e s m args below meth c s₁ B9 hml hv
  obtain ⟨rfl, hsz, hP, hD0, hE, hX⟩ := hv
  have hx := B9.exec
  have hb := B9.bytes
  have hr := B9.returns
  have hts := atoms_spec (ws := Cond.code yX5_burn cX5_burn 1 (some .boolean) :: pw) B9.pre
  have hq : ∀ w ∈ pw, w.before _ s = true := fun w h => hts w (List.mem_cons_of_mem _ h)
  have hown : s.vm.findClass RX5 = some m.cls := findClass_of_methodNamed B9.named
  have hlocks := B9.notSynchronized
  subst hsz
  have hD := hD0.self (sz := s.heap.size)
  have hA : ∀ q : Nat, s.heap.size ≤ q → va_A w s.heap.size q := fun q h => Or.inr h
  generalize va_A w s.heap.size = A at hD hE hA ⊢
  have hS : va_S A s.heap s.heap [] := va_S.rf
  have hl := lv_entry ([.ref (a 5)]) (n := 1) (Nat.le_of_ble_eq_true rfl)
  rw [lg_entry_eq]
  generalize (lg_sl ([.ref (a 5)]) ++ List.replicate (1 - (lg_sl ([.ref (a 5)])).length) Slot.unset).toArray = ls at hl ⊢
  have hl : lv_has ls 1 [(0, .ref (a 5))] := hl
  refine lv_aload_n hx hb dX5_burn_0 rfl (lv_at hl 0 rfl) ?_
  refine c_get (v := .ref (a 33)) (C := RX5) (Tc := TX5) (N := 19) (ci := 4) hx hb hq pin_wsX50 hown hE hP hO 28 (sg_28 G h0 a _ _ _ _ _) rfl 7 (by decide) (hq _ pw_478) (fun _ h9 => h9) rfl dX5_burn_1 ?_
  refine lv_iconst (v := 5) hx hb dX5_burn_4 (by decide) ?_
  refine c_ldi (f := (B 33)) (n := 12) (t0 := 0) hx hb hE hP hO 36 (sg_36 G h0 a _ _ _ _ _) rfl (by unfold vp_in; decide) dX5_burn_5 ?_
  refine W.eq (g2 := F0 m 6 ls [.int ((B 33) 5)]) rfl ?_
  refine lv_topi (fun x1 e2 => ?_)
  refine lv_if_gt (tgt := 16) hx hb dX5_burn_6 (by decide) (fun c3 => ?_) (fun c3 => ?_)
  · refine lv_aload_n hx hb dX5_burn_16 rfl (lv_at hl 0 rfl) ?_
    refine c_get (v := .ref (a 33)) (C := RX5) (Tc := TX5) (N := 19) (ci := 4) hx hb hq pin_wsX50 hown hE hP hO 28 (sg_28 G h0 a _ _ _ _ _) rfl 7 (by decide) (hq _ pw_478) (fun _ h9 => h9) rfl dX5_burn_17 ?_
    refine lv_iconst (v := 5) hx hb dX5_burn_20 (by decide) ?_
    refine lv_dup2_11 hx hb dX5_burn_21 rfl rfl ?_
    refine c_ldi (f := (B 33)) (n := 12) (t0 := 0) hx hb hE hP hO 36 (sg_36 G h0 a _ _ _ _ _) rfl (by unfold vp_in; decide) dX5_burn_22 ?_
    refine W.eq (g2 := F0 m 23 ls [.int ((B 33) 5), .int 5, .ref (a 33)]) rfl ?_
    refine lv_topi (fun x4 e5 => ?_)
    refine lv_iconst (v := 1) hx hb dX5_burn_23 (by decide) ?_
    refine lv_isub hx hb dX5_burn_24 ?_
    refine lv_topi (fun x6 e7 => ?_)
    refine c_sti (f := (B 33)) (n := 12) (t0 := 0) hx hb hE hP hD hS hO 36 (sg_36 G h0 a _ _ _ _ _) rfl (by unfold vp_in; decide) (sb_33 G h0 a _ _ _ _ _ _) dX5_burn_25 (fun H locs w hP hD hS hO => ?_)
    refine lv_iconst (v := 1) hx hb dX5_burn_26 (by decide) ?_
    have hz8 : 1 ≤ 1 := (by omega)
    have hO : OKW G h0 a (upd F 23 (F 23)) R Z (updA B 33 (upd (B 33) 5 x6)) J T Pi w := hO.to rfl
    exact W.zret (v := 1) hx hb hr rfl (fun t99 ht99 hW99 => ⟨⟨_, (w, (1, (F 23), (upd (B 33) 5 x6))), rfl, ⟨rfl, hz8, hO⟩, by rw [ht99]; exact hP, hD⟩, hS.F ht99⟩) hS.2.2 dX5_burn_27
  · refine lv_aload_n hx hb dX5_burn_9 rfl (lv_at hl 0 rfl) ?_
    refine lv_iconst (v := 2) hx hb dX5_burn_10 (by decide) ?_
    refine c_put (v := .int 2) (ty := .int) (C := RX5) (Tc := TX5) (N := 19) (ci := 4) hx hb hq pin_wsX50 tyX5 tyX5_ok nmX5 hown hE hP hD hS hO 28 (sg_28 G h0 a _ _ _ _ _) rfl 16 (by decide) (hq _ pw_513) (fun _ h9 => h9) rfl (by decide +kernel) rfl rfl (Nat.le_of_ble_eq_true rfl) (sf_23 G h0 a _ _ _ _ _ 2) dX5_burn_11 (fun H locs w hP hD hS hO => ?_)
    refine lv_iconst (v := 0) hx hb dX5_burn_14 (by decide) ?_
    have hz9 : 0 ≤ 1 := (by omega)
    have hO : OKW G h0 a (upd F 23 (2 : Int32)) R Z (updA B 33 (B 33)) J T Pi w := hO.to rfl
    exact W.zret (v := 0) hx hb hr rfl (fun t99 ht99 hW99 => ⟨⟨_, (w, (0, (2 : Int32), (B 33))), rfl, ⟨rfl, hz9, hO⟩, by rw [ht99]; exact hP, hD⟩, hS.F ht99⟩) hS.2.2 dX5_burn_15
theorem dX5_raise_0 : decode cX5_raise 0 = .ok (.aload_n 0, 1) := by decide +kernel
theorem dX5_raise_1 : decode cX5_raise 1 = .ok (.ldc2_w 255, 3) := by decide +kernel
theorem dX5_raise_4 : decode cX5_raise 4 = .ok (.iload_n 1, 1) := by decide +kernel
theorem dX5_raise_5 : decode cX5_raise 5 = .ok (.i2l, 1) := by decide +kernel
theorem dX5_raise_6 : decode cX5_raise 6 = .ok (.lor, 1) := by decide +kernel
theorem dX5_raise_7 : decode cX5_raise 7 = .ok (.putfield 43, 3) := by decide +kernel
theorem dX5_raise_10 : decode cX5_raise 10 = .ok (.return_, 1) := by decide +kernel
set_option maxHeartbeats 8000000 in
set_option maxRecDepth 100000 in
theorem M_raise (l : Launch) (G : pT) (h0 : Nat) (a : Nat → Nat) (F : Nat → Int32) (R : Nat → Value) (Z : Int64) (B : Nat → Nat → Int32) (J : Nat → Nat → Int64) (T : Nat → Nat) (Pi : Nat → va_E → Prop) (w : va_W) (x : Int32) (hO : OKW G h0 a F R Z B J T Pi w) : PM l G pX0 yX5_raise cX5_raise 2 none ({ frames := 2, cells := 0, slots := 0, locals := 60 }) [.ref (a 5), .int x] w (fun (v : Option Value) (u : va_W × (Int64)) => v = none ∧ (OKW G h0 a F R u.2 B J T Pi u.1)) (fun u => u.1) := by
  intro sz
  refine Met.ofW (cc := cX5_raise) (maxL := 2) (ret := none) (by decide) rfl ?_
  intro p e s m args below meth c s₁ B9 hml hv
  obtain ⟨rfl, hsz, hP, hD0, hE, hX⟩ := hv
  have hx := B9.exec
  have hb := B9.bytes
  have hr := B9.returns
  have hts := atoms_spec (ws := Cond.code yX5_raise cX5_raise 2 none :: pw) B9.pre
  have hq : ∀ w ∈ pw, w.before _ s = true := fun w h => hts w (List.mem_cons_of_mem _ h)
  have hown : s.vm.findClass RX5 = some m.cls := findClass_of_methodNamed B9.named
  have hlocks := B9.notSynchronized
  subst hsz
  have hD := hD0.self (sz := s.heap.size)
  have hA : ∀ q : Nat, s.heap.size ≤ q → va_A w s.heap.size q := fun q h => Or.inr h
  generalize va_A w s.heap.size = A at hD hE hA ⊢
  have hS : va_S A s.heap s.heap [] := va_S.rf
  have hl := lv_entry ([.ref (a 5), .int x]) (n := 2) (Nat.le_of_ble_eq_true rfl)
  rw [lg_entry_eq]
  generalize (lg_sl ([.ref (a 5), .int x]) ++ List.replicate (2 - (lg_sl ([.ref (a 5), .int x])).length) Slot.unset).toArray = ls at hl ⊢
  have hl : lv_has ls 2 [(0, .ref (a 5)), (1, .int x)] := hl
  refine lv_aload_n hx hb dX5_raise_0 rfl (lv_at hl 0 rfl) ?_
  refine lv_ldc2 (v := 4294967296) hx hb hown (hq _ pw_562) dX5_raise_1 ?_
  refine lv_iload_n hx hb dX5_raise_4 rfl (lv_at hl 1 rfl) ?_
  refine lv_i2l hx hb dX5_raise_5 rfl ?_
  refine lv_topl (fun x1 e2 => ?_)
  refine lv_lor hx hb dX5_raise_6 ?_
  refine lv_topl (fun x3 e4 => ?_)
  refine c_put (v := .long x3) (ty := .long) (C := RX5) (Tc := TX5) (N := 19) (ci := 4) hx hb hq pin_wsX50 tyX5 tyX5_ok nmX5 hown hE hP hD hS hO 28 (sg_28 G h0 a _ _ _ _ _) rfl 14 (by decide) (hq _ pw_485) (fun _ h9 => h9) rfl (by decide +kernel) rfl rfl (Nat.le_of_ble_eq_true rfl) (sz G h0 a _ _ _ _ _ x3) dX5_raise_7 (fun H locs w hP hD hS hO => ?_)
  have hO : OKW G h0 a F R x3 B J T Pi w := hO.to rfl
  exact W.vret hx hb hr (fun t99 ht99 hW99 => ⟨⟨_, (w, x3), rfl, ⟨rfl, hO⟩, by rw [ht99]; exact hP, hD⟩, hS.F ht99⟩) hS.2.2 dX5_raise_10
theorem dX5_readNumber_0 : decode cX5_readNumber 0 = .ok (.aload_n 0, 1) := by decide +kernel
theorem dX5_readNumber_1 : decode cX5_readNumber 1 = .ok (.getfield 36, 3) := by decide +kernel
theorem dX5_readNumber_4 : decode cX5_readNumber 4 = .ok (.bipush 7, 2) := by decide +kernel
theorem dX5_readNumber_6 : decode cX5_readNumber 6 = .ok (.iaload, 1) := by decide +kernel
theorem dX5_readNumber_7 : decode cX5_readNumber 7 = .ok (.istore_n 1, 1) := by decide +kernel
theorem dX5_readNumber_8 : decode cX5_readNumber 8 = .ok (.aload_n 0, 1) := by decide +kernel
theorem dX5_readNumber_9 : decode cX5_readNumber 9 = .ok (.iload_n 1, 1) := by decide +kernel
theorem dX5_readNumber_10 : decode cX5_readNumber 10 = .ok (.ifCond .lt 27, 3) := by decide +kernel
theorem dX5_readNumber_37 : decode cX5_readNumber 37 = .ok (.iconst 0, 1) := by decide +kernel
theorem dX5_readNumber_38 : decode cX5_readNumber 38 = .ok (.invokevirtual 237, 3) := by decide +kernel
theorem dX5_readNumber_41 : decode cX5_readNumber 41 = .ok (.aload_n 0, 1) := by decide +kernel
theorem dX5_readNumber_42 : decode cX5_readNumber 42 = .ok (.getfield 36, 3) := by decide +kernel
theorem dX5_readNumber_45 : decode cX5_readNumber 45 = .ok (.bipush 7, 2) := by decide +kernel
theorem dX5_readNumber_47 : decode cX5_readNumber 47 = .ok (.dup2, 1) := by decide +kernel
theorem dX5_readNumber_48 : decode cX5_readNumber 48 = .ok (.iaload, 1) := by decide +kernel
theorem dX5_readNumber_49 : decode cX5_readNumber 49 = .ok (.iconst 1, 1) := by decide +kernel
theorem dX5_readNumber_50 : decode cX5_readNumber 50 = .ok (.iadd, 1) := by decide +kernel
theorem dX5_readNumber_51 : decode cX5_readNumber 51 = .ok (.iastore, 1) := by decide +kernel
theorem dX5_readNumber_52 : decode cX5_readNumber 52 = .ok (.return_, 1) := by decide +kernel
theorem dX5_readNumber_13 : decode cX5_readNumber 13 = .ok (.iload_n 1, 1) := by decide +kernel
theorem dX5_readNumber_14 : decode cX5_readNumber 14 = .ok (.aload_n 0, 1) := by decide +kernel
theorem dX5_readNumber_15 : decode cX5_readNumber 15 = .ok (.getfield 39, 3) := by decide +kernel
theorem dX5_readNumber_18 : decode cX5_readNumber 18 = .ok (.if_icmp .ge 19, 3) := by decide +kernel
theorem dX5_readNumber_21 : decode cX5_readNumber 21 = .ok (.iload_n 1, 1) := by decide +kernel
theorem dX5_readNumber_22 : decode cX5_readNumber 22 = .ok (.sipush 200, 3) := by decide +kernel
theorem dX5_readNumber_25 : decode cX5_readNumber 25 = .ok (.if_icmp .ge 12, 3) := by decide +kernel
theorem dX5_readNumber_28 : decode cX5_readNumber 28 = .ok (.aload_n 0, 1) := by decide +kernel
theorem dX5_readNumber_29 : decode cX5_readNumber 29 = .ok (.getfield 30, 3) := by decide +kernel
theorem dX5_readNumber_32 : decode cX5_readNumber 32 = .ok (.iload_n 1, 1) := by decide +kernel
theorem dX5_readNumber_33 : decode cX5_readNumber 33 = .ok (.iaload, 1) := by decide +kernel
theorem dX5_readNumber_34 : decode cX5_readNumber 34 = .ok (.goto 4, 3) := by decide +kernel
theorem hV_X5_pushNumber : yX5_pushNumber.cls = RX5 ∧ yX5_pushNumber.cls ≠ "java/lang/invoke/MethodHandle" ∧ yX5_pushNumber.cls ≠ "java/lang/invoke/VarHandle" ∧ (parseMethodDescriptor yX5_pushNumber.desc).map (fun d => d.parameters.length) = some 1 := by decide +kernel
set_option maxHeartbeats 8000000 in
set_option maxRecDepth 100000 in
theorem M_readNumber (l : Launch) (G : pT) (h0 : Nat) (a : Nat → Nat) (F : Nat → Int32) (R : Nat → Value) (Z : Int64) (B : Nat → Nat → Int32) (J : Nat → Nat → Int64) (T : Nat → Nat) (Pi : Nat → va_E → Prop) (w : va_W) (tp : Nat) (htp : tp ≤ 32000) (hO : OKW G h0 a (upd F 19 (nI tp)) R Z B J T Pi w) : PM l G pX0 yX5_readNumber cX5_readNumber 2 none ({ frames := 5, cells := 0, slots := 0, locals := 123 }) [.ref (a 5)] w (fun (v : Option Value) (u : va_W × (Nat × Int32 × Int32 × (Nat → Nat → Int64) × (Nat → Int32))) => v = none ∧ (u.2.1 ≤ 32000) ∧ (OKW G h0 a (upd (upd (upd F 19 (nI u.2.1)) 23 u.2.2.1) 25 u.2.2.2.1) R Z (updA B 33 u.2.2.2.2.2) u.2.2.2.2.1 T Pi u.1)) (fun u => u.1) := by
  intro sz
  refine Met.ofW (cc := cX5_readNumber) (maxL := 2) (ret := none) (by decide) rfl ?_
  intro p e s m args below meth c s₁ B9 hml hv
  obtain ⟨rfl, hsz, hP, hD0, hE, hX⟩ := hv
  have hx := B9.exec
  have hb := B9.bytes
  have hr := B9.returns
  have hts := atoms_spec (ws := Cond.code yX5_readNumber cX5_readNumber 2 none :: pw) B9.pre
  have hq : ∀ w ∈ pw, w.before _ s = true := fun w h => hts w (List.mem_cons_of_mem _ h)
  have hown : s.vm.findClass RX5 = some m.cls := findClass_of_methodNamed B9.named
  have hlocks := B9.notSynchronized
  subst hsz
  have hD := hD0.self (sz := s.heap.size)
  have hA : ∀ q : Nat, s.heap.size ≤ q → va_A w s.heap.size q := fun q h => Or.inr h
  generalize va_A w s.heap.size = A at hD hE hA ⊢
  have hS : va_S A s.heap s.heap [] := va_S.rf
  have hl := lv_entry ([.ref (a 5)]) (n := 2) (Nat.le_of_ble_eq_true rfl)
  rw [lg_entry_eq]
  generalize (lg_sl ([.ref (a 5)]) ++ List.replicate (2 - (lg_sl ([.ref (a 5)])).length) Slot.unset).toArray = ls at hl ⊢
  have hl : lv_has ls 2 [(0, .ref (a 5))] := hl
  refine lv_aload_n hx hb dX5_readNumber_0 rfl (lv_at hl 0 rfl) ?_
  refine c_get (v := .ref (a 33)) (C := RX5) (Tc := TX5) (N := 19) (ci := 4) hx hb hq pin_wsX50 hown hE hP hO 28 (sg_28 G h0 a _ _ _ _ _) rfl 7 (by decide) (hq _ pw_478) (fun _ h9 => h9) rfl dX5_readNumber_1 ?_
  refine lv_bipush (v := 7) hx hb dX5_readNumber_4 (by decide) ?_
  refine c_ldi (f := (B 33)) (n := 12) (t0 := 0) hx hb hE hP hO 36 (sg_36 G h0 a _ _ _ _ _) rfl (by unfold vp_in; decide) dX5_readNumber_6 ?_
  refine W.eq (g2 := F0 m 7 ls [.int ((B 33) 7)]) rfl ?_
  refine lv_topi (fun x1 e2 => ?_)
  refine lv_istore_n (lv' := [(1, .int x1), (0, .ref (a 5))]) hx hb dX5_readNumber_7 rfl hl (by decide) rfl (fun ls hl => ?_)
  refine lv_aload_n hx hb dX5_readNumber_8 rfl (lv_at hl 1 rfl) ?_
  refine lv_iload_n hx hb dX5_readNumber_9 rfl (lv_at hl 0 rfl) ?_
  refine lv_if_lt (tgt := 37) hx hb dX5_readNumber_10 (by decide) (fun c3 => ?_) (fun c3 => ?_)
  · refine lv_iconst (v := 0) hx hb dX5_readNumber_37 (by decide) ?_
    have hO : OKW G h0 a (upd (upd F 19 (nI tp)) 19 (nI tp)) R Z B J T Pi w := hO.to rfl
    obtain ⟨_, qr7, hqr8⟩ := hO.2.1 28 _ (sg_28 G h0 a _ _ _ _ _)
    refine pc_V0 (G := G) (As := [.int 0]) (rest := []) hx hb hml hown hq hE hX pX0_al hP hD hS hA hl.1 (M_pushNumber l G h0 a (upd F 19 (nI tp)) R Z B J T Pi w 0 tp (by omega) hO) (gV pw_605 pw_606 pw_607 pw_539 pw_602) hV_X5_pushNumber qr7 4 hqr8 rfl rfl rfl (Nat.le_of_ble_eq_true rfl) dX5_readNumber_38 ⟨Nat.le_of_ble_eq_true rfl, Nat.le_of_ble_eq_true rfl⟩ ⟨Nat.le_of_ble_eq_true rfl, Nat.le_of_ble_eq_true rfl⟩ (fun v6 u4 H locs hw5 hP hD hS => ?_)
    obtain ⟨w, tp9, en10, rf11, J12⟩ := u4
    obtain ⟨hw5, h13, hO⟩ := hw5
    have h13 : tp9 ≤ 32000 := h13
    obtain rfl : v6 = none := hw5
    have hO : OKW G h0 a (upd (upd (upd F 19 (nI tp9)) 23 en10) 25 rf11) R Z B J12 T Pi w := hO.to rfl
    refine W.widen (k := 0) (n := 0) (Nat.le_of_ble_eq_true rfl) (Nat.le_of_ble_eq_true rfl) ?_
    refine W.eq (g2 := F0 m 41 ls []) rfl ?_
    refine lv_aload_n hx hb dX5_readNumber_41 rfl (lv_at hl 1 rfl) ?_
    refine c_get (v := .ref (a 33)) (C := RX5) (Tc := TX5) (N := 19) (ci := 4) hx hb hq pin_wsX50 hown hE hP hO 28 (sg_28 G h0 a _ _ _ _ _) rfl 7 (by decide) (hq _ pw_478) (fun _ h9 => h9) rfl dX5_readNumber_42 ?_
    refine lv_bipush (v := 7) hx hb dX5_readNumber_45 (by decide) ?_
    refine lv_dup2_11 hx hb dX5_readNumber_47 rfl rfl ?_
    refine c_ldi (f := (B 33)) (n := 12) (t0 := 0) hx hb hE hP hO 36 (sg_36 G h0 a _ _ _ _ _) rfl (by unfold vp_in; decide) dX5_readNumber_48 ?_
    refine W.eq (g2 := F0 m 49 ls [.int ((B 33) 7), .int 7, .ref (a 33)]) rfl ?_
    refine lv_topi (fun x14 e15 => ?_)
    refine lv_iconst (v := 1) hx hb dX5_readNumber_49 (by decide) ?_
    refine lv_iadd hx hb dX5_readNumber_50 ?_
    refine lv_topi (fun x16 e17 => ?_)
    refine c_sti (f := (B 33)) (n := 12) (t0 := 0) hx hb hE hP hD hS hO 36 (sg_36 G h0 a _ _ _ _ _) rfl (by unfold vp_in; decide) (sb_33 G h0 a _ _ _ _ _ _) dX5_readNumber_51 (fun H locs w hP hD hS hO => ?_)
    have hz18 : tp9 ≤ 32000 := (by omega)
    have hO : OKW G h0 a (upd (upd (upd F 19 (nI tp9)) 23 en10) 25 rf11) R Z (updA B 33 (upd (B 33) 7 x16)) J12 T Pi w := hO.to rfl
    exact W.vret hx hb hr (fun t99 ht99 hW99 => ⟨⟨_, (w, (tp9, en10, rf11, J12, (upd (B 33) 7 x16))), rfl, ⟨rfl, hz18, hO⟩, by rw [ht99]; exact hP, hD⟩, hS.F ht99⟩) hS.2.2 dX5_readNumber_52
  · obtain ⟨a9, ht_a9, hb_a9⟩ := nI_nn2 ( c3)
    have cc19 := c3
    rw [ht_a9] at cc19
    have n20 : ¬ (a9 < 0) := fun h9 => cc19 ((nI_ltI (a := a9) (b := 0) (by omega) (by omega)).mpr h9)
    rw [ht_a9] at hl
    refine lv_iload_n hx hb dX5_readNumber_13 rfl (lv_at hl 0 rfl) ?_
    refine lv_aload_n hx hb dX5_readNumber_14 rfl (lv_at hl 1 rfl) ?_
    refine c_get (v := .int (F 17)) (C := RX5) (Tc := TX5) (N := 19) (ci := 4) hx hb hq pin_wsX50 hown hE hP hO 28 (sg_28 G h0 a _ _ _ _ _) rfl 5 (by decide) (hq _ pw_482) (fun _ h9 => h9) rfl dX5_readNumber_15 ?_
    refine lv_icmp_ge (tgt := 37) hx hb dX5_readNumber_18 (by decide) (fun c21 => ?_) (fun c21 => ?_)
    · refine lv_iconst (v := 0) hx hb dX5_readNumber_37 (by decide) ?_
      have hO : OKW G h0 a (upd (upd F 19 (nI tp)) 19 (nI tp)) R Z B J T Pi w := hO.to rfl
      obtain ⟨_, qr25, hqr26⟩ := hO.2.1 28 _ (sg_28 G h0 a _ _ _ _ _)
      refine pc_V0 (G := G) (As := [.int 0]) (rest := []) hx hb hml hown hq hE hX pX0_al hP hD hS hA hl.1 (M_pushNumber l G h0 a (upd F 19 (nI tp)) R Z B J T Pi w 0 tp (by omega) hO) (gV pw_605 pw_606 pw_607 pw_539 pw_602) hV_X5_pushNumber qr25 4 hqr26 rfl rfl rfl (Nat.le_of_ble_eq_true rfl) dX5_readNumber_38 ⟨Nat.le_of_ble_eq_true rfl, Nat.le_of_ble_eq_true rfl⟩ ⟨Nat.le_of_ble_eq_true rfl, Nat.le_of_ble_eq_true rfl⟩ (fun v24 u22 H locs hw23 hP hD hS => ?_)
      obtain ⟨w, tp27, en28, rf29, J30⟩ := u22
      obtain ⟨hw23, h31, hO⟩ := hw23
      have h31 : tp27 ≤ 32000 := h31
      obtain rfl : v24 = none := hw23
      have hO : OKW G h0 a (upd (upd (upd F 19 (nI tp27)) 23 en28) 25 rf29) R Z B J30 T Pi w := hO.to rfl
      refine W.widen (k := 0) (n := 0) (Nat.le_of_ble_eq_true rfl) (Nat.le_of_ble_eq_true rfl) ?_
      refine W.eq (g2 := F0 m 41 ls []) rfl ?_
      refine lv_aload_n hx hb dX5_readNumber_41 rfl (lv_at hl 1 rfl) ?_
      refine c_get (v := .ref (a 33)) (C := RX5) (Tc := TX5) (N := 19) (ci := 4) hx hb hq pin_wsX50 hown hE hP hO 28 (sg_28 G h0 a _ _ _ _ _) rfl 7 (by decide) (hq _ pw_478) (fun _ h9 => h9) rfl dX5_readNumber_42 ?_
      refine lv_bipush (v := 7) hx hb dX5_readNumber_45 (by decide) ?_
      refine lv_dup2_11 hx hb dX5_readNumber_47 rfl rfl ?_
      refine c_ldi (f := (B 33)) (n := 12) (t0 := 0) hx hb hE hP hO 36 (sg_36 G h0 a _ _ _ _ _) rfl (by unfold vp_in; decide) dX5_readNumber_48 ?_
      refine W.eq (g2 := F0 m 49 ls [.int ((B 33) 7), .int 7, .ref (a 33)]) rfl ?_
      refine lv_topi (fun x32 e33 => ?_)
      refine lv_iconst (v := 1) hx hb dX5_readNumber_49 (by decide) ?_
      refine lv_iadd hx hb dX5_readNumber_50 ?_
      refine lv_topi (fun x34 e35 => ?_)
      refine c_sti (f := (B 33)) (n := 12) (t0 := 0) hx hb hE hP hD hS hO 36 (sg_36 G h0 a _ _ _ _ _) rfl (by unfold vp_in; decide) (sb_33 G h0 a _ _ _ _ _ _) dX5_readNumber_51 (fun H locs w hP hD hS hO => ?_)
      have hz36 : tp27 ≤ 32000 := (by omega)
      have hO : OKW G h0 a (upd (upd (upd F 19 (nI tp27)) 23 en28) 25 rf29) R Z (updA B 33 (upd (B 33) 7 x34)) J30 T Pi w := hO.to rfl
      exact W.vret hx hb hr (fun t99 ht99 hW99 => ⟨⟨_, (w, (tp27, en28, rf29, J30, (upd (B 33) 7 x34))), rfl, ⟨rfl, hz36, hO⟩, by rw [ht99]; exact hP, hD⟩, hS.F ht99⟩) hS.2.2 dX5_readNumber_52
    · refine lv_iload_n hx hb dX5_readNumber_21 rfl (lv_at hl 0 rfl) ?_
      refine lv_sipush (v := 200) hx hb dX5_readNumber_22 (by decide) ?_
      refine lv_icmp_ge (tgt := 37) hx hb dX5_readNumber_25 (by decide) (fun c37 => ?_) (fun c37 => ?_)
      · have n38 : 200 ≤ a9 := (nI_leI (a := 200) (b := a9) (by omega) (by omega)).mp c37
        refine lv_iconst (v := 0) hx hb dX5_readNumber_37 (by decide) ?_
        have hO : OKW G h0 a (upd (upd F 19 (nI tp)) 19 (nI tp)) R Z B J T Pi w := hO.to rfl
        obtain ⟨_, qr42, hqr43⟩ := hO.2.1 28 _ (sg_28 G h0 a _ _ _ _ _)
        refine pc_V0 (G := G) (As := [.int 0]) (rest := []) hx hb hml hown hq hE hX pX0_al hP hD hS hA hl.1 (M_pushNumber l G h0 a (upd F 19 (nI tp)) R Z B J T Pi w 0 tp (by omega) hO) (gV pw_605 pw_606 pw_607 pw_539 pw_602) hV_X5_pushNumber qr42 4 hqr43 rfl rfl rfl (Nat.le_of_ble_eq_true rfl) dX5_readNumber_38 ⟨Nat.le_of_ble_eq_true rfl, Nat.le_of_ble_eq_true rfl⟩ ⟨Nat.le_of_ble_eq_true rfl, Nat.le_of_ble_eq_true rfl⟩ (fun v41 u39 H locs hw40 hP hD hS => ?_)
        obtain ⟨w, tp44, en45, rf46, J47⟩ := u39
        obtain ⟨hw40, h48, hO⟩ := hw40
        have h48 : tp44 ≤ 32000 := h48
        obtain rfl : v41 = none := hw40
        have hO : OKW G h0 a (upd (upd (upd F 19 (nI tp44)) 23 en45) 25 rf46) R Z B J47 T Pi w := hO.to rfl
        refine W.widen (k := 0) (n := 0) (Nat.le_of_ble_eq_true rfl) (Nat.le_of_ble_eq_true rfl) ?_
        refine W.eq (g2 := F0 m 41 ls []) rfl ?_
        refine lv_aload_n hx hb dX5_readNumber_41 rfl (lv_at hl 1 rfl) ?_
        refine c_get (v := .ref (a 33)) (C := RX5) (Tc := TX5) (N := 19) (ci := 4) hx hb hq pin_wsX50 hown hE hP hO 28 (sg_28 G h0 a _ _ _ _ _) rfl 7 (by decide) (hq _ pw_478) (fun _ h9 => h9) rfl dX5_readNumber_42 ?_
        refine lv_bipush (v := 7) hx hb dX5_readNumber_45 (by decide) ?_
        refine lv_dup2_11 hx hb dX5_readNumber_47 rfl rfl ?_
        refine c_ldi (f := (B 33)) (n := 12) (t0 := 0) hx hb hE hP hO 36 (sg_36 G h0 a _ _ _ _ _) rfl (by unfold vp_in; decide) dX5_readNumber_48 ?_
        refine W.eq (g2 := F0 m 49 ls [.int ((B 33) 7), .int 7, .ref (a 33)]) rfl ?_
        refine lv_topi (fun x49 e50 => ?_)
        refine lv_iconst (v := 1) hx hb dX5_readNumber_49 (by decide) ?_
        refine lv_iadd hx hb dX5_readNumber_50 ?_
        refine lv_topi (fun x51 e52 => ?_)
        refine c_sti (f := (B 33)) (n := 12) (t0 := 0) hx hb hE hP hD hS hO 36 (sg_36 G h0 a _ _ _ _ _) rfl (by unfold vp_in; decide) (sb_33 G h0 a _ _ _ _ _ _) dX5_readNumber_51 (fun H locs w hP hD hS hO => ?_)
        have hz53 : tp44 ≤ 32000 := (by omega)
        have hO : OKW G h0 a (upd (upd (upd F 19 (nI tp44)) 23 en45) 25 rf46) R Z (updA B 33 (upd (B 33) 7 x51)) J47 T Pi w := hO.to rfl
        exact W.vret hx hb hr (fun t99 ht99 hW99 => ⟨⟨_, (w, (tp44, en45, rf46, J47, (upd (B 33) 7 x51))), rfl, ⟨rfl, hz53, hO⟩, by rw [ht99]; exact hP, hD⟩, hS.F ht99⟩) hS.2.2 dX5_readNumber_52
      · have n54 : ¬ (200 ≤ a9) := fun h9 => c37 ((nI_leI (a := 200) (b := a9) (by omega) (by omega)).mpr h9)
        refine lv_aload_n hx hb dX5_readNumber_28 rfl (lv_at hl 1 rfl) ?_
        refine c_get (v := .ref (a 31)) (C := RX5) (Tc := TX5) (N := 19) (ci := 4) hx hb hq pin_wsX50 hown hE hP hO 28 (sg_28 G h0 a _ _ _ _ _) rfl 4 (by decide) (hq _ pw_476) (fun _ h9 => h9) rfl dX5_readNumber_29 ?_
        refine lv_iload_n hx hb dX5_readNumber_32 rfl (lv_at hl 0 rfl) ?_
        refine c_ldi (f := (B 31)) (n := 200) (t0 := 0) hx hb hE hP hO 34 (sg_34 G h0 a _ _ _ _ _) rfl (vp_in_nI (by omega) (by decide)) dX5_readNumber_33 ?_
        rw [(nI_clamp (show a9 < 2 ^ 31 by omega))]
        refine lv_topi (fun x55 e56 => ?_)
        refine lv_goto (tgt := 38) hx hb dX5_readNumber_34 (by decide) ?_
        have hO : OKW G h0 a (upd (upd F 19 (nI tp)) 19 (nI tp)) R Z B J T Pi w := hO.to rfl
        obtain ⟨_, qr60, hqr61⟩ := hO.2.1 28 _ (sg_28 G h0 a _ _ _ _ _)
        refine pc_V0 (G := G) (As := [.int x55]) (rest := []) hx hb hml hown hq hE hX pX0_al hP hD hS hA hl.1 (M_pushNumber l G h0 a (upd F 19 (nI tp)) R Z B J T Pi w x55 tp (by omega) hO) (gV pw_605 pw_606 pw_607 pw_539 pw_602) hV_X5_pushNumber qr60 4 hqr61 rfl rfl rfl (Nat.le_of_ble_eq_true rfl) dX5_readNumber_38 ⟨Nat.le_of_ble_eq_true rfl, Nat.le_of_ble_eq_true rfl⟩ ⟨Nat.le_of_ble_eq_true rfl, Nat.le_of_ble_eq_true rfl⟩ (fun v59 u57 H locs hw58 hP hD hS => ?_)
        obtain ⟨w, tp62, en63, rf64, J65⟩ := u57
        obtain ⟨hw58, h66, hO⟩ := hw58
        have h66 : tp62 ≤ 32000 := h66
        obtain rfl : v59 = none := hw58
        have hO : OKW G h0 a (upd (upd (upd F 19 (nI tp62)) 23 en63) 25 rf64) R Z B J65 T Pi w := hO.to rfl
        refine W.widen (k := 0) (n := 0) (Nat.le_of_ble_eq_true rfl) (Nat.le_of_ble_eq_true rfl) ?_
        refine W.eq (g2 := F0 m 41 ls []) rfl ?_
        refine lv_aload_n hx hb dX5_readNumber_41 rfl (lv_at hl 1 rfl) ?_
        refine c_get (v := .ref (a 33)) (C := RX5) (Tc := TX5) (N := 19) (ci := 4) hx hb hq pin_wsX50 hown hE hP hO 28 (sg_28 G h0 a _ _ _ _ _) rfl 7 (by decide) (hq _ pw_478) (fun _ h9 => h9) rfl dX5_readNumber_42 ?_
        refine lv_bipush (v := 7) hx hb dX5_readNumber_45 (by decide) ?_
        refine lv_dup2_11 hx hb dX5_readNumber_47 rfl rfl ?_
        refine c_ldi (f := (B 33)) (n := 12) (t0 := 0) hx hb hE hP hO 36 (sg_36 G h0 a _ _ _ _ _) rfl (by unfold vp_in; decide) dX5_readNumber_48 ?_
        refine W.eq (g2 := F0 m 49 ls [.int ((B 33) 7), .int 7, .ref (a 33)]) rfl ?_
        refine lv_topi (fun x67 e68 => ?_)
        refine lv_iconst (v := 1) hx hb dX5_readNumber_49 (by decide) ?_
        refine lv_iadd hx hb dX5_readNumber_50 ?_
        refine lv_topi (fun x69 e70 => ?_)
        refine c_sti (f := (B 33)) (n := 12) (t0 := 0) hx hb hE hP hD hS hO 36 (sg_36 G h0 a _ _ _ _ _) rfl (by unfold vp_in; decide) (sb_33 G h0 a _ _ _ _ _ _) dX5_readNumber_51 (fun H locs w hP hD hS hO => ?_)
        have hz71 : tp62 ≤ 32000 := (by omega)
        have hO : OKW G h0 a (upd (upd (upd F 19 (nI tp62)) 23 en63) 25 rf64) R Z (updA B 33 (upd (B 33) 7 x69)) J65 T Pi w := hO.to rfl
        exact W.vret hx hb hr (fun t99 ht99 hW99 => ⟨⟨_, (w, (tp62, en63, rf64, J65, (upd (B 33) 7 x69))), rfl, ⟨rfl, hz71, hO⟩, by rw [ht99]; exact hP, hD⟩, hS.F ht99⟩) hS.2.2 dX5_readNumber_52
theorem dX5_print_0 : decode cX5_print 0 = .ok (.aload_n 0, 1) := by decide +kernel
theorem dX5_print_1 : decode cX5_print 1 = .ok (.getfield 36, 3) := by decide +kernel
theorem dX5_print_4 : decode cX5_print 4 = .ok (.bipush 6, 2) := by decide +kernel
theorem dX5_print_6 : decode cX5_print 6 = .ok (.iaload, 1) := by decide +kernel
theorem dX5_print_7 : decode cX5_print 7 = .ok (.istore_n 2, 1) := by decide +kernel
theorem dX5_print_8 : decode cX5_print 8 = .ok (.iload_n 2, 1) := by decide +kernel
theorem dX5_print_9 : decode cX5_print 9 = .ok (.ifCond .lt 28, 3) := by decide +kernel
theorem dX5_print_37 : decode cX5_print 37 = .ok (.return_, 1) := by decide +kernel
theorem dX5_print_12 : decode cX5_print 12 = .ok (.iload_n 2, 1) := by decide +kernel
theorem dX5_print_13 : decode cX5_print 13 = .ok (.sipush 400, 3) := by decide +kernel
theorem dX5_print_16 : decode cX5_print 16 = .ok (.if_icmp .ge 21, 3) := by decide +kernel
theorem dX5_print_19 : decode cX5_print 19 = .ok (.aload_n 0, 1) := by decide +kernel
theorem dX5_print_20 : decode cX5_print 20 = .ok (.getfield 33, 3) := by decide +kernel
theorem dX5_print_23 : decode cX5_print 23 = .ok (.iload_n 2, 1) := by decide +kernel
theorem dX5_print_24 : decode cX5_print 24 = .ok (.iload_n 1, 1) := by decide +kernel
theorem dX5_print_25 : decode cX5_print 25 = .ok (.iastore, 1) := by decide +kernel
theorem dX5_print_26 : decode cX5_print 26 = .ok (.aload_n 0, 1) := by decide +kernel
theorem dX5_print_27 : decode cX5_print 27 = .ok (.getfield 36, 3) := by decide +kernel
theorem dX5_print_30 : decode cX5_print 30 = .ok (.bipush 6, 2) := by decide +kernel
theorem dX5_print_32 : decode cX5_print 32 = .ok (.dup2, 1) := by decide +kernel
theorem dX5_print_33 : decode cX5_print 33 = .ok (.iaload, 1) := by decide +kernel
theorem dX5_print_34 : decode cX5_print 34 = .ok (.iconst 1, 1) := by decide +kernel
theorem dX5_print_35 : decode cX5_print 35 = .ok (.iadd, 1) := by decide +kernel
theorem dX5_print_36 : decode cX5_print 36 = .ok (.iastore, 1) := by decide +kernel
set_option maxHeartbeats 8000000 in
set_option maxRecDepth 100000 in
theorem M_print (l : Launch) (G : pT) (h0 : Nat) (a : Nat → Nat) (F : Nat → Int32) (R : Nat → Value) (Z : Int64) (B : Nat → Nat → Int32) (J : Nat → Nat → Int64) (T : Nat → Nat) (Pi : Nat → va_E → Prop) (w : va_W) (x : Int32) (hO : OKW G h0 a F R Z B J T Pi w) : PM l G pX0 yX5_print cX5_print 3 none ({ frames := 2, cells := 0, slots := 0, locals := 60 }) [.ref (a 5), .int x] w (fun (v : Option Value) (u : va_W × ((Nat → Int32) × (Nat → Int32))) => v = none ∧ (OKW G h0 a F R Z (updA (updA B 32 u.2.2) 33 u.2.1) J T Pi u.1)) (fun u => u.1) := by
  intro sz
  refine Met.ofW (cc := cX5_print) (maxL := 3) (ret := none) (by decide) rfl ?_
  intro p e s m args below meth c s₁ B9 hml hv
  obtain ⟨rfl, hsz, hP, hD0, hE, hX⟩ := hv
  have hx := B9.exec
  have hb := B9.bytes
  have hr := B9.returns
  have hts := atoms_spec (ws := Cond.code yX5_print cX5_print 3 none :: pw) B9.pre
  have hq : ∀ w ∈ pw, w.before _ s = true := fun w h => hts w (List.mem_cons_of_mem _ h)
  have hown : s.vm.findClass RX5 = some m.cls := findClass_of_methodNamed B9.named
  have hlocks := B9.notSynchronized
  subst hsz
  have hD := hD0.self (sz := s.heap.size)
  have hA : ∀ q : Nat, s.heap.size ≤ q → va_A w s.heap.size q := fun q h => Or.inr h
  generalize va_A w s.heap.size = A at hD hE hA ⊢
  have hS : va_S A s.heap s.heap [] := va_S.rf
  have hl := lv_entry ([.ref (a 5), .int x]) (n := 3) (Nat.le_of_ble_eq_true rfl)
  rw [lg_entry_eq]
  generalize (lg_sl ([.ref (a 5), .int x]) ++ List.replicate (3 - (lg_sl ([.ref (a 5), .int x])).length) Slot.unset).toArray = ls at hl ⊢
  have hl : lv_has ls 3 [(0, .ref (a 5)), (1, .int x)] := hl
  refine lv_aload_n hx hb dX5_print_0 rfl (lv_at hl 0 rfl) ?_
  refine c_get (v := .ref (a 33)) (C := RX5) (Tc := TX5) (N := 19) (ci := 4) hx hb hq pin_wsX50 hown hE hP hO 28 (sg_28 G h0 a _ _ _ _ _) rfl 7 (by decide) (hq _ pw_478) (fun _ h9 => h9) rfl dX5_print_1 ?_
  refine lv_bipush (v := 6) hx hb dX5_print_4 (by decide) ?_
  refine c_ldi (f := (B 33)) (n := 12) (t0 := 0) hx hb hE hP hO 36 (sg_36 G h0 a _ _ _ _ _) rfl (by unfold vp_in; decide) dX5_print_6 ?_
  refine W.eq (g2 := F0 m 7 ls [.int ((B 33) 6)]) rfl ?_
  refine lv_topi (fun x1 e2 => ?_)
  refine lv_istore_n (lv' := [(2, .int x1), (0, .ref (a 5)), (1, .int x)]) hx hb dX5_print_7 rfl hl (by decide) rfl (fun ls hl => ?_)
  refine lv_iload_n hx hb dX5_print_8 rfl (lv_at hl 0 rfl) ?_
  refine lv_if_lt (tgt := 37) hx hb dX5_print_9 (by decide) (fun c3 => ?_) (fun c3 => ?_)
  · have hO : OKW G h0 a F R Z (updA (updA B 32 (B 32)) 33 (B 33)) J T Pi w := hO.to rfl
    exact W.vret hx hb hr (fun t99 ht99 hW99 => ⟨⟨_, (w, ((B 33), (B 32))), rfl, ⟨rfl, hO⟩, by rw [ht99]; exact hP, hD⟩, hS.F ht99⟩) hS.2.2 dX5_print_37
  · obtain ⟨a9, ht_a9, hb_a9⟩ := nI_nn2 ( c3)
    have cc4 := c3
    rw [ht_a9] at cc4
    have n5 : ¬ (a9 < 0) := fun h9 => cc4 ((nI_ltI (a := a9) (b := 0) (by omega) (by omega)).mpr h9)
    rw [ht_a9] at hl
    refine lv_iload_n hx hb dX5_print_12 rfl (lv_at hl 0 rfl) ?_
    refine lv_sipush (v := 400) hx hb dX5_print_13 (by decide) ?_
    refine lv_icmp_ge (tgt := 37) hx hb dX5_print_16 (by decide) (fun c6 => ?_) (fun c6 => ?_)
    · have n7 : 400 ≤ a9 := (nI_leI (a := 400) (b := a9) (by omega) (by omega)).mp c6
      have hO : OKW G h0 a F R Z (updA (updA B 32 (B 32)) 33 (B 33)) J T Pi w := hO.to rfl
      exact W.vret hx hb hr (fun t99 ht99 hW99 => ⟨⟨_, (w, ((B 33), (B 32))), rfl, ⟨rfl, hO⟩, by rw [ht99]; exact hP, hD⟩, hS.F ht99⟩) hS.2.2 dX5_print_37
    · have n8 : ¬ (400 ≤ a9) := fun h9 => c6 ((nI_leI (a := 400) (b := a9) (by omega) (by omega)).mpr h9)
      refine lv_aload_n hx hb dX5_print_19 rfl (lv_at hl 1 rfl) ?_
      refine c_get (v := .ref (a 32)) (C := RX5) (Tc := TX5) (N := 19) (ci := 4) hx hb hq pin_wsX50 hown hE hP hO 28 (sg_28 G h0 a _ _ _ _ _) rfl 6 (by decide) (hq _ pw_477) (fun _ h9 => h9) rfl dX5_print_20 ?_
      refine lv_iload_n hx hb dX5_print_23 rfl (lv_at hl 0 rfl) ?_
      refine lv_iload_n hx hb dX5_print_24 rfl (lv_at hl 2 rfl) ?_
      refine c_sti (f := (B 32)) (n := 400) (t0 := 0) hx hb hE hP hD hS hO 35 (sg_35 G h0 a _ _ _ _ _) rfl (vp_in_nI (by omega) (by decide)) (sb_32 G h0 a _ _ _ _ _ _) dX5_print_25 (fun H locs w hP hD hS hO => ?_)
      rw [(nI_clamp (show a9 < 2 ^ 31 by omega))] at hO
      refine lv_aload_n hx hb dX5_print_26 rfl (lv_at hl 1 rfl) ?_
      refine c_get (v := .ref (a 33)) (C := RX5) (Tc := TX5) (N := 19) (ci := 4) hx hb hq pin_wsX50 hown hE hP hO 28 (sg_28 G h0 a _ _ _ _ _) rfl 7 (by decide) (hq _ pw_478) (fun _ h9 => h9) rfl dX5_print_27 ?_
      refine lv_bipush (v := 6) hx hb dX5_print_30 (by decide) ?_
      refine lv_dup2_11 hx hb dX5_print_32 rfl rfl ?_
      refine c_ldi (f := (B 33)) (n := 12) (t0 := 0) hx hb hE hP hO 36 (sg_36 G h0 a _ _ _ _ _) rfl (by unfold vp_in; decide) dX5_print_33 ?_
      refine W.eq (g2 := F0 m 34 ls [.int ((B 33) 6), .int 6, .ref (a 33)]) rfl ?_
      refine lv_topi (fun x9 e10 => ?_)
      refine lv_iconst (v := 1) hx hb dX5_print_34 (by decide) ?_
      refine lv_iadd hx hb dX5_print_35 ?_
      refine lv_topi (fun x11 e12 => ?_)
      refine c_sti (f := (B 33)) (n := 12) (t0 := 0) hx hb hE hP hD hS hO 36 (sg_36 G h0 a _ _ _ _ _) rfl (by unfold vp_in; decide) (sb_33 G h0 a _ _ _ _ _ _) dX5_print_36 (fun H locs w hP hD hS hO => ?_)
      have hO : OKW G h0 a F R Z (updA (updA B 32 (upd (B 32) a9 x)) 33 (upd (B 33) 6 x11)) J T Pi w := hO.to rfl
      exact W.vret hx hb hr (fun t99 ht99 hW99 => ⟨⟨_, (w, ((upd (B 33) 6 x11), (upd (B 32) a9 x))), rfl, ⟨rfl, hO⟩, by rw [ht99]; exact hP, hD⟩, hS.F ht99⟩) hS.2.2 dX5_print_37
theorem dX5_skip_0 : decode cX5_skip 0 = .ok (.aload_n 0, 1) := by decide +kernel
theorem dX5_skip_1 : decode cX5_skip 1 = .ok (.invokevirtual 180, 3) := by decide +kernel
theorem dX5_skip_4 : decode cX5_skip 4 = .ok (.lstore_n 3, 1) := by decide +kernel
theorem dX5_skip_5 : decode cX5_skip 5 = .ok (.lload_n 3, 1) := by decide +kernel
theorem dX5_skip_6 : decode cX5_skip 6 = .ok (.lconst 0, 1) := by decide +kernel
theorem dX5_skip_7 : decode cX5_skip 7 = .ok (.lcmp, 1) := by decide +kernel
theorem dX5_skip_8 : decode cX5_skip 8 = .ok (.ifCond .eq 7, 3) := by decide +kernel
theorem dX5_skip_15 : decode cX5_skip 15 = .ok (.iconst 0, 1) := by decide +kernel
theorem dX5_skip_16 : decode cX5_skip 16 = .ok (.iload_n 1, 1) := by decide +kernel
theorem dX5_skip_17 : decode cX5_skip 17 = .ok (.if_icmp .ne 13, 3) := by decide +kernel
theorem dX5_skip_30 : decode cX5_skip 30 = .ok (.return_, 1) := by decide +kernel
theorem dX5_skip_20 : decode cX5_skip 20 = .ok (.aload_n 0, 1) := by decide +kernel
theorem dX5_skip_21 : decode cX5_skip 21 = .ok (.lload_n 3, 1) := by decide +kernel
theorem dX5_skip_22 : decode cX5_skip 22 = .ok (.invokevirtual 172, 3) := by decide +kernel
theorem dX5_skip_25 : decode cX5_skip 25 = .ok (.aload_n 0, 1) := by decide +kernel
theorem dX5_skip_26 : decode cX5_skip 26 = .ok (.iload_n 2, 1) := by decide +kernel
theorem dX5_skip_27 : decode cX5_skip 27 = .ok (.putfield 132, 3) := by decide +kernel
theorem dX5_skip_11 : decode cX5_skip 11 = .ok (.iconst 1, 1) := by decide +kernel
theorem dX5_skip_12 : decode cX5_skip 12 = .ok (.goto 4, 3) := by decide +kernel
theorem hV_X5_pop : yX5_pop.cls = RX5 ∧ yX5_pop.cls ≠ "java/lang/invoke/MethodHandle" ∧ yX5_pop.cls ≠ "java/lang/invoke/VarHandle" ∧ (parseMethodDescriptor yX5_pop.desc).map (fun d => d.parameters.length) = some 0 := by decide +kernel
set_option maxHeartbeats 8000000 in
set_option maxRecDepth 100000 in
theorem M_skip (l : Launch) (G : pT) (h0 : Nat) (a : Nat → Nat) (F : Nat → Int32) (R : Nat → Value) (Z : Int64) (B : Nat → Nat → Int32) (J : Nat → Nat → Int64) (T : Nat → Nat) (Pi : Nat → va_E → Prop) (w : va_W) (b9 : Nat) (x : Int32) (tp : Nat) (htp : tp ≤ 32000) (hb9 : b9 ≤ 1) (hO : OKW G h0 a (upd F 19 (nI tp)) R Z B J T Pi w) : PM l G pX0 yX5_skip cX5_skip 5 none ({ frames := 4, cells := 0, slots := 0, locals := 102 }) [.ref (a 5), .int (nI b9), .int x] w (fun (v : Option Value) (u : va_W × (Nat × Int32 × Int32 × Int32 × (Nat → Nat → Int64))) => v = none ∧ (u.2.1 ≤ 32000) ∧ (OKW G h0 a (upd (upd (upd (upd F 19 (nI u.2.1)) 21 u.2.2.2.2.1) 23 u.2.2.1) 25 u.2.2.2.1) R Z B u.2.2.2.2.2 T Pi u.1)) (fun u => u.1) := by
  intro sz
  refine Met.ofW (cc := cX5_skip) (maxL := 5) (ret := none) (by decide) rfl ?_
  intro p e s m args below meth c s₁ B9 hml hv
  obtain ⟨rfl, hsz, hP, hD0, hE, hX⟩ := hv
  have hx := B9.exec
  have hb := B9.bytes
  have hr := B9.returns
  have hts := atoms_spec (ws := Cond.code yX5_skip cX5_skip 5 none :: pw) B9.pre
  have hq : ∀ w ∈ pw, w.before _ s = true := fun w h => hts w (List.mem_cons_of_mem _ h)
  have hown : s.vm.findClass RX5 = some m.cls := findClass_of_methodNamed B9.named
  have hlocks := B9.notSynchronized
  subst hsz
  have hD := hD0.self (sz := s.heap.size)
  have hA : ∀ q : Nat, s.heap.size ≤ q → va_A w s.heap.size q := fun q h => Or.inr h
  generalize va_A w s.heap.size = A at hD hE hA ⊢
  have hS : va_S A s.heap s.heap [] := va_S.rf
  have hl := lv_entry ([.ref (a 5), .int (nI b9), .int x]) (n := 5) (Nat.le_of_ble_eq_true rfl)
  rw [lg_entry_eq]
  generalize (lg_sl ([.ref (a 5), .int (nI b9), .int x]) ++ List.replicate (5 - (lg_sl ([.ref (a 5), .int (nI b9), .int x])).length) Slot.unset).toArray = ls at hl ⊢
  have hl : lv_has ls 5 [(0, .ref (a 5)), (1, .int (nI b9)), (2, .int x)] := hl
  refine lv_aload_n hx hb dX5_skip_0 rfl (lv_at hl 0 rfl) ?_
  have hO : OKW G h0 a (upd (upd F 19 (nI tp)) 19 (nI tp)) R Z B J T Pi w := hO.to rfl
  obtain ⟨_, qr4, hqr5⟩ := hO.2.1 28 _ (sg_28 G h0 a _ _ _ _ _)
  refine pc_V0 (G := G) (As := []) (rest := []) hx hb hml hown hq hE hX pX0_al hP hD hS hA hl.1 (M_pop l G h0 a (upd F 19 (nI tp)) R Z B J T Pi w tp (by omega) hO) (gV pw_598 pw_599 pw_600 pw_539 pw_595) hV_X5_pop qr4 4 hqr5 rfl rfl rfl (Nat.le_of_ble_eq_true rfl) dX5_skip_1 ⟨Nat.le_of_ble_eq_true rfl, Nat.le_of_ble_eq_true rfl⟩ ⟨Nat.le_of_ble_eq_true rfl, Nat.le_of_ble_eq_true rfl⟩ (fun v3 u1 H locs hw2 hP hD hS => ?_)
  obtain ⟨w, r6, tp7, en8, rf9, J10⟩ := u1
  obtain ⟨hw2, h11, hO⟩ := hw2
  have h11 : tp7 ≤ 32000 := h11
  obtain rfl : v3 = some (.long r6) := hw2
  have hO : OKW G h0 a (upd (upd (upd F 19 (nI tp7)) 23 en8) 25 rf9) R Z B J10 T Pi w := hO.to rfl
  refine W.widen (k := 0) (n := 0) (Nat.le_of_ble_eq_true rfl) (Nat.le_of_ble_eq_true rfl) ?_
  refine W.eq (g2 := F0 m 4 ls [.long r6]) rfl ?_
  refine lv_lstore_n (lv' := [(3, .long r6), (0, .ref (a 5)), (1, .int (nI b9)), (2, .int x)]) hx hb dX5_skip_4 rfl hl (by decide) rfl (fun ls hl => ?_)
  refine lv_lload_n hx hb dX5_skip_5 rfl (lv_at hl 0 rfl) ?_
  refine lv_lconst (v := 0) hx hb dX5_skip_6 (by decide) ?_
  refine W.lcmp hx hb dX5_skip_7 ?_
  refine lv_topi (fun x12 e13 => ?_)
  refine lv_if_eq (tgt := 15) hx hb dX5_skip_8 (by decide) (fun c14 => ?_) (fun c14 => ?_)
  · refine lv_iconst (v := 0) hx hb dX5_skip_15 (by decide) ?_
    refine lv_iload_n hx hb dX5_skip_16 rfl (lv_at hl 2 rfl) ?_
    refine lv_icmp_ne (tgt := 30) hx hb dX5_skip_17 (by decide) (fun c15 => ?_) (fun c15 => ?_)
    · have n16 : ¬ (0 = b9) := fun h9 => c15 ((nI_eq (a := 0) (b := b9) (by omega) (by omega)).mpr h9)
      have hz17 : tp7 ≤ 32000 := (by omega)
      have hO : OKW G h0 a (upd (upd (upd (upd F 19 (nI tp7)) 21 (F 21)) 23 en8) 25 rf9) R Z B J10 T Pi w := hO.to rfl
      exact W.vret hx hb hr (fun t99 ht99 hW99 => ⟨⟨_, (w, (tp7, en8, rf9, (F 21), J10)), rfl, ⟨rfl, hz17, hO⟩, by rw [ht99]; exact hP, hD⟩, hS.F ht99⟩) hS.2.2 dX5_skip_30
    · have n18 : 0 = b9 := (nI_eq (a := 0) (b := b9) (by omega) (by omega)).mp c15
      refine lv_aload_n hx hb dX5_skip_20 rfl (lv_at hl 1 rfl) ?_
      refine lv_lload_n hx hb dX5_skip_21 rfl (lv_at hl 0 rfl) ?_
      have hO : OKW G h0 a (upd (upd (upd (upd F 19 (nI tp7)) 23 en8) 25 rf9) 19 (nI tp7)) R Z B J10 T Pi w := hO.to rfl
      obtain ⟨_, qr22, hqr23⟩ := hO.2.1 28 _ (sg_28 G h0 a _ _ _ _ _)
      refine pc_V0 (G := G) (As := [.long r6]) (rest := []) hx hb hml hown hq hE hX pX0_al hP hD hS hA hl.1 (M_push l G h0 a (upd (upd (upd F 19 (nI tp7)) 23 en8) 25 rf9) R Z B J10 T Pi w r6 tp7 (by omega) hO) (gV pw_549 pw_550 pw_551 pw_539 pw_535) hV_X5_push qr22 4 hqr23 rfl rfl rfl (Nat.le_of_ble_eq_true rfl) dX5_skip_22 ⟨Nat.le_of_ble_eq_true rfl, Nat.le_of_ble_eq_true rfl⟩ ⟨Nat.le_of_ble_eq_true rfl, Nat.le_of_ble_eq_true rfl⟩ (fun v21 u19 H locs hw20 hP hD hS => ?_)
      obtain ⟨w, tp24, en25, rf26, J27⟩ := u19
      obtain ⟨hw20, h28, hO⟩ := hw20
      have h28 : tp24 ≤ 32000 := h28
      obtain rfl : v21 = none := hw20
      have hO : OKW G h0 a (upd (upd (upd F 19 (nI tp24)) 23 en25) 25 rf26) R Z B J27 T Pi w := hO.to rfl
      refine W.widen (k := 0) (n := 0) (Nat.le_of_ble_eq_true rfl) (Nat.le_of_ble_eq_true rfl) ?_
      refine W.eq (g2 := F0 m 25 ls []) rfl ?_
      refine lv_aload_n hx hb dX5_skip_25 rfl (lv_at hl 1 rfl) ?_
      refine lv_iload_n hx hb dX5_skip_26 rfl (lv_at hl 3 rfl) ?_
      refine c_put (v := .int x) (ty := .int) (C := RX5) (Tc := TX5) (N := 19) (ci := 4) hx hb hq pin_wsX50 tyX5 tyX5_ok nmX5 hown hE hP hD hS hO 28 (sg_28 G h0 a _ _ _ _ _) rfl 13 (by decide) (hq _ pw_566) (fun _ h9 => h9) rfl (by decide +kernel) rfl rfl (Nat.le_of_ble_eq_true rfl) (sf_21 G h0 a _ _ _ _ _ x) dX5_skip_27 (fun H locs w hP hD hS hO => ?_)
      have hz29 : tp24 ≤ 32000 := (by omega)
      have hO : OKW G h0 a (upd (upd (upd (upd F 19 (nI tp24)) 21 x) 23 en25) 25 rf26) R Z B J27 T Pi w := hO.to rfl
      exact W.vret hx hb hr (fun t99 ht99 hW99 => ⟨⟨_, (w, (tp24, en25, rf26, x, J27)), rfl, ⟨rfl, hz29, hO⟩, by rw [ht99]; exact hP, hD⟩, hS.F ht99⟩) hS.2.2 dX5_skip_30
  · refine lv_iconst (v := 1) hx hb dX5_skip_11 (by decide) ?_
    refine lv_goto (tgt := 16) hx hb dX5_skip_12 (by decide) ?_
    refine lv_iload_n hx hb dX5_skip_16 rfl (lv_at hl 2 rfl) ?_
    refine lv_icmp_ne (tgt := 30) hx hb dX5_skip_17 (by decide) (fun c30 => ?_) (fun c30 => ?_)
    · have n31 : ¬ (1 = b9) := fun h9 => c30 ((nI_eq (a := 1) (b := b9) (by omega) (by omega)).mpr h9)
      have hz32 : tp7 ≤ 32000 := (by omega)
      have hO : OKW G h0 a (upd (upd (upd (upd F 19 (nI tp7)) 21 (F 21)) 23 en8) 25 rf9) R Z B J10 T Pi w := hO.to rfl
      exact W.vret hx hb hr (fun t99 ht99 hW99 => ⟨⟨_, (w, (tp7, en8, rf9, (F 21), J10)), rfl, ⟨rfl, hz32, hO⟩, by rw [ht99]; exact hP, hD⟩, hS.F ht99⟩) hS.2.2 dX5_skip_30
    · have n33 : 1 = b9 := (nI_eq (a := 1) (b := b9) (by omega) (by omega)).mp c30
      refine lv_aload_n hx hb dX5_skip_20 rfl (lv_at hl 1 rfl) ?_
      refine lv_lload_n hx hb dX5_skip_21 rfl (lv_at hl 0 rfl) ?_
      have hO : OKW G h0 a (upd (upd (upd (upd F 19 (nI tp7)) 23 en8) 25 rf9) 19 (nI tp7)) R Z B J10 T Pi w := hO.to rfl
      obtain ⟨_, qr37, hqr38⟩ := hO.2.1 28 _ (sg_28 G h0 a _ _ _ _ _)
      refine pc_V0 (G := G) (As := [.long r6]) (rest := []) hx hb hml hown hq hE hX pX0_al hP hD hS hA hl.1 (M_push l G h0 a (upd (upd (upd F 19 (nI tp7)) 23 en8) 25 rf9) R Z B J10 T Pi w r6 tp7 (by omega) hO) (gV pw_549 pw_550 pw_551 pw_539 pw_535) hV_X5_push qr37 4 hqr38 rfl rfl rfl (Nat.le_of_ble_eq_true rfl) dX5_skip_22 ⟨Nat.le_of_ble_eq_true rfl, Nat.le_of_ble_eq_true rfl⟩ ⟨Nat.le_of_ble_eq_true rfl, Nat.le_of_ble_eq_true rfl⟩ (fun v36 u34 H locs hw35 hP hD hS => ?_)
      obtain ⟨w, tp39, en40, rf41, J42⟩ := u34
      obtain ⟨hw35, h43, hO⟩ := hw35
      have h43 : tp39 ≤ 32000 := h43
      obtain rfl : v36 = none := hw35
      have hO : OKW G h0 a (upd (upd (upd F 19 (nI tp39)) 23 en40) 25 rf41) R Z B J42 T Pi w := hO.to rfl
      refine W.widen (k := 0) (n := 0) (Nat.le_of_ble_eq_true rfl) (Nat.le_of_ble_eq_true rfl) ?_
      refine W.eq (g2 := F0 m 25 ls []) rfl ?_
      refine lv_aload_n hx hb dX5_skip_25 rfl (lv_at hl 1 rfl) ?_
      refine lv_iload_n hx hb dX5_skip_26 rfl (lv_at hl 3 rfl) ?_
      refine c_put (v := .int x) (ty := .int) (C := RX5) (Tc := TX5) (N := 19) (ci := 4) hx hb hq pin_wsX50 tyX5 tyX5_ok nmX5 hown hE hP hD hS hO 28 (sg_28 G h0 a _ _ _ _ _) rfl 13 (by decide) (hq _ pw_566) (fun _ h9 => h9) rfl (by decide +kernel) rfl rfl (Nat.le_of_ble_eq_true rfl) (sf_21 G h0 a _ _ _ _ _ x) dX5_skip_27 (fun H locs w hP hD hS hO => ?_)
      have hz44 : tp39 ≤ 32000 := (by omega)
      have hO : OKW G h0 a (upd (upd (upd (upd F 19 (nI tp39)) 21 x) 23 en40) 25 rf41) R Z B J42 T Pi w := hO.to rfl
      exact W.vret hx hb hr (fun t99 ht99 hW99 => ⟨⟨_, (w, (tp39, en40, rf41, x, J42)), rfl, ⟨rfl, hz44, hO⟩, by rw [ht99]; exact hP, hD⟩, hS.F ht99⟩) hS.2.2 dX5_skip_30
theorem dX5_prefix_0 : decode cX5_prefix 0 = .ok (.iload_n 1, 1) := by decide +kernel
theorem dX5_prefix_1 : decode cX5_prefix 1 = .ok (.lookupswitch 46 #[(45, 27), (52, 36)], 27) := by decide +kernel
theorem dX5_prefix_28 : decode cX5_prefix 28 = .ok (.aload_n 0, 1) := by decide +kernel
theorem dX5_prefix_29 : decode cX5_prefix 29 = .ok (.iload_n 2, 1) := by decide +kernel
theorem dX5_prefix_30 : decode cX5_prefix 30 = .ok (.ineg, 1) := by decide +kernel
theorem dX5_prefix_31 : decode cX5_prefix 31 = .ok (.invokevirtual 237, 3) := by decide +kernel
theorem dX5_prefix_34 : decode cX5_prefix 34 = .ok (.goto 20, 3) := by decide +kernel
theorem dX5_prefix_54 : decode cX5_prefix 54 = .ok (.return_, 1) := by decide +kernel
theorem dX5_prefix_37 : decode cX5_prefix 37 = .ok (.aload_n 0, 1) := by decide +kernel
theorem dX5_prefix_38 : decode cX5_prefix 38 = .ok (.iload_n 2, 1) := by decide +kernel
theorem dX5_prefix_39 : decode cX5_prefix 39 = .ok (.iconst (-1), 1) := by decide +kernel
theorem dX5_prefix_40 : decode cX5_prefix 40 = .ok (.ixor, 1) := by decide +kernel
theorem dX5_prefix_41 : decode cX5_prefix 41 = .ok (.invokevirtual 237, 3) := by decide +kernel
theorem dX5_prefix_44 : decode cX5_prefix 44 = .ok (.goto 10, 3) := by decide +kernel
theorem dX5_prefix_47 : decode cX5_prefix 47 = .ok (.aload_n 0, 1) := by decide +kernel
theorem dX5_prefix_48 : decode cX5_prefix 48 = .ok (.iload_n 2, 1) := by decide +kernel
theorem dX5_prefix_49 : decode cX5_prefix 49 = .ok (.iconst 1, 1) := by decide +kernel
theorem dX5_prefix_50 : decode cX5_prefix 50 = .ok (.ixor, 1) := by decide +kernel
theorem dX5_prefix_51 : decode cX5_prefix 51 = .ok (.invokevirtual 237, 3) := by decide +kernel
set_option maxHeartbeats 8000000 in
set_option maxRecDepth 100000 in
theorem M_prefix (l : Launch) (G : pT) (h0 : Nat) (a : Nat → Nat) (F : Nat → Int32) (R : Nat → Value) (Z : Int64) (B : Nat → Nat → Int32) (J : Nat → Nat → Int64) (T : Nat → Nat) (Pi : Nat → va_E → Prop) (w : va_W) (x : Int32) (y : Int32) (tp : Nat) (htp : tp ≤ 32000) (hO : OKW G h0 a (upd F 19 (nI tp)) R Z B J T Pi w) : PM l G pX0 yX5_prefix cX5_prefix 3 none ({ frames := 5, cells := 0, slots := 0, locals := 123 }) [.ref (a 5), .int x, .int y] w (fun (v : Option Value) (u : va_W × (Nat × Int32 × Int32 × (Nat → Nat → Int64))) => v = none ∧ (u.2.1 ≤ 32000) ∧ (OKW G h0 a (upd (upd (upd F 19 (nI u.2.1)) 23 u.2.2.1) 25 u.2.2.2.1) R Z B u.2.2.2.2 T Pi u.1)) (fun u => u.1) := by
  intro sz
  refine Met.ofW (cc := cX5_prefix) (maxL := 3) (ret := none) (by decide) rfl ?_
  intro p e s m args below meth c s₁ B9 hml hv
  obtain ⟨rfl, hsz, hP, hD0, hE, hX⟩ := hv
  have hx := B9.exec
  have hb := B9.bytes
  have hr := B9.returns
  have hts := atoms_spec (ws := Cond.code yX5_prefix cX5_prefix 3 none :: pw) B9.pre
  have hq : ∀ w ∈ pw, w.before _ s = true := fun w h => hts w (List.mem_cons_of_mem _ h)
  have hown : s.vm.findClass RX5 = some m.cls := findClass_of_methodNamed B9.named
  have hlocks := B9.notSynchronized
  subst hsz
  have hD := hD0.self (sz := s.heap.size)
  have hA : ∀ q : Nat, s.heap.size ≤ q → va_A w s.heap.size q := fun q h => Or.inr h
  generalize va_A w s.heap.size = A at hD hE hA ⊢
  have hS : va_S A s.heap s.heap [] := va_S.rf
  have hl := lv_entry ([.ref (a 5), .int x, .int y]) (n := 3) (Nat.le_of_ble_eq_true rfl)
  rw [lg_entry_eq]
  generalize (lg_sl ([.ref (a 5), .int x, .int y]) ++ List.replicate (3 - (lg_sl ([.ref (a 5), .int x, .int y])).length) Slot.unset).toArray = ls at hl ⊢
  have hl : lv_has ls 3 [(0, .ref (a 5)), (1, .int x), (2, .int y)] := hl
  refine lv_iload_n hx hb dX5_prefix_0 rfl (lv_at hl 1 rfl) ?_
  by_cases h1 : x = 45
  · refine lv_lookup (tgt := 28) (off := 27) hx hb dX5_prefix_1 (by decide) (by rw [h1]; decide) (by decide) ?_
    refine lv_aload_n hx hb dX5_prefix_28 rfl (lv_at hl 0 rfl) ?_
    refine lv_iload_n hx hb dX5_prefix_29 rfl (lv_at hl 2 rfl) ?_
    refine lv_ineg hx hb dX5_prefix_30 ?_
    refine lv_topi (fun x2 e3 => ?_)
    have hO : OKW G h0 a (upd (upd F 19 (nI tp)) 19 (nI tp)) R Z B J T Pi w := hO.to rfl
    obtain ⟨_, qr7, hqr8⟩ := hO.2.1 28 _ (sg_28 G h0 a _ _ _ _ _)
    refine pc_V0 (G := G) (As := [.int x2]) (rest := []) hx hb hml hown hq hE hX pX0_al hP hD hS hA hl.1 (M_pushNumber l G h0 a (upd F 19 (nI tp)) R Z B J T Pi w x2 tp (by omega) hO) (gV pw_605 pw_606 pw_607 pw_539 pw_602) hV_X5_pushNumber qr7 4 hqr8 rfl rfl rfl (Nat.le_of_ble_eq_true rfl) dX5_prefix_31 ⟨Nat.le_of_ble_eq_true rfl, Nat.le_of_ble_eq_true rfl⟩ ⟨Nat.le_of_ble_eq_true rfl, Nat.le_of_ble_eq_true rfl⟩ (fun v6 u4 H locs hw5 hP hD hS => ?_)
    obtain ⟨w, tp9, en10, rf11, J12⟩ := u4
    obtain ⟨hw5, h13, hO⟩ := hw5
    have h13 : tp9 ≤ 32000 := h13
    obtain rfl : v6 = none := hw5
    have hO : OKW G h0 a (upd (upd (upd F 19 (nI tp9)) 23 en10) 25 rf11) R Z B J12 T Pi w := hO.to rfl
    refine W.widen (k := 0) (n := 0) (Nat.le_of_ble_eq_true rfl) (Nat.le_of_ble_eq_true rfl) ?_
    refine W.eq (g2 := F0 m 34 ls []) rfl ?_
    refine lv_goto (tgt := 54) hx hb dX5_prefix_34 (by decide) ?_
    have hz14 : tp9 ≤ 32000 := (by omega)
    have hO : OKW G h0 a (upd (upd (upd F 19 (nI tp9)) 23 en10) 25 rf11) R Z B J12 T Pi w := hO.to rfl
    exact W.vret hx hb hr (fun t99 ht99 hW99 => ⟨⟨_, (w, (tp9, en10, rf11, J12)), rfl, ⟨rfl, hz14, hO⟩, by rw [ht99]; exact hP, hD⟩, hS.F ht99⟩) hS.2.2 dX5_prefix_54
  by_cases h15 : x = 52
  · refine lv_lookup (tgt := 37) (off := 36) hx hb dX5_prefix_1 (by decide) (by rw [h15]; decide) (by decide) ?_
    refine lv_aload_n hx hb dX5_prefix_37 rfl (lv_at hl 0 rfl) ?_
    refine lv_iload_n hx hb dX5_prefix_38 rfl (lv_at hl 2 rfl) ?_
    refine lv_iconst (v := (-1)) hx hb dX5_prefix_39 (by decide) ?_
    refine lv_ixor hx hb dX5_prefix_40 ?_
    refine lv_topi (fun x16 e17 => ?_)
    have hO : OKW G h0 a (upd (upd F 19 (nI tp)) 19 (nI tp)) R Z B J T Pi w := hO.to rfl
    obtain ⟨_, qr21, hqr22⟩ := hO.2.1 28 _ (sg_28 G h0 a _ _ _ _ _)
    refine pc_V0 (G := G) (As := [.int x16]) (rest := []) hx hb hml hown hq hE hX pX0_al hP hD hS hA hl.1 (M_pushNumber l G h0 a (upd F 19 (nI tp)) R Z B J T Pi w x16 tp (by omega) hO) (gV pw_605 pw_606 pw_607 pw_539 pw_602) hV_X5_pushNumber qr21 4 hqr22 rfl rfl rfl (Nat.le_of_ble_eq_true rfl) dX5_prefix_41 ⟨Nat.le_of_ble_eq_true rfl, Nat.le_of_ble_eq_true rfl⟩ ⟨Nat.le_of_ble_eq_true rfl, Nat.le_of_ble_eq_true rfl⟩ (fun v20 u18 H locs hw19 hP hD hS => ?_)
    obtain ⟨w, tp23, en24, rf25, J26⟩ := u18
    obtain ⟨hw19, h27, hO⟩ := hw19
    have h27 : tp23 ≤ 32000 := h27
    obtain rfl : v20 = none := hw19
    have hO : OKW G h0 a (upd (upd (upd F 19 (nI tp23)) 23 en24) 25 rf25) R Z B J26 T Pi w := hO.to rfl
    refine W.widen (k := 0) (n := 0) (Nat.le_of_ble_eq_true rfl) (Nat.le_of_ble_eq_true rfl) ?_
    refine W.eq (g2 := F0 m 44 ls []) rfl ?_
    refine lv_goto (tgt := 54) hx hb dX5_prefix_44 (by decide) ?_
    have hz28 : tp23 ≤ 32000 := (by omega)
    have hO : OKW G h0 a (upd (upd (upd F 19 (nI tp23)) 23 en24) 25 rf25) R Z B J26 T Pi w := hO.to rfl
    exact W.vret hx hb hr (fun t99 ht99 hW99 => ⟨⟨_, (w, (tp23, en24, rf25, J26)), rfl, ⟨rfl, hz28, hO⟩, by rw [ht99]; exact hP, hD⟩, hS.F ht99⟩) hS.2.2 dX5_prefix_54
  refine lv_lookup (tgt := 47) (off := 46) hx hb dX5_prefix_1 (by decide) ((lv_osw h1 (by decide)).trans ((lv_osw h15 (by decide)).trans rfl)) (by decide) ?_
  refine lv_aload_n hx hb dX5_prefix_47 rfl (lv_at hl 0 rfl) ?_
  refine lv_iload_n hx hb dX5_prefix_48 rfl (lv_at hl 2 rfl) ?_
  refine lv_iconst (v := 1) hx hb dX5_prefix_49 (by decide) ?_
  refine lv_ixor hx hb dX5_prefix_50 ?_
  refine lv_topi (fun x29 e30 => ?_)
  have hO : OKW G h0 a (upd (upd F 19 (nI tp)) 19 (nI tp)) R Z B J T Pi w := hO.to rfl
  obtain ⟨_, qr34, hqr35⟩ := hO.2.1 28 _ (sg_28 G h0 a _ _ _ _ _)
  refine pc_V0 (G := G) (As := [.int x29]) (rest := []) hx hb hml hown hq hE hX pX0_al hP hD hS hA hl.1 (M_pushNumber l G h0 a (upd F 19 (nI tp)) R Z B J T Pi w x29 tp (by omega) hO) (gV pw_605 pw_606 pw_607 pw_539 pw_602) hV_X5_pushNumber qr34 4 hqr35 rfl rfl rfl (Nat.le_of_ble_eq_true rfl) dX5_prefix_51 ⟨Nat.le_of_ble_eq_true rfl, Nat.le_of_ble_eq_true rfl⟩ ⟨Nat.le_of_ble_eq_true rfl, Nat.le_of_ble_eq_true rfl⟩ (fun v33 u31 H locs hw32 hP hD hS => ?_)
  obtain ⟨w, tp36, en37, rf38, J39⟩ := u31
  obtain ⟨hw32, h40, hO⟩ := hw32
  have h40 : tp36 ≤ 32000 := h40
  obtain rfl : v33 = none := hw32
  have hO : OKW G h0 a (upd (upd (upd F 19 (nI tp36)) 23 en37) 25 rf38) R Z B J39 T Pi w := hO.to rfl
  refine W.widen (k := 0) (n := 0) (Nat.le_of_ble_eq_true rfl) (Nat.le_of_ble_eq_true rfl) ?_
  refine W.eq (g2 := F0 m 54 ls []) rfl ?_
  have hz41 : tp36 ≤ 32000 := (by omega)
  have hO : OKW G h0 a (upd (upd (upd F 19 (nI tp36)) 23 en37) 25 rf38) R Z B J39 T Pi w := hO.to rfl
  exact W.vret hx hb hr (fun t99 ht99 hW99 => ⟨⟨_, (w, (tp36, en37, rf38, J39)), rfl, ⟨rfl, hz41, hO⟩, by rw [ht99]; exact hP, hD⟩, hS.F ht99⟩) hS.2.2 dX5_prefix_54
theorem dX5_divide_0 : decode cX5_divide 0 = .ok (.iload_n 3, 1) := by decide +kernel
theorem dX5_divide_1 : decode cX5_divide 1 = .ok (.ifCond .ne 11, 3) := by decide +kernel
theorem dX5_divide_12 : decode cX5_divide 12 = .ok (.aload_n 0, 1) := by decide +kernel
theorem dX5_divide_13 : decode cX5_divide 13 = .ok (.iload_n 1, 1) := by decide +kernel
theorem dX5_divide_14 : decode cX5_divide 14 = .ok (.ifCond .eq 9, 3) := by decide +kernel
theorem dX5_divide_23 : decode cX5_divide 23 = .ok (.iload_n 2, 1) := by decide +kernel
theorem dX5_divide_24 : decode cX5_divide 24 = .ok (.iload_n 3, 1) := by decide +kernel
theorem dX5_divide_25 : decode cX5_divide 25 = .ok (.irem, 1) := by decide +kernel
theorem dX5_divide_26 : decode cX5_divide 26 = .ok (.invokevirtual 237, 3) := by decide +kernel
theorem dX5_divide_29 : decode cX5_divide 29 = .ok (.return_, 1) := by decide +kernel
theorem dX5_divide_17 : decode cX5_divide 17 = .ok (.iload_n 2, 1) := by decide +kernel
theorem dX5_divide_18 : decode cX5_divide 18 = .ok (.iload_n 3, 1) := by decide +kernel
theorem dX5_divide_19 : decode cX5_divide 19 = .ok (.idiv, 1) := by decide +kernel
theorem dX5_divide_20 : decode cX5_divide 20 = .ok (.goto 6, 3) := by decide +kernel
theorem dX5_divide_4 : decode cX5_divide 4 = .ok (.aload_n 0, 1) := by decide +kernel
theorem dX5_divide_5 : decode cX5_divide 5 = .ok (.iconst 3, 1) := by decide +kernel
theorem dX5_divide_6 : decode cX5_divide 6 = .ok (.invokevirtual 252, 3) := by decide +kernel
theorem dX5_divide_9 : decode cX5_divide 9 = .ok (.goto 20, 3) := by decide +kernel
theorem hV_X5_raise : yX5_raise.cls = RX5 ∧ yX5_raise.cls ≠ "java/lang/invoke/MethodHandle" ∧ yX5_raise.cls ≠ "java/lang/invoke/VarHandle" ∧ (parseMethodDescriptor yX5_raise.desc).map (fun d => d.parameters.length) = some 1 := by decide +kernel
set_option maxHeartbeats 8000000 in
set_option maxRecDepth 100000 in
theorem M_divide (l : Launch) (G : pT) (h0 : Nat) (a : Nat → Nat) (F : Nat → Int32) (R : Nat → Value) (Z : Int64) (B : Nat → Nat → Int32) (J : Nat → Nat → Int64) (T : Nat → Nat) (Pi : Nat → va_E → Prop) (w : va_W) (b9 : Nat) (x : Int32) (y : Int32) (tp : Nat) (htp : tp ≤ 32000) (hb9 : b9 ≤ 1) (hO : OKW G h0 a (upd F 19 (nI tp)) R Z B J T Pi w) : PM l G pX0 yX5_divide cX5_divide 4 none ({ frames := 5, cells := 0, slots := 0, locals := 123 }) [.ref (a 5), .int (nI b9), .int x, .int y] w (fun (v : Option Value) (u : va_W × (Nat × Int32 × Int32 × (Nat → Nat → Int64) × Int64)) => v = none ∧ (u.2.1 ≤ 32000) ∧ (OKW G h0 a (upd (upd (upd F 19 (nI u.2.1)) 23 u.2.2.1) 25 u.2.2.2.1) R u.2.2.2.2.2 B u.2.2.2.2.1 T Pi u.1)) (fun u => u.1) := by
  intro sz
  refine Met.ofW (cc := cX5_divide) (maxL := 4) (ret := none) (by decide) rfl ?_
  intro p e s m args below meth c s₁ B9 hml hv
  obtain ⟨rfl, hsz, hP, hD0, hE, hX⟩ := hv
  have hx := B9.exec
  have hb := B9.bytes
  have hr := B9.returns
  have hts := atoms_spec (ws := Cond.code yX5_divide cX5_divide 4 none :: pw) B9.pre
  have hq : ∀ w ∈ pw, w.before _ s = true := fun w h => hts w (List.mem_cons_of_mem _ h)
  have hown : s.vm.findClass RX5 = some m.cls := findClass_of_methodNamed B9.named
  have hlocks := B9.notSynchronized
  subst hsz
  have hD := hD0.self (sz := s.heap.size)
  have hA : ∀ q : Nat, s.heap.size ≤ q → va_A w s.heap.size q := fun q h => Or.inr h
  generalize va_A w s.heap.size = A at hD hE hA ⊢
  have hS : va_S A s.heap s.heap [] := va_S.rf
  have hl := lv_entry ([.ref (a 5), .int (nI b9), .int x, .int y]) (n := 4) (Nat.le_of_ble_eq_true rfl)
  rw [lg_entry_eq]
  generalize (lg_sl ([.ref (a 5), .int (nI b9), .int x, .int y]) ++ List.replicate (4 - (lg_sl ([.ref (a 5), .int (nI b9), .int x, .int y])).length) Slot.unset).toArray = ls at hl ⊢
  have hl : lv_has ls 4 [(0, .ref (a 5)), (1, .int (nI b9)), (2, .int x), (3, .int y)] := hl
  refine lv_iload_n hx hb dX5_divide_0 rfl (lv_at hl 3 rfl) ?_
  refine lv_if_ne (tgt := 12) hx hb dX5_divide_1 (by decide) (fun c1 => ?_) (fun c1 => ?_)
  · refine lv_aload_n hx hb dX5_divide_12 rfl (lv_at hl 0 rfl) ?_
    refine lv_iload_n hx hb dX5_divide_13 rfl (lv_at hl 1 rfl) ?_
    refine lv_if_eq (tgt := 23) hx hb dX5_divide_14 (by decide) (fun c2 => ?_) (fun c2 => ?_)
    · have n3 : b9 = 0 := (nI_eq (a := b9) (b := 0) (by omega) (by omega)).mp c2
      refine lv_iload_n hx hb dX5_divide_23 rfl (lv_at hl 2 rfl) ?_
      refine lv_iload_n hx hb dX5_divide_24 rfl (lv_at hl 3 rfl) ?_
      refine lv_irem hx hb dX5_divide_25 c1 ?_
      refine lv_topi (fun x4 e5 => ?_)
      have hO : OKW G h0 a (upd (upd F 19 (nI tp)) 19 (nI tp)) R Z B J T Pi w := hO.to rfl
      obtain ⟨_, qr9, hqr10⟩ := hO.2.1 28 _ (sg_28 G h0 a _ _ _ _ _)
      refine pc_V0 (G := G) (As := [.int x4]) (rest := []) hx hb hml hown hq hE hX pX0_al hP hD hS hA hl.1 (M_pushNumber l G h0 a (upd F 19 (nI tp)) R Z B J T Pi w x4 tp (by omega) hO) (gV pw_605 pw_606 pw_607 pw_539 pw_602) hV_X5_pushNumber qr9 4 hqr10 rfl rfl rfl (Nat.le_of_ble_eq_true rfl) dX5_divide_26 ⟨Nat.le_of_ble_eq_true rfl, Nat.le_of_ble_eq_true rfl⟩ ⟨Nat.le_of_ble_eq_true rfl, Nat.le_of_ble_eq_true rfl⟩ (fun v8 u6 H locs hw7 hP hD hS => ?_)
      obtain ⟨w, tp11, en12, rf13, J14⟩ := u6
      obtain ⟨hw7, h15, hO⟩ := hw7
      have h15 : tp11 ≤ 32000 := h15
      obtain rfl : v8 = none := hw7
      have hO : OKW G h0 a (upd (upd (upd F 19 (nI tp11)) 23 en12) 25 rf13) R Z B J14 T Pi w := hO.to rfl
      refine W.widen (k := 0) (n := 0) (Nat.le_of_ble_eq_true rfl) (Nat.le_of_ble_eq_true rfl) ?_
      refine W.eq (g2 := F0 m 29 ls []) rfl ?_
      have hz16 : tp11 ≤ 32000 := (by omega)
      have hO : OKW G h0 a (upd (upd (upd F 19 (nI tp11)) 23 en12) 25 rf13) R Z B J14 T Pi w := hO.to rfl
      exact W.vret hx hb hr (fun t99 ht99 hW99 => ⟨⟨_, (w, (tp11, en12, rf13, J14, Z)), rfl, ⟨rfl, hz16, hO⟩, by rw [ht99]; exact hP, hD⟩, hS.F ht99⟩) hS.2.2 dX5_divide_29
    · have n17 : ¬ (b9 = 0) := fun h9 => c2 ((nI_eq (a := b9) (b := 0) (by omega) (by omega)).mpr h9)
      refine lv_iload_n hx hb dX5_divide_17 rfl (lv_at hl 2 rfl) ?_
      refine lv_iload_n hx hb dX5_divide_18 rfl (lv_at hl 3 rfl) ?_
      refine lv_idiv hx hb dX5_divide_19 c1 ?_
      refine lv_topi (fun x18 e19 => ?_)
      refine lv_goto (tgt := 26) hx hb dX5_divide_20 (by decide) ?_
      have hO : OKW G h0 a (upd (upd F 19 (nI tp)) 19 (nI tp)) R Z B J T Pi w := hO.to rfl
      obtain ⟨_, qr23, hqr24⟩ := hO.2.1 28 _ (sg_28 G h0 a _ _ _ _ _)
      refine pc_V0 (G := G) (As := [.int x18]) (rest := []) hx hb hml hown hq hE hX pX0_al hP hD hS hA hl.1 (M_pushNumber l G h0 a (upd F 19 (nI tp)) R Z B J T Pi w x18 tp (by omega) hO) (gV pw_605 pw_606 pw_607 pw_539 pw_602) hV_X5_pushNumber qr23 4 hqr24 rfl rfl rfl (Nat.le_of_ble_eq_true rfl) dX5_divide_26 ⟨Nat.le_of_ble_eq_true rfl, Nat.le_of_ble_eq_true rfl⟩ ⟨Nat.le_of_ble_eq_true rfl, Nat.le_of_ble_eq_true rfl⟩ (fun v22 u20 H locs hw21 hP hD hS => ?_)
      obtain ⟨w, tp25, en26, rf27, J28⟩ := u20
      obtain ⟨hw21, h29, hO⟩ := hw21
      have h29 : tp25 ≤ 32000 := h29
      obtain rfl : v22 = none := hw21
      have hO : OKW G h0 a (upd (upd (upd F 19 (nI tp25)) 23 en26) 25 rf27) R Z B J28 T Pi w := hO.to rfl
      refine W.widen (k := 0) (n := 0) (Nat.le_of_ble_eq_true rfl) (Nat.le_of_ble_eq_true rfl) ?_
      refine W.eq (g2 := F0 m 29 ls []) rfl ?_
      have hz30 : tp25 ≤ 32000 := (by omega)
      have hO : OKW G h0 a (upd (upd (upd F 19 (nI tp25)) 23 en26) 25 rf27) R Z B J28 T Pi w := hO.to rfl
      exact W.vret hx hb hr (fun t99 ht99 hW99 => ⟨⟨_, (w, (tp25, en26, rf27, J28, Z)), rfl, ⟨rfl, hz30, hO⟩, by rw [ht99]; exact hP, hD⟩, hS.F ht99⟩) hS.2.2 dX5_divide_29
  · refine lv_aload_n hx hb dX5_divide_4 rfl (lv_at hl 0 rfl) ?_
    refine lv_iconst (v := 3) hx hb dX5_divide_5 (by decide) ?_
    have hO : OKW G h0 a (upd F 19 (nI tp)) R Z B J T Pi w := hO.to rfl
    obtain ⟨_, qr34, hqr35⟩ := hO.2.1 28 _ (sg_28 G h0 a _ _ _ _ _)
    refine pc_V0 (G := G) (As := [.int 3]) (rest := []) hx hb hml hown hq hE hX pX0_al hP hD hS hA hl.1 (M_raise l G h0 a (upd F 19 (nI tp)) R Z B J T Pi w 3 hO) (gV pw_570 pw_571 pw_572 pw_539 pw_561) hV_X5_raise qr34 4 hqr35 rfl rfl rfl (Nat.le_of_ble_eq_true rfl) dX5_divide_6 ⟨Nat.le_of_ble_eq_true rfl, Nat.le_of_ble_eq_true rfl⟩ ⟨Nat.le_of_ble_eq_true rfl, Nat.le_of_ble_eq_true rfl⟩ (fun v33 u31 H locs hw32 hP hD hS => ?_)
    obtain ⟨w, z36⟩ := u31
    obtain ⟨hw32, hO⟩ := hw32
    obtain rfl : v33 = none := hw32
    have hO : OKW G h0 a (upd F 19 (nI tp)) R z36 B J T Pi w := hO.to rfl
    refine W.widen (k := 0) (n := 0) (Nat.le_of_ble_eq_true rfl) (Nat.le_of_ble_eq_true rfl) ?_
    refine W.eq (g2 := F0 m 9 ls []) rfl ?_
    refine lv_goto (tgt := 29) hx hb dX5_divide_9 (by decide) ?_
    have hz37 : tp ≤ 32000 := (by omega)
    have hO : OKW G h0 a (upd (upd (upd F 19 (nI tp)) 23 (F 23)) 25 (F 25)) R z36 B J T Pi w := hO.to rfl
    exact W.vret hx hb hr (fun t99 ht99 hW99 => ⟨⟨_, (w, (tp, (F 23), (F 25), J, z36)), rfl, ⟨rfl, hz37, hO⟩, by rw [ht99]; exact hP, hD⟩, hS.F ht99⟩) hS.2.2 dX5_divide_29
theorem dX5_combined_0 : decode cX5_combined 0 = .ok (.iload_n 1, 1) := by decide +kernel
theorem dX5_combined_1 : decode cX5_combined 1 = .ok (.tableswitch 135 44 64 #[99, 103, 107, 135, 135, 111, 115, 119, 135, 135, 135, 135, 135, 135, 135, 135, 135, 135, 123, 127, 131], 99) := by decide +kernel
theorem dX5_combined_100 : decode cX5_combined 100 = .ok (.iload_n 2, 1) := by decide +kernel
theorem dX5_combined_101 : decode cX5_combined 101 = .ok (.iload_n 3, 1) := by decide +kernel
theorem dX5_combined_102 : decode cX5_combined 102 = .ok (.iadd, 1) := by decide +kernel
theorem dX5_combined_103 : decode cX5_combined 103 = .ok (.ireturn, 1) := by decide +kernel
theorem dX5_combined_104 : decode cX5_combined 104 = .ok (.iload_n 2, 1) := by decide +kernel
theorem dX5_combined_105 : decode cX5_combined 105 = .ok (.iload_n 3, 1) := by decide +kernel
theorem dX5_combined_106 : decode cX5_combined 106 = .ok (.isub, 1) := by decide +kernel
theorem dX5_combined_107 : decode cX5_combined 107 = .ok (.ireturn, 1) := by decide +kernel
theorem dX5_combined_108 : decode cX5_combined 108 = .ok (.iload_n 2, 1) := by decide +kernel
theorem dX5_combined_109 : decode cX5_combined 109 = .ok (.iload_n 3, 1) := by decide +kernel
theorem dX5_combined_110 : decode cX5_combined 110 = .ok (.imul, 1) := by decide +kernel
theorem dX5_combined_111 : decode cX5_combined 111 = .ok (.ireturn, 1) := by decide +kernel
theorem dX5_combined_136 : decode cX5_combined 136 = .ok (.aload_n 0, 1) := by decide +kernel
theorem dX5_combined_137 : decode cX5_combined 137 = .ok (.invokevirtual 160, 3) := by decide +kernel
theorem dX5_combined_140 : decode cX5_combined 140 = .ok (.iconst 0, 1) := by decide +kernel
theorem dX5_combined_141 : decode cX5_combined 141 = .ok (.ireturn, 1) := by decide +kernel
theorem dX5_combined_112 : decode cX5_combined 112 = .ok (.iload_n 2, 1) := by decide +kernel
theorem dX5_combined_113 : decode cX5_combined 113 = .ok (.iload_n 3, 1) := by decide +kernel
theorem dX5_combined_114 : decode cX5_combined 114 = .ok (.iand, 1) := by decide +kernel
theorem dX5_combined_115 : decode cX5_combined 115 = .ok (.ireturn, 1) := by decide +kernel
theorem dX5_combined_116 : decode cX5_combined 116 = .ok (.iload_n 2, 1) := by decide +kernel
theorem dX5_combined_117 : decode cX5_combined 117 = .ok (.iload_n 3, 1) := by decide +kernel
theorem dX5_combined_118 : decode cX5_combined 118 = .ok (.ior, 1) := by decide +kernel
theorem dX5_combined_119 : decode cX5_combined 119 = .ok (.ireturn, 1) := by decide +kernel
theorem dX5_combined_120 : decode cX5_combined 120 = .ok (.iload_n 2, 1) := by decide +kernel
theorem dX5_combined_121 : decode cX5_combined 121 = .ok (.iload_n 3, 1) := by decide +kernel
theorem dX5_combined_122 : decode cX5_combined 122 = .ok (.ixor, 1) := by decide +kernel
theorem dX5_combined_123 : decode cX5_combined 123 = .ok (.ireturn, 1) := by decide +kernel
theorem dX5_combined_124 : decode cX5_combined 124 = .ok (.iload_n 2, 1) := by decide +kernel
theorem dX5_combined_125 : decode cX5_combined 125 = .ok (.iload_n 3, 1) := by decide +kernel
theorem dX5_combined_126 : decode cX5_combined 126 = .ok (.ishl, 1) := by decide +kernel
theorem dX5_combined_127 : decode cX5_combined 127 = .ok (.ireturn, 1) := by decide +kernel
theorem dX5_combined_128 : decode cX5_combined 128 = .ok (.iload_n 2, 1) := by decide +kernel
theorem dX5_combined_129 : decode cX5_combined 129 = .ok (.iload_n 3, 1) := by decide +kernel
theorem dX5_combined_130 : decode cX5_combined 130 = .ok (.ishr, 1) := by decide +kernel
theorem dX5_combined_131 : decode cX5_combined 131 = .ok (.ireturn, 1) := by decide +kernel
theorem dX5_combined_132 : decode cX5_combined 132 = .ok (.iload_n 2, 1) := by decide +kernel
theorem dX5_combined_133 : decode cX5_combined 133 = .ok (.iload_n 3, 1) := by decide +kernel
theorem dX5_combined_134 : decode cX5_combined 134 = .ok (.iushr, 1) := by decide +kernel
theorem dX5_combined_135 : decode cX5_combined 135 = .ok (.ireturn, 1) := by decide +kernel
set_option maxHeartbeats 8000000 in
set_option maxRecDepth 100000 in
theorem M_combined (l : Launch) (G : pT) (h0 : Nat) (a : Nat → Nat) (F : Nat → Int32) (R : Nat → Value) (Z : Int64) (B : Nat → Nat → Int32) (J : Nat → Nat → Int64) (T : Nat → Nat) (Pi : Nat → va_E → Prop) (w : va_W) (x : Int32) (y : Int32) (z : Int32) (hO : OKW G h0 a F R Z B J T Pi w) : PM l G pX0 yX5_combined cX5_combined 4 (some .int) ({ frames := 3, cells := 0, slots := 0, locals := 80 }) [.ref (a 5), .int x, .int y, .int z] w (fun (v : Option Value) (u : va_W × (Int32 × Int32 × Int32)) => v = some (.int u.2.1) ∧ (OKW G h0 a (upd (upd F 23 u.2.2.1) 25 u.2.2.2) R Z B J T Pi u.1)) (fun u => u.1) := by
  intro sz
  refine Met.ofW (cc := cX5_combined) (maxL := 4) (ret := (some .int)) (by decide) rfl ?_
  intro p e s m args below meth c s₁ B9 hml hv
  obtain ⟨rfl, hsz, hP, hD0, hE, hX⟩ := hv
  have hx := B9.exec
  have hb := B9.bytes
  have hr := B9.returns
  have hts := atoms_spec (ws := Cond.code yX5_combined cX5_combined 4 (some .int) :: pw) B9.pre
  have hq : ∀ w ∈ pw, w.before _ s = true := fun w h => hts w (List.mem_cons_of_mem _ h)
  have hown : s.vm.findClass RX5 = some m.cls := findClass_of_methodNamed B9.named
  have hlocks := B9.notSynchronized
  subst hsz
  have hD := hD0.self (sz := s.heap.size)
  have hA : ∀ q : Nat, s.heap.size ≤ q → va_A w s.heap.size q := fun q h => Or.inr h
  generalize va_A w s.heap.size = A at hD hE hA ⊢
  have hS : va_S A s.heap s.heap [] := va_S.rf
  have hl := lv_entry ([.ref (a 5), .int x, .int y, .int z]) (n := 4) (Nat.le_of_ble_eq_true rfl)
  rw [lg_entry_eq]
  generalize (lg_sl ([.ref (a 5), .int x, .int y, .int z]) ++ List.replicate (4 - (lg_sl ([.ref (a 5), .int x, .int y, .int z])).length) Slot.unset).toArray = ls at hl ⊢
  have hl : lv_has ls 4 [(0, .ref (a 5)), (1, .int x), (2, .int y), (3, .int z)] := hl
  refine lv_iload_n hx hb dX5_combined_0 rfl (lv_at hl 1 rfl) ?_
  by_cases h1 : x = 44
  · subst h1
    refine lv_tableIn (tgt := 100) (off := 99) hx hb dX5_combined_1 (by decide) (by decide) (by decide) (by decide) ?_
    refine lv_iload_n hx hb dX5_combined_100 rfl (lv_at hl 2 rfl) ?_
    refine lv_iload_n hx hb dX5_combined_101 rfl (lv_at hl 3 rfl) ?_
    refine lv_iadd hx hb dX5_combined_102 ?_
    refine lv_topi (fun x2 e3 => ?_)
    have hO : OKW G h0 a (upd (upd F 23 (F 23)) 25 (F 25)) R Z B J T Pi w := hO.to rfl
    exact W.iret (v := x2) hx hb hr (fun t99 ht99 hW99 => ⟨⟨_, (w, (x2, (F 23), (F 25))), rfl, ⟨rfl, hO⟩, by rw [ht99]; exact hP, hD⟩, hS.F ht99⟩) hS.2.2 dX5_combined_103
  by_cases h4 : x = 45
  · subst h4
    refine lv_tableIn (tgt := 104) (off := 103) hx hb dX5_combined_1 (by decide) (by decide) (by decide) (by decide) ?_
    refine lv_iload_n hx hb dX5_combined_104 rfl (lv_at hl 2 rfl) ?_
    refine lv_iload_n hx hb dX5_combined_105 rfl (lv_at hl 3 rfl) ?_
    refine lv_isub hx hb dX5_combined_106 ?_
    refine lv_topi (fun x5 e6 => ?_)
    have hO : OKW G h0 a (upd (upd F 23 (F 23)) 25 (F 25)) R Z B J T Pi w := hO.to rfl
    exact W.iret (v := x5) hx hb hr (fun t99 ht99 hW99 => ⟨⟨_, (w, (x5, (F 23), (F 25))), rfl, ⟨rfl, hO⟩, by rw [ht99]; exact hP, hD⟩, hS.F ht99⟩) hS.2.2 dX5_combined_107
  by_cases h7 : x = 46
  · subst h7
    refine lv_tableIn (tgt := 108) (off := 107) hx hb dX5_combined_1 (by decide) (by decide) (by decide) (by decide) ?_
    refine lv_iload_n hx hb dX5_combined_108 rfl (lv_at hl 2 rfl) ?_
    refine lv_iload_n hx hb dX5_combined_109 rfl (lv_at hl 3 rfl) ?_
    refine lv_imul hx hb dX5_combined_110 ?_
    refine lv_topi (fun x8 e9 => ?_)
    have hO : OKW G h0 a (upd (upd F 23 (F 23)) 25 (F 25)) R Z B J T Pi w := hO.to rfl
    exact W.iret (v := x8) hx hb hr (fun t99 ht99 hW99 => ⟨⟨_, (w, (x8, (F 23), (F 25))), rfl, ⟨rfl, hO⟩, by rw [ht99]; exact hP, hD⟩, hS.F ht99⟩) hS.2.2 dX5_combined_111
  by_cases h10 : x = 47
  · subst h10
    refine lv_tableIn (tgt := 136) (off := 135) hx hb dX5_combined_1 (by decide) (by decide) (by decide) (by decide) ?_
    refine lv_aload_n hx hb dX5_combined_136 rfl (lv_at hl 0 rfl) ?_
    have hO : OKW G h0 a F R Z B J T Pi w := hO.to rfl
    obtain ⟨_, qr14, hqr15⟩ := hO.2.1 28 _ (sg_28 G h0 a _ _ _ _ _)
    refine pc_V0 (G := G) (As := []) (rest := []) hx hb hml hown hq hE hX pX0_al hP hD hS hA hl.1 (M_refuse l G h0 a F R Z B J T Pi w hO) (gV pw_536 pw_537 pw_538 pw_539 pw_511) hV_X5_refuse qr14 4 hqr15 rfl rfl rfl (Nat.le_of_ble_eq_true rfl) dX5_combined_137 ⟨Nat.le_of_ble_eq_true rfl, Nat.le_of_ble_eq_true rfl⟩ ⟨Nat.le_of_ble_eq_true rfl, Nat.le_of_ble_eq_true rfl⟩ (fun v13 u11 H locs hw12 hP hD hS => ?_)
    obtain ⟨w, en16, rf17⟩ := u11
    obtain ⟨hw12, hO⟩ := hw12
    obtain rfl : v13 = none := hw12
    have hO : OKW G h0 a (upd (upd F 23 en16) 25 rf17) R Z B J T Pi w := hO.to rfl
    refine W.widen (k := 0) (n := 0) (Nat.le_of_ble_eq_true rfl) (Nat.le_of_ble_eq_true rfl) ?_
    refine W.eq (g2 := F0 m 140 ls []) rfl ?_
    refine lv_iconst (v := 0) hx hb dX5_combined_140 (by decide) ?_
    have hO : OKW G h0 a (upd (upd F 23 en16) 25 rf17) R Z B J T Pi w := hO.to rfl
    exact W.iret (v := 0) hx hb hr (fun t99 ht99 hW99 => ⟨⟨_, (w, ((0 : Int32), en16, rf17)), rfl, ⟨rfl, hO⟩, by rw [ht99]; exact hP, hD⟩, hS.F ht99⟩) hS.2.2 dX5_combined_141
  by_cases h18 : x = 48
  · subst h18
    refine lv_tableIn (tgt := 136) (off := 135) hx hb dX5_combined_1 (by decide) (by decide) (by decide) (by decide) ?_
    refine lv_aload_n hx hb dX5_combined_136 rfl (lv_at hl 0 rfl) ?_
    have hO : OKW G h0 a F R Z B J T Pi w := hO.to rfl
    obtain ⟨_, qr22, hqr23⟩ := hO.2.1 28 _ (sg_28 G h0 a _ _ _ _ _)
    refine pc_V0 (G := G) (As := []) (rest := []) hx hb hml hown hq hE hX pX0_al hP hD hS hA hl.1 (M_refuse l G h0 a F R Z B J T Pi w hO) (gV pw_536 pw_537 pw_538 pw_539 pw_511) hV_X5_refuse qr22 4 hqr23 rfl rfl rfl (Nat.le_of_ble_eq_true rfl) dX5_combined_137 ⟨Nat.le_of_ble_eq_true rfl, Nat.le_of_ble_eq_true rfl⟩ ⟨Nat.le_of_ble_eq_true rfl, Nat.le_of_ble_eq_true rfl⟩ (fun v21 u19 H locs hw20 hP hD hS => ?_)
    obtain ⟨w, en24, rf25⟩ := u19
    obtain ⟨hw20, hO⟩ := hw20
    obtain rfl : v21 = none := hw20
    have hO : OKW G h0 a (upd (upd F 23 en24) 25 rf25) R Z B J T Pi w := hO.to rfl
    refine W.widen (k := 0) (n := 0) (Nat.le_of_ble_eq_true rfl) (Nat.le_of_ble_eq_true rfl) ?_
    refine W.eq (g2 := F0 m 140 ls []) rfl ?_
    refine lv_iconst (v := 0) hx hb dX5_combined_140 (by decide) ?_
    have hO : OKW G h0 a (upd (upd F 23 en24) 25 rf25) R Z B J T Pi w := hO.to rfl
    exact W.iret (v := 0) hx hb hr (fun t99 ht99 hW99 => ⟨⟨_, (w, ((0 : Int32), en24, rf25)), rfl, ⟨rfl, hO⟩, by rw [ht99]; exact hP, hD⟩, hS.F ht99⟩) hS.2.2 dX5_combined_141
  by_cases h26 : x = 49
  · subst h26
    refine lv_tableIn (tgt := 112) (off := 111) hx hb dX5_combined_1 (by decide) (by decide) (by decide) (by decide) ?_
    refine lv_iload_n hx hb dX5_combined_112 rfl (lv_at hl 2 rfl) ?_
    refine lv_iload_n hx hb dX5_combined_113 rfl (lv_at hl 3 rfl) ?_
    refine lv_iand hx hb dX5_combined_114 ?_
    refine lv_topi (fun x27 e28 => ?_)
    have hO : OKW G h0 a (upd (upd F 23 (F 23)) 25 (F 25)) R Z B J T Pi w := hO.to rfl
    exact W.iret (v := x27) hx hb hr (fun t99 ht99 hW99 => ⟨⟨_, (w, (x27, (F 23), (F 25))), rfl, ⟨rfl, hO⟩, by rw [ht99]; exact hP, hD⟩, hS.F ht99⟩) hS.2.2 dX5_combined_115
  by_cases h29 : x = 50
  · subst h29
    refine lv_tableIn (tgt := 116) (off := 115) hx hb dX5_combined_1 (by decide) (by decide) (by decide) (by decide) ?_
    refine lv_iload_n hx hb dX5_combined_116 rfl (lv_at hl 2 rfl) ?_
    refine lv_iload_n hx hb dX5_combined_117 rfl (lv_at hl 3 rfl) ?_
    refine lv_ior hx hb dX5_combined_118 ?_
    refine lv_topi (fun x30 e31 => ?_)
    have hO : OKW G h0 a (upd (upd F 23 (F 23)) 25 (F 25)) R Z B J T Pi w := hO.to rfl
    exact W.iret (v := x30) hx hb hr (fun t99 ht99 hW99 => ⟨⟨_, (w, (x30, (F 23), (F 25))), rfl, ⟨rfl, hO⟩, by rw [ht99]; exact hP, hD⟩, hS.F ht99⟩) hS.2.2 dX5_combined_119
  by_cases h32 : x = 51
  · subst h32
    refine lv_tableIn (tgt := 120) (off := 119) hx hb dX5_combined_1 (by decide) (by decide) (by decide) (by decide) ?_
    refine lv_iload_n hx hb dX5_combined_120 rfl (lv_at hl 2 rfl) ?_
    refine lv_iload_n hx hb dX5_combined_121 rfl (lv_at hl 3 rfl) ?_
    refine lv_ixor hx hb dX5_combined_122 ?_
    refine lv_topi (fun x33 e34 => ?_)
    have hO : OKW G h0 a (upd (upd F 23 (F 23)) 25 (F 25)) R Z B J T Pi w := hO.to rfl
    exact W.iret (v := x33) hx hb hr (fun t99 ht99 hW99 => ⟨⟨_, (w, (x33, (F 23), (F 25))), rfl, ⟨rfl, hO⟩, by rw [ht99]; exact hP, hD⟩, hS.F ht99⟩) hS.2.2 dX5_combined_123
  by_cases h35 : x = 52
  · subst h35
    refine lv_tableIn (tgt := 136) (off := 135) hx hb dX5_combined_1 (by decide) (by decide) (by decide) (by decide) ?_
    refine lv_aload_n hx hb dX5_combined_136 rfl (lv_at hl 0 rfl) ?_
    have hO : OKW G h0 a F R Z B J T Pi w := hO.to rfl
    obtain ⟨_, qr39, hqr40⟩ := hO.2.1 28 _ (sg_28 G h0 a _ _ _ _ _)
    refine pc_V0 (G := G) (As := []) (rest := []) hx hb hml hown hq hE hX pX0_al hP hD hS hA hl.1 (M_refuse l G h0 a F R Z B J T Pi w hO) (gV pw_536 pw_537 pw_538 pw_539 pw_511) hV_X5_refuse qr39 4 hqr40 rfl rfl rfl (Nat.le_of_ble_eq_true rfl) dX5_combined_137 ⟨Nat.le_of_ble_eq_true rfl, Nat.le_of_ble_eq_true rfl⟩ ⟨Nat.le_of_ble_eq_true rfl, Nat.le_of_ble_eq_true rfl⟩ (fun v38 u36 H locs hw37 hP hD hS => ?_)
    obtain ⟨w, en41, rf42⟩ := u36
    obtain ⟨hw37, hO⟩ := hw37
    obtain rfl : v38 = none := hw37
    have hO : OKW G h0 a (upd (upd F 23 en41) 25 rf42) R Z B J T Pi w := hO.to rfl
    refine W.widen (k := 0) (n := 0) (Nat.le_of_ble_eq_true rfl) (Nat.le_of_ble_eq_true rfl) ?_
    refine W.eq (g2 := F0 m 140 ls []) rfl ?_
    refine lv_iconst (v := 0) hx hb dX5_combined_140 (by decide) ?_
    have hO : OKW G h0 a (upd (upd F 23 en41) 25 rf42) R Z B J T Pi w := hO.to rfl
    exact W.iret (v := 0) hx hb hr (fun t99 ht99 hW99 => ⟨⟨_, (w, ((0 : Int32), en41, rf42)), rfl, ⟨rfl, hO⟩, by rw [ht99]; exact hP, hD⟩, hS.F ht99⟩) hS.2.2 dX5_combined_141
  by_cases h43 : x = 53
  · subst h43
    refine lv_tableIn (tgt := 136) (off := 135) hx hb dX5_combined_1 (by decide) (by decide) (by decide) (by decide) ?_
    refine lv_aload_n hx hb dX5_combined_136 rfl (lv_at hl 0 rfl) ?_
    have hO : OKW G h0 a F R Z B J T Pi w := hO.to rfl
    obtain ⟨_, qr47, hqr48⟩ := hO.2.1 28 _ (sg_28 G h0 a _ _ _ _ _)
    refine pc_V0 (G := G) (As := []) (rest := []) hx hb hml hown hq hE hX pX0_al hP hD hS hA hl.1 (M_refuse l G h0 a F R Z B J T Pi w hO) (gV pw_536 pw_537 pw_538 pw_539 pw_511) hV_X5_refuse qr47 4 hqr48 rfl rfl rfl (Nat.le_of_ble_eq_true rfl) dX5_combined_137 ⟨Nat.le_of_ble_eq_true rfl, Nat.le_of_ble_eq_true rfl⟩ ⟨Nat.le_of_ble_eq_true rfl, Nat.le_of_ble_eq_true rfl⟩ (fun v46 u44 H locs hw45 hP hD hS => ?_)
    obtain ⟨w, en49, rf50⟩ := u44
    obtain ⟨hw45, hO⟩ := hw45
    obtain rfl : v46 = none := hw45
    have hO : OKW G h0 a (upd (upd F 23 en49) 25 rf50) R Z B J T Pi w := hO.to rfl
    refine W.widen (k := 0) (n := 0) (Nat.le_of_ble_eq_true rfl) (Nat.le_of_ble_eq_true rfl) ?_
    refine W.eq (g2 := F0 m 140 ls []) rfl ?_
    refine lv_iconst (v := 0) hx hb dX5_combined_140 (by decide) ?_
    have hO : OKW G h0 a (upd (upd F 23 en49) 25 rf50) R Z B J T Pi w := hO.to rfl
    exact W.iret (v := 0) hx hb hr (fun t99 ht99 hW99 => ⟨⟨_, (w, ((0 : Int32), en49, rf50)), rfl, ⟨rfl, hO⟩, by rw [ht99]; exact hP, hD⟩, hS.F ht99⟩) hS.2.2 dX5_combined_141
  by_cases h51 : x = 54
  · subst h51
    refine lv_tableIn (tgt := 136) (off := 135) hx hb dX5_combined_1 (by decide) (by decide) (by decide) (by decide) ?_
    refine lv_aload_n hx hb dX5_combined_136 rfl (lv_at hl 0 rfl) ?_
    have hO : OKW G h0 a F R Z B J T Pi w := hO.to rfl
    obtain ⟨_, qr55, hqr56⟩ := hO.2.1 28 _ (sg_28 G h0 a _ _ _ _ _)
    refine pc_V0 (G := G) (As := []) (rest := []) hx hb hml hown hq hE hX pX0_al hP hD hS hA hl.1 (M_refuse l G h0 a F R Z B J T Pi w hO) (gV pw_536 pw_537 pw_538 pw_539 pw_511) hV_X5_refuse qr55 4 hqr56 rfl rfl rfl (Nat.le_of_ble_eq_true rfl) dX5_combined_137 ⟨Nat.le_of_ble_eq_true rfl, Nat.le_of_ble_eq_true rfl⟩ ⟨Nat.le_of_ble_eq_true rfl, Nat.le_of_ble_eq_true rfl⟩ (fun v54 u52 H locs hw53 hP hD hS => ?_)
    obtain ⟨w, en57, rf58⟩ := u52
    obtain ⟨hw53, hO⟩ := hw53
    obtain rfl : v54 = none := hw53
    have hO : OKW G h0 a (upd (upd F 23 en57) 25 rf58) R Z B J T Pi w := hO.to rfl
    refine W.widen (k := 0) (n := 0) (Nat.le_of_ble_eq_true rfl) (Nat.le_of_ble_eq_true rfl) ?_
    refine W.eq (g2 := F0 m 140 ls []) rfl ?_
    refine lv_iconst (v := 0) hx hb dX5_combined_140 (by decide) ?_
    have hO : OKW G h0 a (upd (upd F 23 en57) 25 rf58) R Z B J T Pi w := hO.to rfl
    exact W.iret (v := 0) hx hb hr (fun t99 ht99 hW99 => ⟨⟨_, (w, ((0 : Int32), en57, rf58)), rfl, ⟨rfl, hO⟩, by rw [ht99]; exact hP, hD⟩, hS.F ht99⟩) hS.2.2 dX5_combined_141
  by_cases h59 : x = 55
  · subst h59
    refine lv_tableIn (tgt := 136) (off := 135) hx hb dX5_combined_1 (by decide) (by decide) (by decide) (by decide) ?_
    refine lv_aload_n hx hb dX5_combined_136 rfl (lv_at hl 0 rfl) ?_
    have hO : OKW G h0 a F R Z B J T Pi w := hO.to rfl
    obtain ⟨_, qr63, hqr64⟩ := hO.2.1 28 _ (sg_28 G h0 a _ _ _ _ _)
    refine pc_V0 (G := G) (As := []) (rest := []) hx hb hml hown hq hE hX pX0_al hP hD hS hA hl.1 (M_refuse l G h0 a F R Z B J T Pi w hO) (gV pw_536 pw_537 pw_538 pw_539 pw_511) hV_X5_refuse qr63 4 hqr64 rfl rfl rfl (Nat.le_of_ble_eq_true rfl) dX5_combined_137 ⟨Nat.le_of_ble_eq_true rfl, Nat.le_of_ble_eq_true rfl⟩ ⟨Nat.le_of_ble_eq_true rfl, Nat.le_of_ble_eq_true rfl⟩ (fun v62 u60 H locs hw61 hP hD hS => ?_)
    obtain ⟨w, en65, rf66⟩ := u60
    obtain ⟨hw61, hO⟩ := hw61
    obtain rfl : v62 = none := hw61
    have hO : OKW G h0 a (upd (upd F 23 en65) 25 rf66) R Z B J T Pi w := hO.to rfl
    refine W.widen (k := 0) (n := 0) (Nat.le_of_ble_eq_true rfl) (Nat.le_of_ble_eq_true rfl) ?_
    refine W.eq (g2 := F0 m 140 ls []) rfl ?_
    refine lv_iconst (v := 0) hx hb dX5_combined_140 (by decide) ?_
    have hO : OKW G h0 a (upd (upd F 23 en65) 25 rf66) R Z B J T Pi w := hO.to rfl
    exact W.iret (v := 0) hx hb hr (fun t99 ht99 hW99 => ⟨⟨_, (w, ((0 : Int32), en65, rf66)), rfl, ⟨rfl, hO⟩, by rw [ht99]; exact hP, hD⟩, hS.F ht99⟩) hS.2.2 dX5_combined_141
  by_cases h67 : x = 56
  · subst h67
    refine lv_tableIn (tgt := 136) (off := 135) hx hb dX5_combined_1 (by decide) (by decide) (by decide) (by decide) ?_
    refine lv_aload_n hx hb dX5_combined_136 rfl (lv_at hl 0 rfl) ?_
    have hO : OKW G h0 a F R Z B J T Pi w := hO.to rfl
    obtain ⟨_, qr71, hqr72⟩ := hO.2.1 28 _ (sg_28 G h0 a _ _ _ _ _)
    refine pc_V0 (G := G) (As := []) (rest := []) hx hb hml hown hq hE hX pX0_al hP hD hS hA hl.1 (M_refuse l G h0 a F R Z B J T Pi w hO) (gV pw_536 pw_537 pw_538 pw_539 pw_511) hV_X5_refuse qr71 4 hqr72 rfl rfl rfl (Nat.le_of_ble_eq_true rfl) dX5_combined_137 ⟨Nat.le_of_ble_eq_true rfl, Nat.le_of_ble_eq_true rfl⟩ ⟨Nat.le_of_ble_eq_true rfl, Nat.le_of_ble_eq_true rfl⟩ (fun v70 u68 H locs hw69 hP hD hS => ?_)
    obtain ⟨w, en73, rf74⟩ := u68
    obtain ⟨hw69, hO⟩ := hw69
    obtain rfl : v70 = none := hw69
    have hO : OKW G h0 a (upd (upd F 23 en73) 25 rf74) R Z B J T Pi w := hO.to rfl
    refine W.widen (k := 0) (n := 0) (Nat.le_of_ble_eq_true rfl) (Nat.le_of_ble_eq_true rfl) ?_
    refine W.eq (g2 := F0 m 140 ls []) rfl ?_
    refine lv_iconst (v := 0) hx hb dX5_combined_140 (by decide) ?_
    have hO : OKW G h0 a (upd (upd F 23 en73) 25 rf74) R Z B J T Pi w := hO.to rfl
    exact W.iret (v := 0) hx hb hr (fun t99 ht99 hW99 => ⟨⟨_, (w, ((0 : Int32), en73, rf74)), rfl, ⟨rfl, hO⟩, by rw [ht99]; exact hP, hD⟩, hS.F ht99⟩) hS.2.2 dX5_combined_141
  by_cases h75 : x = 57
  · subst h75
    refine lv_tableIn (tgt := 136) (off := 135) hx hb dX5_combined_1 (by decide) (by decide) (by decide) (by decide) ?_
    refine lv_aload_n hx hb dX5_combined_136 rfl (lv_at hl 0 rfl) ?_
    have hO : OKW G h0 a F R Z B J T Pi w := hO.to rfl
    obtain ⟨_, qr79, hqr80⟩ := hO.2.1 28 _ (sg_28 G h0 a _ _ _ _ _)
    refine pc_V0 (G := G) (As := []) (rest := []) hx hb hml hown hq hE hX pX0_al hP hD hS hA hl.1 (M_refuse l G h0 a F R Z B J T Pi w hO) (gV pw_536 pw_537 pw_538 pw_539 pw_511) hV_X5_refuse qr79 4 hqr80 rfl rfl rfl (Nat.le_of_ble_eq_true rfl) dX5_combined_137 ⟨Nat.le_of_ble_eq_true rfl, Nat.le_of_ble_eq_true rfl⟩ ⟨Nat.le_of_ble_eq_true rfl, Nat.le_of_ble_eq_true rfl⟩ (fun v78 u76 H locs hw77 hP hD hS => ?_)
    obtain ⟨w, en81, rf82⟩ := u76
    obtain ⟨hw77, hO⟩ := hw77
    obtain rfl : v78 = none := hw77
    have hO : OKW G h0 a (upd (upd F 23 en81) 25 rf82) R Z B J T Pi w := hO.to rfl
    refine W.widen (k := 0) (n := 0) (Nat.le_of_ble_eq_true rfl) (Nat.le_of_ble_eq_true rfl) ?_
    refine W.eq (g2 := F0 m 140 ls []) rfl ?_
    refine lv_iconst (v := 0) hx hb dX5_combined_140 (by decide) ?_
    have hO : OKW G h0 a (upd (upd F 23 en81) 25 rf82) R Z B J T Pi w := hO.to rfl
    exact W.iret (v := 0) hx hb hr (fun t99 ht99 hW99 => ⟨⟨_, (w, ((0 : Int32), en81, rf82)), rfl, ⟨rfl, hO⟩, by rw [ht99]; exact hP, hD⟩, hS.F ht99⟩) hS.2.2 dX5_combined_141
  by_cases h83 : x = 58
  · subst h83
    refine lv_tableIn (tgt := 136) (off := 135) hx hb dX5_combined_1 (by decide) (by decide) (by decide) (by decide) ?_
    refine lv_aload_n hx hb dX5_combined_136 rfl (lv_at hl 0 rfl) ?_
    have hO : OKW G h0 a F R Z B J T Pi w := hO.to rfl
    obtain ⟨_, qr87, hqr88⟩ := hO.2.1 28 _ (sg_28 G h0 a _ _ _ _ _)
    refine pc_V0 (G := G) (As := []) (rest := []) hx hb hml hown hq hE hX pX0_al hP hD hS hA hl.1 (M_refuse l G h0 a F R Z B J T Pi w hO) (gV pw_536 pw_537 pw_538 pw_539 pw_511) hV_X5_refuse qr87 4 hqr88 rfl rfl rfl (Nat.le_of_ble_eq_true rfl) dX5_combined_137 ⟨Nat.le_of_ble_eq_true rfl, Nat.le_of_ble_eq_true rfl⟩ ⟨Nat.le_of_ble_eq_true rfl, Nat.le_of_ble_eq_true rfl⟩ (fun v86 u84 H locs hw85 hP hD hS => ?_)
    obtain ⟨w, en89, rf90⟩ := u84
    obtain ⟨hw85, hO⟩ := hw85
    obtain rfl : v86 = none := hw85
    have hO : OKW G h0 a (upd (upd F 23 en89) 25 rf90) R Z B J T Pi w := hO.to rfl
    refine W.widen (k := 0) (n := 0) (Nat.le_of_ble_eq_true rfl) (Nat.le_of_ble_eq_true rfl) ?_
    refine W.eq (g2 := F0 m 140 ls []) rfl ?_
    refine lv_iconst (v := 0) hx hb dX5_combined_140 (by decide) ?_
    have hO : OKW G h0 a (upd (upd F 23 en89) 25 rf90) R Z B J T Pi w := hO.to rfl
    exact W.iret (v := 0) hx hb hr (fun t99 ht99 hW99 => ⟨⟨_, (w, ((0 : Int32), en89, rf90)), rfl, ⟨rfl, hO⟩, by rw [ht99]; exact hP, hD⟩, hS.F ht99⟩) hS.2.2 dX5_combined_141
  by_cases h91 : x = 59
  · subst h91
    refine lv_tableIn (tgt := 136) (off := 135) hx hb dX5_combined_1 (by decide) (by decide) (by decide) (by decide) ?_
    refine lv_aload_n hx hb dX5_combined_136 rfl (lv_at hl 0 rfl) ?_
    have hO : OKW G h0 a F R Z B J T Pi w := hO.to rfl
    obtain ⟨_, qr95, hqr96⟩ := hO.2.1 28 _ (sg_28 G h0 a _ _ _ _ _)
    refine pc_V0 (G := G) (As := []) (rest := []) hx hb hml hown hq hE hX pX0_al hP hD hS hA hl.1 (M_refuse l G h0 a F R Z B J T Pi w hO) (gV pw_536 pw_537 pw_538 pw_539 pw_511) hV_X5_refuse qr95 4 hqr96 rfl rfl rfl (Nat.le_of_ble_eq_true rfl) dX5_combined_137 ⟨Nat.le_of_ble_eq_true rfl, Nat.le_of_ble_eq_true rfl⟩ ⟨Nat.le_of_ble_eq_true rfl, Nat.le_of_ble_eq_true rfl⟩ (fun v94 u92 H locs hw93 hP hD hS => ?_)
    obtain ⟨w, en97, rf98⟩ := u92
    obtain ⟨hw93, hO⟩ := hw93
    obtain rfl : v94 = none := hw93
    have hO : OKW G h0 a (upd (upd F 23 en97) 25 rf98) R Z B J T Pi w := hO.to rfl
    refine W.widen (k := 0) (n := 0) (Nat.le_of_ble_eq_true rfl) (Nat.le_of_ble_eq_true rfl) ?_
    refine W.eq (g2 := F0 m 140 ls []) rfl ?_
    refine lv_iconst (v := 0) hx hb dX5_combined_140 (by decide) ?_
    have hO : OKW G h0 a (upd (upd F 23 en97) 25 rf98) R Z B J T Pi w := hO.to rfl
    exact W.iret (v := 0) hx hb hr (fun t99 ht99 hW99 => ⟨⟨_, (w, ((0 : Int32), en97, rf98)), rfl, ⟨rfl, hO⟩, by rw [ht99]; exact hP, hD⟩, hS.F ht99⟩) hS.2.2 dX5_combined_141
  by_cases h99 : x = 60
  · subst h99
    refine lv_tableIn (tgt := 136) (off := 135) hx hb dX5_combined_1 (by decide) (by decide) (by decide) (by decide) ?_
    refine lv_aload_n hx hb dX5_combined_136 rfl (lv_at hl 0 rfl) ?_
    have hO : OKW G h0 a F R Z B J T Pi w := hO.to rfl
    obtain ⟨_, qr103, hqr104⟩ := hO.2.1 28 _ (sg_28 G h0 a _ _ _ _ _)
    refine pc_V0 (G := G) (As := []) (rest := []) hx hb hml hown hq hE hX pX0_al hP hD hS hA hl.1 (M_refuse l G h0 a F R Z B J T Pi w hO) (gV pw_536 pw_537 pw_538 pw_539 pw_511) hV_X5_refuse qr103 4 hqr104 rfl rfl rfl (Nat.le_of_ble_eq_true rfl) dX5_combined_137 ⟨Nat.le_of_ble_eq_true rfl, Nat.le_of_ble_eq_true rfl⟩ ⟨Nat.le_of_ble_eq_true rfl, Nat.le_of_ble_eq_true rfl⟩ (fun v102 u100 H locs hw101 hP hD hS => ?_)
    obtain ⟨w, en105, rf106⟩ := u100
    obtain ⟨hw101, hO⟩ := hw101
    obtain rfl : v102 = none := hw101
    have hO : OKW G h0 a (upd (upd F 23 en105) 25 rf106) R Z B J T Pi w := hO.to rfl
    refine W.widen (k := 0) (n := 0) (Nat.le_of_ble_eq_true rfl) (Nat.le_of_ble_eq_true rfl) ?_
    refine W.eq (g2 := F0 m 140 ls []) rfl ?_
    refine lv_iconst (v := 0) hx hb dX5_combined_140 (by decide) ?_
    have hO : OKW G h0 a (upd (upd F 23 en105) 25 rf106) R Z B J T Pi w := hO.to rfl
    exact W.iret (v := 0) hx hb hr (fun t99 ht99 hW99 => ⟨⟨_, (w, ((0 : Int32), en105, rf106)), rfl, ⟨rfl, hO⟩, by rw [ht99]; exact hP, hD⟩, hS.F ht99⟩) hS.2.2 dX5_combined_141
  by_cases h107 : x = 61
  · subst h107
    refine lv_tableIn (tgt := 136) (off := 135) hx hb dX5_combined_1 (by decide) (by decide) (by decide) (by decide) ?_
    refine lv_aload_n hx hb dX5_combined_136 rfl (lv_at hl 0 rfl) ?_
    have hO : OKW G h0 a F R Z B J T Pi w := hO.to rfl
    obtain ⟨_, qr111, hqr112⟩ := hO.2.1 28 _ (sg_28 G h0 a _ _ _ _ _)
    refine pc_V0 (G := G) (As := []) (rest := []) hx hb hml hown hq hE hX pX0_al hP hD hS hA hl.1 (M_refuse l G h0 a F R Z B J T Pi w hO) (gV pw_536 pw_537 pw_538 pw_539 pw_511) hV_X5_refuse qr111 4 hqr112 rfl rfl rfl (Nat.le_of_ble_eq_true rfl) dX5_combined_137 ⟨Nat.le_of_ble_eq_true rfl, Nat.le_of_ble_eq_true rfl⟩ ⟨Nat.le_of_ble_eq_true rfl, Nat.le_of_ble_eq_true rfl⟩ (fun v110 u108 H locs hw109 hP hD hS => ?_)
    obtain ⟨w, en113, rf114⟩ := u108
    obtain ⟨hw109, hO⟩ := hw109
    obtain rfl : v110 = none := hw109
    have hO : OKW G h0 a (upd (upd F 23 en113) 25 rf114) R Z B J T Pi w := hO.to rfl
    refine W.widen (k := 0) (n := 0) (Nat.le_of_ble_eq_true rfl) (Nat.le_of_ble_eq_true rfl) ?_
    refine W.eq (g2 := F0 m 140 ls []) rfl ?_
    refine lv_iconst (v := 0) hx hb dX5_combined_140 (by decide) ?_
    have hO : OKW G h0 a (upd (upd F 23 en113) 25 rf114) R Z B J T Pi w := hO.to rfl
    exact W.iret (v := 0) hx hb hr (fun t99 ht99 hW99 => ⟨⟨_, (w, ((0 : Int32), en113, rf114)), rfl, ⟨rfl, hO⟩, by rw [ht99]; exact hP, hD⟩, hS.F ht99⟩) hS.2.2 dX5_combined_141
  by_cases h115 : x = 62
  · subst h115
    refine lv_tableIn (tgt := 124) (off := 123) hx hb dX5_combined_1 (by decide) (by decide) (by decide) (by decide) ?_
    refine lv_iload_n hx hb dX5_combined_124 rfl (lv_at hl 2 rfl) ?_
    refine lv_iload_n hx hb dX5_combined_125 rfl (lv_at hl 3 rfl) ?_
    refine lv_ishl hx hb dX5_combined_126 ?_
    refine lv_topi (fun x116 e117 => ?_)
    have hO : OKW G h0 a (upd (upd F 23 (F 23)) 25 (F 25)) R Z B J T Pi w := hO.to rfl
    exact W.iret (v := x116) hx hb hr (fun t99 ht99 hW99 => ⟨⟨_, (w, (x116, (F 23), (F 25))), rfl, ⟨rfl, hO⟩, by rw [ht99]; exact hP, hD⟩, hS.F ht99⟩) hS.2.2 dX5_combined_127
  by_cases h118 : x = 63
  · subst h118
    refine lv_tableIn (tgt := 128) (off := 127) hx hb dX5_combined_1 (by decide) (by decide) (by decide) (by decide) ?_
    refine lv_iload_n hx hb dX5_combined_128 rfl (lv_at hl 2 rfl) ?_
    refine lv_iload_n hx hb dX5_combined_129 rfl (lv_at hl 3 rfl) ?_
    refine lv_ishr hx hb dX5_combined_130 ?_
    refine lv_topi (fun x119 e120 => ?_)
    have hO : OKW G h0 a (upd (upd F 23 (F 23)) 25 (F 25)) R Z B J T Pi w := hO.to rfl
    exact W.iret (v := x119) hx hb hr (fun t99 ht99 hW99 => ⟨⟨_, (w, (x119, (F 23), (F 25))), rfl, ⟨rfl, hO⟩, by rw [ht99]; exact hP, hD⟩, hS.F ht99⟩) hS.2.2 dX5_combined_131
  by_cases h121 : x = 64
  · subst h121
    refine lv_tableIn (tgt := 132) (off := 131) hx hb dX5_combined_1 (by decide) (by decide) (by decide) (by decide) ?_
    refine lv_iload_n hx hb dX5_combined_132 rfl (lv_at hl 2 rfl) ?_
    refine lv_iload_n hx hb dX5_combined_133 rfl (lv_at hl 3 rfl) ?_
    refine lv_iushr hx hb dX5_combined_134 rfl ?_
    refine lv_topi (fun x122 e123 => ?_)
    have hO : OKW G h0 a (upd (upd F 23 (F 23)) 25 (F 25)) R Z B J T Pi w := hO.to rfl
    exact W.iret (v := x122) hx hb hr (fun t99 ht99 hW99 => ⟨⟨_, (w, (x122, (F 23), (F 25))), rfl, ⟨rfl, hO⟩, by rw [ht99]; exact hP, hD⟩, hS.F ht99⟩) hS.2.2 dX5_combined_135
  refine lv_tableOut (tgt := 136) hx hb dX5_combined_1 (sw_m44_64 h1 h4 h7 h10 h18 h26 h29 h32 h35 h43 h51 h59 h67 h75 h83 h91 h99 h107 h115 h118 h121) (by decide) ?_
  refine lv_aload_n hx hb dX5_combined_136 rfl (lv_at hl 0 rfl) ?_
  have hO : OKW G h0 a F R Z B J T Pi w := hO.to rfl
  obtain ⟨_, qr127, hqr128⟩ := hO.2.1 28 _ (sg_28 G h0 a _ _ _ _ _)
  refine pc_V0 (G := G) (As := []) (rest := []) hx hb hml hown hq hE hX pX0_al hP hD hS hA hl.1 (M_refuse l G h0 a F R Z B J T Pi w hO) (gV pw_536 pw_537 pw_538 pw_539 pw_511) hV_X5_refuse qr127 4 hqr128 rfl rfl rfl (Nat.le_of_ble_eq_true rfl) dX5_combined_137 ⟨Nat.le_of_ble_eq_true rfl, Nat.le_of_ble_eq_true rfl⟩ ⟨Nat.le_of_ble_eq_true rfl, Nat.le_of_ble_eq_true rfl⟩ (fun v126 u124 H locs hw125 hP hD hS => ?_)
  obtain ⟨w, en129, rf130⟩ := u124
  obtain ⟨hw125, hO⟩ := hw125
  obtain rfl : v126 = none := hw125
  have hO : OKW G h0 a (upd (upd F 23 en129) 25 rf130) R Z B J T Pi w := hO.to rfl
  refine W.widen (k := 0) (n := 0) (Nat.le_of_ble_eq_true rfl) (Nat.le_of_ble_eq_true rfl) ?_
  refine W.eq (g2 := F0 m 140 ls []) rfl ?_
  refine lv_iconst (v := 0) hx hb dX5_combined_140 (by decide) ?_
  have hO : OKW G h0 a (upd (upd F 23 en129) 25 rf130) R Z B J T Pi w := hO.to rfl
  exact W.iret (v := 0) hx hb hr (fun t99 ht99 hW99 => ⟨⟨_, (w, ((0 : Int32), en129, rf130)), rfl, ⟨rfl, hO⟩, by rw [ht99]; exact hP, hD⟩, hS.F ht99⟩) hS.2.2 dX5_combined_141
theorem dX5_sign_0 : decode cX5_sign 0 = .ok (.aload_n 0, 1) := by decide +kernel
theorem dX5_sign_1 : decode cX5_sign 1 = .ok (.invokevirtual 180, 3) := by decide +kernel
theorem dX5_sign_4 : decode cX5_sign 4 = .ok (.lstore_n 2, 1) := by decide +kernel
theorem dX5_sign_5 : decode cX5_sign 5 = .ok (.aload_n 0, 1) := by decide +kernel
theorem dX5_sign_6 : decode cX5_sign 6 = .ok (.invokevirtual 180, 3) := by decide +kernel
theorem dX5_sign_9 : decode cX5_sign 9 = .ok (.lstore 4, 2) := by decide +kernel
theorem dX5_sign_11 : decode cX5_sign 11 = .ok (.lload_n 2, 1) := by decide +kernel
theorem dX5_sign_12 : decode cX5_sign 12 = .ok (.l2i, 1) := by decide +kernel
theorem dX5_sign_13 : decode cX5_sign 13 = .ok (.istore 6, 2) := by decide +kernel
theorem dX5_sign_15 : decode cX5_sign 15 = .ok (.lload 4, 2) := by decide +kernel
theorem dX5_sign_17 : decode cX5_sign 17 = .ok (.l2i, 1) := by decide +kernel
theorem dX5_sign_18 : decode cX5_sign 18 = .ok (.istore 7, 2) := by decide +kernel
theorem dX5_sign_20 : decode cX5_sign 20 = .ok (.iload_n 1, 1) := by decide +kernel
theorem dX5_sign_21 : decode cX5_sign 21 = .ok (.tableswitch 203 47 59 #[181, 181, 203, 203, 203, 203, 203, 105, 143, 124, 162, 67, 86], 67) := by decide +kernel
theorem dX5_sign_202 : decode cX5_sign 202 = .ok (.aload_n 0, 1) := by decide +kernel
theorem dX5_sign_203 : decode cX5_sign 203 = .ok (.iload_n 1, 1) := by decide +kernel
theorem dX5_sign_204 : decode cX5_sign 204 = .ok (.bipush 47, 2) := by decide +kernel
theorem dX5_sign_206 : decode cX5_sign 206 = .ok (.if_icmp .ne 7, 3) := by decide +kernel
theorem dX5_sign_209 : decode cX5_sign 209 = .ok (.iconst 1, 1) := by decide +kernel
theorem dX5_sign_210 : decode cX5_sign 210 = .ok (.goto 4, 3) := by decide +kernel
theorem dX5_sign_214 : decode cX5_sign 214 = .ok (.iload 7, 2) := by decide +kernel
theorem dX5_sign_216 : decode cX5_sign 216 = .ok (.iload 6, 2) := by decide +kernel
theorem dX5_sign_218 : decode cX5_sign 218 = .ok (.invokevirtual 244, 3) := by decide +kernel
theorem dX5_sign_221 : decode cX5_sign 221 = .ok (.goto 16, 3) := by decide +kernel
theorem dX5_sign_237 : decode cX5_sign 237 = .ok (.return_, 1) := by decide +kernel
theorem dX5_sign_213 : decode cX5_sign 213 = .ok (.iconst 0, 1) := by decide +kernel
theorem dX5_sign_224 : decode cX5_sign 224 = .ok (.aload_n 0, 1) := by decide +kernel
theorem dX5_sign_225 : decode cX5_sign 225 = .ok (.aload_n 0, 1) := by decide +kernel
theorem dX5_sign_226 : decode cX5_sign 226 = .ok (.iload_n 1, 1) := by decide +kernel
theorem dX5_sign_227 : decode cX5_sign 227 = .ok (.iload 7, 2) := by decide +kernel
theorem dX5_sign_229 : decode cX5_sign 229 = .ok (.iload 6, 2) := by decide +kernel
theorem dX5_sign_231 : decode cX5_sign 231 = .ok (.invokevirtual 248, 3) := by decide +kernel
theorem dX5_sign_234 : decode cX5_sign 234 = .ok (.invokevirtual 237, 3) := by decide +kernel
theorem dX5_sign_126 : decode cX5_sign 126 = .ok (.aload_n 0, 1) := by decide +kernel
theorem dX5_sign_127 : decode cX5_sign 127 = .ok (.iload 7, 2) := by decide +kernel
theorem dX5_sign_129 : decode cX5_sign 129 = .ok (.iload 6, 2) := by decide +kernel
theorem dX5_sign_131 : decode cX5_sign 131 = .ok (.if_icmp .ge 7, 3) := by decide +kernel
theorem dX5_sign_138 : decode cX5_sign 138 = .ok (.iconst 0, 1) := by decide +kernel
theorem dX5_sign_139 : decode cX5_sign 139 = .ok (.invokevirtual 240, 3) := by decide +kernel
theorem dX5_sign_142 : decode cX5_sign 142 = .ok (.goto 95, 3) := by decide +kernel
theorem dX5_sign_134 : decode cX5_sign 134 = .ok (.iconst 1, 1) := by decide +kernel
theorem dX5_sign_135 : decode cX5_sign 135 = .ok (.goto 4, 3) := by decide +kernel
theorem dX5_sign_164 : decode cX5_sign 164 = .ok (.aload_n 0, 1) := by decide +kernel
theorem dX5_sign_165 : decode cX5_sign 165 = .ok (.iload 7, 2) := by decide +kernel
theorem dX5_sign_167 : decode cX5_sign 167 = .ok (.iload 6, 2) := by decide +kernel
theorem dX5_sign_169 : decode cX5_sign 169 = .ok (.if_icmp .le 7, 3) := by decide +kernel
theorem dX5_sign_176 : decode cX5_sign 176 = .ok (.iconst 0, 1) := by decide +kernel
theorem dX5_sign_177 : decode cX5_sign 177 = .ok (.invokevirtual 240, 3) := by decide +kernel
theorem dX5_sign_180 : decode cX5_sign 180 = .ok (.goto 57, 3) := by decide +kernel
theorem dX5_sign_172 : decode cX5_sign 172 = .ok (.iconst 1, 1) := by decide +kernel
theorem dX5_sign_173 : decode cX5_sign 173 = .ok (.goto 4, 3) := by decide +kernel
theorem dX5_sign_145 : decode cX5_sign 145 = .ok (.aload_n 0, 1) := by decide +kernel
theorem dX5_sign_146 : decode cX5_sign 146 = .ok (.iload 7, 2) := by decide +kernel
theorem dX5_sign_148 : decode cX5_sign 148 = .ok (.iload 6, 2) := by decide +kernel
theorem dX5_sign_150 : decode cX5_sign 150 = .ok (.if_icmp .gt 7, 3) := by decide +kernel
theorem dX5_sign_157 : decode cX5_sign 157 = .ok (.iconst 0, 1) := by decide +kernel
theorem dX5_sign_158 : decode cX5_sign 158 = .ok (.invokevirtual 240, 3) := by decide +kernel
theorem dX5_sign_161 : decode cX5_sign 161 = .ok (.goto 76, 3) := by decide +kernel
theorem dX5_sign_153 : decode cX5_sign 153 = .ok (.iconst 1, 1) := by decide +kernel
theorem dX5_sign_154 : decode cX5_sign 154 = .ok (.goto 4, 3) := by decide +kernel
theorem dX5_sign_183 : decode cX5_sign 183 = .ok (.aload_n 0, 1) := by decide +kernel
theorem dX5_sign_184 : decode cX5_sign 184 = .ok (.iload 7, 2) := by decide +kernel
theorem dX5_sign_186 : decode cX5_sign 186 = .ok (.iload 6, 2) := by decide +kernel
theorem dX5_sign_188 : decode cX5_sign 188 = .ok (.if_icmp .lt 7, 3) := by decide +kernel
theorem dX5_sign_195 : decode cX5_sign 195 = .ok (.iconst 0, 1) := by decide +kernel
theorem dX5_sign_196 : decode cX5_sign 196 = .ok (.invokevirtual 240, 3) := by decide +kernel
theorem dX5_sign_199 : decode cX5_sign 199 = .ok (.goto 38, 3) := by decide +kernel
theorem dX5_sign_191 : decode cX5_sign 191 = .ok (.iconst 1, 1) := by decide +kernel
theorem dX5_sign_192 : decode cX5_sign 192 = .ok (.goto 4, 3) := by decide +kernel
theorem dX5_sign_88 : decode cX5_sign 88 = .ok (.aload_n 0, 1) := by decide +kernel
theorem dX5_sign_89 : decode cX5_sign 89 = .ok (.lload 4, 2) := by decide +kernel
theorem dX5_sign_91 : decode cX5_sign 91 = .ok (.lload_n 2, 1) := by decide +kernel
theorem dX5_sign_92 : decode cX5_sign 92 = .ok (.lcmp, 1) := by decide +kernel
theorem dX5_sign_93 : decode cX5_sign 93 = .ok (.ifCond .ne 7, 3) := by decide +kernel
theorem dX5_sign_100 : decode cX5_sign 100 = .ok (.iconst 0, 1) := by decide +kernel
theorem dX5_sign_101 : decode cX5_sign 101 = .ok (.invokevirtual 240, 3) := by decide +kernel
theorem dX5_sign_104 : decode cX5_sign 104 = .ok (.goto 133, 3) := by decide +kernel
theorem dX5_sign_96 : decode cX5_sign 96 = .ok (.iconst 1, 1) := by decide +kernel
theorem dX5_sign_97 : decode cX5_sign 97 = .ok (.goto 4, 3) := by decide +kernel
theorem dX5_sign_107 : decode cX5_sign 107 = .ok (.aload_n 0, 1) := by decide +kernel
theorem dX5_sign_108 : decode cX5_sign 108 = .ok (.lload 4, 2) := by decide +kernel
theorem dX5_sign_110 : decode cX5_sign 110 = .ok (.lload_n 2, 1) := by decide +kernel
theorem dX5_sign_111 : decode cX5_sign 111 = .ok (.lcmp, 1) := by decide +kernel
theorem dX5_sign_112 : decode cX5_sign 112 = .ok (.ifCond .eq 7, 3) := by decide +kernel
theorem dX5_sign_119 : decode cX5_sign 119 = .ok (.iconst 0, 1) := by decide +kernel
theorem dX5_sign_120 : decode cX5_sign 120 = .ok (.invokevirtual 240, 3) := by decide +kernel
theorem dX5_sign_123 : decode cX5_sign 123 = .ok (.goto 114, 3) := by decide +kernel
theorem dX5_sign_115 : decode cX5_sign 115 = .ok (.iconst 1, 1) := by decide +kernel
theorem dX5_sign_116 : decode cX5_sign 116 = .ok (.goto 4, 3) := by decide +kernel
theorem hV_X5_divide : yX5_divide.cls = RX5 ∧ yX5_divide.cls ≠ "java/lang/invoke/MethodHandle" ∧ yX5_divide.cls ≠ "java/lang/invoke/VarHandle" ∧ (parseMethodDescriptor yX5_divide.desc).map (fun d => d.parameters.length) = some 3 := by decide +kernel
theorem hV_X5_combined : yX5_combined.cls = RX5 ∧ yX5_combined.cls ≠ "java/lang/invoke/MethodHandle" ∧ yX5_combined.cls ≠ "java/lang/invoke/VarHandle" ∧ (parseMethodDescriptor yX5_combined.desc).map (fun d => d.parameters.length) = some 3 := by decide +kernel
theorem hV_X5_pushTruth : yX5_pushTruth.cls = RX5 ∧ yX5_pushTruth.cls ≠ "java/lang/invoke/MethodHandle" ∧ yX5_pushTruth.cls ≠ "java/lang/invoke/VarHandle" ∧ (parseMethodDescriptor yX5_pushTruth.desc).map (fun d => d.parameters.length) = some 1 := by decide +kernel
set_option maxHeartbeats 8000000 in
set_option maxRecDepth 100000 in
theorem M_sign (l : Launch) (G : pT) (h0 : Nat) (a : Nat → Nat) (F : Nat → Int32) (R : Nat → Value) (Z : Int64) (B : Nat → Nat → Int32) (J : Nat → Nat → Int64) (T : Nat → Nat) (Pi : Nat → va_E → Prop) (w : va_W) (x : Int32) (tp : Nat) (htp : tp ≤ 32000) (hO : OKW G h0 a (upd F 19 (nI tp)) R Z B J T Pi w) : PM l G pX0 yX5_sign cX5_sign 8 none ({ frames := 6, cells := 0, slots := 0, locals := 146 }) [.ref (a 5), .int x] w (fun (v : Option Value) (u : va_W × (Nat × Int32 × Int32 × (Nat → Nat → Int64) × Int64)) => v = none ∧ (u.2.1 ≤ 32000) ∧ (OKW G h0 a (upd (upd (upd F 19 (nI u.2.1)) 23 u.2.2.1) 25 u.2.2.2.1) R u.2.2.2.2.2 B u.2.2.2.2.1 T Pi u.1)) (fun u => u.1) := by
  intro sz
  refine Met.ofW (cc := cX5_sign) (maxL := 8) (ret := none) (by decide) rfl ?_
  intro p e s m args below meth c s₁ B9 hml hv
  obtain ⟨rfl, hsz, hP, hD0, hE, hX⟩ := hv
  have hx := B9.exec
  have hb := B9.bytes
  have hr := B9.returns
  have hts := atoms_spec (ws := Cond.code yX5_sign cX5_sign 8 none :: pw) B9.pre
  have hq : ∀ w ∈ pw, w.before _ s = true := fun w h => hts w (List.mem_cons_of_mem _ h)
  have hown : s.vm.findClass RX5 = some m.cls := findClass_of_methodNamed B9.named
  have hlocks := B9.notSynchronized
  subst hsz
  have hD := hD0.self (sz := s.heap.size)
  have hA : ∀ q : Nat, s.heap.size ≤ q → va_A w s.heap.size q := fun q h => Or.inr h
  generalize va_A w s.heap.size = A at hD hE hA ⊢
  have hS : va_S A s.heap s.heap [] := va_S.rf
  have hl := lv_entry ([.ref (a 5), .int x]) (n := 8) (Nat.le_of_ble_eq_true rfl)
  rw [lg_entry_eq]
  generalize (lg_sl ([.ref (a 5), .int x]) ++ List.replicate (8 - (lg_sl ([.ref (a 5), .int x])).length) Slot.unset).toArray = ls at hl ⊢
  have hl : lv_has ls 8 [(0, .ref (a 5)), (1, .int x)] := hl
  refine lv_aload_n hx hb dX5_sign_0 rfl (lv_at hl 0 rfl) ?_
  have hO : OKW G h0 a (upd (upd F 19 (nI tp)) 19 (nI tp)) R Z B J T Pi w := hO.to rfl
  obtain ⟨_, qr4, hqr5⟩ := hO.2.1 28 _ (sg_28 G h0 a _ _ _ _ _)
  refine pc_V0 (G := G) (As := []) (rest := []) hx hb hml hown hq hE hX pX0_al hP hD hS hA hl.1 (M_pop l G h0 a (upd F 19 (nI tp)) R Z B J T Pi w tp (by omega) hO) (gV pw_598 pw_599 pw_600 pw_539 pw_595) hV_X5_pop qr4 4 hqr5 rfl rfl rfl (Nat.le_of_ble_eq_true rfl) dX5_sign_1 ⟨Nat.le_of_ble_eq_true rfl, Nat.le_of_ble_eq_true rfl⟩ ⟨Nat.le_of_ble_eq_true rfl, Nat.le_of_ble_eq_true rfl⟩ (fun v3 u1 H locs hw2 hP hD hS => ?_)
  obtain ⟨w, r6, tp7, en8, rf9, J10⟩ := u1
  obtain ⟨hw2, h11, hO⟩ := hw2
  have h11 : tp7 ≤ 32000 := h11
  obtain rfl : v3 = some (.long r6) := hw2
  have hO : OKW G h0 a (upd (upd (upd F 19 (nI tp7)) 23 en8) 25 rf9) R Z B J10 T Pi w := hO.to rfl
  refine W.widen (k := 0) (n := 0) (Nat.le_of_ble_eq_true rfl) (Nat.le_of_ble_eq_true rfl) ?_
  refine W.eq (g2 := F0 m 4 ls [.long r6]) rfl ?_
  refine lv_lstore_n (lv' := [(2, .long r6), (0, .ref (a 5)), (1, .int x)]) hx hb dX5_sign_4 rfl hl (by decide) rfl (fun ls hl => ?_)
  refine lv_aload_n hx hb dX5_sign_5 rfl (lv_at hl 1 rfl) ?_
  have hO : OKW G h0 a (upd (upd (upd (upd F 19 (nI tp7)) 23 en8) 25 rf9) 19 (nI tp7)) R Z B J10 T Pi w := hO.to rfl
  obtain ⟨_, qr15, hqr16⟩ := hO.2.1 28 _ (sg_28 G h0 a _ _ _ _ _)
  refine pc_V0 (G := G) (As := []) (rest := []) hx hb hml hown hq hE hX pX0_al hP hD hS hA hl.1 (M_pop l G h0 a (upd (upd (upd F 19 (nI tp7)) 23 en8) 25 rf9) R Z B J10 T Pi w tp7 (by omega) hO) (gV pw_598 pw_599 pw_600 pw_539 pw_595) hV_X5_pop qr15 4 hqr16 rfl rfl rfl (Nat.le_of_ble_eq_true rfl) dX5_sign_6 ⟨Nat.le_of_ble_eq_true rfl, Nat.le_of_ble_eq_true rfl⟩ ⟨Nat.le_of_ble_eq_true rfl, Nat.le_of_ble_eq_true rfl⟩ (fun v14 u12 H locs hw13 hP hD hS => ?_)
  obtain ⟨w, r17, tp18, en19, rf20, J21⟩ := u12
  obtain ⟨hw13, h22, hO⟩ := hw13
  have h22 : tp18 ≤ 32000 := h22
  obtain rfl : v14 = some (.long r17) := hw13
  have hO : OKW G h0 a (upd (upd (upd F 19 (nI tp18)) 23 en19) 25 rf20) R Z B J21 T Pi w := hO.to rfl
  refine W.widen (k := 0) (n := 0) (Nat.le_of_ble_eq_true rfl) (Nat.le_of_ble_eq_true rfl) ?_
  refine W.eq (g2 := F0 m 9 ls [.long r17]) rfl ?_
  refine lv_lstore (lv' := [(4, .long r17), (2, .long r6), (0, .ref (a 5)), (1, .int x)]) hx hb dX5_sign_9 hl (by decide) rfl (fun ls hl => ?_)
  refine lv_lload_n hx hb dX5_sign_11 rfl (lv_at hl 1 rfl) ?_
  refine lv_l2i hx hb dX5_sign_12 rfl ?_
  refine lv_topi (fun x23 e24 => ?_)
  refine lv_istore (lv' := [(6, .int x23), (4, .long r17), (2, .long r6), (0, .ref (a 5)), (1, .int x)]) hx hb dX5_sign_13 hl (by decide) rfl (fun ls hl => ?_)
  refine lv_lload hx hb dX5_sign_15 (lv_at hl 1 rfl) ?_
  refine lv_l2i hx hb dX5_sign_17 rfl ?_
  refine lv_topi (fun x25 e26 => ?_)
  refine lv_istore (lv' := [(7, .int x25), (6, .int x23), (4, .long r17), (2, .long r6), (0, .ref (a 5)), (1, .int x)]) hx hb dX5_sign_18 hl (by decide) rfl (fun ls hl => ?_)
  refine lv_iload_n hx hb dX5_sign_20 rfl (lv_at hl 5 rfl) ?_
  by_cases h27 : x = 47
  · subst h27
    refine lv_tableIn (tgt := 202) (off := 181) hx hb dX5_sign_21 (by decide) (by decide) (by decide) (by decide) ?_
    refine lv_aload_n hx hb dX5_sign_202 rfl (lv_at hl 4 rfl) ?_
    refine lv_iload_n hx hb dX5_sign_203 rfl (lv_at hl 5 rfl) ?_
    refine lv_bipush (v := 47) hx hb dX5_sign_204 (by decide) ?_
    refine lv_icmp_ne (tgt := 213) hx hb dX5_sign_206 (by decide) (fun c28 => absurd c28 (by decide)) (fun c28 => ?_)
    refine lv_iconst (v := 1) hx hb dX5_sign_209 (by decide) ?_
    refine lv_goto (tgt := 214) hx hb dX5_sign_210 (by decide) ?_
    refine lv_iload hx hb dX5_sign_214 (lv_at hl 0 rfl) ?_
    refine lv_iload hx hb dX5_sign_216 (lv_at hl 1 rfl) ?_
    have hO : OKW G h0 a (upd (upd (upd (upd F 19 (nI tp18)) 23 en19) 25 rf20) 19 (nI tp18)) R Z B J21 T Pi w := hO.to rfl
    obtain ⟨_, qr32, hqr33⟩ := hO.2.1 28 _ (sg_28 G h0 a _ _ _ _ _)
    refine pc_V0 (G := G) (As := [.int (nI 1), .int x25, .int x23]) (rest := []) hx hb hml hown hq hE hX pX0_al hP hD hS hA hl.1 (M_divide l G h0 a (upd (upd (upd F 19 (nI tp18)) 23 en19) 25 rf20) R Z B J21 T Pi w 1 x25 x23 tp18 (by omega) (by omega) hO) (gV pw_612 pw_613 pw_614 pw_539 pw_604) hV_X5_divide qr32 4 hqr33 rfl rfl rfl (Nat.le_of_ble_eq_true rfl) dX5_sign_218 ⟨Nat.le_of_ble_eq_true rfl, Nat.le_of_ble_eq_true rfl⟩ ⟨Nat.le_of_ble_eq_true rfl, Nat.le_of_ble_eq_true rfl⟩ (fun v31 u29 H locs hw30 hP hD hS => ?_)
    obtain ⟨w, tp34, en35, rf36, J37, z38⟩ := u29
    obtain ⟨hw30, h39, hO⟩ := hw30
    have h39 : tp34 ≤ 32000 := h39
    obtain rfl : v31 = none := hw30
    have hO : OKW G h0 a (upd (upd (upd F 19 (nI tp34)) 23 en35) 25 rf36) R z38 B J37 T Pi w := hO.to rfl
    refine W.widen (k := 0) (n := 0) (Nat.le_of_ble_eq_true rfl) (Nat.le_of_ble_eq_true rfl) ?_
    refine W.eq (g2 := F0 m 221 ls []) rfl ?_
    refine lv_goto (tgt := 237) hx hb dX5_sign_221 (by decide) ?_
    have hz40 : tp34 ≤ 32000 := (by omega)
    have hO : OKW G h0 a (upd (upd (upd F 19 (nI tp34)) 23 en35) 25 rf36) R z38 B J37 T Pi w := hO.to rfl
    exact W.vret hx hb hr (fun t99 ht99 hW99 => ⟨⟨_, (w, (tp34, en35, rf36, J37, z38)), rfl, ⟨rfl, hz40, hO⟩, by rw [ht99]; exact hP, hD⟩, hS.F ht99⟩) hS.2.2 dX5_sign_237
  by_cases h41 : x = 48
  · subst h41
    refine lv_tableIn (tgt := 202) (off := 181) hx hb dX5_sign_21 (by decide) (by decide) (by decide) (by decide) ?_
    refine lv_aload_n hx hb dX5_sign_202 rfl (lv_at hl 4 rfl) ?_
    refine lv_iload_n hx hb dX5_sign_203 rfl (lv_at hl 5 rfl) ?_
    refine lv_bipush (v := 47) hx hb dX5_sign_204 (by decide) ?_
    refine lv_icmp_ne (tgt := 213) hx hb dX5_sign_206 (by decide) (fun c42 => ?_) (fun c42 => absurd c42 (by decide))
    refine lv_iconst (v := 0) hx hb dX5_sign_213 (by decide) ?_
    refine lv_iload hx hb dX5_sign_214 (lv_at hl 0 rfl) ?_
    refine lv_iload hx hb dX5_sign_216 (lv_at hl 1 rfl) ?_
    have hO : OKW G h0 a (upd (upd (upd (upd F 19 (nI tp18)) 23 en19) 25 rf20) 19 (nI tp18)) R Z B J21 T Pi w := hO.to rfl
    obtain ⟨_, qr46, hqr47⟩ := hO.2.1 28 _ (sg_28 G h0 a _ _ _ _ _)
    refine pc_V0 (G := G) (As := [.int (nI 0), .int x25, .int x23]) (rest := []) hx hb hml hown hq hE hX pX0_al hP hD hS hA hl.1 (M_divide l G h0 a (upd (upd (upd F 19 (nI tp18)) 23 en19) 25 rf20) R Z B J21 T Pi w 0 x25 x23 tp18 (by omega) (by omega) hO) (gV pw_612 pw_613 pw_614 pw_539 pw_604) hV_X5_divide qr46 4 hqr47 rfl rfl rfl (Nat.le_of_ble_eq_true rfl) dX5_sign_218 ⟨Nat.le_of_ble_eq_true rfl, Nat.le_of_ble_eq_true rfl⟩ ⟨Nat.le_of_ble_eq_true rfl, Nat.le_of_ble_eq_true rfl⟩ (fun v45 u43 H locs hw44 hP hD hS => ?_)
    obtain ⟨w, tp48, en49, rf50, J51, z52⟩ := u43
    obtain ⟨hw44, h53, hO⟩ := hw44
    have h53 : tp48 ≤ 32000 := h53
    obtain rfl : v45 = none := hw44
    have hO : OKW G h0 a (upd (upd (upd F 19 (nI tp48)) 23 en49) 25 rf50) R z52 B J51 T Pi w := hO.to rfl
    refine W.widen (k := 0) (n := 0) (Nat.le_of_ble_eq_true rfl) (Nat.le_of_ble_eq_true rfl) ?_
    refine W.eq (g2 := F0 m 221 ls []) rfl ?_
    refine lv_goto (tgt := 237) hx hb dX5_sign_221 (by decide) ?_
    have hz54 : tp48 ≤ 32000 := (by omega)
    have hO : OKW G h0 a (upd (upd (upd F 19 (nI tp48)) 23 en49) 25 rf50) R z52 B J51 T Pi w := hO.to rfl
    exact W.vret hx hb hr (fun t99 ht99 hW99 => ⟨⟨_, (w, (tp48, en49, rf50, J51, z52)), rfl, ⟨rfl, hz54, hO⟩, by rw [ht99]; exact hP, hD⟩, hS.F ht99⟩) hS.2.2 dX5_sign_237
  by_cases h55 : x = 49
  · subst h55
    refine lv_tableIn (tgt := 224) (off := 203) hx hb dX5_sign_21 (by decide) (by decide) (by decide) (by decide) ?_
    refine lv_aload_n hx hb dX5_sign_224 rfl (lv_at hl 4 rfl) ?_
    refine lv_aload_n hx hb dX5_sign_225 rfl (lv_at hl 4 rfl) ?_
    refine lv_iload_n hx hb dX5_sign_226 rfl (lv_at hl 5 rfl) ?_
    refine lv_iload hx hb dX5_sign_227 (lv_at hl 0 rfl) ?_
    refine lv_iload hx hb dX5_sign_229 (lv_at hl 1 rfl) ?_
    have hO : OKW G h0 a (upd (upd (upd F 19 (nI tp18)) 23 en19) 25 rf20) R Z B J21 T Pi w := hO.to rfl
    obtain ⟨_, qr59, hqr60⟩ := hO.2.1 28 _ (sg_28 G h0 a _ _ _ _ _)
    refine pc_V0 (G := G) (As := [.int 49, .int x25, .int x23]) (rest := [.ref (a 5)]) hx hb hml hown hq hE hX pX0_al hP hD hS hA hl.1 (M_combined l G h0 a (upd (upd (upd F 19 (nI tp18)) 23 en19) 25 rf20) R Z B J21 T Pi w 49 x25 x23 hO) (gV pw_615 pw_616 pw_617 pw_539 pw_608) hV_X5_combined qr59 4 hqr60 rfl rfl rfl (Nat.le_of_ble_eq_true rfl) dX5_sign_231 ⟨Nat.le_of_ble_eq_true rfl, Nat.le_of_ble_eq_true rfl⟩ ⟨Nat.le_of_ble_eq_true rfl, Nat.le_of_ble_eq_true rfl⟩ (fun v58 u56 H locs hw57 hP hD hS => ?_)
    obtain ⟨w, r61, en62, rf63⟩ := u56
    obtain ⟨hw57, hO⟩ := hw57
    obtain rfl : v58 = some (.int r61) := hw57
    have hO : OKW G h0 a (upd (upd (upd F 19 (nI tp18)) 23 en62) 25 rf63) R Z B J21 T Pi w := hO.to rfl
    refine W.widen (k := 0) (n := 0) (Nat.le_of_ble_eq_true rfl) (Nat.le_of_ble_eq_true rfl) ?_
    refine W.eq (g2 := F0 m 234 ls [.int r61, .ref (a 5)]) rfl ?_
    have hO : OKW G h0 a (upd (upd (upd (upd F 19 (nI tp18)) 23 en62) 25 rf63) 19 (nI tp18)) R Z B J21 T Pi w := hO.to rfl
    obtain ⟨_, qr67, hqr68⟩ := hO.2.1 28 _ (sg_28 G h0 a _ _ _ _ _)
    refine pc_V0 (G := G) (As := [.int r61]) (rest := []) hx hb hml hown hq hE hX pX0_al hP hD hS hA hl.1 (M_pushNumber l G h0 a (upd (upd (upd F 19 (nI tp18)) 23 en62) 25 rf63) R Z B J21 T Pi w r61 tp18 (by omega) hO) (gV pw_605 pw_606 pw_607 pw_539 pw_602) hV_X5_pushNumber qr67 4 hqr68 rfl rfl rfl (Nat.le_of_ble_eq_true rfl) dX5_sign_234 ⟨Nat.le_of_ble_eq_true rfl, Nat.le_of_ble_eq_true rfl⟩ ⟨Nat.le_of_ble_eq_true rfl, Nat.le_of_ble_eq_true rfl⟩ (fun v66 u64 H locs hw65 hP hD hS => ?_)
    obtain ⟨w, tp69, en70, rf71, J72⟩ := u64
    obtain ⟨hw65, h73, hO⟩ := hw65
    have h73 : tp69 ≤ 32000 := h73
    obtain rfl : v66 = none := hw65
    have hO : OKW G h0 a (upd (upd (upd F 19 (nI tp69)) 23 en70) 25 rf71) R Z B J72 T Pi w := hO.to rfl
    refine W.widen (k := 0) (n := 0) (Nat.le_of_ble_eq_true rfl) (Nat.le_of_ble_eq_true rfl) ?_
    refine W.eq (g2 := F0 m 237 ls []) rfl ?_
    have hz74 : tp69 ≤ 32000 := (by omega)
    have hO : OKW G h0 a (upd (upd (upd F 19 (nI tp69)) 23 en70) 25 rf71) R Z B J72 T Pi w := hO.to rfl
    exact W.vret hx hb hr (fun t99 ht99 hW99 => ⟨⟨_, (w, (tp69, en70, rf71, J72, Z)), rfl, ⟨rfl, hz74, hO⟩, by rw [ht99]; exact hP, hD⟩, hS.F ht99⟩) hS.2.2 dX5_sign_237
  by_cases h75 : x = 50
  · subst h75
    refine lv_tableIn (tgt := 224) (off := 203) hx hb dX5_sign_21 (by decide) (by decide) (by decide) (by decide) ?_
    refine lv_aload_n hx hb dX5_sign_224 rfl (lv_at hl 4 rfl) ?_
    refine lv_aload_n hx hb dX5_sign_225 rfl (lv_at hl 4 rfl) ?_
    refine lv_iload_n hx hb dX5_sign_226 rfl (lv_at hl 5 rfl) ?_
    refine lv_iload hx hb dX5_sign_227 (lv_at hl 0 rfl) ?_
    refine lv_iload hx hb dX5_sign_229 (lv_at hl 1 rfl) ?_
    have hO : OKW G h0 a (upd (upd (upd F 19 (nI tp18)) 23 en19) 25 rf20) R Z B J21 T Pi w := hO.to rfl
    obtain ⟨_, qr79, hqr80⟩ := hO.2.1 28 _ (sg_28 G h0 a _ _ _ _ _)
    refine pc_V0 (G := G) (As := [.int 50, .int x25, .int x23]) (rest := [.ref (a 5)]) hx hb hml hown hq hE hX pX0_al hP hD hS hA hl.1 (M_combined l G h0 a (upd (upd (upd F 19 (nI tp18)) 23 en19) 25 rf20) R Z B J21 T Pi w 50 x25 x23 hO) (gV pw_615 pw_616 pw_617 pw_539 pw_608) hV_X5_combined qr79 4 hqr80 rfl rfl rfl (Nat.le_of_ble_eq_true rfl) dX5_sign_231 ⟨Nat.le_of_ble_eq_true rfl, Nat.le_of_ble_eq_true rfl⟩ ⟨Nat.le_of_ble_eq_true rfl, Nat.le_of_ble_eq_true rfl⟩ (fun v78 u76 H locs hw77 hP hD hS => ?_)
    obtain ⟨w, r81, en82, rf83⟩ := u76
    obtain ⟨hw77, hO⟩ := hw77
    obtain rfl : v78 = some (.int r81) := hw77
    have hO : OKW G h0 a (upd (upd (upd F 19 (nI tp18)) 23 en82) 25 rf83) R Z B J21 T Pi w := hO.to rfl
    refine W.widen (k := 0) (n := 0) (Nat.le_of_ble_eq_true rfl) (Nat.le_of_ble_eq_true rfl) ?_
    refine W.eq (g2 := F0 m 234 ls [.int r81, .ref (a 5)]) rfl ?_
    have hO : OKW G h0 a (upd (upd (upd (upd F 19 (nI tp18)) 23 en82) 25 rf83) 19 (nI tp18)) R Z B J21 T Pi w := hO.to rfl
    obtain ⟨_, qr87, hqr88⟩ := hO.2.1 28 _ (sg_28 G h0 a _ _ _ _ _)
    refine pc_V0 (G := G) (As := [.int r81]) (rest := []) hx hb hml hown hq hE hX pX0_al hP hD hS hA hl.1 (M_pushNumber l G h0 a (upd (upd (upd F 19 (nI tp18)) 23 en82) 25 rf83) R Z B J21 T Pi w r81 tp18 (by omega) hO) (gV pw_605 pw_606 pw_607 pw_539 pw_602) hV_X5_pushNumber qr87 4 hqr88 rfl rfl rfl (Nat.le_of_ble_eq_true rfl) dX5_sign_234 ⟨Nat.le_of_ble_eq_true rfl, Nat.le_of_ble_eq_true rfl⟩ ⟨Nat.le_of_ble_eq_true rfl, Nat.le_of_ble_eq_true rfl⟩ (fun v86 u84 H locs hw85 hP hD hS => ?_)
    obtain ⟨w, tp89, en90, rf91, J92⟩ := u84
    obtain ⟨hw85, h93, hO⟩ := hw85
    have h93 : tp89 ≤ 32000 := h93
    obtain rfl : v86 = none := hw85
    have hO : OKW G h0 a (upd (upd (upd F 19 (nI tp89)) 23 en90) 25 rf91) R Z B J92 T Pi w := hO.to rfl
    refine W.widen (k := 0) (n := 0) (Nat.le_of_ble_eq_true rfl) (Nat.le_of_ble_eq_true rfl) ?_
    refine W.eq (g2 := F0 m 237 ls []) rfl ?_
    have hz94 : tp89 ≤ 32000 := (by omega)
    have hO : OKW G h0 a (upd (upd (upd F 19 (nI tp89)) 23 en90) 25 rf91) R Z B J92 T Pi w := hO.to rfl
    exact W.vret hx hb hr (fun t99 ht99 hW99 => ⟨⟨_, (w, (tp89, en90, rf91, J92, Z)), rfl, ⟨rfl, hz94, hO⟩, by rw [ht99]; exact hP, hD⟩, hS.F ht99⟩) hS.2.2 dX5_sign_237
  by_cases h95 : x = 51
  · subst h95
    refine lv_tableIn (tgt := 224) (off := 203) hx hb dX5_sign_21 (by decide) (by decide) (by decide) (by decide) ?_
    refine lv_aload_n hx hb dX5_sign_224 rfl (lv_at hl 4 rfl) ?_
    refine lv_aload_n hx hb dX5_sign_225 rfl (lv_at hl 4 rfl) ?_
    refine lv_iload_n hx hb dX5_sign_226 rfl (lv_at hl 5 rfl) ?_
    refine lv_iload hx hb dX5_sign_227 (lv_at hl 0 rfl) ?_
    refine lv_iload hx hb dX5_sign_229 (lv_at hl 1 rfl) ?_
    have hO : OKW G h0 a (upd (upd (upd F 19 (nI tp18)) 23 en19) 25 rf20) R Z B J21 T Pi w := hO.to rfl
    obtain ⟨_, qr99, hqr100⟩ := hO.2.1 28 _ (sg_28 G h0 a _ _ _ _ _)
    refine pc_V0 (G := G) (As := [.int 51, .int x25, .int x23]) (rest := [.ref (a 5)]) hx hb hml hown hq hE hX pX0_al hP hD hS hA hl.1 (M_combined l G h0 a (upd (upd (upd F 19 (nI tp18)) 23 en19) 25 rf20) R Z B J21 T Pi w 51 x25 x23 hO) (gV pw_615 pw_616 pw_617 pw_539 pw_608) hV_X5_combined qr99 4 hqr100 rfl rfl rfl (Nat.le_of_ble_eq_true rfl) dX5_sign_231 ⟨Nat.le_of_ble_eq_true rfl, Nat.le_of_ble_eq_true rfl⟩ ⟨Nat.le_of_ble_eq_true rfl, Nat.le_of_ble_eq_true rfl⟩ (fun v98 u96 H locs hw97 hP hD hS => ?_)
    obtain ⟨w, r101, en102, rf103⟩ := u96
    obtain ⟨hw97, hO⟩ := hw97
    obtain rfl : v98 = some (.int r101) := hw97
    have hO : OKW G h0 a (upd (upd (upd F 19 (nI tp18)) 23 en102) 25 rf103) R Z B J21 T Pi w := hO.to rfl
    refine W.widen (k := 0) (n := 0) (Nat.le_of_ble_eq_true rfl) (Nat.le_of_ble_eq_true rfl) ?_
    refine W.eq (g2 := F0 m 234 ls [.int r101, .ref (a 5)]) rfl ?_
    have hO : OKW G h0 a (upd (upd (upd (upd F 19 (nI tp18)) 23 en102) 25 rf103) 19 (nI tp18)) R Z B J21 T Pi w := hO.to rfl
    obtain ⟨_, qr107, hqr108⟩ := hO.2.1 28 _ (sg_28 G h0 a _ _ _ _ _)
    refine pc_V0 (G := G) (As := [.int r101]) (rest := []) hx hb hml hown hq hE hX pX0_al hP hD hS hA hl.1 (M_pushNumber l G h0 a (upd (upd (upd F 19 (nI tp18)) 23 en102) 25 rf103) R Z B J21 T Pi w r101 tp18 (by omega) hO) (gV pw_605 pw_606 pw_607 pw_539 pw_602) hV_X5_pushNumber qr107 4 hqr108 rfl rfl rfl (Nat.le_of_ble_eq_true rfl) dX5_sign_234 ⟨Nat.le_of_ble_eq_true rfl, Nat.le_of_ble_eq_true rfl⟩ ⟨Nat.le_of_ble_eq_true rfl, Nat.le_of_ble_eq_true rfl⟩ (fun v106 u104 H locs hw105 hP hD hS => ?_)
    obtain ⟨w, tp109, en110, rf111, J112⟩ := u104
    obtain ⟨hw105, h113, hO⟩ := hw105
    have h113 : tp109 ≤ 32000 := h113
    obtain rfl : v106 = none := hw105
    have hO : OKW G h0 a (upd (upd (upd F 19 (nI tp109)) 23 en110) 25 rf111) R Z B J112 T Pi w := hO.to rfl
    refine W.widen (k := 0) (n := 0) (Nat.le_of_ble_eq_true rfl) (Nat.le_of_ble_eq_true rfl) ?_
    refine W.eq (g2 := F0 m 237 ls []) rfl ?_
    have hz114 : tp109 ≤ 32000 := (by omega)
    have hO : OKW G h0 a (upd (upd (upd F 19 (nI tp109)) 23 en110) 25 rf111) R Z B J112 T Pi w := hO.to rfl
    exact W.vret hx hb hr (fun t99 ht99 hW99 => ⟨⟨_, (w, (tp109, en110, rf111, J112, Z)), rfl, ⟨rfl, hz114, hO⟩, by rw [ht99]; exact hP, hD⟩, hS.F ht99⟩) hS.2.2 dX5_sign_237
  by_cases h115 : x = 52
  · subst h115
    refine lv_tableIn (tgt := 224) (off := 203) hx hb dX5_sign_21 (by decide) (by decide) (by decide) (by decide) ?_
    refine lv_aload_n hx hb dX5_sign_224 rfl (lv_at hl 4 rfl) ?_
    refine lv_aload_n hx hb dX5_sign_225 rfl (lv_at hl 4 rfl) ?_
    refine lv_iload_n hx hb dX5_sign_226 rfl (lv_at hl 5 rfl) ?_
    refine lv_iload hx hb dX5_sign_227 (lv_at hl 0 rfl) ?_
    refine lv_iload hx hb dX5_sign_229 (lv_at hl 1 rfl) ?_
    have hO : OKW G h0 a (upd (upd (upd F 19 (nI tp18)) 23 en19) 25 rf20) R Z B J21 T Pi w := hO.to rfl
    obtain ⟨_, qr119, hqr120⟩ := hO.2.1 28 _ (sg_28 G h0 a _ _ _ _ _)
    refine pc_V0 (G := G) (As := [.int 52, .int x25, .int x23]) (rest := [.ref (a 5)]) hx hb hml hown hq hE hX pX0_al hP hD hS hA hl.1 (M_combined l G h0 a (upd (upd (upd F 19 (nI tp18)) 23 en19) 25 rf20) R Z B J21 T Pi w 52 x25 x23 hO) (gV pw_615 pw_616 pw_617 pw_539 pw_608) hV_X5_combined qr119 4 hqr120 rfl rfl rfl (Nat.le_of_ble_eq_true rfl) dX5_sign_231 ⟨Nat.le_of_ble_eq_true rfl, Nat.le_of_ble_eq_true rfl⟩ ⟨Nat.le_of_ble_eq_true rfl, Nat.le_of_ble_eq_true rfl⟩ (fun v118 u116 H locs hw117 hP hD hS => ?_)
    obtain ⟨w, r121, en122, rf123⟩ := u116
    obtain ⟨hw117, hO⟩ := hw117
    obtain rfl : v118 = some (.int r121) := hw117
    have hO : OKW G h0 a (upd (upd (upd F 19 (nI tp18)) 23 en122) 25 rf123) R Z B J21 T Pi w := hO.to rfl
    refine W.widen (k := 0) (n := 0) (Nat.le_of_ble_eq_true rfl) (Nat.le_of_ble_eq_true rfl) ?_
    refine W.eq (g2 := F0 m 234 ls [.int r121, .ref (a 5)]) rfl ?_
    have hO : OKW G h0 a (upd (upd (upd (upd F 19 (nI tp18)) 23 en122) 25 rf123) 19 (nI tp18)) R Z B J21 T Pi w := hO.to rfl
    obtain ⟨_, qr127, hqr128⟩ := hO.2.1 28 _ (sg_28 G h0 a _ _ _ _ _)
    refine pc_V0 (G := G) (As := [.int r121]) (rest := []) hx hb hml hown hq hE hX pX0_al hP hD hS hA hl.1 (M_pushNumber l G h0 a (upd (upd (upd F 19 (nI tp18)) 23 en122) 25 rf123) R Z B J21 T Pi w r121 tp18 (by omega) hO) (gV pw_605 pw_606 pw_607 pw_539 pw_602) hV_X5_pushNumber qr127 4 hqr128 rfl rfl rfl (Nat.le_of_ble_eq_true rfl) dX5_sign_234 ⟨Nat.le_of_ble_eq_true rfl, Nat.le_of_ble_eq_true rfl⟩ ⟨Nat.le_of_ble_eq_true rfl, Nat.le_of_ble_eq_true rfl⟩ (fun v126 u124 H locs hw125 hP hD hS => ?_)
    obtain ⟨w, tp129, en130, rf131, J132⟩ := u124
    obtain ⟨hw125, h133, hO⟩ := hw125
    have h133 : tp129 ≤ 32000 := h133
    obtain rfl : v126 = none := hw125
    have hO : OKW G h0 a (upd (upd (upd F 19 (nI tp129)) 23 en130) 25 rf131) R Z B J132 T Pi w := hO.to rfl
    refine W.widen (k := 0) (n := 0) (Nat.le_of_ble_eq_true rfl) (Nat.le_of_ble_eq_true rfl) ?_
    refine W.eq (g2 := F0 m 237 ls []) rfl ?_
    have hz134 : tp129 ≤ 32000 := (by omega)
    have hO : OKW G h0 a (upd (upd (upd F 19 (nI tp129)) 23 en130) 25 rf131) R Z B J132 T Pi w := hO.to rfl
    exact W.vret hx hb hr (fun t99 ht99 hW99 => ⟨⟨_, (w, (tp129, en130, rf131, J132, Z)), rfl, ⟨rfl, hz134, hO⟩, by rw [ht99]; exact hP, hD⟩, hS.F ht99⟩) hS.2.2 dX5_sign_237
  by_cases h135 : x = 53
  · subst h135
    refine lv_tableIn (tgt := 224) (off := 203) hx hb dX5_sign_21 (by decide) (by decide) (by decide) (by decide) ?_
    refine lv_aload_n hx hb dX5_sign_224 rfl (lv_at hl 4 rfl) ?_
    refine lv_aload_n hx hb dX5_sign_225 rfl (lv_at hl 4 rfl) ?_
    refine lv_iload_n hx hb dX5_sign_226 rfl (lv_at hl 5 rfl) ?_
    refine lv_iload hx hb dX5_sign_227 (lv_at hl 0 rfl) ?_
    refine lv_iload hx hb dX5_sign_229 (lv_at hl 1 rfl) ?_
    have hO : OKW G h0 a (upd (upd (upd F 19 (nI tp18)) 23 en19) 25 rf20) R Z B J21 T Pi w := hO.to rfl
    obtain ⟨_, qr139, hqr140⟩ := hO.2.1 28 _ (sg_28 G h0 a _ _ _ _ _)
    refine pc_V0 (G := G) (As := [.int 53, .int x25, .int x23]) (rest := [.ref (a 5)]) hx hb hml hown hq hE hX pX0_al hP hD hS hA hl.1 (M_combined l G h0 a (upd (upd (upd F 19 (nI tp18)) 23 en19) 25 rf20) R Z B J21 T Pi w 53 x25 x23 hO) (gV pw_615 pw_616 pw_617 pw_539 pw_608) hV_X5_combined qr139 4 hqr140 rfl rfl rfl (Nat.le_of_ble_eq_true rfl) dX5_sign_231 ⟨Nat.le_of_ble_eq_true rfl, Nat.le_of_ble_eq_true rfl⟩ ⟨Nat.le_of_ble_eq_true rfl, Nat.le_of_ble_eq_true rfl⟩ (fun v138 u136 H locs hw137 hP hD hS => ?_)
    obtain ⟨w, r141, en142, rf143⟩ := u136
    obtain ⟨hw137, hO⟩ := hw137
    obtain rfl : v138 = some (.int r141) := hw137
    have hO : OKW G h0 a (upd (upd (upd F 19 (nI tp18)) 23 en142) 25 rf143) R Z B J21 T Pi w := hO.to rfl
    refine W.widen (k := 0) (n := 0) (Nat.le_of_ble_eq_true rfl) (Nat.le_of_ble_eq_true rfl) ?_
    refine W.eq (g2 := F0 m 234 ls [.int r141, .ref (a 5)]) rfl ?_
    have hO : OKW G h0 a (upd (upd (upd (upd F 19 (nI tp18)) 23 en142) 25 rf143) 19 (nI tp18)) R Z B J21 T Pi w := hO.to rfl
    obtain ⟨_, qr147, hqr148⟩ := hO.2.1 28 _ (sg_28 G h0 a _ _ _ _ _)
    refine pc_V0 (G := G) (As := [.int r141]) (rest := []) hx hb hml hown hq hE hX pX0_al hP hD hS hA hl.1 (M_pushNumber l G h0 a (upd (upd (upd F 19 (nI tp18)) 23 en142) 25 rf143) R Z B J21 T Pi w r141 tp18 (by omega) hO) (gV pw_605 pw_606 pw_607 pw_539 pw_602) hV_X5_pushNumber qr147 4 hqr148 rfl rfl rfl (Nat.le_of_ble_eq_true rfl) dX5_sign_234 ⟨Nat.le_of_ble_eq_true rfl, Nat.le_of_ble_eq_true rfl⟩ ⟨Nat.le_of_ble_eq_true rfl, Nat.le_of_ble_eq_true rfl⟩ (fun v146 u144 H locs hw145 hP hD hS => ?_)
    obtain ⟨w, tp149, en150, rf151, J152⟩ := u144
    obtain ⟨hw145, h153, hO⟩ := hw145
    have h153 : tp149 ≤ 32000 := h153
    obtain rfl : v146 = none := hw145
    have hO : OKW G h0 a (upd (upd (upd F 19 (nI tp149)) 23 en150) 25 rf151) R Z B J152 T Pi w := hO.to rfl
    refine W.widen (k := 0) (n := 0) (Nat.le_of_ble_eq_true rfl) (Nat.le_of_ble_eq_true rfl) ?_
    refine W.eq (g2 := F0 m 237 ls []) rfl ?_
    have hz154 : tp149 ≤ 32000 := (by omega)
    have hO : OKW G h0 a (upd (upd (upd F 19 (nI tp149)) 23 en150) 25 rf151) R Z B J152 T Pi w := hO.to rfl
    exact W.vret hx hb hr (fun t99 ht99 hW99 => ⟨⟨_, (w, (tp149, en150, rf151, J152, Z)), rfl, ⟨rfl, hz154, hO⟩, by rw [ht99]; exact hP, hD⟩, hS.F ht99⟩) hS.2.2 dX5_sign_237
  by_cases h155 : x = 54
  · subst h155
    refine lv_tableIn (tgt := 126) (off := 105) hx hb dX5_sign_21 (by decide) (by decide) (by decide) (by decide) ?_
    refine lv_aload_n hx hb dX5_sign_126 rfl (lv_at hl 4 rfl) ?_
    refine lv_iload hx hb dX5_sign_127 (lv_at hl 0 rfl) ?_
    refine lv_iload hx hb dX5_sign_129 (lv_at hl 1 rfl) ?_
    refine lv_icmp_ge (tgt := 138) hx hb dX5_sign_131 (by decide) (fun c156 => ?_) (fun c156 => ?_)
    · refine lv_iconst (v := 0) hx hb dX5_sign_138 (by decide) ?_
      have hO : OKW G h0 a (upd (upd (upd (upd F 19 (nI tp18)) 23 en19) 25 rf20) 19 (nI tp18)) R Z B J21 T Pi w := hO.to rfl
      obtain ⟨_, qr160, hqr161⟩ := hO.2.1 28 _ (sg_28 G h0 a _ _ _ _ _)
      refine pc_V0 (G := G) (As := [.int (nI 0)]) (rest := []) hx hb hml hown hq hE hX pX0_al hP hD hS hA hl.1 (M_pushTruth l G h0 a (upd (upd (upd F 19 (nI tp18)) 23 en19) 25 rf20) R Z B J21 T Pi w 0 tp18 (by omega) (by omega) hO) (gV pw_609 pw_610 pw_611 pw_539 pw_601) hV_X5_pushTruth qr160 4 hqr161 rfl rfl rfl (Nat.le_of_ble_eq_true rfl) dX5_sign_139 ⟨Nat.le_of_ble_eq_true rfl, Nat.le_of_ble_eq_true rfl⟩ ⟨Nat.le_of_ble_eq_true rfl, Nat.le_of_ble_eq_true rfl⟩ (fun v159 u157 H locs hw158 hP hD hS => ?_)
      obtain ⟨w, tp162, en163, rf164, J165⟩ := u157
      obtain ⟨hw158, h166, hO⟩ := hw158
      have h166 : tp162 ≤ 32000 := h166
      obtain rfl : v159 = none := hw158
      have hO : OKW G h0 a (upd (upd (upd F 19 (nI tp162)) 23 en163) 25 rf164) R Z B J165 T Pi w := hO.to rfl
      refine W.widen (k := 0) (n := 0) (Nat.le_of_ble_eq_true rfl) (Nat.le_of_ble_eq_true rfl) ?_
      refine W.eq (g2 := F0 m 142 ls []) rfl ?_
      refine lv_goto (tgt := 237) hx hb dX5_sign_142 (by decide) ?_
      have hz167 : tp162 ≤ 32000 := (by omega)
      have hO : OKW G h0 a (upd (upd (upd F 19 (nI tp162)) 23 en163) 25 rf164) R Z B J165 T Pi w := hO.to rfl
      exact W.vret hx hb hr (fun t99 ht99 hW99 => ⟨⟨_, (w, (tp162, en163, rf164, J165, Z)), rfl, ⟨rfl, hz167, hO⟩, by rw [ht99]; exact hP, hD⟩, hS.F ht99⟩) hS.2.2 dX5_sign_237
    · refine lv_iconst (v := 1) hx hb dX5_sign_134 (by decide) ?_
      refine lv_goto (tgt := 139) hx hb dX5_sign_135 (by decide) ?_
      have hO : OKW G h0 a (upd (upd (upd (upd F 19 (nI tp18)) 23 en19) 25 rf20) 19 (nI tp18)) R Z B J21 T Pi w := hO.to rfl
      obtain ⟨_, qr171, hqr172⟩ := hO.2.1 28 _ (sg_28 G h0 a _ _ _ _ _)
      refine pc_V0 (G := G) (As := [.int (nI 1)]) (rest := []) hx hb hml hown hq hE hX pX0_al hP hD hS hA hl.1 (M_pushTruth l G h0 a (upd (upd (upd F 19 (nI tp18)) 23 en19) 25 rf20) R Z B J21 T Pi w 1 tp18 (by omega) (by omega) hO) (gV pw_609 pw_610 pw_611 pw_539 pw_601) hV_X5_pushTruth qr171 4 hqr172 rfl rfl rfl (Nat.le_of_ble_eq_true rfl) dX5_sign_139 ⟨Nat.le_of_ble_eq_true rfl, Nat.le_of_ble_eq_true rfl⟩ ⟨Nat.le_of_ble_eq_true rfl, Nat.le_of_ble_eq_true rfl⟩ (fun v170 u168 H locs hw169 hP hD hS => ?_)
      obtain ⟨w, tp173, en174, rf175, J176⟩ := u168
      obtain ⟨hw169, h177, hO⟩ := hw169
      have h177 : tp173 ≤ 32000 := h177
      obtain rfl : v170 = none := hw169
      have hO : OKW G h0 a (upd (upd (upd F 19 (nI tp173)) 23 en174) 25 rf175) R Z B J176 T Pi w := hO.to rfl
      refine W.widen (k := 0) (n := 0) (Nat.le_of_ble_eq_true rfl) (Nat.le_of_ble_eq_true rfl) ?_
      refine W.eq (g2 := F0 m 142 ls []) rfl ?_
      refine lv_goto (tgt := 237) hx hb dX5_sign_142 (by decide) ?_
      have hz178 : tp173 ≤ 32000 := (by omega)
      have hO : OKW G h0 a (upd (upd (upd F 19 (nI tp173)) 23 en174) 25 rf175) R Z B J176 T Pi w := hO.to rfl
      exact W.vret hx hb hr (fun t99 ht99 hW99 => ⟨⟨_, (w, (tp173, en174, rf175, J176, Z)), rfl, ⟨rfl, hz178, hO⟩, by rw [ht99]; exact hP, hD⟩, hS.F ht99⟩) hS.2.2 dX5_sign_237
  by_cases h179 : x = 55
  · subst h179
    refine lv_tableIn (tgt := 164) (off := 143) hx hb dX5_sign_21 (by decide) (by decide) (by decide) (by decide) ?_
    refine lv_aload_n hx hb dX5_sign_164 rfl (lv_at hl 4 rfl) ?_
    refine lv_iload hx hb dX5_sign_165 (lv_at hl 0 rfl) ?_
    refine lv_iload hx hb dX5_sign_167 (lv_at hl 1 rfl) ?_
    refine lv_icmp_le (tgt := 176) hx hb dX5_sign_169 (by decide) (fun c180 => ?_) (fun c180 => ?_)
    · refine lv_iconst (v := 0) hx hb dX5_sign_176 (by decide) ?_
      have hO : OKW G h0 a (upd (upd (upd (upd F 19 (nI tp18)) 23 en19) 25 rf20) 19 (nI tp18)) R Z B J21 T Pi w := hO.to rfl
      obtain ⟨_, qr184, hqr185⟩ := hO.2.1 28 _ (sg_28 G h0 a _ _ _ _ _)
      refine pc_V0 (G := G) (As := [.int (nI 0)]) (rest := []) hx hb hml hown hq hE hX pX0_al hP hD hS hA hl.1 (M_pushTruth l G h0 a (upd (upd (upd F 19 (nI tp18)) 23 en19) 25 rf20) R Z B J21 T Pi w 0 tp18 (by omega) (by omega) hO) (gV pw_609 pw_610 pw_611 pw_539 pw_601) hV_X5_pushTruth qr184 4 hqr185 rfl rfl rfl (Nat.le_of_ble_eq_true rfl) dX5_sign_177 ⟨Nat.le_of_ble_eq_true rfl, Nat.le_of_ble_eq_true rfl⟩ ⟨Nat.le_of_ble_eq_true rfl, Nat.le_of_ble_eq_true rfl⟩ (fun v183 u181 H locs hw182 hP hD hS => ?_)
      obtain ⟨w, tp186, en187, rf188, J189⟩ := u181
      obtain ⟨hw182, h190, hO⟩ := hw182
      have h190 : tp186 ≤ 32000 := h190
      obtain rfl : v183 = none := hw182
      have hO : OKW G h0 a (upd (upd (upd F 19 (nI tp186)) 23 en187) 25 rf188) R Z B J189 T Pi w := hO.to rfl
      refine W.widen (k := 0) (n := 0) (Nat.le_of_ble_eq_true rfl) (Nat.le_of_ble_eq_true rfl) ?_
      refine W.eq (g2 := F0 m 180 ls []) rfl ?_
      refine lv_goto (tgt := 237) hx hb dX5_sign_180 (by decide) ?_
      have hz191 : tp186 ≤ 32000 := (by omega)
      have hO : OKW G h0 a (upd (upd (upd F 19 (nI tp186)) 23 en187) 25 rf188) R Z B J189 T Pi w := hO.to rfl
      exact W.vret hx hb hr (fun t99 ht99 hW99 => ⟨⟨_, (w, (tp186, en187, rf188, J189, Z)), rfl, ⟨rfl, hz191, hO⟩, by rw [ht99]; exact hP, hD⟩, hS.F ht99⟩) hS.2.2 dX5_sign_237
    · refine lv_iconst (v := 1) hx hb dX5_sign_172 (by decide) ?_
      refine lv_goto (tgt := 177) hx hb dX5_sign_173 (by decide) ?_
      have hO : OKW G h0 a (upd (upd (upd (upd F 19 (nI tp18)) 23 en19) 25 rf20) 19 (nI tp18)) R Z B J21 T Pi w := hO.to rfl
      obtain ⟨_, qr195, hqr196⟩ := hO.2.1 28 _ (sg_28 G h0 a _ _ _ _ _)
      refine pc_V0 (G := G) (As := [.int (nI 1)]) (rest := []) hx hb hml hown hq hE hX pX0_al hP hD hS hA hl.1 (M_pushTruth l G h0 a (upd (upd (upd F 19 (nI tp18)) 23 en19) 25 rf20) R Z B J21 T Pi w 1 tp18 (by omega) (by omega) hO) (gV pw_609 pw_610 pw_611 pw_539 pw_601) hV_X5_pushTruth qr195 4 hqr196 rfl rfl rfl (Nat.le_of_ble_eq_true rfl) dX5_sign_177 ⟨Nat.le_of_ble_eq_true rfl, Nat.le_of_ble_eq_true rfl⟩ ⟨Nat.le_of_ble_eq_true rfl, Nat.le_of_ble_eq_true rfl⟩ (fun v194 u192 H locs hw193 hP hD hS => ?_)
      obtain ⟨w, tp197, en198, rf199, J200⟩ := u192
      obtain ⟨hw193, h201, hO⟩ := hw193
      have h201 : tp197 ≤ 32000 := h201
      obtain rfl : v194 = none := hw193
      have hO : OKW G h0 a (upd (upd (upd F 19 (nI tp197)) 23 en198) 25 rf199) R Z B J200 T Pi w := hO.to rfl
      refine W.widen (k := 0) (n := 0) (Nat.le_of_ble_eq_true rfl) (Nat.le_of_ble_eq_true rfl) ?_
      refine W.eq (g2 := F0 m 180 ls []) rfl ?_
      refine lv_goto (tgt := 237) hx hb dX5_sign_180 (by decide) ?_
      have hz202 : tp197 ≤ 32000 := (by omega)
      have hO : OKW G h0 a (upd (upd (upd F 19 (nI tp197)) 23 en198) 25 rf199) R Z B J200 T Pi w := hO.to rfl
      exact W.vret hx hb hr (fun t99 ht99 hW99 => ⟨⟨_, (w, (tp197, en198, rf199, J200, Z)), rfl, ⟨rfl, hz202, hO⟩, by rw [ht99]; exact hP, hD⟩, hS.F ht99⟩) hS.2.2 dX5_sign_237
  by_cases h203 : x = 56
  · subst h203
    refine lv_tableIn (tgt := 145) (off := 124) hx hb dX5_sign_21 (by decide) (by decide) (by decide) (by decide) ?_
    refine lv_aload_n hx hb dX5_sign_145 rfl (lv_at hl 4 rfl) ?_
    refine lv_iload hx hb dX5_sign_146 (lv_at hl 0 rfl) ?_
    refine lv_iload hx hb dX5_sign_148 (lv_at hl 1 rfl) ?_
    refine lv_icmp_gt (tgt := 157) hx hb dX5_sign_150 (by decide) (fun c204 => ?_) (fun c204 => ?_)
    · refine lv_iconst (v := 0) hx hb dX5_sign_157 (by decide) ?_
      have hO : OKW G h0 a (upd (upd (upd (upd F 19 (nI tp18)) 23 en19) 25 rf20) 19 (nI tp18)) R Z B J21 T Pi w := hO.to rfl
      obtain ⟨_, qr208, hqr209⟩ := hO.2.1 28 _ (sg_28 G h0 a _ _ _ _ _)
      refine pc_V0 (G := G) (As := [.int (nI 0)]) (rest := []) hx hb hml hown hq hE hX pX0_al hP hD hS hA hl.1 (M_pushTruth l G h0 a (upd (upd (upd F 19 (nI tp18)) 23 en19) 25 rf20) R Z B J21 T Pi w 0 tp18 (by omega) (by omega) hO) (gV pw_609 pw_610 pw_611 pw_539 pw_601) hV_X5_pushTruth qr208 4 hqr209 rfl rfl rfl (Nat.le_of_ble_eq_true rfl) dX5_sign_158 ⟨Nat.le_of_ble_eq_true rfl, Nat.le_of_ble_eq_true rfl⟩ ⟨Nat.le_of_ble_eq_true rfl, Nat.le_of_ble_eq_true rfl⟩ (fun v207 u205 H locs hw206 hP hD hS => ?_)
      obtain ⟨w, tp210, en211, rf212, J213⟩ := u205
      obtain ⟨hw206, h214, hO⟩ := hw206
      have h214 : tp210 ≤ 32000 := h214
      obtain rfl : v207 = none := hw206
      have hO : OKW G h0 a (upd (upd (upd F 19 (nI tp210)) 23 en211) 25 rf212) R Z B J213 T Pi w := hO.to rfl
      refine W.widen (k := 0) (n := 0) (Nat.le_of_ble_eq_true rfl) (Nat.le_of_ble_eq_true rfl) ?_
      refine W.eq (g2 := F0 m 161 ls []) rfl ?_
      refine lv_goto (tgt := 237) hx hb dX5_sign_161 (by decide) ?_
      have hz215 : tp210 ≤ 32000 := (by omega)
      have hO : OKW G h0 a (upd (upd (upd F 19 (nI tp210)) 23 en211) 25 rf212) R Z B J213 T Pi w := hO.to rfl
      exact W.vret hx hb hr (fun t99 ht99 hW99 => ⟨⟨_, (w, (tp210, en211, rf212, J213, Z)), rfl, ⟨rfl, hz215, hO⟩, by rw [ht99]; exact hP, hD⟩, hS.F ht99⟩) hS.2.2 dX5_sign_237
    · refine lv_iconst (v := 1) hx hb dX5_sign_153 (by decide) ?_
      refine lv_goto (tgt := 158) hx hb dX5_sign_154 (by decide) ?_
      have hO : OKW G h0 a (upd (upd (upd (upd F 19 (nI tp18)) 23 en19) 25 rf20) 19 (nI tp18)) R Z B J21 T Pi w := hO.to rfl
      obtain ⟨_, qr219, hqr220⟩ := hO.2.1 28 _ (sg_28 G h0 a _ _ _ _ _)
      refine pc_V0 (G := G) (As := [.int (nI 1)]) (rest := []) hx hb hml hown hq hE hX pX0_al hP hD hS hA hl.1 (M_pushTruth l G h0 a (upd (upd (upd F 19 (nI tp18)) 23 en19) 25 rf20) R Z B J21 T Pi w 1 tp18 (by omega) (by omega) hO) (gV pw_609 pw_610 pw_611 pw_539 pw_601) hV_X5_pushTruth qr219 4 hqr220 rfl rfl rfl (Nat.le_of_ble_eq_true rfl) dX5_sign_158 ⟨Nat.le_of_ble_eq_true rfl, Nat.le_of_ble_eq_true rfl⟩ ⟨Nat.le_of_ble_eq_true rfl, Nat.le_of_ble_eq_true rfl⟩ (fun v218 u216 H locs hw217 hP hD hS => ?_)
      obtain ⟨w, tp221, en222, rf223, J224⟩ := u216
      obtain ⟨hw217, h225, hO⟩ := hw217
      have h225 : tp221 ≤ 32000 := h225
      obtain rfl : v218 = none := hw217
      have hO : OKW G h0 a (upd (upd (upd F 19 (nI tp221)) 23 en222) 25 rf223) R Z B J224 T Pi w := hO.to rfl
      refine W.widen (k := 0) (n := 0) (Nat.le_of_ble_eq_true rfl) (Nat.le_of_ble_eq_true rfl) ?_
      refine W.eq (g2 := F0 m 161 ls []) rfl ?_
      refine lv_goto (tgt := 237) hx hb dX5_sign_161 (by decide) ?_
      have hz226 : tp221 ≤ 32000 := (by omega)
      have hO : OKW G h0 a (upd (upd (upd F 19 (nI tp221)) 23 en222) 25 rf223) R Z B J224 T Pi w := hO.to rfl
      exact W.vret hx hb hr (fun t99 ht99 hW99 => ⟨⟨_, (w, (tp221, en222, rf223, J224, Z)), rfl, ⟨rfl, hz226, hO⟩, by rw [ht99]; exact hP, hD⟩, hS.F ht99⟩) hS.2.2 dX5_sign_237
  by_cases h227 : x = 57
  · subst h227
    refine lv_tableIn (tgt := 183) (off := 162) hx hb dX5_sign_21 (by decide) (by decide) (by decide) (by decide) ?_
    refine lv_aload_n hx hb dX5_sign_183 rfl (lv_at hl 4 rfl) ?_
    refine lv_iload hx hb dX5_sign_184 (lv_at hl 0 rfl) ?_
    refine lv_iload hx hb dX5_sign_186 (lv_at hl 1 rfl) ?_
    refine lv_icmp_lt (tgt := 195) hx hb dX5_sign_188 (by decide) (fun c228 => ?_) (fun c228 => ?_)
    · refine lv_iconst (v := 0) hx hb dX5_sign_195 (by decide) ?_
      have hO : OKW G h0 a (upd (upd (upd (upd F 19 (nI tp18)) 23 en19) 25 rf20) 19 (nI tp18)) R Z B J21 T Pi w := hO.to rfl
      obtain ⟨_, qr232, hqr233⟩ := hO.2.1 28 _ (sg_28 G h0 a _ _ _ _ _)
      refine pc_V0 (G := G) (As := [.int (nI 0)]) (rest := []) hx hb hml hown hq hE hX pX0_al hP hD hS hA hl.1 (M_pushTruth l G h0 a (upd (upd (upd F 19 (nI tp18)) 23 en19) 25 rf20) R Z B J21 T Pi w 0 tp18 (by omega) (by omega) hO) (gV pw_609 pw_610 pw_611 pw_539 pw_601) hV_X5_pushTruth qr232 4 hqr233 rfl rfl rfl (Nat.le_of_ble_eq_true rfl) dX5_sign_196 ⟨Nat.le_of_ble_eq_true rfl, Nat.le_of_ble_eq_true rfl⟩ ⟨Nat.le_of_ble_eq_true rfl, Nat.le_of_ble_eq_true rfl⟩ (fun v231 u229 H locs hw230 hP hD hS => ?_)
      obtain ⟨w, tp234, en235, rf236, J237⟩ := u229
      obtain ⟨hw230, h238, hO⟩ := hw230
      have h238 : tp234 ≤ 32000 := h238
      obtain rfl : v231 = none := hw230
      have hO : OKW G h0 a (upd (upd (upd F 19 (nI tp234)) 23 en235) 25 rf236) R Z B J237 T Pi w := hO.to rfl
      refine W.widen (k := 0) (n := 0) (Nat.le_of_ble_eq_true rfl) (Nat.le_of_ble_eq_true rfl) ?_
      refine W.eq (g2 := F0 m 199 ls []) rfl ?_
      refine lv_goto (tgt := 237) hx hb dX5_sign_199 (by decide) ?_
      have hz239 : tp234 ≤ 32000 := (by omega)
      have hO : OKW G h0 a (upd (upd (upd F 19 (nI tp234)) 23 en235) 25 rf236) R Z B J237 T Pi w := hO.to rfl
      exact W.vret hx hb hr (fun t99 ht99 hW99 => ⟨⟨_, (w, (tp234, en235, rf236, J237, Z)), rfl, ⟨rfl, hz239, hO⟩, by rw [ht99]; exact hP, hD⟩, hS.F ht99⟩) hS.2.2 dX5_sign_237
    · refine lv_iconst (v := 1) hx hb dX5_sign_191 (by decide) ?_
      refine lv_goto (tgt := 196) hx hb dX5_sign_192 (by decide) ?_
      have hO : OKW G h0 a (upd (upd (upd (upd F 19 (nI tp18)) 23 en19) 25 rf20) 19 (nI tp18)) R Z B J21 T Pi w := hO.to rfl
      obtain ⟨_, qr243, hqr244⟩ := hO.2.1 28 _ (sg_28 G h0 a _ _ _ _ _)
      refine pc_V0 (G := G) (As := [.int (nI 1)]) (rest := []) hx hb hml hown hq hE hX pX0_al hP hD hS hA hl.1 (M_pushTruth l G h0 a (upd (upd (upd F 19 (nI tp18)) 23 en19) 25 rf20) R Z B J21 T Pi w 1 tp18 (by omega) (by omega) hO) (gV pw_609 pw_610 pw_611 pw_539 pw_601) hV_X5_pushTruth qr243 4 hqr244 rfl rfl rfl (Nat.le_of_ble_eq_true rfl) dX5_sign_196 ⟨Nat.le_of_ble_eq_true rfl, Nat.le_of_ble_eq_true rfl⟩ ⟨Nat.le_of_ble_eq_true rfl, Nat.le_of_ble_eq_true rfl⟩ (fun v242 u240 H locs hw241 hP hD hS => ?_)
      obtain ⟨w, tp245, en246, rf247, J248⟩ := u240
      obtain ⟨hw241, h249, hO⟩ := hw241
      have h249 : tp245 ≤ 32000 := h249
      obtain rfl : v242 = none := hw241
      have hO : OKW G h0 a (upd (upd (upd F 19 (nI tp245)) 23 en246) 25 rf247) R Z B J248 T Pi w := hO.to rfl
      refine W.widen (k := 0) (n := 0) (Nat.le_of_ble_eq_true rfl) (Nat.le_of_ble_eq_true rfl) ?_
      refine W.eq (g2 := F0 m 199 ls []) rfl ?_
      refine lv_goto (tgt := 237) hx hb dX5_sign_199 (by decide) ?_
      have hz250 : tp245 ≤ 32000 := (by omega)
      have hO : OKW G h0 a (upd (upd (upd F 19 (nI tp245)) 23 en246) 25 rf247) R Z B J248 T Pi w := hO.to rfl
      exact W.vret hx hb hr (fun t99 ht99 hW99 => ⟨⟨_, (w, (tp245, en246, rf247, J248, Z)), rfl, ⟨rfl, hz250, hO⟩, by rw [ht99]; exact hP, hD⟩, hS.F ht99⟩) hS.2.2 dX5_sign_237
  by_cases h251 : x = 58
  · subst h251
    refine lv_tableIn (tgt := 88) (off := 67) hx hb dX5_sign_21 (by decide) (by decide) (by decide) (by decide) ?_
    refine lv_aload_n hx hb dX5_sign_88 rfl (lv_at hl 4 rfl) ?_
    refine lv_lload hx hb dX5_sign_89 (lv_at hl 2 rfl) ?_
    refine lv_lload_n hx hb dX5_sign_91 rfl (lv_at hl 3 rfl) ?_
    refine W.lcmp hx hb dX5_sign_92 ?_
    refine lv_topi (fun x252 e253 => ?_)
    refine lv_if_ne (tgt := 100) hx hb dX5_sign_93 (by decide) (fun c254 => ?_) (fun c254 => ?_)
    · refine lv_iconst (v := 0) hx hb dX5_sign_100 (by decide) ?_
      have hO : OKW G h0 a (upd (upd (upd (upd F 19 (nI tp18)) 23 en19) 25 rf20) 19 (nI tp18)) R Z B J21 T Pi w := hO.to rfl
      obtain ⟨_, qr258, hqr259⟩ := hO.2.1 28 _ (sg_28 G h0 a _ _ _ _ _)
      refine pc_V0 (G := G) (As := [.int (nI 0)]) (rest := []) hx hb hml hown hq hE hX pX0_al hP hD hS hA hl.1 (M_pushTruth l G h0 a (upd (upd (upd F 19 (nI tp18)) 23 en19) 25 rf20) R Z B J21 T Pi w 0 tp18 (by omega) (by omega) hO) (gV pw_609 pw_610 pw_611 pw_539 pw_601) hV_X5_pushTruth qr258 4 hqr259 rfl rfl rfl (Nat.le_of_ble_eq_true rfl) dX5_sign_101 ⟨Nat.le_of_ble_eq_true rfl, Nat.le_of_ble_eq_true rfl⟩ ⟨Nat.le_of_ble_eq_true rfl, Nat.le_of_ble_eq_true rfl⟩ (fun v257 u255 H locs hw256 hP hD hS => ?_)
      obtain ⟨w, tp260, en261, rf262, J263⟩ := u255
      obtain ⟨hw256, h264, hO⟩ := hw256
      have h264 : tp260 ≤ 32000 := h264
      obtain rfl : v257 = none := hw256
      have hO : OKW G h0 a (upd (upd (upd F 19 (nI tp260)) 23 en261) 25 rf262) R Z B J263 T Pi w := hO.to rfl
      refine W.widen (k := 0) (n := 0) (Nat.le_of_ble_eq_true rfl) (Nat.le_of_ble_eq_true rfl) ?_
      refine W.eq (g2 := F0 m 104 ls []) rfl ?_
      refine lv_goto (tgt := 237) hx hb dX5_sign_104 (by decide) ?_
      have hz265 : tp260 ≤ 32000 := (by omega)
      have hO : OKW G h0 a (upd (upd (upd F 19 (nI tp260)) 23 en261) 25 rf262) R Z B J263 T Pi w := hO.to rfl
      exact W.vret hx hb hr (fun t99 ht99 hW99 => ⟨⟨_, (w, (tp260, en261, rf262, J263, Z)), rfl, ⟨rfl, hz265, hO⟩, by rw [ht99]; exact hP, hD⟩, hS.F ht99⟩) hS.2.2 dX5_sign_237
    · refine lv_iconst (v := 1) hx hb dX5_sign_96 (by decide) ?_
      refine lv_goto (tgt := 101) hx hb dX5_sign_97 (by decide) ?_
      have hO : OKW G h0 a (upd (upd (upd (upd F 19 (nI tp18)) 23 en19) 25 rf20) 19 (nI tp18)) R Z B J21 T Pi w := hO.to rfl
      obtain ⟨_, qr269, hqr270⟩ := hO.2.1 28 _ (sg_28 G h0 a _ _ _ _ _)
      refine pc_V0 (G := G) (As := [.int (nI 1)]) (rest := []) hx hb hml hown hq hE hX pX0_al hP hD hS hA hl.1 (M_pushTruth l G h0 a (upd (upd (upd F 19 (nI tp18)) 23 en19) 25 rf20) R Z B J21 T Pi w 1 tp18 (by omega) (by omega) hO) (gV pw_609 pw_610 pw_611 pw_539 pw_601) hV_X5_pushTruth qr269 4 hqr270 rfl rfl rfl (Nat.le_of_ble_eq_true rfl) dX5_sign_101 ⟨Nat.le_of_ble_eq_true rfl, Nat.le_of_ble_eq_true rfl⟩ ⟨Nat.le_of_ble_eq_true rfl, Nat.le_of_ble_eq_true rfl⟩ (fun v268 u266 H locs hw267 hP hD hS => ?_)
      obtain ⟨w, tp271, en272, rf273, J274⟩ := u266
      obtain ⟨hw267, h275, hO⟩ := hw267
      have h275 : tp271 ≤ 32000 := h275
      obtain rfl : v268 = none := hw267
      have hO : OKW G h0 a (upd (upd (upd F 19 (nI tp271)) 23 en272) 25 rf273) R Z B J274 T Pi w := hO.to rfl
      refine W.widen (k := 0) (n := 0) (Nat.le_of_ble_eq_true rfl) (Nat.le_of_ble_eq_true rfl) ?_
      refine W.eq (g2 := F0 m 104 ls []) rfl ?_
      refine lv_goto (tgt := 237) hx hb dX5_sign_104 (by decide) ?_
      have hz276 : tp271 ≤ 32000 := (by omega)
      have hO : OKW G h0 a (upd (upd (upd F 19 (nI tp271)) 23 en272) 25 rf273) R Z B J274 T Pi w := hO.to rfl
      exact W.vret hx hb hr (fun t99 ht99 hW99 => ⟨⟨_, (w, (tp271, en272, rf273, J274, Z)), rfl, ⟨rfl, hz276, hO⟩, by rw [ht99]; exact hP, hD⟩, hS.F ht99⟩) hS.2.2 dX5_sign_237
  by_cases h277 : x = 59
  · subst h277
    refine lv_tableIn (tgt := 107) (off := 86) hx hb dX5_sign_21 (by decide) (by decide) (by decide) (by decide) ?_
    refine lv_aload_n hx hb dX5_sign_107 rfl (lv_at hl 4 rfl) ?_
    refine lv_lload hx hb dX5_sign_108 (lv_at hl 2 rfl) ?_
    refine lv_lload_n hx hb dX5_sign_110 rfl (lv_at hl 3 rfl) ?_
    refine W.lcmp hx hb dX5_sign_111 ?_
    refine lv_topi (fun x278 e279 => ?_)
    refine lv_if_eq (tgt := 119) hx hb dX5_sign_112 (by decide) (fun c280 => ?_) (fun c280 => ?_)
    · refine lv_iconst (v := 0) hx hb dX5_sign_119 (by decide) ?_
      have hO : OKW G h0 a (upd (upd (upd (upd F 19 (nI tp18)) 23 en19) 25 rf20) 19 (nI tp18)) R Z B J21 T Pi w := hO.to rfl
      obtain ⟨_, qr284, hqr285⟩ := hO.2.1 28 _ (sg_28 G h0 a _ _ _ _ _)
      refine pc_V0 (G := G) (As := [.int (nI 0)]) (rest := []) hx hb hml hown hq hE hX pX0_al hP hD hS hA hl.1 (M_pushTruth l G h0 a (upd (upd (upd F 19 (nI tp18)) 23 en19) 25 rf20) R Z B J21 T Pi w 0 tp18 (by omega) (by omega) hO) (gV pw_609 pw_610 pw_611 pw_539 pw_601) hV_X5_pushTruth qr284 4 hqr285 rfl rfl rfl (Nat.le_of_ble_eq_true rfl) dX5_sign_120 ⟨Nat.le_of_ble_eq_true rfl, Nat.le_of_ble_eq_true rfl⟩ ⟨Nat.le_of_ble_eq_true rfl, Nat.le_of_ble_eq_true rfl⟩ (fun v283 u281 H locs hw282 hP hD hS => ?_)
      obtain ⟨w, tp286, en287, rf288, J289⟩ := u281
      obtain ⟨hw282, h290, hO⟩ := hw282
      have h290 : tp286 ≤ 32000 := h290
      obtain rfl : v283 = none := hw282
      have hO : OKW G h0 a (upd (upd (upd F 19 (nI tp286)) 23 en287) 25 rf288) R Z B J289 T Pi w := hO.to rfl
      refine W.widen (k := 0) (n := 0) (Nat.le_of_ble_eq_true rfl) (Nat.le_of_ble_eq_true rfl) ?_
      refine W.eq (g2 := F0 m 123 ls []) rfl ?_
      refine lv_goto (tgt := 237) hx hb dX5_sign_123 (by decide) ?_
      have hz291 : tp286 ≤ 32000 := (by omega)
      have hO : OKW G h0 a (upd (upd (upd F 19 (nI tp286)) 23 en287) 25 rf288) R Z B J289 T Pi w := hO.to rfl
      exact W.vret hx hb hr (fun t99 ht99 hW99 => ⟨⟨_, (w, (tp286, en287, rf288, J289, Z)), rfl, ⟨rfl, hz291, hO⟩, by rw [ht99]; exact hP, hD⟩, hS.F ht99⟩) hS.2.2 dX5_sign_237
    · refine lv_iconst (v := 1) hx hb dX5_sign_115 (by decide) ?_
      refine lv_goto (tgt := 120) hx hb dX5_sign_116 (by decide) ?_
      have hO : OKW G h0 a (upd (upd (upd (upd F 19 (nI tp18)) 23 en19) 25 rf20) 19 (nI tp18)) R Z B J21 T Pi w := hO.to rfl
      obtain ⟨_, qr295, hqr296⟩ := hO.2.1 28 _ (sg_28 G h0 a _ _ _ _ _)
      refine pc_V0 (G := G) (As := [.int (nI 1)]) (rest := []) hx hb hml hown hq hE hX pX0_al hP hD hS hA hl.1 (M_pushTruth l G h0 a (upd (upd (upd F 19 (nI tp18)) 23 en19) 25 rf20) R Z B J21 T Pi w 1 tp18 (by omega) (by omega) hO) (gV pw_609 pw_610 pw_611 pw_539 pw_601) hV_X5_pushTruth qr295 4 hqr296 rfl rfl rfl (Nat.le_of_ble_eq_true rfl) dX5_sign_120 ⟨Nat.le_of_ble_eq_true rfl, Nat.le_of_ble_eq_true rfl⟩ ⟨Nat.le_of_ble_eq_true rfl, Nat.le_of_ble_eq_true rfl⟩ (fun v294 u292 H locs hw293 hP hD hS => ?_)
      obtain ⟨w, tp297, en298, rf299, J300⟩ := u292
      obtain ⟨hw293, h301, hO⟩ := hw293
      have h301 : tp297 ≤ 32000 := h301
      obtain rfl : v294 = none := hw293
      have hO : OKW G h0 a (upd (upd (upd F 19 (nI tp297)) 23 en298) 25 rf299) R Z B J300 T Pi w := hO.to rfl
      refine W.widen (k := 0) (n := 0) (Nat.le_of_ble_eq_true rfl) (Nat.le_of_ble_eq_true rfl) ?_
      refine W.eq (g2 := F0 m 123 ls []) rfl ?_
      refine lv_goto (tgt := 237) hx hb dX5_sign_123 (by decide) ?_
      have hz302 : tp297 ≤ 32000 := (by omega)
      have hO : OKW G h0 a (upd (upd (upd F 19 (nI tp297)) 23 en298) 25 rf299) R Z B J300 T Pi w := hO.to rfl
      exact W.vret hx hb hr (fun t99 ht99 hW99 => ⟨⟨_, (w, (tp297, en298, rf299, J300, Z)), rfl, ⟨rfl, hz302, hO⟩, by rw [ht99]; exact hP, hD⟩, hS.F ht99⟩) hS.2.2 dX5_sign_237
  refine lv_tableOut (tgt := 224) hx hb dX5_sign_21 (sw_m47_59 h27 h41 h55 h75 h95 h115 h135 h155 h179 h203 h227 h251 h277) (by decide) ?_
  refine lv_aload_n hx hb dX5_sign_224 rfl (lv_at hl 4 rfl) ?_
  refine lv_aload_n hx hb dX5_sign_225 rfl (lv_at hl 4 rfl) ?_
  refine lv_iload_n hx hb dX5_sign_226 rfl (lv_at hl 5 rfl) ?_
  refine lv_iload hx hb dX5_sign_227 (lv_at hl 0 rfl) ?_
  refine lv_iload hx hb dX5_sign_229 (lv_at hl 1 rfl) ?_
  have hO : OKW G h0 a (upd (upd (upd F 19 (nI tp18)) 23 en19) 25 rf20) R Z B J21 T Pi w := hO.to rfl
  obtain ⟨_, qr306, hqr307⟩ := hO.2.1 28 _ (sg_28 G h0 a _ _ _ _ _)
  refine pc_V0 (G := G) (As := [.int x, .int x25, .int x23]) (rest := [.ref (a 5)]) hx hb hml hown hq hE hX pX0_al hP hD hS hA hl.1 (M_combined l G h0 a (upd (upd (upd F 19 (nI tp18)) 23 en19) 25 rf20) R Z B J21 T Pi w x x25 x23 hO) (gV pw_615 pw_616 pw_617 pw_539 pw_608) hV_X5_combined qr306 4 hqr307 rfl rfl rfl (Nat.le_of_ble_eq_true rfl) dX5_sign_231 ⟨Nat.le_of_ble_eq_true rfl, Nat.le_of_ble_eq_true rfl⟩ ⟨Nat.le_of_ble_eq_true rfl, Nat.le_of_ble_eq_true rfl⟩ (fun v305 u303 H locs hw304 hP hD hS => ?_)
  obtain ⟨w, r308, en309, rf310⟩ := u303
  obtain ⟨hw304, hO⟩ := hw304
  obtain rfl : v305 = some (.int r308) := hw304
  have hO : OKW G h0 a (upd (upd (upd F 19 (nI tp18)) 23 en309) 25 rf310) R Z B J21 T Pi w := hO.to rfl
  refine W.widen (k := 0) (n := 0) (Nat.le_of_ble_eq_true rfl) (Nat.le_of_ble_eq_true rfl) ?_
  refine W.eq (g2 := F0 m 234 ls [.int r308, .ref (a 5)]) rfl ?_
  have hO : OKW G h0 a (upd (upd (upd (upd F 19 (nI tp18)) 23 en309) 25 rf310) 19 (nI tp18)) R Z B J21 T Pi w := hO.to rfl
  obtain ⟨_, qr314, hqr315⟩ := hO.2.1 28 _ (sg_28 G h0 a _ _ _ _ _)
  refine pc_V0 (G := G) (As := [.int r308]) (rest := []) hx hb hml hown hq hE hX pX0_al hP hD hS hA hl.1 (M_pushNumber l G h0 a (upd (upd (upd F 19 (nI tp18)) 23 en309) 25 rf310) R Z B J21 T Pi w r308 tp18 (by omega) hO) (gV pw_605 pw_606 pw_607 pw_539 pw_602) hV_X5_pushNumber qr314 4 hqr315 rfl rfl rfl (Nat.le_of_ble_eq_true rfl) dX5_sign_234 ⟨Nat.le_of_ble_eq_true rfl, Nat.le_of_ble_eq_true rfl⟩ ⟨Nat.le_of_ble_eq_true rfl, Nat.le_of_ble_eq_true rfl⟩ (fun v313 u311 H locs hw312 hP hD hS => ?_)
  obtain ⟨w, tp316, en317, rf318, J319⟩ := u311
  obtain ⟨hw312, h320, hO⟩ := hw312
  have h320 : tp316 ≤ 32000 := h320
  obtain rfl : v313 = none := hw312
  have hO : OKW G h0 a (upd (upd (upd F 19 (nI tp316)) 23 en317) 25 rf318) R Z B J319 T Pi w := hO.to rfl
  refine W.widen (k := 0) (n := 0) (Nat.le_of_ble_eq_true rfl) (Nat.le_of_ble_eq_true rfl) ?_
  refine W.eq (g2 := F0 m 237 ls []) rfl ?_
  have hz321 : tp316 ≤ 32000 := (by omega)
  have hO : OKW G h0 a (upd (upd (upd F 19 (nI tp316)) 23 en317) 25 rf318) R Z B J319 T Pi w := hO.to rfl
  exact W.vret hx hb hr (fun t99 ht99 hW99 => ⟨⟨_, (w, (tp316, en317, rf318, J319, Z)), rfl, ⟨rfl, hz321, hO⟩, by rw [ht99]; exact hP, hD⟩, hS.F ht99⟩) hS.2.2 dX5_sign_237
theorem dX5_step_0 : decode cX5_step 0 = .ok (.iload_n 1, 1) := by decide +kernel
theorem dX5_step_1 : decode cX5_step 1 = .ok (.tableswitch 224 0 13 #[71, 79, 92, 104, 116, 125, 133, 141, 165, 165, 184, 192, 205, 212], 71) := by decide +kernel
theorem dX5_step_72 : decode cX5_step 72 = .ok (.aload_n 0, 1) := by decide +kernel
theorem dX5_step_73 : decode cX5_step 73 = .ok (.invokevirtual 166, 3) := by decide +kernel
theorem dX5_step_76 : decode cX5_step 76 = .ok (.pop, 1) := by decide +kernel
theorem dX5_step_77 : decode cX5_step 77 = .ok (.goto 152, 3) := by decide +kernel
theorem dX5_step_229 : decode cX5_step 229 = .ok (.return_, 1) := by decide +kernel
theorem dX5_step_80 : decode cX5_step 80 = .ok (.aload_n 0, 1) := by decide +kernel
theorem dX5_step_81 : decode cX5_step 81 = .ok (.iload_n 2, 1) := by decide +kernel
theorem dX5_step_82 : decode cX5_step 82 = .ok (.i2l, 1) := by decide +kernel
theorem dX5_step_83 : decode cX5_step 83 = .ok (.ldc2_w 170, 3) := by decide +kernel
theorem dX5_step_86 : decode cX5_step 86 = .ok (.land, 1) := by decide +kernel
theorem dX5_step_87 : decode cX5_step 87 = .ok (.invokevirtual 172, 3) := by decide +kernel
theorem dX5_step_90 : decode cX5_step 90 = .ok (.goto 139, 3) := by decide +kernel
theorem dX5_step_93 : decode cX5_step 93 = .ok (.aload_n 0, 1) := by decide +kernel
theorem dX5_step_94 : decode cX5_step 94 = .ok (.aload_n 0, 1) := by decide +kernel
theorem dX5_step_95 : decode cX5_step 95 = .ok (.iload_n 2, 1) := by decide +kernel
theorem dX5_step_96 : decode cX5_step 96 = .ok (.invokevirtual 176, 3) := by decide +kernel
theorem dX5_step_99 : decode cX5_step 99 = .ok (.invokevirtual 172, 3) := by decide +kernel
theorem dX5_step_102 : decode cX5_step 102 = .ok (.goto 127, 3) := by decide +kernel
theorem dX5_step_105 : decode cX5_step 105 = .ok (.aload_n 0, 1) := by decide +kernel
theorem dX5_step_106 : decode cX5_step 106 = .ok (.iload_n 2, 1) := by decide +kernel
theorem dX5_step_107 : decode cX5_step 107 = .ok (.aload_n 0, 1) := by decide +kernel
theorem dX5_step_108 : decode cX5_step 108 = .ok (.invokevirtual 180, 3) := by decide +kernel
theorem dX5_step_111 : decode cX5_step 111 = .ok (.invokevirtual 184, 3) := by decide +kernel
theorem dX5_step_114 : decode cX5_step 114 = .ok (.goto 115, 3) := by decide +kernel
theorem dX5_step_117 : decode cX5_step 117 = .ok (.aload_n 0, 1) := by decide +kernel
theorem dX5_step_118 : decode cX5_step 118 = .ok (.iload_n 2, 1) := by decide +kernel
theorem dX5_step_119 : decode cX5_step 119 = .ok (.lconst 0, 1) := by decide +kernel
theorem dX5_step_120 : decode cX5_step 120 = .ok (.invokevirtual 184, 3) := by decide +kernel
theorem dX5_step_123 : decode cX5_step 123 = .ok (.goto 106, 3) := by decide +kernel
theorem dX5_step_126 : decode cX5_step 126 = .ok (.aload_n 0, 1) := by decide +kernel
theorem dX5_step_127 : decode cX5_step 127 = .ok (.invokevirtual 180, 3) := by decide +kernel
theorem dX5_step_130 : decode cX5_step 130 = .ok (.pop2, 1) := by decide +kernel
theorem dX5_step_131 : decode cX5_step 131 = .ok (.goto 98, 3) := by decide +kernel
theorem dX5_step_134 : decode cX5_step 134 = .ok (.aload_n 0, 1) := by decide +kernel
theorem dX5_step_135 : decode cX5_step 135 = .ok (.iload_n 2, 1) := by decide +kernel
theorem dX5_step_136 : decode cX5_step 136 = .ok (.putfield 132, 3) := by decide +kernel
theorem dX5_step_139 : decode cX5_step 139 = .ok (.goto 90, 3) := by decide +kernel
theorem dX5_step_142 : decode cX5_step 142 = .ok (.aload_n 0, 1) := by decide +kernel
theorem dX5_step_143 : decode cX5_step 143 = .ok (.aload_n 0, 1) := by decide +kernel
theorem dX5_step_144 : decode cX5_step 144 = .ok (.invokevirtual 180, 3) := by decide +kernel
theorem dX5_step_147 : decode cX5_step 147 = .ok (.lconst 0, 1) := by decide +kernel
theorem dX5_step_148 : decode cX5_step 148 = .ok (.lcmp, 1) := by decide +kernel
theorem dX5_step_149 : decode cX5_step 149 = .ok (.ifCond .ne 7, 3) := by decide +kernel
theorem dX5_step_156 : decode cX5_step 156 = .ok (.aload_n 0, 1) := by decide +kernel
theorem dX5_step_157 : decode cX5_step 157 = .ok (.getfield 132, 3) := by decide +kernel
theorem dX5_step_160 : decode cX5_step 160 = .ok (.putfield 132, 3) := by decide +kernel
theorem dX5_step_163 : decode cX5_step 163 = .ok (.goto 66, 3) := by decide +kernel
theorem dX5_step_152 : decode cX5_step 152 = .ok (.iload_n 2, 1) := by decide +kernel
theorem dX5_step_153 : decode cX5_step 153 = .ok (.goto 7, 3) := by decide +kernel
theorem dX5_step_166 : decode cX5_step 166 = .ok (.aload_n 0, 1) := by decide +kernel
theorem dX5_step_167 : decode cX5_step 167 = .ok (.iload_n 1, 1) := by decide +kernel
theorem dX5_step_168 : decode cX5_step 168 = .ok (.bipush 9, 2) := by decide +kernel
theorem dX5_step_170 : decode cX5_step 170 = .ok (.if_icmp .ne 7, 3) := by decide +kernel
theorem dX5_step_177 : decode cX5_step 177 = .ok (.iconst 0, 1) := by decide +kernel
theorem dX5_step_178 : decode cX5_step 178 = .ok (.iload_n 2, 1) := by decide +kernel
theorem dX5_step_179 : decode cX5_step 179 = .ok (.invokevirtual 188, 3) := by decide +kernel
theorem dX5_step_182 : decode cX5_step 182 = .ok (.goto 47, 3) := by decide +kernel
theorem dX5_step_173 : decode cX5_step 173 = .ok (.iconst 1, 1) := by decide +kernel
theorem dX5_step_174 : decode cX5_step 174 = .ok (.goto 4, 3) := by decide +kernel
theorem dX5_step_185 : decode cX5_step 185 = .ok (.aload_n 0, 1) := by decide +kernel
theorem dX5_step_186 : decode cX5_step 186 = .ok (.iload_n 2, 1) := by decide +kernel
theorem dX5_step_187 : decode cX5_step 187 = .ok (.invokevirtual 192, 3) := by decide +kernel
theorem dX5_step_190 : decode cX5_step 190 = .ok (.goto 39, 3) := by decide +kernel
theorem dX5_step_193 : decode cX5_step 193 = .ok (.aload_n 0, 1) := by decide +kernel
theorem dX5_step_194 : decode cX5_step 194 = .ok (.iload_n 2, 1) := by decide +kernel
theorem dX5_step_195 : decode cX5_step 195 = .ok (.aload_n 0, 1) := by decide +kernel
theorem dX5_step_196 : decode cX5_step 196 = .ok (.invokevirtual 180, 3) := by decide +kernel
theorem dX5_step_199 : decode cX5_step 199 = .ok (.l2i, 1) := by decide +kernel
theorem dX5_step_200 : decode cX5_step 200 = .ok (.invokevirtual 195, 3) := by decide +kernel
theorem dX5_step_203 : decode cX5_step 203 = .ok (.goto 26, 3) := by decide +kernel
theorem dX5_step_206 : decode cX5_step 206 = .ok (.aload_n 0, 1) := by decide +kernel
theorem dX5_step_207 : decode cX5_step 207 = .ok (.invokevirtual 198, 3) := by decide +kernel
theorem dX5_step_210 : decode cX5_step 210 = .ok (.goto 19, 3) := by decide +kernel
theorem dX5_step_213 : decode cX5_step 213 = .ok (.aload_n 0, 1) := by decide +kernel
theorem dX5_step_214 : decode cX5_step 214 = .ok (.aload_n 0, 1) := by decide +kernel
theorem dX5_step_215 : decode cX5_step 215 = .ok (.invokevirtual 180, 3) := by decide +kernel
theorem dX5_step_218 : decode cX5_step 218 = .ok (.l2i, 1) := by decide +kernel
theorem dX5_step_219 : decode cX5_step 219 = .ok (.invokevirtual 201, 3) := by decide +kernel
theorem dX5_step_222 : decode cX5_step 222 = .ok (.goto 7, 3) := by decide +kernel
theorem dX5_step_225 : decode cX5_step 225 = .ok (.aload_n 0, 1) := by decide +kernel
theorem dX5_step_226 : decode cX5_step 226 = .ok (.invokevirtual 160, 3) := by decide +kernel
theorem hV_X5_burn : yX5_burn.cls = RX5 ∧ yX5_burn.cls ≠ "java/lang/invoke/MethodHandle" ∧ yX5_burn.cls ≠ "java/lang/invoke/VarHandle" ∧ (parseMethodDescriptor yX5_burn.desc).map (fun d => d.parameters.length) = some 0 := by decide +kernel
theorem hV_X5_slotAt : yX5_slotAt.cls = RX5 ∧ yX5_slotAt.cls ≠ "java/lang/invoke/MethodHandle" ∧ yX5_slotAt.cls ≠ "java/lang/invoke/VarHandle" ∧ (parseMethodDescriptor yX5_slotAt.desc).map (fun d => d.parameters.length) = some 1 := by decide +kernel
theorem hV_X5_setSlot : yX5_setSlot.cls = RX5 ∧ yX5_setSlot.cls ≠ "java/lang/invoke/MethodHandle" ∧ yX5_setSlot.cls ≠ "java/lang/invoke/VarHandle" ∧ (parseMethodDescriptor yX5_setSlot.desc).map (fun d => d.parameters.length) = some 2 := by decide +kernel
theorem hV_X5_skip : yX5_skip.cls = RX5 ∧ yX5_skip.cls ≠ "java/lang/invoke/MethodHandle" ∧ yX5_skip.cls ≠ "java/lang/invoke/VarHandle" ∧ (parseMethodDescriptor yX5_skip.desc).map (fun d => d.parameters.length) = some 2 := by decide +kernel
theorem hV_X5_sign : yX5_sign.cls = RX5 ∧ yX5_sign.cls ≠ "java/lang/invoke/MethodHandle" ∧ yX5_sign.cls ≠ "java/lang/invoke/VarHandle" ∧ (parseMethodDescriptor yX5_sign.desc).map (fun d => d.parameters.length) = some 1 := by decide +kernel
theorem hV_X5_prefix : yX5_prefix.cls = RX5 ∧ yX5_prefix.cls ≠ "java/lang/invoke/MethodHandle" ∧ yX5_prefix.cls ≠ "java/lang/invoke/VarHandle" ∧ (parseMethodDescriptor yX5_prefix.desc).map (fun d => d.parameters.length) = some 2 := by decide +kernel
theorem hV_X5_readNumber : yX5_readNumber.cls = RX5 ∧ yX5_readNumber.cls ≠ "java/lang/invoke/MethodHandle" ∧ yX5_readNumber.cls ≠ "java/lang/invoke/VarHandle" ∧ (parseMethodDescriptor yX5_readNumber.desc).map (fun d => d.parameters.length) = some 0 := by decide +kernel
theorem hV_X5_print : yX5_print.cls = RX5 ∧ yX5_print.cls ≠ "java/lang/invoke/MethodHandle" ∧ yX5_print.cls ≠ "java/lang/invoke/VarHandle" ∧ (parseMethodDescriptor yX5_print.desc).map (fun d => d.parameters.length) = some 1 := by decide +kernel
set_option maxHeartbeats 8000000 in
set_option maxRecDepth 100000 in
theorem M_step (l : Launch) (G : pT) (h0 : Nat) (a : Nat → Nat) (F : Nat → Int32) (R : Nat → Value) (Z : Int64) (B : Nat → Nat → Int32) (J : Nat → Nat → Int64) (T : Nat → Nat) (Pi : Nat → va_E → Prop) (w : va_W) (x : Int32) (y : Int32) (tp : Nat) (htp : tp ≤ 32000) (hO : OKW G h0 a (upd F 19 (nI tp)) R Z B J T Pi w) : PM l G pX0 yX5_step cX5_step 3 none ({ frames := 7, cells := 0, slots := 0, locals := 173 }) [.ref (a 5), .int x, .int y] w (fun (v : Option Value) (u : va_W × (Nat × Int32 × Int32 × Int32 × (Nat → Nat → Int64) × Int64 × (Nat → Int32) × (Nat → Int32))) => v = none ∧ (u.2.1 ≤ 32000) ∧ (OKW G h0 a (upd (upd (upd (upd F 19 (nI u.2.1)) 21 u.2.2.2.2.1) 23 u.2.2.1) 25 u.2.2.2.1) R u.2.2.2.2.2.2.1 (updA (updA B 32 u.2.2.2.2.2.2.2.2) 33 u.2.2.2.2.2.2.2.1) u.2.2.2.2.2.1 T Pi u.1)) (fun u => u.1) := by
  intro sz
  refine Met.ofW (cc := cX5_step) (maxL := 3) (ret := none) (by decide) rfl ?_
  intro p e s m args below meth c s₁ B9 hml hv
  obtain ⟨rfl, hsz, hP, hD0, hE, hX⟩ := hv
  have hx := B9.exec
  have hb := B9.bytes
  have hr := B9.returns
  have hts := atoms_spec (ws := Cond.code yX5_step cX5_step 3 none :: pw) B9.pre
  have hq : ∀ w ∈ pw, w.before _ s = true := fun w h => hts w (List.mem_cons_of_mem _ h)
  have hown : s.vm.findClass RX5 = some m.cls := findClass_of_methodNamed B9.named
  have hlocks := B9.notSynchronized
  subst hsz
  have hD := hD0.self (sz := s.heap.size)
  have hA : ∀ q : Nat, s.heap.size ≤ q → va_A w s.heap.size q := fun q h => Or.inr h
  generalize va_A w s.heap.size = A at hD hE hA ⊢
  have hS : va_S A s.heap s.heap [] := va_S.rf
  have hl := lv_entry ([.ref (a 5), .int x, .int y]) (n := 3) (Nat.le_of_ble_eq_true rfl)
  rw [lg_entry_eq]
  generalize (lg_sl ([.ref (a 5), .int x, .int y]) ++ List.replicate (3 - (lg_sl ([.ref (a 5), .int x, .int y])).length) Slot.unset).toArray = ls at hl ⊢
  have hl : lv_has ls 3 [(0, .ref (a 5)), (1, .int x), (2, .int y)] := hl
  refine lv_iload_n hx hb dX5_step_0 rfl (lv_at hl 1 rfl) ?_
  by_cases h1 : x = 0
  · subst h1
    refine lv_tableIn (tgt := 72) (off := 71) hx hb dX5_step_1 (by decide) (by decide) (by decide) (by decide) ?_
    refine lv_aload_n hx hb dX5_step_72 rfl (lv_at hl 0 rfl) ?_
    have hO : OKW G h0 a (upd F 19 (nI tp)) R Z B J T Pi w := hO.to rfl
    obtain ⟨_, qr5, hqr6⟩ := hO.2.1 28 _ (sg_28 G h0 a _ _ _ _ _)
    refine pc_V0 (G := G) (As := []) (rest := []) hx hb hml hown hq hE hX pX0_al hP hD hS hA hl.1 (M_burn l G h0 a (upd F 19 (nI tp)) R Z B J T Pi w hO) (gV pw_567 pw_568 pw_569 pw_539 pw_560) hV_X5_burn qr5 4 hqr6 rfl rfl rfl (Nat.le_of_ble_eq_true rfl) dX5_step_73 ⟨Nat.le_of_ble_eq_true rfl, Nat.le_of_ble_eq_true rfl⟩ ⟨Nat.le_of_ble_eq_true rfl, Nat.le_of_ble_eq_true rfl⟩ (fun v4 u2 H locs hw3 hP hD hS => ?_)
    obtain ⟨w, r7, en8, ta9⟩ := u2
    obtain ⟨hw3, h10, hO⟩ := hw3
    have h10 : r7 ≤ 1 := h10
    obtain rfl : v4 = some (.int (nI r7)) := hw3
    have hO : OKW G h0 a (upd (upd F 19 (nI tp)) 23 en8) R Z (updA B 33 ta9) J T Pi w := hO.to rfl
    refine W.widen (k := 0) (n := 0) (Nat.le_of_ble_eq_true rfl) (Nat.le_of_ble_eq_true rfl) ?_
    refine W.eq (g2 := F0 m 76 ls [.int (nI r7)]) rfl ?_
    refine lv_pop hx hb dX5_step_76 rfl ?_
    refine lv_goto (tgt := 229) hx hb dX5_step_77 (by decide) ?_
    have hz11 : tp ≤ 32000 := (by omega)
    have hO : OKW G h0 a (upd (upd (upd (upd F 19 (nI tp)) 21 (F 21)) 23 en8) 25 (F 25)) R Z (updA (updA B 32 (B 32)) 33 ta9) J T Pi w := hO.to rfl
    exact W.vret hx hb hr (fun t99 ht99 hW99 => ⟨⟨_, (w, (tp, en8, (F 25), (F 21), J, Z, ta9, (B 32))), rfl, ⟨rfl, hz11, hO⟩, by rw [ht99]; exact hP, hD⟩, hS.F ht99⟩) hS.2.2 dX5_step_229
  by_cases h12 : x = 1
  · subst h12
    refine lv_tableIn (tgt := 80) (off := 79) hx hb dX5_step_1 (by decide) (by decide) (by decide) (by decide) ?_
    refine lv_aload_n hx hb dX5_step_80 rfl (lv_at hl 0 rfl) ?_
    refine lv_iload_n hx hb dX5_step_81 rfl (lv_at hl 2 rfl) ?_
    refine lv_i2l hx hb dX5_step_82 rfl ?_
    refine lv_topl (fun x13 e14 => ?_)
    refine lv_ldc2 (v := 4294967295) hx hb hown (hq _ pw_603) dX5_step_83 ?_
    refine lv_land hx hb dX5_step_86 ?_
    refine lv_topl (fun x15 e16 => ?_)
    have hO : OKW G h0 a (upd (upd F 19 (nI tp)) 19 (nI tp)) R Z B J T Pi w := hO.to rfl
    obtain ⟨_, qr20, hqr21⟩ := hO.2.1 28 _ (sg_28 G h0 a _ _ _ _ _)
    refine pc_V0 (G := G) (As := [.long x15]) (rest := []) hx hb hml hown hq hE hX pX0_al hP hD hS hA hl.1 (M_push l G h0 a (upd F 19 (nI tp)) R Z B J T Pi w x15 tp (by omega) hO) (gV pw_549 pw_550 pw_551 pw_539 pw_535) hV_X5_push qr20 4 hqr21 rfl rfl rfl (Nat.le_of_ble_eq_true rfl) dX5_step_87 ⟨Nat.le_of_ble_eq_true rfl, Nat.le_of_ble_eq_true rfl⟩ ⟨Nat.le_of_ble_eq_true rfl, Nat.le_of_ble_eq_true rfl⟩ (fun v19 u17 H locs hw18 hP hD hS => ?_)
    obtain ⟨w, tp22, en23, rf24, J25⟩ := u17
    obtain ⟨hw18, h26, hO⟩ := hw18
    have h26 : tp22 ≤ 32000 := h26
    obtain rfl : v19 = none := hw18
    have hO : OKW G h0 a (upd (upd (upd F 19 (nI tp22)) 23 en23) 25 rf24) R Z B J25 T Pi w := hO.to rfl
    refine W.widen (k := 0) (n := 0) (Nat.le_of_ble_eq_true rfl) (Nat.le_of_ble_eq_true rfl) ?_
    refine W.eq (g2 := F0 m 90 ls []) rfl ?_
    refine lv_goto (tgt := 229) hx hb dX5_step_90 (by decide) ?_
    have hz27 : tp22 ≤ 32000 := (by omega)
    have hO : OKW G h0 a (upd (upd (upd (upd F 19 (nI tp22)) 21 (F 21)) 23 en23) 25 rf24) R Z (updA (updA B 32 (B 32)) 33 (B 33)) J25 T Pi w := hO.to rfl
    exact W.vret hx hb hr (fun t99 ht99 hW99 => ⟨⟨_, (w, (tp22, en23, rf24, (F 21), J25, Z, (B 33), (B 32))), rfl, ⟨rfl, hz27, hO⟩, by rw [ht99]; exact hP, hD⟩, hS.F ht99⟩) hS.2.2 dX5_step_229
  by_cases h28 : x = 2
  · subst h28
    refine lv_tableIn (tgt := 93) (off := 92) hx hb dX5_step_1 (by decide) (by decide) (by decide) (by decide) ?_
    refine lv_aload_n hx hb dX5_step_93 rfl (lv_at hl 0 rfl) ?_
    refine lv_aload_n hx hb dX5_step_94 rfl (lv_at hl 0 rfl) ?_
    refine lv_iload_n hx hb dX5_step_95 rfl (lv_at hl 2 rfl) ?_
    have hO : OKW G h0 a (upd F 19 (nI tp)) R Z B J T Pi w := hO.to rfl
    obtain ⟨_, qr32, hqr33⟩ := hO.2.1 28 _ (sg_28 G h0 a _ _ _ _ _)
    refine pc_V0 (G := G) (As := [.int y]) (rest := [.ref (a 5)]) hx hb hml hown hq hE hX pX0_al hP hD hS hA hl.1 (M_slotAt l G h0 a (upd F 19 (nI tp)) R Z B J T Pi w y hO) (gV pw_622 pw_623 pw_624 pw_539 pw_594) hV_X5_slotAt qr32 4 hqr33 rfl rfl rfl (Nat.le_of_ble_eq_true rfl) dX5_step_96 ⟨Nat.le_of_ble_eq_true rfl, Nat.le_of_ble_eq_true rfl⟩ ⟨Nat.le_of_ble_eq_true rfl, Nat.le_of_ble_eq_true rfl⟩ (fun v31 u29 H locs hw30 hP hD hS => ?_)
    obtain ⟨w, r34⟩ := u29
    obtain ⟨hw30, hO⟩ := hw30
    obtain rfl : v31 = some (.long r34) := hw30
    have hO : OKW G h0 a (upd F 19 (nI tp)) R Z B J T Pi w := hO.to rfl
    refine W.widen (k := 0) (n := 0) (Nat.le_of_ble_eq_true rfl) (Nat.le_of_ble_eq_true rfl) ?_
    refine W.eq (g2 := F0 m 99 ls [.long r34, .ref (a 5)]) rfl ?_
    have hO : OKW G h0 a (upd (upd F 19 (nI tp)) 19 (nI tp)) R Z B J T Pi w := hO.to rfl
    obtain ⟨_, qr38, hqr39⟩ := hO.2.1 28 _ (sg_28 G h0 a _ _ _ _ _)
    refine pc_V0 (G := G) (As := [.long r34]) (rest := []) hx hb hml hown hq hE hX pX0_al hP hD hS hA hl.1 (M_push l G h0 a (upd F 19 (nI tp)) R Z B J T Pi w r34 tp (by omega) hO) (gV pw_549 pw_550 pw_551 pw_539 pw_535) hV_X5_push qr38 4 hqr39 rfl rfl rfl (Nat.le_of_ble_eq_true rfl) dX5_step_99 ⟨Nat.le_of_ble_eq_true rfl, Nat.le_of_ble_eq_true rfl⟩ ⟨Nat.le_of_ble_eq_true rfl, Nat.le_of_ble_eq_true rfl⟩ (fun v37 u35 H locs hw36 hP hD hS => ?_)
    obtain ⟨w, tp40, en41, rf42, J43⟩ := u35
    obtain ⟨hw36, h44, hO⟩ := hw36
    have h44 : tp40 ≤ 32000 := h44
    obtain rfl : v37 = none := hw36
    have hO : OKW G h0 a (upd (upd (upd F 19 (nI tp40)) 23 en41) 25 rf42) R Z B J43 T Pi w := hO.to rfl
    refine W.widen (k := 0) (n := 0) (Nat.le_of_ble_eq_true rfl) (Nat.le_of_ble_eq_true rfl) ?_
    refine W.eq (g2 := F0 m 102 ls []) rfl ?_
    refine lv_goto (tgt := 229) hx hb dX5_step_102 (by decide) ?_
    have hz45 : tp40 ≤ 32000 := (by omega)
    have hO : OKW G h0 a (upd (upd (upd (upd F 19 (nI tp40)) 21 (F 21)) 23 en41) 25 rf42) R Z (updA (updA B 32 (B 32)) 33 (B 33)) J43 T Pi w := hO.to rfl
    exact W.vret hx hb hr (fun t99 ht99 hW99 => ⟨⟨_, (w, (tp40, en41, rf42, (F 21), J43, Z, (B 33), (B 32))), rfl, ⟨rfl, hz45, hO⟩, by rw [ht99]; exact hP, hD⟩, hS.F ht99⟩) hS.2.2 dX5_step_229
  by_cases h46 : x = 3
  · subst h46
    refine lv_tableIn (tgt := 105) (off := 104) hx hb dX5_step_1 (by decide) (by decide) (by decide) (by decide) ?_
    refine lv_aload_n hx hb dX5_step_105 rfl (lv_at hl 0 rfl) ?_
    refine lv_iload_n hx hb dX5_step_106 rfl (lv_at hl 2 rfl) ?_
    refine lv_aload_n hx hb dX5_step_107 rfl (lv_at hl 0 rfl) ?_
    have hO : OKW G h0 a (upd (upd F 19 (nI tp)) 19 (nI tp)) R Z B J T Pi w := hO.to rfl
    obtain ⟨_, qr50, hqr51⟩ := hO.2.1 28 _ (sg_28 G h0 a _ _ _ _ _)
    refine pc_V0 (G := G) (As := []) (rest := [.int y, .ref (a 5)]) hx hb hml hown hq hE hX pX0_al hP hD hS hA hl.1 (M_pop l G h0 a (upd F 19 (nI tp)) R Z B J T Pi w tp (by omega) hO) (gV pw_598 pw_599 pw_600 pw_539 pw_595) hV_X5_pop qr50 4 hqr51 rfl rfl rfl (Nat.le_of_ble_eq_true rfl) dX5_step_108 ⟨Nat.le_of_ble_eq_true rfl, Nat.le_of_ble_eq_true rfl⟩ ⟨Nat.le_of_ble_eq_true rfl, Nat.le_of_ble_eq_true rfl⟩ (fun v49 u47 H locs hw48 hP hD hS => ?_)
    obtain ⟨w, r52, tp53, en54, rf55, J56⟩ := u47
    obtain ⟨hw48, h57, hO⟩ := hw48
    have h57 : tp53 ≤ 32000 := h57
    obtain rfl : v49 = some (.long r52) := hw48
    have hO : OKW G h0 a (upd (upd (upd F 19 (nI tp53)) 23 en54) 25 rf55) R Z B J56 T Pi w := hO.to rfl
    refine W.widen (k := 0) (n := 0) (Nat.le_of_ble_eq_true rfl) (Nat.le_of_ble_eq_true rfl) ?_
    refine W.eq (g2 := F0 m 111 ls [.long r52, .int y, .ref (a 5)]) rfl ?_
    have hO : OKW G h0 a (upd (upd (upd F 19 (nI tp53)) 23 en54) 25 rf55) R Z B J56 T Pi w := hO.to rfl
    obtain ⟨_, qr61, hqr62⟩ := hO.2.1 28 _ (sg_28 G h0 a _ _ _ _ _)
    refine pc_V0 (G := G) (As := [.int y, .long r52]) (rest := []) hx hb hml hown hq hE hX pX0_al hP hD hS hA hl.1 (M_setSlot l G h0 a (upd (upd (upd F 19 (nI tp53)) 23 en54) 25 rf55) R Z B J56 T Pi w y r52 hO) (gV pw_625 pw_626 pw_627 pw_539 pw_596) hV_X5_setSlot qr61 4 hqr62 rfl rfl rfl (Nat.le_of_ble_eq_true rfl) dX5_step_111 ⟨Nat.le_of_ble_eq_true rfl, Nat.le_of_ble_eq_true rfl⟩ ⟨Nat.le_of_ble_eq_true rfl, Nat.le_of_ble_eq_true rfl⟩ (fun v60 u58 H locs hw59 hP hD hS => ?_)
    obtain ⟨w, J63⟩ := u58
    obtain ⟨hw59, hO⟩ := hw59
    obtain rfl : v60 = none := hw59
    have hO : OKW G h0 a (upd (upd (upd F 19 (nI tp53)) 23 en54) 25 rf55) R Z B J63 T Pi w := hO.to rfl
    refine W.widen (k := 0) (n := 0) (Nat.le_of_ble_eq_true rfl) (Nat.le_of_ble_eq_true rfl) ?_
    refine W.eq (g2 := F0 m 114 ls []) rfl ?_
    refine lv_goto (tgt := 229) hx hb dX5_step_114 (by decide) ?_
    have hz64 : tp53 ≤ 32000 := (by omega)
    have hO : OKW G h0 a (upd (upd (upd (upd F 19 (nI tp53)) 21 (F 21)) 23 en54) 25 rf55) R Z (updA (updA B 32 (B 32)) 33 (B 33)) J63 T Pi w := hO.to rfl
    exact W.vret hx hb hr (fun t99 ht99 hW99 => ⟨⟨_, (w, (tp53, en54, rf55, (F 21), J63, Z, (B 33), (B 32))), rfl, ⟨rfl, hz64, hO⟩, by rw [ht99]; exact hP, hD⟩, hS.F ht99⟩) hS.2.2 dX5_step_229
  by_cases h65 : x = 4
  · subst h65
    refine lv_tableIn (tgt := 117) (off := 116) hx hb dX5_step_1 (by decide) (by decide) (by decide) (by decide) ?_
    refine lv_aload_n hx hb dX5_step_117 rfl (lv_at hl 0 rfl) ?_
    refine lv_iload_n hx hb dX5_step_118 rfl (lv_at hl 2 rfl) ?_
    refine lv_lconst (v := 0) hx hb dX5_step_119 (by decide) ?_
    have hO : OKW G h0 a (upd F 19 (nI tp)) R Z B J T Pi w := hO.to rfl
    obtain ⟨_, qr69, hqr70⟩ := hO.2.1 28 _ (sg_28 G h0 a _ _ _ _ _)
    refine pc_V0 (G := G) (As := [.int y, .long 0]) (rest := []) hx hb hml hown hq hE hX pX0_al hP hD hS hA hl.1 (M_setSlot l G h0 a (upd F 19 (nI tp)) R Z B J T Pi w y 0 hO) (gV pw_625 pw_626 pw_627 pw_539 pw_596) hV_X5_setSlot qr69 4 hqr70 rfl rfl rfl (Nat.le_of_ble_eq_true rfl) dX5_step_120 ⟨Nat.le_of_ble_eq_true rfl, Nat.le_of_ble_eq_true rfl⟩ ⟨Nat.le_of_ble_eq_true rfl, Nat.le_of_ble_eq_true rfl⟩ (fun v68 u66 H locs hw67 hP hD hS => ?_)
    obtain ⟨w, J71⟩ := u66
    obtain ⟨hw67, hO⟩ := hw67
    obtain rfl : v68 = none := hw67
    have hO : OKW G h0 a (upd F 19 (nI tp)) R Z B J71 T Pi w := hO.to rfl
    refine W.widen (k := 0) (n := 0) (Nat.le_of_ble_eq_true rfl) (Nat.le_of_ble_eq_true rfl) ?_
    refine W.eq (g2 := F0 m 123 ls []) rfl ?_
    refine lv_goto (tgt := 229) hx hb dX5_step_123 (by decide) ?_
    have hz72 : tp ≤ 32000 := (by omega)
    have hO : OKW G h0 a (upd (upd (upd (upd F 19 (nI tp)) 21 (F 21)) 23 (F 23)) 25 (F 25)) R Z (updA (updA B 32 (B 32)) 33 (B 33)) J71 T Pi w := hO.to rfl
    exact W.vret hx hb hr (fun t99 ht99 hW99 => ⟨⟨_, (w, (tp, (F 23), (F 25), (F 21), J71, Z, (B 33), (B 32))), rfl, ⟨rfl, hz72, hO⟩, by rw [ht99]; exact hP, hD⟩, hS.F ht99⟩) hS.2.2 dX5_step_229
  by_cases h73 : x = 5
  · subst h73
    refine lv_tableIn (tgt := 126) (off := 125) hx hb dX5_step_1 (by decide) (by decide) (by decide) (by decide) ?_
    refine lv_aload_n hx hb dX5_step_126 rfl (lv_at hl 0 rfl) ?_
    have hO : OKW G h0 a (upd (upd F 19 (nI tp)) 19 (nI tp)) R Z B J T Pi w := hO.to rfl
    obtain ⟨_, qr77, hqr78⟩ := hO.2.1 28 _ (sg_28 G h0 a _ _ _ _ _)
    refine pc_V0 (G := G) (As := []) (rest := []) hx hb hml hown hq hE hX pX0_al hP hD hS hA hl.1 (M_pop l G h0 a (upd F 19 (nI tp)) R Z B J T Pi w tp (by omega) hO) (gV pw_598 pw_599 pw_600 pw_539 pw_595) hV_X5_pop qr77 4 hqr78 rfl rfl rfl (Nat.le_of_ble_eq_true rfl) dX5_step_127 ⟨Nat.le_of_ble_eq_true rfl, Nat.le_of_ble_eq_true rfl⟩ ⟨Nat.le_of_ble_eq_true rfl, Nat.le_of_ble_eq_true rfl⟩ (fun v76 u74 H locs hw75 hP hD hS => ?_)
    obtain ⟨w, r79, tp80, en81, rf82, J83⟩ := u74
    obtain ⟨hw75, h84, hO⟩ := hw75
    have h84 : tp80 ≤ 32000 := h84
    obtain rfl : v76 = some (.long r79) := hw75
    have hO : OKW G h0 a (upd (upd (upd F 19 (nI tp80)) 23 en81) 25 rf82) R Z B J83 T Pi w := hO.to rfl
    refine W.widen (k := 0) (n := 0) (Nat.le_of_ble_eq_true rfl) (Nat.le_of_ble_eq_true rfl) ?_
    refine W.eq (g2 := F0 m 130 ls [.long r79]) rfl ?_
    refine lv_pop2_2 hx hb dX5_step_130 rfl ?_
    refine lv_goto (tgt := 229) hx hb dX5_step_131 (by decide) ?_
    have hz85 : tp80 ≤ 32000 := (by omega)
    have hO : OKW G h0 a (upd (upd (upd (upd F 19 (nI tp80)) 21 (F 21)) 23 en81) 25 rf82) R Z (updA (updA B 32 (B 32)) 33 (B 33)) J83 T Pi w := hO.to rfl
    exact W.vret hx hb hr (fun t99 ht99 hW99 => ⟨⟨_, (w, (tp80, en81, rf82, (F 21), J83, Z, (B 33), (B 32))), rfl, ⟨rfl, hz85, hO⟩, by rw [ht99]; exact hP, hD⟩, hS.F ht99⟩) hS.2.2 dX5_step_229
  by_cases h86 : x = 6
  · subst h86
    refine lv_tableIn (tgt := 134) (off := 133) hx hb dX5_step_1 (by decide) (by decide) (by decide) (by decide) ?_
    refine lv_aload_n hx hb dX5_step_134 rfl (lv_at hl 0 rfl) ?_
    refine lv_iload_n hx hb dX5_step_135 rfl (lv_at hl 2 rfl) ?_
    refine c_put (v := .int y) (ty := .int) (C := RX5) (Tc := TX5) (N := 19) (ci := 4) hx hb hq pin_wsX50 tyX5 tyX5_ok nmX5 hown hE hP hD hS hO 28 (sg_28 G h0 a _ _ _ _ _) rfl 13 (by decide) (hq _ pw_566) (fun _ h9 => h9) rfl (by decide +kernel) rfl rfl (Nat.le_of_ble_eq_true rfl) (sf_21 G h0 a _ _ _ _ _ y) dX5_step_136 (fun H locs w hP hD hS hO => ?_)
    refine lv_goto (tgt := 229) hx hb dX5_step_139 (by decide) ?_
    have hz87 : tp ≤ 32000 := (by omega)
    have hO : OKW G h0 a (upd (upd (upd (upd F 19 (nI tp)) 21 y) 23 (F 23)) 25 (F 25)) R Z (updA (updA B 32 (B 32)) 33 (B 33)) J T Pi w := hO.to rfl
    exact W.vret hx hb hr (fun t99 ht99 hW99 => ⟨⟨_, (w, (tp, (F 23), (F 25), y, J, Z, (B 33), (B 32))), rfl, ⟨rfl, hz87, hO⟩, by rw [ht99]; exact hP, hD⟩, hS.F ht99⟩) hS.2.2 dX5_step_229
  by_cases h88 : x = 7
  · subst h88
    refine lv_tableIn (tgt := 142) (off := 141) hx hb dX5_step_1 (by decide) (by decide) (by decide) (by decide) ?_
    refine lv_aload_n hx hb dX5_step_142 rfl (lv_at hl 0 rfl) ?_
    refine lv_aload_n hx hb dX5_step_143 rfl (lv_at hl 0 rfl) ?_
    have hO : OKW G h0 a (upd (upd F 19 (nI tp)) 19 (nI tp)) R Z B J T Pi w := hO.to rfl
    obtain ⟨_, qr92, hqr93⟩ := hO.2.1 28 _ (sg_28 G h0 a _ _ _ _ _)
    refine pc_V0 (G := G) (As := []) (rest := [.ref (a 5)]) hx hb hml hown hq hE hX pX0_al hP hD hS hA hl.1 (M_pop l G h0 a (upd F 19 (nI tp)) R Z B J T Pi w tp (by omega) hO) (gV pw_598 pw_599 pw_600 pw_539 pw_595) hV_X5_pop qr92 4 hqr93 rfl rfl rfl (Nat.le_of_ble_eq_true rfl) dX5_step_144 ⟨Nat.le_of_ble_eq_true rfl, Nat.le_of_ble_eq_true rfl⟩ ⟨Nat.le_of_ble_eq_true rfl, Nat.le_of_ble_eq_true rfl⟩ (fun v91 u89 H locs hw90 hP hD hS => ?_)
    obtain ⟨w, r94, tp95, en96, rf97, J98⟩ := u89
    obtain ⟨hw90, h99, hO⟩ := hw90
    have h99 : tp95 ≤ 32000 := h99
    obtain rfl : v91 = some (.long r94) := hw90
    have hO : OKW G h0 a (upd (upd (upd F 19 (nI tp95)) 23 en96) 25 rf97) R Z B J98 T Pi w := hO.to rfl
    refine W.widen (k := 0) (n := 0) (Nat.le_of_ble_eq_true rfl) (Nat.le_of_ble_eq_true rfl) ?_
    refine W.eq (g2 := F0 m 147 ls [.long r94, .ref (a 5)]) rfl ?_
    refine lv_lconst (v := 0) hx hb dX5_step_147 (by decide) ?_
    refine W.lcmp hx hb dX5_step_148 ?_
    refine lv_topi (fun x100 e101 => ?_)
    refine lv_if_ne (tgt := 156) hx hb dX5_step_149 (by decide) (fun c102 => ?_) (fun c102 => ?_)
    · refine lv_aload_n hx hb dX5_step_156 rfl (lv_at hl 0 rfl) ?_
      refine c_get (v := .int (F 21)) (C := RX5) (Tc := TX5) (N := 19) (ci := 4) hx hb hq pin_wsX50 hown hE hP hO 28 (sg_28 G h0 a _ _ _ _ _) rfl 13 (by decide) (hq _ pw_566) (fun _ h9 => h9) rfl dX5_step_157 ?_
      refine c_put (v := .int (F 21)) (ty := .int) (C := RX5) (Tc := TX5) (N := 19) (ci := 4) hx hb hq pin_wsX50 tyX5 tyX5_ok nmX5 hown hE hP hD hS hO 28 (sg_28 G h0 a _ _ _ _ _) rfl 13 (by decide) (hq _ pw_566) (fun _ h9 => h9) rfl (by decide +kernel) rfl rfl (Nat.le_of_ble_eq_true rfl) (sf_21 G h0 a _ _ _ _ _ (F 21)) dX5_step_160 (fun H locs w hP hD hS hO => ?_)
      refine lv_goto (tgt := 229) hx hb dX5_step_163 (by decide) ?_
      have hz103 : tp95 ≤ 32000 := (by omega)
      have hO : OKW G h0 a (upd (upd (upd (upd F 19 (nI tp95)) 21 (F 21)) 23 en96) 25 rf97) R Z (updA (updA B 32 (B 32)) 33 (B 33)) J98 T Pi w := hO.to rfl
      exact W.vret hx hb hr (fun t99 ht99 hW99 => ⟨⟨_, (w, (tp95, en96, rf97, (F 21), J98, Z, (B 33), (B 32))), rfl, ⟨rfl, hz103, hO⟩, by rw [ht99]; exact hP, hD⟩, hS.F ht99⟩) hS.2.2 dX5_step_229
    · refine lv_iload_n hx hb dX5_step_152 rfl (lv_at hl 2 rfl) ?_
      refine lv_goto (tgt := 160) hx hb dX5_step_153 (by decide) ?_
      refine c_put (v := .int y) (ty := .int) (C := RX5) (Tc := TX5) (N := 19) (ci := 4) hx hb hq pin_wsX50 tyX5 tyX5_ok nmX5 hown hE hP hD hS hO 28 (sg_28 G h0 a _ _ _ _ _) rfl 13 (by decide) (hq _ pw_566) (fun _ h9 => h9) rfl (by decide +kernel) rfl rfl (Nat.le_of_ble_eq_true rfl) (sf_21 G h0 a _ _ _ _ _ y) dX5_step_160 (fun H locs w hP hD hS hO => ?_)
      refine lv_goto (tgt := 229) hx hb dX5_step_163 (by decide) ?_
      have hz104 : tp95 ≤ 32000 := (by omega)
      have hO : OKW G h0 a (upd (upd (upd (upd F 19 (nI tp95)) 21 y) 23 en96) 25 rf97) R Z (updA (updA B 32 (B 32)) 33 (B 33)) J98 T Pi w := hO.to rfl
      exact W.vret hx hb hr (fun t99 ht99 hW99 => ⟨⟨_, (w, (tp95, en96, rf97, y, J98, Z, (B 33), (B 32))), rfl, ⟨rfl, hz104, hO⟩, by rw [ht99]; exact hP, hD⟩, hS.F ht99⟩) hS.2.2 dX5_step_229
  by_cases h105 : x = 8
  · subst h105
    refine lv_tableIn (tgt := 166) (off := 165) hx hb dX5_step_1 (by decide) (by decide) (by decide) (by decide) ?_
    refine lv_aload_n hx hb dX5_step_166 rfl (lv_at hl 0 rfl) ?_
    refine lv_iload_n hx hb dX5_step_167 rfl (lv_at hl 1 rfl) ?_
    refine lv_bipush (v := 9) hx hb dX5_step_168 (by decide) ?_
    refine lv_icmp_ne (tgt := 177) hx hb dX5_step_170 (by decide) (fun c106 => ?_) (fun c106 => absurd c106 (by decide))
    refine lv_iconst (v := 0) hx hb dX5_step_177 (by decide) ?_
    refine lv_iload_n hx hb dX5_step_178 rfl (lv_at hl 2 rfl) ?_
    have hO : OKW G h0 a (upd (upd F 19 (nI tp)) 19 (nI tp)) R Z B J T Pi w := hO.to rfl
    obtain ⟨_, qr110, hqr111⟩ := hO.2.1 28 _ (sg_28 G h0 a _ _ _ _ _)
    refine pc_V0 (G := G) (As := [.int (nI 0), .int y]) (rest := []) hx hb hml hown hq hE hX pX0_al hP hD hS hA hl.1 (M_skip l G h0 a (upd F 19 (nI tp)) R Z B J T Pi w 0 y tp (by omega) (by omega) hO) (gV pw_628 pw_629 pw_630 pw_539 pw_597) hV_X5_skip qr110 4 hqr111 rfl rfl rfl (Nat.le_of_ble_eq_true rfl) dX5_step_179 ⟨Nat.le_of_ble_eq_true rfl, Nat.le_of_ble_eq_true rfl⟩ ⟨Nat.le_of_ble_eq_true rfl, Nat.le_of_ble_eq_true rfl⟩ (fun v109 u107 H locs hw108 hP hD hS => ?_)
    obtain ⟨w, tp112, en113, rf114, nx115, J116⟩ := u107
    obtain ⟨hw108, h117, hO⟩ := hw108
    have h117 : tp112 ≤ 32000 := h117
    obtain rfl : v109 = none := hw108
    have hO : OKW G h0 a (upd (upd (upd (upd F 19 (nI tp112)) 21 nx115) 23 en113) 25 rf114) R Z B J116 T Pi w := hO.to rfl
    refine W.widen (k := 0) (n := 0) (Nat.le_of_ble_eq_true rfl) (Nat.le_of_ble_eq_true rfl) ?_
    refine W.eq (g2 := F0 m 182 ls []) rfl ?_
    refine lv_goto (tgt := 229) hx hb dX5_step_182 (by decide) ?_
    have hz118 : tp112 ≤ 32000 := (by omega)
    have hO : OKW G h0 a (upd (upd (upd (upd F 19 (nI tp112)) 21 nx115) 23 en113) 25 rf114) R Z (updA (updA B 32 (B 32)) 33 (B 33)) J116 T Pi w := hO.to rfl
    exact W.vret hx hb hr (fun t99 ht99 hW99 => ⟨⟨_, (w, (tp112, en113, rf114, nx115, J116, Z, (B 33), (B 32))), rfl, ⟨rfl, hz118, hO⟩, by rw [ht99]; exact hP, hD⟩, hS.F ht99⟩) hS.2.2 dX5_step_229
  by_cases h119 : x = 9
  · subst h119
    refine lv_tableIn (tgt := 166) (off := 165) hx hb dX5_step_1 (by decide) (by decide) (by decide) (by decide) ?_
    refine lv_aload_n hx hb dX5_step_166 rfl (lv_at hl 0 rfl) ?_
    refine lv_iload_n hx hb dX5_step_167 rfl (lv_at hl 1 rfl) ?_
    refine lv_bipush (v := 9) hx hb dX5_step_168 (by decide) ?_
    refine lv_icmp_ne (tgt := 177) hx hb dX5_step_170 (by decide) (fun c120 => absurd c120 (by decide)) (fun c120 => ?_)
    refine lv_iconst (v := 1) hx hb dX5_step_173 (by decide) ?_
    refine lv_goto (tgt := 178) hx hb dX5_step_174 (by decide) ?_
    refine lv_iload_n hx hb dX5_step_178 rfl (lv_at hl 2 rfl) ?_
    have hO : OKW G h0 a (upd (upd F 19 (nI tp)) 19 (nI tp)) R Z B J T Pi w := hO.to rfl
    obtain ⟨_, qr124, hqr125⟩ := hO.2.1 28 _ (sg_28 G h0 a _ _ _ _ _)
    refine pc_V0 (G := G) (As := [.int (nI 1), .int y]) (rest := []) hx hb hml hown hq hE hX pX0_al hP hD hS hA hl.1 (M_skip l G h0 a (upd F 19 (nI tp)) R Z B J T Pi w 1 y tp (by omega) (by omega) hO) (gV pw_628 pw_629 pw_630 pw_539 pw_597) hV_X5_skip qr124 4 hqr125 rfl rfl rfl (Nat.le_of_ble_eq_true rfl) dX5_step_179 ⟨Nat.le_of_ble_eq_true rfl, Nat.le_of_ble_eq_true rfl⟩ ⟨Nat.le_of_ble_eq_true rfl, Nat.le_of_ble_eq_true rfl⟩ (fun v123 u121 H locs hw122 hP hD hS => ?_)
    obtain ⟨w, tp126, en127, rf128, nx129, J130⟩ := u121
    obtain ⟨hw122, h131, hO⟩ := hw122
    have h131 : tp126 ≤ 32000 := h131
    obtain rfl : v123 = none := hw122
    have hO : OKW G h0 a (upd (upd (upd (upd F 19 (nI tp126)) 21 nx129) 23 en127) 25 rf128) R Z B J130 T Pi w := hO.to rfl
    refine W.widen (k := 0) (n := 0) (Nat.le_of_ble_eq_true rfl) (Nat.le_of_ble_eq_true rfl) ?_
    refine W.eq (g2 := F0 m 182 ls []) rfl ?_
    refine lv_goto (tgt := 229) hx hb dX5_step_182 (by decide) ?_
    have hz132 : tp126 ≤ 32000 := (by omega)
    have hO : OKW G h0 a (upd (upd (upd (upd F 19 (nI tp126)) 21 nx129) 23 en127) 25 rf128) R Z (updA (updA B 32 (B 32)) 33 (B 33)) J130 T Pi w := hO.to rfl
    exact W.vret hx hb hr (fun t99 ht99 hW99 => ⟨⟨_, (w, (tp126, en127, rf128, nx129, J130, Z, (B 33), (B 32))), rfl, ⟨rfl, hz132, hO⟩, by rw [ht99]; exact hP, hD⟩, hS.F ht99⟩) hS.2.2 dX5_step_229
  by_cases h133 : x = 10
  · subst h133
    refine lv_tableIn (tgt := 185) (off := 184) hx hb dX5_step_1 (by decide) (by decide) (by decide) (by decide) ?_
    refine lv_aload_n hx hb dX5_step_185 rfl (lv_at hl 0 rfl) ?_
    refine lv_iload_n hx hb dX5_step_186 rfl (lv_at hl 2 rfl) ?_
    have hO : OKW G h0 a (upd (upd F 19 (nI tp)) 19 (nI tp)) R Z B J T Pi w := hO.to rfl
    obtain ⟨_, qr137, hqr138⟩ := hO.2.1 28 _ (sg_28 G h0 a _ _ _ _ _)
    refine pc_V0 (G := G) (As := [.int y]) (rest := []) hx hb hml hown hq hE hX pX0_al hP hD hS hA hl.1 (M_sign l G h0 a (upd F 19 (nI tp)) R Z B J T Pi w y tp (by omega) hO) (gV pw_631 pw_632 pw_633 pw_539 pw_618) hV_X5_sign qr137 4 hqr138 rfl rfl rfl (Nat.le_of_ble_eq_true rfl) dX5_step_187 ⟨Nat.le_of_ble_eq_true rfl, Nat.le_of_ble_eq_true rfl⟩ ⟨Nat.le_of_ble_eq_true rfl, Nat.le_of_ble_eq_true rfl⟩ (fun v136 u134 H locs hw135 hP hD hS => ?_)
    obtain ⟨w, tp139, en140, rf141, J142, z143⟩ := u134
    obtain ⟨hw135, h144, hO⟩ := hw135
    have h144 : tp139 ≤ 32000 := h144
    obtain rfl : v136 = none := hw135
    have hO : OKW G h0 a (upd (upd (upd F 19 (nI tp139)) 23 en140) 25 rf141) R z143 B J142 T Pi w := hO.to rfl
    refine W.widen (k := 0) (n := 0) (Nat.le_of_ble_eq_true rfl) (Nat.le_of_ble_eq_true rfl) ?_
    refine W.eq (g2 := F0 m 190 ls []) rfl ?_
    refine lv_goto (tgt := 229) hx hb dX5_step_190 (by decide) ?_
    have hz145 : tp139 ≤ 32000 := (by omega)
    have hO : OKW G h0 a (upd (upd (upd (upd F 19 (nI tp139)) 21 (F 21)) 23 en140) 25 rf141) R z143 (updA (updA B 32 (B 32)) 33 (B 33)) J142 T Pi w := hO.to rfl
    exact W.vret hx hb hr (fun t99 ht99 hW99 => ⟨⟨_, (w, (tp139, en140, rf141, (F 21), J142, z143, (B 33), (B 32))), rfl, ⟨rfl, hz145, hO⟩, by rw [ht99]; exact hP, hD⟩, hS.F ht99⟩) hS.2.2 dX5_step_229
  by_cases h146 : x = 11
  · subst h146
    refine lv_tableIn (tgt := 193) (off := 192) hx hb dX5_step_1 (by decide) (by decide) (by decide) (by decide) ?_
    refine lv_aload_n hx hb dX5_step_193 rfl (lv_at hl 0 rfl) ?_
    refine lv_iload_n hx hb dX5_step_194 rfl (lv_at hl 2 rfl) ?_
    refine lv_aload_n hx hb dX5_step_195 rfl (lv_at hl 0 rfl) ?_
    have hO : OKW G h0 a (upd (upd F 19 (nI tp)) 19 (nI tp)) R Z B J T Pi w := hO.to rfl
    obtain ⟨_, qr150, hqr151⟩ := hO.2.1 28 _ (sg_28 G h0 a _ _ _ _ _)
    refine pc_V0 (G := G) (As := []) (rest := [.int y, .ref (a 5)]) hx hb hml hown hq hE hX pX0_al hP hD hS hA hl.1 (M_pop l G h0 a (upd F 19 (nI tp)) R Z B J T Pi w tp (by omega) hO) (gV pw_598 pw_599 pw_600 pw_539 pw_595) hV_X5_pop qr150 4 hqr151 rfl rfl rfl (Nat.le_of_ble_eq_true rfl) dX5_step_196 ⟨Nat.le_of_ble_eq_true rfl, Nat.le_of_ble_eq_true rfl⟩ ⟨Nat.le_of_ble_eq_true rfl, Nat.le_of_ble_eq_true rfl⟩ (fun v149 u147 H locs hw148 hP hD hS => ?_)
    obtain ⟨w, r152, tp153, en154, rf155, J156⟩ := u147
    obtain ⟨hw148, h157, hO⟩ := hw148
    have h157 : tp153 ≤ 32000 := h157
    obtain rfl : v149 = some (.long r152) := hw148
    have hO : OKW G h0 a (upd (upd (upd F 19 (nI tp153)) 23 en154) 25 rf155) R Z B J156 T Pi w := hO.to rfl
    refine W.widen (k := 0) (n := 0) (Nat.le_of_ble_eq_true rfl) (Nat.le_of_ble_eq_true rfl) ?_
    refine W.eq (g2 := F0 m 199 ls [.long r152, .int y, .ref (a 5)]) rfl ?_
    refine lv_l2i hx hb dX5_step_199 rfl ?_
    refine lv_topi (fun x158 e159 => ?_)
    have hO : OKW G h0 a (upd (upd (upd (upd F 19 (nI tp153)) 23 en154) 25 rf155) 19 (nI tp153)) R Z B J156 T Pi w := hO.to rfl
    obtain ⟨_, qr163, hqr164⟩ := hO.2.1 28 _ (sg_28 G h0 a _ _ _ _ _)
    refine pc_V0 (G := G) (As := [.int y, .int x158]) (rest := []) hx hb hml hown hq hE hX pX0_al hP hD hS hA hl.1 (M_prefix l G h0 a (upd (upd (upd F 19 (nI tp153)) 23 en154) 25 rf155) R Z B J156 T Pi w y x158 tp153 (by omega) hO) (gV pw_634 pw_635 pw_636 pw_539 pw_619) hV_X5_prefix qr163 4 hqr164 rfl rfl rfl (Nat.le_of_ble_eq_true rfl) dX5_step_200 ⟨Nat.le_of_ble_eq_true rfl, Nat.le_of_ble_eq_true rfl⟩ ⟨Nat.le_of_ble_eq_true rfl, Nat.le_of_ble_eq_true rfl⟩ (fun v162 u160 H locs hw161 hP hD hS => ?_)
    obtain ⟨w, tp165, en166, rf167, J168⟩ := u160
    obtain ⟨hw161, h169, hO⟩ := hw161
    have h169 : tp165 ≤ 32000 := h169
    obtain rfl : v162 = none := hw161
    have hO : OKW G h0 a (upd (upd (upd F 19 (nI tp165)) 23 en166) 25 rf167) R Z B J168 T Pi w := hO.to rfl
    refine W.widen (k := 0) (n := 0) (Nat.le_of_ble_eq_true rfl) (Nat.le_of_ble_eq_true rfl) ?_
    refine W.eq (g2 := F0 m 203 ls []) rfl ?_
    refine lv_goto (tgt := 229) hx hb dX5_step_203 (by decide) ?_
    have hz170 : tp165 ≤ 32000 := (by omega)
    have hO : OKW G h0 a (upd (upd (upd (upd F 19 (nI tp165)) 21 (F 21)) 23 en166) 25 rf167) R Z (updA (updA B 32 (B 32)) 33 (B 33)) J168 T Pi w := hO.to rfl
    exact W.vret hx hb hr (fun t99 ht99 hW99 => ⟨⟨_, (w, (tp165, en166, rf167, (F 21), J168, Z, (B 33), (B 32))), rfl, ⟨rfl, hz170, hO⟩, by rw [ht99]; exact hP, hD⟩, hS.F ht99⟩) hS.2.2 dX5_step_229
  by_cases h171 : x = 12
  · subst h171
    refine lv_tableIn (tgt := 206) (off := 205) hx hb dX5_step_1 (by decide) (by decide) (by decide) (by decide) ?_
    refine lv_aload_n hx hb dX5_step_206 rfl (lv_at hl 0 rfl) ?_
    have hO : OKW G h0 a (upd (upd F 19 (nI tp)) 19 (nI tp)) R Z B J T Pi w := hO.to rfl
    obtain ⟨_, qr175, hqr176⟩ := hO.2.1 28 _ (sg_28 G h0 a _ _ _ _ _)
    refine pc_V0 (G := G) (As := []) (rest := []) hx hb hml hown hq hE hX pX0_al hP hD hS hA hl.1 (M_readNumber l G h0 a (upd F 19 (nI tp)) R Z B J T Pi w tp (by omega) hO) (gV pw_637 pw_638 pw_639 pw_539 pw_620) hV_X5_readNumber qr175 4 hqr176 rfl rfl rfl (Nat.le_of_ble_eq_true rfl) dX5_step_207 ⟨Nat.le_of_ble_eq_true rfl, Nat.le_of_ble_eq_true rfl⟩ ⟨Nat.le_of_ble_eq_true rfl, Nat.le_of_ble_eq_true rfl⟩ (fun v174 u172 H locs hw173 hP hD hS => ?_)
    obtain ⟨w, tp177, en178, rf179, J180, ta181⟩ := u172
    obtain ⟨hw173, h182, hO⟩ := hw173
    have h182 : tp177 ≤ 32000 := h182
    obtain rfl : v174 = none := hw173
    have hO : OKW G h0 a (upd (upd (upd F 19 (nI tp177)) 23 en178) 25 rf179) R Z (updA B 33 ta181) J180 T Pi w := hO.to rfl
    refine W.widen (k := 0) (n := 0) (Nat.le_of_ble_eq_true rfl) (Nat.le_of_ble_eq_true rfl) ?_
    refine W.eq (g2 := F0 m 210 ls []) rfl ?_
    refine lv_goto (tgt := 229) hx hb dX5_step_210 (by decide) ?_
    have hz183 : tp177 ≤ 32000 := (by omega)
    have hO : OKW G h0 a (upd (upd (upd (upd F 19 (nI tp177)) 21 (F 21)) 23 en178) 25 rf179) R Z (updA (updA B 32 (B 32)) 33 ta181) J180 T Pi w := hO.to rfl
    exact W.vret hx hb hr (fun t99 ht99 hW99 => ⟨⟨_, (w, (tp177, en178, rf179, (F 21), J180, Z, ta181, (B 32))), rfl, ⟨rfl, hz183, hO⟩, by rw [ht99]; exact hP, hD⟩, hS.F ht99⟩) hS.2.2 dX5_step_229
  by_cases h184 : x = 13
  · subst h184
    refine lv_tableIn (tgt := 213) (off := 212) hx hb dX5_step_1 (by decide) (by decide) (by decide) (by decide) ?_
    refine lv_aload_n hx hb dX5_step_213 rfl (lv_at hl 0 rfl) ?_
    refine lv_aload_n hx hb dX5_step_214 rfl (lv_at hl 0 rfl) ?_
    have hO : OKW G h0 a (upd (upd F 19 (nI tp)) 19 (nI tp)) R Z B J T Pi w := hO.to rfl
    obtain ⟨_, qr188, hqr189⟩ := hO.2.1 28 _ (sg_28 G h0 a _ _ _ _ _)
    refine pc_V0 (G := G) (As := []) (rest := [.ref (a 5)]) hx hb hml hown hq hE hX pX0_al hP hD hS hA hl.1 (M_pop l G h0 a (upd F 19 (nI tp)) R Z B J T Pi w tp (by omega) hO) (gV pw_598 pw_599 pw_600 pw_539 pw_595) hV_X5_pop qr188 4 hqr189 rfl rfl rfl (Nat.le_of_ble_eq_true rfl) dX5_step_215 ⟨Nat.le_of_ble_eq_true rfl, Nat.le_of_ble_eq_true rfl⟩ ⟨Nat.le_of_ble_eq_true rfl, Nat.le_of_ble_eq_true rfl⟩ (fun v187 u185 H locs hw186 hP hD hS => ?_)
    obtain ⟨w, r190, tp191, en192, rf193, J194⟩ := u185
    obtain ⟨hw186, h195, hO⟩ := hw186
    have h195 : tp191 ≤ 32000 := h195
    obtain rfl : v187 = some (.long r190) := hw186
    have hO : OKW G h0 a (upd (upd (upd F 19 (nI tp191)) 23 en192) 25 rf193) R Z B J194 T Pi w := hO.to rfl
    refine W.widen (k := 0) (n := 0) (Nat.le_of_ble_eq_true rfl) (Nat.le_of_ble_eq_true rfl) ?_
    refine W.eq (g2 := F0 m 218 ls [.long r190, .ref (a 5)]) rfl ?_
    refine lv_l2i hx hb dX5_step_218 rfl ?_
    refine lv_topi (fun x196 e197 => ?_)
    have hO : OKW G h0 a (upd (upd (upd F 19 (nI tp191)) 23 en192) 25 rf193) R Z B J194 T Pi w := hO.to rfl
    obtain ⟨_, qr201, hqr202⟩ := hO.2.1 28 _ (sg_28 G h0 a _ _ _ _ _)
    refine pc_V0 (G := G) (As := [.int x196]) (rest := []) hx hb hml hown hq hE hX pX0_al hP hD hS hA hl.1 (M_print l G h0 a (upd (upd (upd F 19 (nI tp191)) 23 en192) 25 rf193) R Z B J194 T Pi w x196 hO) (gV pw_640 pw_641 pw_642 pw_539 pw_621) hV_X5_print qr201 4 hqr202 rfl rfl rfl (Nat.le_of_ble_eq_true rfl) dX5_step_219 ⟨Nat.le_of_ble_eq_true rfl, Nat.le_of_ble_eq_true rfl⟩ ⟨Nat.le_of_ble_eq_true rfl, Nat.le_of_ble_eq_true rfl⟩ (fun v200 u198 H locs hw199 hP hD hS => ?_)
    obtain ⟨w, ta203, ou204⟩ := u198
    obtain ⟨hw199, hO⟩ := hw199
    obtain rfl : v200 = none := hw199
    have hO : OKW G h0 a (upd (upd (upd F 19 (nI tp191)) 23 en192) 25 rf193) R Z (updA (updA B 32 ou204) 33 ta203) J194 T Pi w := hO.to rfl
    refine W.widen (k := 0) (n := 0) (Nat.le_of_ble_eq_true rfl) (Nat.le_of_ble_eq_true rfl) ?_
    refine W.eq (g2 := F0 m 222 ls []) rfl ?_
    refine lv_goto (tgt := 229) hx hb dX5_step_222 (by decide) ?_
    have hz205 : tp191 ≤ 32000 := (by omega)
    have hO : OKW G h0 a (upd (upd (upd (upd F 19 (nI tp191)) 21 (F 21)) 23 en192) 25 rf193) R Z (updA (updA B 32 ou204) 33 ta203) J194 T Pi w := hO.to rfl
    exact W.vret hx hb hr (fun t99 ht99 hW99 => ⟨⟨_, (w, (tp191, en192, rf193, (F 21), J194, Z, ta203, ou204)), rfl, ⟨rfl, hz205, hO⟩, by rw [ht99]; exact hP, hD⟩, hS.F ht99⟩) hS.2.2 dX5_step_229
  refine lv_tableOut (tgt := 225) hx hb dX5_step_1 (sw_m0_13 h1 h12 h28 h46 h65 h73 h86 h88 h105 h119 h133 h146 h171 h184) (by decide) ?_
  refine lv_aload_n hx hb dX5_step_225 rfl (lv_at hl 0 rfl) ?_
  have hO : OKW G h0 a (upd F 19 (nI tp)) R Z B J T Pi w := hO.to rfl
  obtain ⟨_, qr209, hqr210⟩ := hO.2.1 28 _ (sg_28 G h0 a _ _ _ _ _)
  refine pc_V0 (G := G) (As := []) (rest := []) hx hb hml hown hq hE hX pX0_al hP hD hS hA hl.1 (M_refuse l G h0 a (upd F 19 (nI tp)) R Z B J T Pi w hO) (gV pw_536 pw_537 pw_538 pw_539 pw_511) hV_X5_refuse qr209 4 hqr210 rfl rfl rfl (Nat.le_of_ble_eq_true rfl) dX5_step_226 ⟨Nat.le_of_ble_eq_true rfl, Nat.le_of_ble_eq_true rfl⟩ ⟨Nat.le_of_ble_eq_true rfl, Nat.le_of_ble_eq_true rfl⟩ (fun v208 u206 H locs hw207 hP hD hS => ?_)
  obtain ⟨w, en211, rf212⟩ := u206
  obtain ⟨hw207, hO⟩ := hw207
  obtain rfl : v208 = none := hw207
  have hO : OKW G h0 a (upd (upd (upd F 19 (nI tp)) 23 en211) 25 rf212) R Z B J T Pi w := hO.to rfl
  refine W.widen (k := 0) (n := 0) (Nat.le_of_ble_eq_true rfl) (Nat.le_of_ble_eq_true rfl) ?_
  refine W.eq (g2 := F0 m 229 ls []) rfl ?_
  have hz213 : tp ≤ 32000 := (by omega)
  have hO : OKW G h0 a (upd (upd (upd (upd F 19 (nI tp)) 21 (F 21)) 23 en211) 25 rf212) R Z (updA (updA B 32 (B 32)) 33 (B 33)) J T Pi w := hO.to rfl
  exact W.vret hx hb hr (fun t99 ht99 hW99 => ⟨⟨_, (w, (tp, en211, rf212, (F 21), J, Z, (B 33), (B 32))), rfl, ⟨rfl, hz213, hO⟩, by rw [ht99]; exact hP, hD⟩, hS.F ht99⟩) hS.2.2 dX5_step_229
