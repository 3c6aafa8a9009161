theorem sw_m0_4 {x : Int32} (h0 : ¬ x = 0) (h1 : ¬ x = 1) (h2 : ¬ x = 2) (h3 : ¬ x = 3) (h4 : ¬ x = 4) : x.toInt < 0 ∨ 4 < x.toInt := by
  have a0 : ¬ x.toInt = 0 := tJ_ne (n := 0) (by decide) h0
  have a1 : ¬ x.toInt = 1 := tJ_ne (n := 1) (by decide) h1
  have a2 : ¬ x.toInt = 2 := tJ_ne (n := 2) (by decide) h2
  have a3 : ¬ x.toInt = 3 := tJ_ne (n := 3) (by decide) h3
  have a4 : ¬ x.toInt = 4 := tJ_ne (n := 4) (by decide) h4
  omega
theorem dX11_count_0 : decode cX11_count 0 = .ok (.iload_n 1, 1) := by decide +kernel
theorem dX11_count_1 : decode cX11_count 1 = .ok (.tableswitch 108 0 4 #[35, 40, 48, 67, 86], 35) := by decide +kernel
theorem dX11_count_36 : decode cX11_count 36 = .ok (.aload_n 0, 1) := by decide +kernel
theorem dX11_count_37 : decode cX11_count 37 = .ok (.getfield 54, 3) := by decide +kernel
theorem dX11_count_40 : decode cX11_count 40 = .ok (.ireturn, 1) := by decide +kernel
theorem dX11_count_41 : decode cX11_count 41 = .ok (.aload_n 0, 1) := by decide +kernel
theorem dX11_count_42 : decode cX11_count 42 = .ok (.getfield 50, 3) := by decide +kernel
theorem dX11_count_45 : decode cX11_count 45 = .ok (.getfield 163, 3) := by decide +kernel
theorem dX11_count_48 : decode cX11_count 48 = .ok (.ireturn, 1) := by decide +kernel
theorem dX11_count_49 : decode cX11_count 49 = .ok (.aload_n 0, 1) := by decide +kernel
theorem dX11_count_50 : decode cX11_count 50 = .ok (.getfield 69, 3) := by decide +kernel
theorem dX11_count_53 : decode cX11_count 53 = .ok (.ifnonnull 7, 3) := by decide +kernel
theorem dX11_count_56 : decode cX11_count 56 = .ok (.iconst 0, 1) := by decide +kernel
theorem dX11_count_57 : decode cX11_count 57 = .ok (.goto 10, 3) := by decide +kernel
theorem dX11_count_67 : decode cX11_count 67 = .ok (.ireturn, 1) := by decide +kernel
theorem dX11_count_68 : decode cX11_count 68 = .ok (.aload_n 0, 1) := by decide +kernel
theorem dX11_count_69 : decode cX11_count 69 = .ok (.getfield 69, 3) := by decide +kernel
theorem dX11_count_72 : decode cX11_count 72 = .ok (.ifnonnull 7, 3) := by decide +kernel
theorem dX11_count_75 : decode cX11_count 75 = .ok (.iconst 0, 1) := by decide +kernel
theorem dX11_count_76 : decode cX11_count 76 = .ok (.goto 10, 3) := by decide +kernel
theorem dX11_count_86 : decode cX11_count 86 = .ok (.ireturn, 1) := by decide +kernel
theorem dX11_count_87 : decode cX11_count 87 = .ok (.aload_n 0, 1) := by decide +kernel
theorem dX11_count_88 : decode cX11_count 88 = .ok (.getfield 69, 3) := by decide +kernel
theorem dX11_count_91 : decode cX11_count 91 = .ok (.ifnonnull 7, 3) := by decide +kernel
theorem dX11_count_94 : decode cX11_count 94 = .ok (.iconst 0, 1) := by decide +kernel
theorem dX11_count_95 : decode cX11_count 95 = .ok (.goto 13, 3) := by decide +kernel
theorem dX11_count_108 : decode cX11_count 108 = .ok (.ireturn, 1) := by decide +kernel
theorem dX11_count_109 : decode cX11_count 109 = .ok (.aload_n 0, 1) := by decide +kernel
theorem dX11_count_110 : decode cX11_count 110 = .ok (.getfield 50, 3) := by decide +kernel
theorem dX11_count_113 : decode cX11_count 113 = .ok (.iload_n 1, 1) := by decide +kernel
theorem dX11_count_114 : decode cX11_count 114 = .ok (.invokevirtual 198, 3) := by decide +kernel
theorem dX11_count_117 : decode cX11_count 117 = .ok (.ireturn, 1) := by decide +kernel
theorem hV_X5_told : yX5_told.cls = RX5 ∧ yX5_told.cls ≠ "java/lang/invoke/MethodHandle" ∧ yX5_told.cls ≠ "java/lang/invoke/VarHandle" ∧ (parseMethodDescriptor yX5_told.desc).map (fun d => d.parameters.length) = some 1 := by decide +kernel
set_option maxHeartbeats 2000000 in
set_option maxRecDepth 100000 in
theorem J_countN (l : Launch) (G : pT) (h0 : Nat) (a : Nat → Nat) (F : Nat → Int32) (R : Nat → Value) (Z : Int64) (B : Nat → Nat → Int32) (J : Nat → Nat → Int64) (T : Nat → Nat) (Pi : Nat → va_E → Prop) (w : va_W) (x : Int32) (hO : OKW G h0 a F (updR R 0 (.null)) Z B J T Pi w) : PM l G pX0 yX11_count cX11_count 2 (some .int) ({ frames := 3, cells := 0, slots := 0, locals := 81 }) [.ref h0, .int x] w (fun (v : Option Value) (u : va_W × (Int32)) => v = some (.int u.2) ∧ (OKW G h0 a F (updR R 0 (.null)) Z B J T Pi u.1)) (fun u => u.1) := by
  intro sz
  refine Met.ofW (cc := cX11_count) (maxL := 2) (ret := (some .int)) (by decide) rfl ?_
  intro p e s m args below meth c s₁ B9 hml hv
  obtain ⟨rfl, hsz, hP, hD0, hE, hX⟩ := hv
  have hx := B9.exec
  have hb := B9.bytes
  have hr := B9.returns
  have hts := atoms_spec (ws := Cond.code yX11_count cX11_count 2 (some .int) :: pw) B9.pre
  have hq : ∀ w ∈ pw, w.before _ s = true := fun w h => hts w (List.mem_cons_of_mem _ h)
  have hown : s.vm.findClass RX11 = some m.cls := findClass_of_methodNamed B9.named
  have hlocks := B9.notSynchronized
  subst hsz
  have hD := hD0.self (sz := s.heap.size)
  have hA : ∀ q : Nat, s.heap.size ≤ q → va_A w s.heap.size q := fun q h => Or.inr h
  generalize va_A w s.heap.size = A at hD hE hA ⊢
  have hS : va_S A s.heap s.heap [] := va_S.rf
  have hl := lv_entry ([.ref h0, .int x]) (n := 2) (Nat.le_of_ble_eq_true rfl)
  rw [lg_entry_eq]
  generalize (lg_sl ([.ref h0, .int x]) ++ List.replicate (2 - (lg_sl ([.ref h0, .int x])).length) Slot.unset).toArray = ls at hl ⊢
  have hl : lv_has ls 2 [(0, .ref h0), (1, .int x)] := hl
  refine lv_iload_n hx hb dX11_count_0 rfl (lv_at hl 1 rfl) ?_
  by_cases h1 : x = 0
  · subst h1
    refine lv_tableIn (tgt := 36) (off := 35) hx hb dX11_count_1 (by decide) (by decide) (by decide) (by decide) ?_
    refine lv_aload_n hx hb dX11_count_36 rfl (lv_at hl 0 rfl) ?_
    refine c_get (v := .int (F 0)) (C := RX11) (Tc := TX11) (N := 8) (ci := 8) hx hb hq pin_wsX110 hown hE hP hO 0 (sg_0 G h0 a _ _ _ _ _) rfl 1 (by decide) (hq _ pw_1334) (fun _ h9 => h9) rfl dX11_count_37 ?_
    have hO : OKW G h0 a F (updR R 0 (.null)) Z B J T Pi w := hO.to rfl
    exact W.iret (v := (F 0)) hx hb hr (fun t99 ht99 hW99 => ⟨⟨_, (w, (F 0)), rfl, ⟨rfl, hO⟩, by rw [ht99]; exact hP, hD⟩, hS.F ht99⟩) hS.2.2 dX11_count_40
  by_cases h2 : x = 1
  · subst h2
    refine lv_tableIn (tgt := 41) (off := 40) hx hb dX11_count_1 (by decide) (by decide) (by decide) (by decide) ?_
    refine lv_aload_n hx hb dX11_count_41 rfl (lv_at hl 0 rfl) ?_
    refine c_get (v := .ref (a 5)) (C := RX11) (Tc := TX11) (N := 8) (ci := 8) hx hb hq pin_wsX110 hown hE hP hO 0 (sg_0 G h0 a _ _ _ _ _) rfl 6 (by decide) (hq _ pw_1321) (fun _ h9 => h9) rfl dX11_count_42 ?_
    refine c_get (v := .int (F 17)) (C := RX5) (Tc := TX5) (N := 19) (ci := 4) hx hb hq pin_wsX50 hown hE hP hO 28 (sg_28 G h0 a _ _ _ _ _) rfl 5 (by decide) (hq _ pw_1400) (fun _ h9 => h9) rfl dX11_count_45 ?_
    have hO : OKW G h0 a F (updR R 0 (.null)) Z B J T Pi w := hO.to rfl
    exact W.iret (v := (F 17)) hx hb hr (fun t99 ht99 hW99 => ⟨⟨_, (w, (F 17)), rfl, ⟨rfl, hO⟩, by rw [ht99]; exact hP, hD⟩, hS.F ht99⟩) hS.2.2 dX11_count_48
  by_cases h3 : x = 2
  · subst h3
    refine lv_tableIn (tgt := 49) (off := 48) hx hb dX11_count_1 (by decide) (by decide) (by decide) (by decide) ?_
    refine lv_aload_n hx hb dX11_count_49 rfl (lv_at hl 0 rfl) ?_
    refine c_get (v := .null) (C := RX11) (Tc := TX11) (N := 8) (ci := 8) hx hb hq pin_wsX110 hown hE hP hO 0 (sg_0 G h0 a _ _ _ _ _) rfl 7 (by decide) (hq _ pw_1342) (fun _ h9 => h9) rfl dX11_count_50 ?_
    refine lv_ifnonnullN hx hb dX11_count_53 ?_
    refine lv_iconst (v := 0) hx hb dX11_count_56 (by decide) ?_
    refine lv_goto (tgt := 67) hx hb dX11_count_57 (by decide) ?_
    have hO : OKW G h0 a F (updR R 0 (.null)) Z B J T Pi w := hO.to rfl
    exact W.iret (v := 0) hx hb hr (fun t99 ht99 hW99 => ⟨⟨_, (w, (0 : Int32)), rfl, ⟨rfl, hO⟩, by rw [ht99]; exact hP, hD⟩, hS.F ht99⟩) hS.2.2 dX11_count_67
  by_cases h4 : x = 3
  · subst h4
    refine lv_tableIn (tgt := 68) (off := 67) hx hb dX11_count_1 (by decide) (by decide) (by decide) (by decide) ?_
    refine lv_aload_n hx hb dX11_count_68 rfl (lv_at hl 0 rfl) ?_
    refine c_get (v := .null) (C := RX11) (Tc := TX11) (N := 8) (ci := 8) hx hb hq pin_wsX110 hown hE hP hO 0 (sg_0 G h0 a _ _ _ _ _) rfl 7 (by decide) (hq _ pw_1342) (fun _ h9 => h9) rfl dX11_count_69 ?_
    refine lv_ifnonnullN hx hb dX11_count_72 ?_
    refine lv_iconst (v := 0) hx hb dX11_count_75 (by decide) ?_
    refine lv_goto (tgt := 86) hx hb dX11_count_76 (by decide) ?_
    have hO : OKW G h0 a F (updR R 0 (.null)) Z B J T Pi w := hO.to rfl
    exact W.iret (v := 0) hx hb hr (fun t99 ht99 hW99 => ⟨⟨_, (w, (0 : Int32)), rfl, ⟨rfl, hO⟩, by rw [ht99]; exact hP, hD⟩, hS.F ht99⟩) hS.2.2 dX11_count_86
  by_cases h5 : x = 4
  · subst h5
    refine lv_tableIn (tgt := 87) (off := 86) hx hb dX11_count_1 (by decide) (by decide) (by decide) (by decide) ?_
    refine lv_aload_n hx hb dX11_count_87 rfl (lv_at hl 0 rfl) ?_
    refine c_get (v := .null) (C := RX11) (Tc := TX11) (N := 8) (ci := 8) hx hb hq pin_wsX110 hown hE hP hO 0 (sg_0 G h0 a _ _ _ _ _) rfl 7 (by decide) (hq _ pw_1342) (fun _ h9 => h9) rfl dX11_count_88 ?_
    refine lv_ifnonnullN hx hb dX11_count_91 ?_
    refine lv_iconst (v := 0) hx hb dX11_count_94 (by decide) ?_
    refine lv_goto (tgt := 108) hx hb dX11_count_95 (by decide) ?_
    have hO : OKW G h0 a F (updR R 0 (.null)) Z B J T Pi w := hO.to rfl
    exact W.iret (v := 0) hx hb hr (fun t99 ht99 hW99 => ⟨⟨_, (w, (0 : Int32)), rfl, ⟨rfl, hO⟩, by rw [ht99]; exact hP, hD⟩, hS.F ht99⟩) hS.2.2 dX11_count_108
  refine lv_tableOut (tgt := 109) hx hb dX11_count_1 (sw_m0_4 h1 h2 h3 h4 h5) (by decide) ?_
  refine lv_aload_n hx hb dX11_count_109 rfl (lv_at hl 0 rfl) ?_
  refine c_get (v := .ref (a 5)) (C := RX11) (Tc := TX11) (N := 8) (ci := 8) hx hb hq pin_wsX110 hown hE hP hO 0 (sg_0 G h0 a _ _ _ _ _) rfl 6 (by decide) (hq _ pw_1321) (fun _ h9 => h9) rfl dX11_count_110 ?_
  refine lv_iload_n hx hb dX11_count_113 rfl (lv_at hl 1 rfl) ?_
  have hO : OKW G h0 a F (updR R 0 (.null)) Z B J T Pi w := hO.to rfl
  obtain ⟨_, qr9, hqr10⟩ := hO.2.1 28 _ (sg_28 G h0 a _ _ _ _ _)
  refine pc_V0 (G := G) (As := [.int x]) (rest := []) hx hb hml hown hq hE hX pX0_al hP hD hS hA hl.1 (M_told l G h0 a F (updR R 0 (.null)) Z B J T Pi w x hO) (gV pw_1424 pw_1425 pw_1426 pw_539 pw_484) hV_X5_told qr9 4 hqr10 rfl rfl rfl (Nat.le_of_ble_eq_true rfl) dX11_count_114 ⟨Nat.le_of_ble_eq_true rfl, Nat.le_of_ble_eq_true rfl⟩ ⟨Nat.le_of_ble_eq_true rfl, Nat.le_of_ble_eq_true rfl⟩ (fun v8 u6 H locs hw7 hP hD hS => ?_)
  obtain ⟨w, r11⟩ := u6
  obtain ⟨hw7, hO⟩ := hw7
  obtain rfl : v8 = some (.int r11) := hw7
  have hO : OKW G h0 a F (updR R 0 (.null)) Z B J T Pi w := hO.to rfl
  refine W.widen (k := 0) (n := 0) (Nat.le_of_ble_eq_true rfl) (Nat.le_of_ble_eq_true rfl) ?_
  refine W.eq (g2 := F0 m 117 ls [.int r11]) rfl ?_
  have hO : OKW G h0 a F (updR R 0 (.null)) Z B J T Pi w := hO.to rfl
  exact W.iret (v := r11) hx hb hr (fun t99 ht99 hW99 => ⟨⟨_, (w, r11), rfl, ⟨rfl, hO⟩, by rw [ht99]; exact hP, hD⟩, hS.F ht99⟩) hS.2.2 dX11_count_117
theorem dX11_count_60 : decode cX11_count 60 = .ok (.aload_n 0, 1) := by decide +kernel
theorem dX11_count_61 : decode cX11_count 61 = .ok (.getfield 16, 3) := by decide +kernel
theorem dX11_count_64 : decode cX11_count 64 = .ok (.getfield 192, 3) := by decide +kernel
theorem dX11_count_79 : decode cX11_count 79 = .ok (.aload_n 0, 1) := by decide +kernel
theorem dX11_count_80 : decode cX11_count 80 = .ok (.getfield 69, 3) := by decide +kernel
theorem dX11_count_83 : decode cX11_count 83 = .ok (.getfield 194, 3) := by decide +kernel
theorem dX11_count_98 : decode cX11_count 98 = .ok (.aload_n 0, 1) := by decide +kernel
theorem dX11_count_99 : decode cX11_count 99 = .ok (.getfield 69, 3) := by decide +kernel
theorem dX11_count_102 : decode cX11_count 102 = .ok (.getfield 195, 3) := by decide +kernel
theorem dX11_count_105 : decode cX11_count 105 = .ok (.invokevirtual 111, 3) := by decide +kernel
set_option maxHeartbeats 20000000 in
set_option maxRecDepth 100000 in
theorem J_count (l : Launch) (G : pT) (h0 : Nat) (a : Nat → Nat) (F : Nat → Int32) (R : Nat → Value) (Z : Int64) (B : Nat → Nat → Int32) (J : Nat → Nat → Int64) (K : PK) (w : va_W) (x : Int32) (pq : Nat) (dr : Nat) (ml : Nat) (nd : Nat) (nm : Nat) (cp : Nat) (it : Nat → Nat) (s9 : Nat) (g : Nat → Nat → Nat) (rk : Nat → Nat) (hwp : WPr G K g) (hps : PgT G K g (a 1) pq dr ml nd nm cp it s9) (hrk : RkO K rk) (hO : OKP G h0 a F (updR R 0 (.ref pq)) Z B J K w) : PM l G pX0 yX11_count cX11_count 2 (some .int) ({ frames := 3, cells := 0, slots := 0, locals := 81 }) [.ref h0, .int x] w (fun (v : Option Value) (u : va_W × (Int32)) => v = some (.int u.2) ∧ (OKP G h0 a F (updR R 0 (.ref pq)) Z B J K u.1)) (fun u => u.1) := by
  intro sz
  refine Met.ofW (cc := cX11_count) (maxL := 2) (ret := (some .int)) (by decide) rfl ?_
  intro p e s m args below meth c s₁ B9 hml hv
  obtain ⟨rfl, hsz, hP, hD0, hE, hX⟩ := hv
  have hx := B9.exec
  have hb := B9.bytes
  have hr := B9.returns
  have hts := atoms_spec (ws := Cond.code yX11_count cX11_count 2 (some .int) :: pw) B9.pre
  have hq : ∀ w ∈ pw, w.before _ s = true := fun w h => hts w (List.mem_cons_of_mem _ h)
  have hown : s.vm.findClass RX11 = some m.cls := findClass_of_methodNamed B9.named
  have hlocks := B9.notSynchronized
  subst hsz
  have hD := hD0.self (sz := s.heap.size)
  have hA : ∀ q : Nat, s.heap.size ≤ q → va_A w s.heap.size q := fun q h => Or.inr h
  generalize va_A w s.heap.size = A at hD hE hA ⊢
  have hS : va_S A s.heap s.heap [] := va_S.rf
  have hl := lv_entry ([.ref h0, .int x]) (n := 2) (Nat.le_of_ble_eq_true rfl)
  rw [lg_entry_eq]
  generalize (lg_sl ([.ref h0, .int x]) ++ List.replicate (2 - (lg_sl ([.ref h0, .int x])).length) Slot.unset).toArray = ls at hl ⊢
  have hl : lv_has ls 2 [(0, .ref h0), (1, .int x)] := hl
  have hpg := hps.1
  have hp1 := hpg.1
  have hp2 := hpg.2.1
  have hp3 := hpg.2.2.1
  have hp4 := hpg.2.2.2.1
  have hp5 := hpg.2.2.2.2.1
  have hp6 := hpg.2.2.2.2.2.1
  have hp8 := hpg.2.2.2.2.2.2.2.1
  have hp9 := hpg.2.2.2.2.2.2.2.2
  have hlm := hps.2.2.1
  refine lv_iload_n hx hb dX11_count_0 rfl (lv_at hl 1 rfl) ?_
  by_cases h1 : x = 0
  · subst h1
    refine lv_tableIn (tgt := 36) (off := 35) hx hb dX11_count_1 (by decide) (by decide) (by decide) (by decide) ?_
    refine lv_aload_n hx hb dX11_count_36 rfl (lv_at hl 0 rfl) ?_
    refine c_get (v := .int (F 0)) (C := RX11) (Tc := TX11) (N := 8) (ci := 8) hx hb hq pin_wsX110 hown hE hP hO 0 (sg_0 G h0 a _ _ _ _ _) rfl 1 (by decide) (hq _ pw_1334) (fun _ h9 => h9) rfl dX11_count_37 ?_
    have hO : OKP G h0 a F (updR R 0 (.ref pq)) Z B J K w := hO.to rfl
    exact W.iret (v := (F 0)) hx hb hr (fun t99 ht99 hW99 => ⟨⟨_, (w, (F 0)), rfl, ⟨rfl, hO⟩, by rw [ht99]; exact hP, hD⟩, hS.F ht99⟩) hS.2.2 dX11_count_40
  by_cases h2 : x = 1
  · subst h2
    refine lv_tableIn (tgt := 41) (off := 40) hx hb dX11_count_1 (by decide) (by decide) (by decide) (by decide) ?_
    refine lv_aload_n hx hb dX11_count_41 rfl (lv_at hl 0 rfl) ?_
    refine c_get (v := .ref (a 5)) (C := RX11) (Tc := TX11) (N := 8) (ci := 8) hx hb hq pin_wsX110 hown hE hP hO 0 (sg_0 G h0 a _ _ _ _ _) rfl 6 (by decide) (hq _ pw_1321) (fun _ h9 => h9) rfl dX11_count_42 ?_
    refine c_get (v := .int (F 17)) (C := RX5) (Tc := TX5) (N := 19) (ci := 4) hx hb hq pin_wsX50 hown hE hP hO 28 (sg_28 G h0 a _ _ _ _ _) rfl 5 (by decide) (hq _ pw_1400) (fun _ h9 => h9) rfl dX11_count_45 ?_
    have hO : OKP G h0 a F (updR R 0 (.ref pq)) Z B J K w := hO.to rfl
    exact W.iret (v := (F 17)) hx hb hr (fun t99 ht99 hW99 => ⟨⟨_, (w, (F 17)), rfl, ⟨rfl, hO⟩, by rw [ht99]; exact hP, hD⟩, hS.F ht99⟩) hS.2.2 dX11_count_48
  by_cases h3 : x = 2
  · subst h3
    refine lv_tableIn (tgt := 49) (off := 48) hx hb dX11_count_1 (by decide) (by decide) (by decide) (by decide) ?_
    refine lv_aload_n hx hb dX11_count_49 rfl (lv_at hl 0 rfl) ?_
    refine c_get (v := .ref pq) (C := RX11) (Tc := TX11) (N := 8) (ci := 8) hx hb hq pin_wsX110 hown hE hP hO 0 (sg_0 G h0 a _ _ _ _ _) rfl 7 (by decide) (hq _ pw_1342) (fun _ h9 => h9) rfl dX11_count_50 ?_
    refine lv_ifnonnull (tgt := 60) hx hb dX11_count_53 (by decide) ?_
    refine lv_aload_n hx hb dX11_count_60 rfl (lv_at hl 0 rfl) ?_
    refine c_get (v := .ref (a 1)) (C := RX11) (Tc := TX11) (N := 8) (ci := 8) hx hb hq pin_wsX110 hown hE hP hO 0 (sg_0 G h0 a _ _ _ _ _) rfl 2 (by decide) (hq _ pw_1309) (fun _ h9 => h9) rfl dX11_count_61 ?_
    refine c_get (v := .int (F 2)) (C := RX10) (Tc := TX10) (N := 15) (ci := 7) hx hb hq pin_wsX100 hown hE hP hO 2 (sg_2 G h0 a _ _ _ _ _) rfl 8 (by decide) (hq _ pw_1421) (fun _ h9 => h9) rfl dX11_count_64 ?_
    have hO : OKP G h0 a F (updR R 0 (.ref pq)) Z B J K w := hO.to rfl
    exact W.iret (v := (F 2)) hx hb hr (fun t99 ht99 hW99 => ⟨⟨_, (w, (F 2)), rfl, ⟨rfl, hO⟩, by rw [ht99]; exact hP, hD⟩, hS.F ht99⟩) hS.2.2 dX11_count_67
  by_cases h4 : x = 3
  · subst h4
    refine lv_tableIn (tgt := 68) (off := 67) hx hb dX11_count_1 (by decide) (by decide) (by decide) (by decide) ?_
    refine lv_aload_n hx hb dX11_count_68 rfl (lv_at hl 0 rfl) ?_
    refine c_get (v := .ref pq) (C := RX11) (Tc := TX11) (N := 8) (ci := 8) hx hb hq pin_wsX110 hown hE hP hO 0 (sg_0 G h0 a _ _ _ _ _) rfl 7 (by decide) (hq _ pw_1342) (fun _ h9 => h9) rfl dX11_count_69 ?_
    refine lv_ifnonnull (tgt := 79) hx hb dX11_count_72 (by decide) ?_
    refine lv_aload_n hx hb dX11_count_79 rfl (lv_at hl 0 rfl) ?_
    refine c_get (v := .ref pq) (C := RX11) (Tc := TX11) (N := 8) (ci := 8) hx hb hq pin_wsX110 hown hE hP hO 0 (sg_0 G h0 a _ _ _ _ _) rfl 7 (by decide) (hq _ pw_1342) (fun _ h9 => h9) rfl dX11_count_80 ?_
    refine p_get (v := .int (nI nd)) (C := RX9) (Tc := TX9) (N := 5) (ci := 6) hx hb hq pin_wsX90 hown hE hP hO (by rw [hp1]; decide) (rep_7 hp1) rfl 2 (by decide) (hq _ pw_1422) (fun _ h9 => h9) (congrArg (fun z => some (Value.int z)) hp8) dX11_count_83 ?_
    have hO : OKP G h0 a F (updR R 0 (.ref pq)) Z B J K w := hO.to rfl
    exact W.iret (v := (nI nd)) hx hb hr (fun t99 ht99 hW99 => ⟨⟨_, (w, (nI nd)), rfl, ⟨rfl, hO⟩, by rw [ht99]; exact hP, hD⟩, hS.F ht99⟩) hS.2.2 dX11_count_86
  by_cases h5 : x = 4
  · subst h5
    refine lv_tableIn (tgt := 87) (off := 86) hx hb dX11_count_1 (by decide) (by decide) (by decide) (by decide) ?_
    refine lv_aload_n hx hb dX11_count_87 rfl (lv_at hl 0 rfl) ?_
    refine c_get (v := .ref pq) (C := RX11) (Tc := TX11) (N := 8) (ci := 8) hx hb hq pin_wsX110 hown hE hP hO 0 (sg_0 G h0 a _ _ _ _ _) rfl 7 (by decide) (hq _ pw_1342) (fun _ h9 => h9) rfl dX11_count_88 ?_
    refine lv_ifnonnull (tgt := 98) hx hb dX11_count_91 (by decide) ?_
    refine lv_aload_n hx hb dX11_count_98 rfl (lv_at hl 0 rfl) ?_
    refine c_get (v := .ref pq) (C := RX11) (Tc := TX11) (N := 8) (ci := 8) hx hb hq pin_wsX110 hown hE hP hO 0 (sg_0 G h0 a _ _ _ _ _) rfl 7 (by decide) (hq _ pw_1342) (fun _ h9 => h9) rfl dX11_count_99 ?_
    refine p_get (v := .ref ml) (C := RX9) (Tc := TX9) (N := 5) (ci := 6) hx hb hq pin_wsX90 hown hE hP hO (by rw [hp1]; decide) (rep_7 hp1) rfl 3 (by decide) (hq _ pw_1423) (fun _ h9 => h9) (congrArg (fun z => some (va_rf z)) hp5) dX11_count_102 ?_
    have hO : OKP G h0 a F (updR R 0 (.ref pq)) Z B J K w := hO.to rfl
    obtain ⟨qr9, hqr10⟩ := p_recv hO (by rw [hp6]; decide) (rep_5 hp6)
    refine pc_V0 (G := G) (As := []) (rest := []) hx hb hml hown hq hE hX pX0_al hP hD hS hA hl.1 (L_size l G h0 a F (updR R 0 (.ref pq)) Z B J K w ml 3 nm it hlm.ls hO) (gV pw_1377 pw_87 pw_88 pw_32 pw_16) hV_Jx4a65c_size_8abf5 qr9 10 hqr10 rfl rfl rfl (Nat.le_of_ble_eq_true rfl) dX11_count_105 ⟨Nat.le_of_ble_eq_true rfl, Nat.le_of_ble_eq_true rfl⟩ ⟨Nat.le_of_ble_eq_true rfl, Nat.le_of_ble_eq_true rfl⟩ (fun v8 u6 H locs hw7 hP hD hS => ?_)
    obtain ⟨w, _⟩ := u6
    obtain ⟨hw7, hO⟩ := hw7
    obtain rfl : v8 = some (.int (nI nm)) := hw7
    have hO : OKP G h0 a F (updR R 0 (.ref pq)) Z B J K w := hO.to rfl
    refine W.widen (k := 0) (n := 0) (Nat.le_of_ble_eq_true rfl) (Nat.le_of_ble_eq_true rfl) ?_
    refine W.eq (g2 := F0 m 108 ls [.int (nI nm)]) rfl ?_
    have hO : OKP G h0 a F (updR R 0 (.ref pq)) Z B J K w := hO.to rfl
    exact W.iret (v := (nI nm)) hx hb hr (fun t99 ht99 hW99 => ⟨⟨_, (w, (nI nm)), rfl, ⟨rfl, hO⟩, by rw [ht99]; exact hP, hD⟩, hS.F ht99⟩) hS.2.2 dX11_count_108
  refine lv_tableOut (tgt := 109) hx hb dX11_count_1 (sw_m0_4 h1 h2 h3 h4 h5) (by decide) ?_
  refine lv_aload_n hx hb dX11_count_109 rfl (lv_at hl 0 rfl) ?_
  refine c_get (v := .ref (a 5)) (C := RX11) (Tc := TX11) (N := 8) (ci := 8) hx hb hq pin_wsX110 hown hE hP hO 0 (sg_0 G h0 a _ _ _ _ _) rfl 6 (by decide) (hq _ pw_1321) (fun _ h9 => h9) rfl dX11_count_110 ?_
  refine lv_iload_n hx hb dX11_count_113 rfl (lv_at hl 1 rfl) ?_
  have hO : OKW G h0 a F (updR R 0 (.ref pq)) Z B J K.1 (fun q99 x99 => x99 = rep G a K q99) w := hO.to rfl
  obtain ⟨_, qr14, hqr15⟩ := hO.2.1 28 _ (sg_28 G h0 a _ _ _ _ _)
  refine pc_V0 (G := G) (As := [.int x]) (rest := []) hx hb hml hown hq hE hX pX0_al hP hD hS hA hl.1 (M_told l G h0 a F (updR R 0 (.ref pq)) Z B J K.1 (fun q99 x99 => x99 = rep G a K q99) w x hO) (gV pw_1424 pw_1425 pw_1426 pw_539 pw_484) hV_X5_told qr14 4 hqr15 rfl rfl rfl (Nat.le_of_ble_eq_true rfl) dX11_count_114 ⟨Nat.le_of_ble_eq_true rfl, Nat.le_of_ble_eq_true rfl⟩ ⟨Nat.le_of_ble_eq_true rfl, Nat.le_of_ble_eq_true rfl⟩ (fun v13 u11 H locs hw12 hP hD hS => ?_)
  obtain ⟨w, r16⟩ := u11
  obtain ⟨hw12, hO⟩ := hw12
  obtain rfl : v13 = some (.int r16) := hw12
  have hO : OKP G h0 a F (updR R 0 (.ref pq)) Z B J K w := hO.to rfl
  refine W.widen (k := 0) (n := 0) (Nat.le_of_ble_eq_true rfl) (Nat.le_of_ble_eq_true rfl) ?_
  refine W.eq (g2 := F0 m 117 ls [.int r16]) rfl ?_
  have hO : OKP G h0 a F (updR R 0 (.ref pq)) Z B J K w := hO.to rfl
  exact W.iret (v := r16) hx hb hr (fun t99 ht99 hW99 => ⟨⟨_, (w, r16), rfl, ⟨rfl, hO⟩, by rw [ht99]; exact hP, hD⟩, hS.F ht99⟩) hS.2.2 dX11_count_117
theorem dX11_thrown_0 : decode cX11_thrown 0 = .ok (.aload_n 0, 1) := by decide +kernel
theorem dX11_thrown_1 : decode cX11_thrown 1 = .ok (.getfield 50, 3) := by decide +kernel
theorem dX11_thrown_4 : decode cX11_thrown 4 = .ok (.iload_n 1, 1) := by decide +kernel
theorem dX11_thrown_5 : decode cX11_thrown 5 = .ok (.invokevirtual 189, 3) := by decide +kernel
theorem dX11_thrown_8 : decode cX11_thrown 8 = .ok (.ireturn, 1) := by decide +kernel
theorem hV_X5_uncaught : yX5_uncaught.cls = RX5 ∧ yX5_uncaught.cls ≠ "java/lang/invoke/MethodHandle" ∧ yX5_uncaught.cls ≠ "java/lang/invoke/VarHandle" ∧ (parseMethodDescriptor yX5_uncaught.desc).map (fun d => d.parameters.length) = some 1 := by decide +kernel
set_option maxHeartbeats 2000000 in
set_option maxRecDepth 100000 in
theorem J_thrownN (l : Launch) (G : pT) (h0 : Nat) (a : Nat → Nat) (F : Nat → Int32) (R : Nat → Value) (Z : Int64) (B : Nat → Nat → Int32) (J : Nat → Nat → Int64) (T : Nat → Nat) (Pi : Nat → va_E → Prop) (w : va_W) (x : Int32) (hO : OKW G h0 a F (updR R 5 (.null)) Z B J T Pi w) : PM l G pX0 yX11_thrown cX11_thrown 2 (some .int) ({ frames := 3, cells := 0, slots := 0, locals := 84 }) [.ref h0, .int x] w (fun (v : Option Value) (u : va_W × (Int32)) => v = some (.int u.2) ∧ (OKW G h0 a F (updR R 5 (.null)) Z B J T Pi u.1)) (fun u => u.1) := by
  intro sz
  refine Met.ofW (cc := cX11_thrown) (maxL := 2) (ret := (some .int)) (by decide) rfl ?_
  intro p e s m args below meth c s₁ B9 hml hv
  obtain ⟨rfl, hsz, hP, hD0, hE, hX⟩ := hv
  have hx := B9.exec
  have hb := B9.bytes
  have hr := B9.returns
  have hts := atoms_spec (ws := Cond.code yX11_thrown cX11_thrown 2 (some .int) :: pw) B9.pre
  have hq : ∀ w ∈ pw, w.before _ s = true := fun w h => hts w (List.mem_cons_of_mem _ h)
  have hown : s.vm.findClass RX11 = some m.cls := findClass_of_methodNamed B9.named
  have hlocks := B9.notSynchronized
  subst hsz
  have hD := hD0.self (sz := s.heap.size)
  have hA : ∀ q : Nat, s.heap.size ≤ q → va_A w s.heap.size q := fun q h => Or.inr h
  generalize va_A w s.heap.size = A at hD hE hA ⊢
  have hS : va_S A s.heap s.heap [] := va_S.rf
  have hl := lv_entry ([.ref h0, .int x]) (n := 2) (Nat.le_of_ble_eq_true rfl)
  rw [lg_entry_eq]
  generalize (lg_sl ([.ref h0, .int x]) ++ List.replicate (2 - (lg_sl ([.ref h0, .int x])).length) Slot.unset).toArray = ls at hl ⊢
  have hl : lv_has ls 2 [(0, .ref h0), (1, .int x)] := hl
  refine lv_aload_n hx hb dX11_thrown_0 rfl (lv_at hl 0 rfl) ?_
  refine c_get (v := .ref (a 5)) (C := RX11) (Tc := TX11) (N := 8) (ci := 8) hx hb hq pin_wsX110 hown hE hP hO 0 (sg_0 G h0 a _ _ _ _ _) rfl 6 (by decide) (hq _ pw_1321) (fun _ h9 => h9) rfl dX11_thrown_1 ?_
  refine lv_iload_n hx hb dX11_thrown_4 rfl (lv_at hl 1 rfl) ?_
  have hO : OKW G h0 a F (updR (updR R 5 (.null)) 5 (.null)) Z B J T Pi w := hO.to rfl
  obtain ⟨_, qr4, hqr5⟩ := hO.2.1 28 _ (sg_28 G h0 a _ _ _ _ _)
  refine pc_V0 (G := G) (As := [.int x]) (rest := []) hx hb hml hown hq hE hX pX0_al hP hD hS hA hl.1 (M_uncaughtN l G h0 a F (updR R 5 (.null)) Z B J T Pi w x hO) (gV pw_1416 pw_1417 pw_1418 pw_539 pw_498) hV_X5_uncaught qr4 4 hqr5 rfl rfl rfl (Nat.le_of_ble_eq_true rfl) dX11_thrown_5 ⟨Nat.le_of_ble_eq_true rfl, Nat.le_of_ble_eq_true rfl⟩ ⟨Nat.le_of_ble_eq_true rfl, Nat.le_of_ble_eq_true rfl⟩ (fun v3 u1 H locs hw2 hP hD hS => ?_)
  obtain ⟨w, r6⟩ := u1
  obtain ⟨hw2, hO⟩ := hw2
  obtain rfl : v3 = some (.int r6) := hw2
  have hO : OKW G h0 a F (updR R 5 (.null)) Z B J T Pi w := hO.to rfl
  refine W.widen (k := 0) (n := 0) (Nat.le_of_ble_eq_true rfl) (Nat.le_of_ble_eq_true rfl) ?_
  refine W.eq (g2 := F0 m 8 ls [.int r6]) rfl ?_
  have hO : OKW G h0 a F (updR R 5 (.null)) Z B J T Pi w := hO.to rfl
  exact W.iret (v := r6) hx hb hr (fun t99 ht99 hW99 => ⟨⟨_, (w, r6), rfl, ⟨rfl, hO⟩, by rw [ht99]; exact hP, hD⟩, hS.F ht99⟩) hS.2.2 dX11_thrown_8
set_option maxHeartbeats 8000000 in
set_option maxRecDepth 100000 in
theorem J_thrown (l : Launch) (G : pT) (h0 : Nat) (a : Nat → Nat) (F : Nat → Int32) (R : Nat → Value) (Z : Int64) (B : Nat → Nat → Int32) (J : Nat → Nat → Int64) (K : PK) (w : va_W) (x : Int32) (sp : Nat) (op : Nat) (ht : Nat) (pq : Nat) (dr : Nat) (ml : Nat) (nd : Nat) (nm : Nat) (cp : Nat) (it : Nat → Nat) (s9 : Nat) (g : Nat → Nat → Nat) (rk : Nat → Nat) (hsp : (sp = 34 ∧ op = 35) ∨ (sp = 35 ∧ op = 34)) (hht : 8 ≤ ht ∧ ht ≤ 3008) (hwp : WPr G K g) (hps : PgT G K g (a 1) pq dr ml nd nm cp it s9) (hrk : RkO K rk) (hO : OKP G h0 a (upd F 26 (nI ht)) (updR (updR (updR R 5 (.ref pq)) 7 (.ref (a sp))) 8 (.ref (a op))) Z B J K w) : PM l G pX0 yX11_thrown cX11_thrown 2 (some .int) ({ frames := 7, cells := 0, slots := 0, locals := 177 }) [.ref h0, .int x] w (fun (v : Option Value) (u : va_W × (Int32)) => v = some (.int u.2) ∧ (OKP G h0 a (upd F 26 (nI ht)) (updR (updR (updR R 5 (.ref pq)) 7 (.ref (a sp))) 8 (.ref (a op))) Z B J K u.1)) (fun u => u.1) := by
  intro sz
  refine Met.ofW (cc := cX11_thrown) (maxL := 2) (ret := (some .int)) (by decide) rfl ?_
  intro p e s m args below meth c s₁ B9 hml hv
  obtain ⟨rfl, hsz, hP, hD0, hE, hX⟩ := hv
  have hx := B9.exec
  have hb := B9.bytes
  have hr := B9.returns
  have hts := atoms_spec (ws := Cond.code yX11_thrown cX11_thrown 2 (some .int) :: pw) B9.pre
  have hq : ∀ w ∈ pw, w.before _ s = true := fun w h => hts w (List.mem_cons_of_mem _ h)
  have hown : s.vm.findClass RX11 = some m.cls := findClass_of_methodNamed B9.named
  have hlocks := B9.notSynchronized
  subst hsz
  have hD := hD0.self (sz := s.heap.size)
  have hA : ∀ q : Nat, s.heap.size ≤ q → va_A w s.heap.size q := fun q h => Or.inr h
  generalize va_A w s.heap.size = A at hD hE hA ⊢
  have hS : va_S A s.heap s.heap [] := va_S.rf
  have hl := lv_entry ([.ref h0, .int x]) (n := 2) (Nat.le_of_ble_eq_true rfl)
  rw [lg_entry_eq]
  generalize (lg_sl ([.ref h0, .int x]) ++ List.replicate (2 - (lg_sl ([.ref h0, .int x])).length) Slot.unset).toArray = ls at hl ⊢
  have hl : lv_has ls 2 [(0, .ref h0), (1, .int x)] := hl
  have hpg := hps.1
  have hp1 := hpg.1
  have hp2 := hpg.2.1
  have hp3 := hpg.2.2.1
  have hp4 := hpg.2.2.2.1
  have hp5 := hpg.2.2.2.2.1
  have hp6 := hpg.2.2.2.2.2.1
  have hp8 := hpg.2.2.2.2.2.2.2.1
  have hp9 := hpg.2.2.2.2.2.2.2.2
  refine lv_aload_n hx hb dX11_thrown_0 rfl (lv_at hl 0 rfl) ?_
  refine c_get (v := .ref (a 5)) (C := RX11) (Tc := TX11) (N := 8) (ci := 8) hx hb hq pin_wsX110 hown hE hP hO 0 (sg_0 G h0 a _ _ _ _ _) rfl 6 (by decide) (hq _ pw_1321) (fun _ h9 => h9) rfl dX11_thrown_1 ?_
  refine lv_iload_n hx hb dX11_thrown_4 rfl (lv_at hl 1 rfl) ?_
  have hO : OKP G h0 a (upd (upd F 26 (nI ht)) 26 (nI ht)) (updR (updR (updR (updR (updR (updR R 5 (.ref pq)) 7 (.ref (a sp))) 8 (.ref (a op))) 5 (.ref pq)) 7 (.ref (a sp))) 8 (.ref (a op))) Z B J K w := hO.to rfl
  obtain ⟨_, qr4, hqr5⟩ := hO.2.1 28 _ (sg_28 G h0 a _ _ _ _ _)
  refine pc_V0 (G := G) (As := [.int x]) (rest := []) hx hb hml hown hq hE hX pX0_al hP hD hS hA hl.1 (M_uncaught l G h0 a (upd F 26 (nI ht)) (updR (updR (updR R 5 (.ref pq)) 7 (.ref (a sp))) 8 (.ref (a op))) Z B J K w x sp op ht pq dr ml nd nm cp it s9 g rk hsp (by omega) hwp hps hrk hO) (gV pw_1416 pw_1417 pw_1418 pw_539 pw_498) hV_X5_uncaught qr4 4 hqr5 rfl rfl rfl (Nat.le_of_ble_eq_true rfl) dX11_thrown_5 ⟨Nat.le_of_ble_eq_true rfl, Nat.le_of_ble_eq_true rfl⟩ ⟨Nat.le_of_ble_eq_true rfl, Nat.le_of_ble_eq_true rfl⟩ (fun v3 u1 H locs hw2 hP hD hS => ?_)
  obtain ⟨w, r6⟩ := u1
  obtain ⟨hw2, hO⟩ := hw2
  obtain rfl : v3 = some (.int r6) := hw2
  have hO : OKP G h0 a (upd F 26 (nI ht)) (updR (updR (updR R 5 (.ref pq)) 7 (.ref (a sp))) 8 (.ref (a op))) Z B J K w := hO.to rfl
  refine W.widen (k := 0) (n := 0) (Nat.le_of_ble_eq_true rfl) (Nat.le_of_ble_eq_true rfl) ?_
  refine W.eq (g2 := F0 m 8 ls [.int r6]) rfl ?_
  have hO : OKP G h0 a (upd F 26 (nI ht)) (updR (updR (updR R 5 (.ref pq)) 7 (.ref (a sp))) 8 (.ref (a op))) Z B J K w := hO.to rfl
  exact W.iret (v := r6) hx hb hr (fun t99 ht99 hW99 => ⟨⟨_, (w, r6), rfl, ⟨rfl, hO⟩, by rw [ht99]; exact hP, hD⟩, hS.F ht99⟩) hS.2.2 dX11_thrown_8
