theorem nn_le {x : Int32} (h : 0 ≤ x) : ¬ x < 0 := fun q => by
  rw [Int32.le_iff_toInt_le] at h
  rw [Int32.lt_iff_toInt_lt] at q
  omega
theorem rc_of {tp rt : Nat} {x y : Int32} (h : tp ≤ 32000) (h2 : rt ≤ 6000) (e1 : x = nI tp - nI rt) (e2 : y = x - 1) : RcO y := by
  by_cases z : rt + 1 ≤ tp
  · refine Or.inr ⟨tp - rt - 1, ?_, by omega⟩
    rw [e2, e1, nI_subN (a := rt) (b := tp) (by omega)]
    exact nI_subN (a := 1) (b := tp - rt) (by omega)
  · refine Or.inl ?_
    rw [e2, e1, Int32.lt_iff_toInt_lt, Int32.toInt_sub, Int32.toInt_sub, nI_toInt (by omega), nI_toInt (by omega), show (1 : Int32).toInt = 1 by decide, show (0 : Int32).toInt = 0 by decide]
    have a : ((tp : Int) - (rt : Int)).bmod (2 ^ 32) = (tp : Int) - (rt : Int) := Int.bmod_eq_of_le (by omega) (by omega)
    have b : ((tp : Int) - (rt : Int) - 1).bmod (2 ^ 32) = (tp : Int) - (rt : Int) - 1 := Int.bmod_eq_of_le (by omega) (by omega)
    rw [a, b]
    omega
theorem dX5_giveBack_0 : decode cX5_giveBack 0 = .ok (.aload_n 0, 1) := by decide +kernel
theorem dX5_giveBack_1 : decode cX5_giveBack 1 = .ok (.getfield 96, 3) := by decide +kernel
theorem dX5_giveBack_4 : decode cX5_giveBack 4 = .ok (.ifnull 19, 3) := by decide +kernel
theorem dX5_giveBack_23 : decode cX5_giveBack 23 = .ok (.iconst 0, 1) := by decide +kernel
theorem dX5_giveBack_24 : decode cX5_giveBack 24 = .ok (.istore_n 3, 1) := by decide +kernel
theorem dX5_giveBack_25 : decode cX5_giveBack 25 = .ok (.aload_n 0, 1) := by decide +kernel
theorem dX5_giveBack_26 : decode cX5_giveBack 26 = .ok (.getfield 93, 3) := by decide +kernel
theorem dX5_giveBack_29 : decode cX5_giveBack 29 = .ok (.iconst 1, 1) := by decide +kernel
theorem dX5_giveBack_30 : decode cX5_giveBack 30 = .ok (.if_icmp .gt 15, 3) := by decide +kernel
theorem dX5_giveBack_45 : decode cX5_giveBack 45 = .ok (.aload_n 0, 1) := by decide +kernel
theorem dX5_giveBack_46 : decode cX5_giveBack 46 = .ok (.invokevirtual 328, 3) := by decide +kernel
theorem dX5_giveBack_49 : decode cX5_giveBack 49 = .ok (.aload_n 0, 1) := by decide +kernel
theorem dX5_giveBack_50 : decode cX5_giveBack 50 = .ok (.aload_n 0, 1) := by decide +kernel
theorem dX5_giveBack_51 : decode cX5_giveBack 51 = .ok (.getfield 106, 3) := by decide +kernel
theorem dX5_giveBack_54 : decode cX5_giveBack 54 = .ok (.iconst 1, 1) := by decide +kernel
theorem dX5_giveBack_55 : decode cX5_giveBack 55 = .ok (.iadd, 1) := by decide +kernel
theorem dX5_giveBack_56 : decode cX5_giveBack 56 = .ok (.putfield 132, 3) := by decide +kernel
theorem dX5_giveBack_59 : decode cX5_giveBack 59 = .ok (.iload_n 3, 1) := by decide +kernel
theorem dX5_giveBack_60 : decode cX5_giveBack 60 = .ok (.ifCond .eq 8, 3) := by decide +kernel
theorem dX5_giveBack_68 : decode cX5_giveBack 68 = .ok (.return_, 1) := by decide +kernel
theorem dX5_giveBack_33 : decode cX5_giveBack 33 = .ok (.aload_n 0, 1) := by decide +kernel
theorem dX5_giveBack_34 : decode cX5_giveBack 34 = .ok (.lload_n 1, 1) := by decide +kernel
theorem dX5_giveBack_35 : decode cX5_giveBack 35 = .ok (.l2i, 1) := by decide +kernel
theorem dX5_giveBack_36 : decode cX5_giveBack 36 = .ok (.putfield 90, 3) := by decide +kernel
theorem dX5_giveBack_39 : decode cX5_giveBack 39 = .ok (.aload_n 0, 1) := by decide +kernel
theorem dX5_giveBack_40 : decode cX5_giveBack 40 = .ok (.iconst 0, 1) := by decide +kernel
theorem dX5_giveBack_41 : decode cX5_giveBack 41 = .ok (.putfield 116, 3) := by decide +kernel
theorem dX5_giveBack_44 : decode cX5_giveBack 44 = .ok (.return_, 1) := by decide +kernel
theorem dX5_giveBack_7 : decode cX5_giveBack 7 = .ok (.aload_n 0, 1) := by decide +kernel
theorem dX5_giveBack_8 : decode cX5_giveBack 8 = .ok (.getfield 96, 3) := by decide +kernel
theorem dX5_giveBack_11 : decode cX5_giveBack 11 = .ok (.getfield 327, 3) := by decide +kernel
theorem dX5_giveBack_14 : decode cX5_giveBack 14 = .ok (.bipush 63, 2) := by decide +kernel
theorem dX5_giveBack_16 : decode cX5_giveBack 16 = .ok (.if_icmp .eq 7, 3) := by decide +kernel
theorem dX5_giveBack_19 : decode cX5_giveBack 19 = .ok (.iconst 1, 1) := by decide +kernel
theorem dX5_giveBack_20 : decode cX5_giveBack 20 = .ok (.goto 4, 3) := by decide +kernel
theorem dX5_giveBack_63 : decode cX5_giveBack 63 = .ok (.aload_n 0, 1) := by decide +kernel
theorem dX5_giveBack_64 : decode cX5_giveBack 64 = .ok (.lload_n 1, 1) := by decide +kernel
theorem dX5_giveBack_65 : decode cX5_giveBack 65 = .ok (.invokevirtual 172, 3) := by decide +kernel
theorem hV_X5_close : yX5_close.cls = RX5 ∧ yX5_close.cls ≠ "java/lang/invoke/MethodHandle" ∧ yX5_close.cls ≠ "java/lang/invoke/VarHandle" ∧ (parseMethodDescriptor yX5_close.desc).map (fun d => d.parameters.length) = some 0 := by decide +kernel
set_option maxHeartbeats 20000000 in
set_option maxRecDepth 100000 in
theorem M_giveBack (l : Launch) (G : pT) (h0 : Nat) (a : Nat → Nat) (F : Nat → Int32) (R : Nat → Value) (Z : Int64) (B : Nat → Nat → Int32) (J : Nat → Nat → Int64) (K : PK) (w : va_W) (x : Int64) (tp : Nat) (pq : Nat) (dr : Nat) (ml : Nat) (nd : Nat) (nm : Nat) (cp : Nat) (it : Nat → Nat) (s9 : Nat) (g : Nat → Nat → Nat) (rk : Nat → Nat) (ba : Nat) (on : Nat) (mo : Option Nat) (htp : tp ≤ 32000) (hwp : WPr G K g) (hps : PgT G K g (a 1) pq dr ml nd nm cp it s9) (hrk : RkO K rk) (hba : ba ≤ 32000) (hon : on ≤ 100) (hms : MsO K mo ba) (hfr : FrO K nm it (B 30) on) (hO : OKP G h0 a (upd (upd (upd F 18 (nI ba)) 19 (nI tp)) 22 (nI on)) (updR (updR R 5 (.ref pq)) 6 (va_rf mo)) Z B J K w) : PM l G pX0 yX5_giveBack cX5_giveBack 4 none ({ frames := 7, cells := 0, slots := 0, locals := 165 }) [.ref (a 5), .long x] w (fun (v : Option Value) (u : va_W × (Nat × Int32 × Int32 × Int32 × Int32 × Int32 × (Nat → Nat → Int64) × Nat × Nat × Option Nat × (Nat → Int32))) => v = none ∧ (u.2.1 ≤ 32000) ∧ (u.2.2.2.2.2.2.2.2.1 ≤ 32000 ∧ u.2.2.2.2.2.2.2.2.2.1 ≤ 100) ∧ (MsO K u.2.2.2.2.2.2.2.2.2.2.1 u.2.2.2.2.2.2.2.2.1) ∧ (FrO K nm it u.2.2.2.2.2.2.2.2.2.2.2 u.2.2.2.2.2.2.2.2.2.1) ∧ (OKP G h0 a (upd (upd (upd (upd (upd (upd (upd (upd F 18 (nI u.2.2.2.2.2.2.2.2.1)) 19 (nI u.2.1)) 20 u.2.2.2.2.2.1) 21 u.2.2.2.2.1) 22 (nI u.2.2.2.2.2.2.2.2.2.1)) 23 u.2.2.1) 24 u.2.2.2.2.2.2.1) 25 u.2.2.2.1) (updR (updR R 5 (.ref pq)) 6 (va_rf u.2.2.2.2.2.2.2.2.2.2.1)) Z (updA B 30 u.2.2.2.2.2.2.2.2.2.2.2) u.2.2.2.2.2.2.2.1 K u.1)) (fun u => u.1) := by
  intro sz
  refine Met.ofW (cc := cX5_giveBack) (maxL := 4) (ret := none) (by decide) rfl ?_
  intro p e s m args below meth c s₁ B9 hml hv
  obtain ⟨rfl, hsz, hP, hD0, hE, hX⟩ := hv
  have hx := B9.exec
  have hb := B9.bytes
  have hr := B9.returns
  have hts := atoms_spec (ws := Cond.code yX5_giveBack cX5_giveBack 4 none :: pw) B9.pre
  have hq : ∀ w ∈ pw, w.before _ s = true := fun w h => hts w (List.mem_cons_of_mem _ h)
  have hown : s.vm.findClass RX5 = some m.cls := findClass_of_methodNamed B9.named
  have hlocks := B9.notSynchronized
  subst hsz
  have hD := hD0.self (sz := s.heap.size)
  have hA : ∀ q : Nat, s.heap.size ≤ q → va_A w s.heap.size q := fun q h => Or.inr h
  generalize va_A w s.heap.size = A at hD hE hA ⊢
  have hS : va_S A s.heap s.heap [] := va_S.rf
  have hl := lv_entry ([.ref (a 5), .long x]) (n := 4) (Nat.le_of_ble_eq_true rfl)
  rw [lg_entry_eq]
  generalize (lg_sl ([.ref (a 5), .long x]) ++ List.replicate (4 - (lg_sl ([.ref (a 5), .long x])).length) Slot.unset).toArray = ls at hl ⊢
  have hl : lv_has ls 4 [(0, .ref (a 5)), (1, .long x)] := hl
  have hpg := hps.1
  have hp1 := hpg.1
  have hp2 := hpg.2.1
  have hp3 := hpg.2.2.1
  have hp4 := hpg.2.2.2.1
  have hp5 := hpg.2.2.2.2.1
  have hp6 := hpg.2.2.2.2.2.1
  have hp8 := hpg.2.2.2.2.2.2.2.1
  have hp9 := hpg.2.2.2.2.2.2.2.2
  rcases mo with _ | mq
  · have hl : lv_has ls 4 [(0, .ref (a 5)), (1, .long x)] := hl
    refine W.eq (g2 := F0 m 0 ls []) rfl ?_
    have hO : OKP G h0 a (upd (upd (upd F 18 (nI ba)) 19 (nI tp)) 22 (nI on)) (updR (updR R 5 (.ref pq)) 6 (.null)) Z B J K w := hO.to rfl
    refine lv_aload_n hx hb dX5_giveBack_0 rfl (lv_at hl 0 rfl) ?_
    refine c_get (v := .null) (C := RX5) (Tc := TX5) (N := 19) (ci := 4) hx hb hq pin_wsX50 hown hE hP hO 28 (sg_28 G h0 a _ _ _ _ _) rfl 9 (by decide) (hq _ pw_503) (fun _ h9 => h9) rfl dX5_giveBack_1 ?_
    refine lv_ifnullN (tgt := 23) hx hb dX5_giveBack_4 (by decide) ?_
    refine lv_iconst (v := 0) hx hb dX5_giveBack_23 (by decide) ?_
    refine lv_istore_n (lv' := [(3, .int 0), (0, .ref (a 5)), (1, .long x)]) hx hb dX5_giveBack_24 rfl hl (by decide) rfl (fun ls hl => ?_)
    refine lv_aload_n hx hb dX5_giveBack_25 rfl (lv_at hl 1 rfl) ?_
    refine c_get (v := .int (nI on)) (C := RX5) (Tc := TX5) (N := 19) (ci := 4) hx hb hq pin_wsX50 hown hE hP hO 28 (sg_28 G h0 a _ _ _ _ _) rfl 15 (by decide) (hq _ pw_502) (fun _ h9 => h9) rfl dX5_giveBack_26 ?_
    refine lv_iconst (v := 1) hx hb dX5_giveBack_29 (by decide) ?_
    refine lv_icmp_gt (tgt := 45) hx hb dX5_giveBack_30 (by decide) (fun c1 => ?_) (fun c1 => ?_)
    · have n2 : 1 < on := (nI_ltI (a := 1) (b := on) (by omega) (by omega)).mp c1
      refine lv_aload_n hx hb dX5_giveBack_45 rfl (lv_at hl 1 rfl) ?_
      have hO : OKP G h0 a (upd (upd (upd (upd (upd (upd F 18 (nI ba)) 19 (nI tp)) 22 (nI on)) 18 (nI ba)) 19 (nI tp)) 22 (nI on)) (updR (updR (updR (updR R 5 (.ref pq)) 6 (.null)) 5 (.ref pq)) 6 (va_rf none)) Z B J K w := hO.to rfl
      obtain ⟨_, qr6, hqr7⟩ := hO.2.1 28 _ (sg_28 G h0 a _ _ _ _ _)
      refine pc_V0 (G := G) (As := []) (rest := []) hx hb hml hown hq hE hX pX0_al hP hD hS hA hl.1 (M_close l G h0 a (upd (upd (upd F 18 (nI ba)) 19 (nI tp)) 22 (nI on)) (updR (updR R 5 (.ref pq)) 6 (.null)) Z B J K w tp pq dr ml nd nm cp it s9 g rk ba on none (by omega) hwp hps hrk (by omega) (by omega) hms hfr (by omega) hO) (gV pw_703 pw_704 pw_705 pw_539 pw_701) hV_X5_close qr6 4 hqr7 rfl rfl rfl (Nat.le_of_ble_eq_true rfl) dX5_giveBack_46 ⟨Nat.le_of_ble_eq_true rfl, Nat.le_of_ble_eq_true rfl⟩ ⟨Nat.le_of_ble_eq_true rfl, Nat.le_of_ble_eq_true rfl⟩ (fun v5 u3 H locs hw4 hP hD hS => ?_)
      obtain ⟨w, tp8, pc9, ba10, on11, mo12, fr13⟩ := u3
      obtain ⟨hw4, h14, h15, h16, h17, hO⟩ := hw4
      have h14 : tp8 ≤ 32000 := h14
      have h15 : ba10 ≤ 32000 ∧ on11 ≤ 100 := h15
      have h16 : MsO K mo12 ba10 := h16
      have h17 : FrO K nm it fr13 on11 := h17
      obtain rfl : v5 = none := hw4
      have hO : OKP G h0 a (upd (upd (upd (upd F 18 (nI ba10)) 19 (nI tp8)) 20 pc9) 22 (nI on11)) (updR (updR R 5 (.ref pq)) 6 (va_rf mo12)) Z (updA B 30 fr13) J K w := hO.to rfl
      refine W.widen (k := 0) (n := 0) (Nat.le_of_ble_eq_true rfl) (Nat.le_of_ble_eq_true rfl) ?_
      refine W.eq (g2 := F0 m 49 ls []) rfl ?_
      refine lv_aload_n hx hb dX5_giveBack_49 rfl (lv_at hl 1 rfl) ?_
      refine lv_aload_n hx hb dX5_giveBack_50 rfl (lv_at hl 1 rfl) ?_
      refine c_get (v := .int pc9) (C := RX5) (Tc := TX5) (N := 19) (ci := 4) hx hb hq pin_wsX50 hown hE hP hO 28 (sg_28 G h0 a _ _ _ _ _) rfl 12 (by decide) (hq _ pw_506) (fun _ h9 => h9) rfl dX5_giveBack_51 ?_
      refine lv_iconst (v := 1) hx hb dX5_giveBack_54 (by decide) ?_
      refine lv_iadd hx hb dX5_giveBack_55 ?_
      refine lv_topi (fun x18 e19 => ?_)
      refine c_put (v := .int x18) (ty := .int) (C := RX5) (Tc := TX5) (N := 19) (ci := 4) hx hb hq pin_wsX50 tyX5 tyX5_ok nmX5 hown hE hP hD hS hO 28 (sg_28 G h0 a _ _ _ _ _) rfl 13 (by decide) (hq _ pw_566) (fun _ h9 => h9) rfl (by decide +kernel) rfl rfl (Nat.le_of_ble_eq_true rfl) (sf_21 G h0 a _ _ _ _ _ x18) dX5_giveBack_56 (fun H locs w hP hD hS hO => ?_)
      refine lv_iload_n hx hb dX5_giveBack_59 rfl (lv_at hl 0 rfl) ?_
      refine lv_if_eq (tgt := 68) hx hb dX5_giveBack_60 (by decide) (fun c20 => ?_) (fun c20 => absurd c20 (by decide))
      have hz21 : tp8 ≤ 32000 := (by omega)
      have hz22 : ba10 ≤ 32000 ∧ on11 ≤ 100 := (by omega)
      have hz23 : MsO K mo12 ba10 := h16
      have hz24 : FrO K nm it fr13 on11 := h17
      have hO : OKP G h0 a (upd (upd (upd (upd (upd (upd (upd (upd F 18 (nI ba10)) 19 (nI tp8)) 20 pc9) 21 x18) 22 (nI on11)) 23 (F 23)) 24 (F 24)) 25 (F 25)) (updR (updR R 5 (.ref pq)) 6 (va_rf mo12)) Z (updA B 30 fr13) J K w := hO.to rfl
      exact W.vret hx hb hr (fun t99 ht99 hW99 => ⟨⟨_, (w, (tp8, (F 23), (F 25), x18, pc9, (F 24), J, ba10, on11, mo12, fr13)), rfl, ⟨rfl, hz21, hz22, hz23, hz24, hO⟩, by rw [ht99]; exact hP, hD⟩, hS.F ht99⟩) hS.2.2 dX5_giveBack_68
    · have n25 : ¬ (1 < on) := fun h9 => c1 ((nI_ltI (a := 1) (b := on) (by omega) (by omega)).mpr h9)
      refine lv_aload_n hx hb dX5_giveBack_33 rfl (lv_at hl 1 rfl) ?_
      refine lv_lload_n hx hb dX5_giveBack_34 rfl (lv_at hl 2 rfl) ?_
      refine lv_l2i hx hb dX5_giveBack_35 rfl ?_
      refine lv_topi (fun x26 e27 => ?_)
      refine c_put (v := .int x26) (ty := .int) (C := RX5) (Tc := TX5) (N := 19) (ci := 4) hx hb hq pin_wsX50 tyX5 tyX5_ok nmX5 hown hE hP hD hS hO 28 (sg_28 G h0 a _ _ _ _ _) rfl 17 (by decide) (hq _ pw_501) (fun _ h9 => h9) rfl (by decide +kernel) rfl rfl (Nat.le_of_ble_eq_true rfl) (sf_24 G h0 a _ _ _ _ _ x26) dX5_giveBack_36 (fun H locs w hP hD hS hO => ?_)
      refine lv_aload_n hx hb dX5_giveBack_39 rfl (lv_at hl 1 rfl) ?_
      refine lv_iconst (v := 0) hx hb dX5_giveBack_40 (by decide) ?_
      refine c_put (v := .int 0) (ty := .int) (C := RX5) (Tc := TX5) (N := 19) (ci := 4) hx hb hq pin_wsX50 tyX5 tyX5_ok nmX5 hown hE hP hD hS hO 28 (sg_28 G h0 a _ _ _ _ _) rfl 16 (by decide) (hq _ pw_513) (fun _ h9 => h9) rfl (by decide +kernel) rfl rfl (Nat.le_of_ble_eq_true rfl) (sf_23 G h0 a _ _ _ _ _ 0) dX5_giveBack_41 (fun H locs w hP hD hS hO => ?_)
      have hz28 : tp ≤ 32000 := (by omega)
      have hz29 : ba ≤ 32000 ∧ on ≤ 100 := (by omega)
      have hz30 : MsO K none ba := hms
      have hz31 : FrO K nm it (B 30) on := hfr
      have hO : OKP G h0 a (upd (upd (upd (upd (upd (upd (upd (upd F 18 (nI ba)) 19 (nI tp)) 20 (F 20)) 21 (F 21)) 22 (nI on)) 23 (0 : Int32)) 24 x26) 25 (F 25)) (updR (updR R 5 (.ref pq)) 6 (va_rf none)) Z (updA B 30 (B 30)) J K w := hO.to rfl
      exact W.vret hx hb hr (fun t99 ht99 hW99 => ⟨⟨_, (w, (tp, (0 : Int32), (F 25), (F 21), (F 20), x26, J, ba, on, none, (B 30))), rfl, ⟨rfl, hz28, hz29, hz30, hz31, hO⟩, by rw [ht99]; exact hP, hD⟩, hS.F ht99⟩) hS.2.2 dX5_giveBack_44
  · have hl : lv_has ls 4 [(0, .ref (a 5)), (1, .long x)] := hl
    refine W.eq (g2 := F0 m 0 ls []) rfl ?_
    have hO : OKP G h0 a (upd (upd (upd F 18 (nI ba)) 19 (nI tp)) 22 (nI on)) (updR (updR R 5 (.ref pq)) 6 (.ref mq)) Z B J K w := hO.to rfl
    have hmT := (hms mq rfl).1
    refine lv_aload_n hx hb dX5_giveBack_0 rfl (lv_at hl 0 rfl) ?_
    refine c_get (v := .ref mq) (C := RX5) (Tc := TX5) (N := 19) (ci := 4) hx hb hq pin_wsX50 hown hE hP hO 28 (sg_28 G h0 a _ _ _ _ _) rfl 9 (by decide) (hq _ pw_503) (fun _ h9 => h9) rfl dX5_giveBack_1 ?_
    refine lv_ifnull hx hb dX5_giveBack_4 ?_
    refine lv_aload_n hx hb dX5_giveBack_7 rfl (lv_at hl 0 rfl) ?_
    refine c_get (v := .ref mq) (C := RX5) (Tc := TX5) (N := 19) (ci := 4) hx hb hq pin_wsX50 hown hE hP hO 28 (sg_28 G h0 a _ _ _ _ _) rfl 9 (by decide) (hq _ pw_503) (fun _ h9 => h9) rfl dX5_giveBack_8 ?_
    refine p_get (v := .int (K.2.1 10 mq)) (C := RX6) (Tc := TX6) (N := 12) (ci := 12) hx hb hq pin_wsX60 hown hE hP hO (by rw [hmT]; decide) (rep_3 hmT) rfl 7 (by decide) (hq _ pw_702) (fun _ h9 => h9) rfl dX5_giveBack_11 ?_
    refine lv_bipush (v := 63) hx hb dX5_giveBack_14 (by decide) ?_
    refine lv_icmp_eq (tgt := 23) hx hb dX5_giveBack_16 (by decide) (fun c32 => ?_) (fun c32 => ?_)
    · refine lv_iconst (v := 0) hx hb dX5_giveBack_23 (by decide) ?_
      refine lv_istore_n (lv' := [(3, .int 0), (0, .ref (a 5)), (1, .long x)]) hx hb dX5_giveBack_24 rfl hl (by decide) rfl (fun ls hl => ?_)
      refine lv_aload_n hx hb dX5_giveBack_25 rfl (lv_at hl 1 rfl) ?_
      refine c_get (v := .int (nI on)) (C := RX5) (Tc := TX5) (N := 19) (ci := 4) hx hb hq pin_wsX50 hown hE hP hO 28 (sg_28 G h0 a _ _ _ _ _) rfl 15 (by decide) (hq _ pw_502) (fun _ h9 => h9) rfl dX5_giveBack_26 ?_
      refine lv_iconst (v := 1) hx hb dX5_giveBack_29 (by decide) ?_
      refine lv_icmp_gt (tgt := 45) hx hb dX5_giveBack_30 (by decide) (fun c33 => ?_) (fun c33 => ?_)
      · have n34 : 1 < on := (nI_ltI (a := 1) (b := on) (by omega) (by omega)).mp c33
        refine lv_aload_n hx hb dX5_giveBack_45 rfl (lv_at hl 1 rfl) ?_
        have hO : OKP G h0 a (upd (upd (upd (upd (upd (upd F 18 (nI ba)) 19 (nI tp)) 22 (nI on)) 18 (nI ba)) 19 (nI tp)) 22 (nI on)) (updR (updR (updR (updR R 5 (.ref pq)) 6 (.ref mq)) 5 (.ref pq)) 6 (va_rf (some mq))) Z B J K w := hO.to rfl
        obtain ⟨_, qr38, hqr39⟩ := hO.2.1 28 _ (sg_28 G h0 a _ _ _ _ _)
        refine pc_V0 (G := G) (As := []) (rest := []) hx hb hml hown hq hE hX pX0_al hP hD hS hA hl.1 (M_close l G h0 a (upd (upd (upd F 18 (nI ba)) 19 (nI tp)) 22 (nI on)) (updR (updR R 5 (.ref pq)) 6 (.ref mq)) Z B J K w tp pq dr ml nd nm cp it s9 g rk ba on (some mq) (by omega) hwp hps hrk (by omega) (by omega) hms hfr (by omega) hO) (gV pw_703 pw_704 pw_705 pw_539 pw_701) hV_X5_close qr38 4 hqr39 rfl rfl rfl (Nat.le_of_ble_eq_true rfl) dX5_giveBack_46 ⟨Nat.le_of_ble_eq_true rfl, Nat.le_of_ble_eq_true rfl⟩ ⟨Nat.le_of_ble_eq_true rfl, Nat.le_of_ble_eq_true rfl⟩ (fun v37 u35 H locs hw36 hP hD hS => ?_)
        obtain ⟨w, tp40, pc41, ba42, on43, mo44, fr45⟩ := u35
        obtain ⟨hw36, h46, h47, h48, h49, hO⟩ := hw36
        have h46 : tp40 ≤ 32000 := h46
        have h47 : ba42 ≤ 32000 ∧ on43 ≤ 100 := h47
        have h48 : MsO K mo44 ba42 := h48
        have h49 : FrO K nm it fr45 on43 := h49
        obtain rfl : v37 = none := hw36
        have hO : OKP G h0 a (upd (upd (upd (upd F 18 (nI ba42)) 19 (nI tp40)) 20 pc41) 22 (nI on43)) (updR (updR R 5 (.ref pq)) 6 (va_rf mo44)) Z (updA B 30 fr45) J K w := hO.to rfl
        refine W.widen (k := 0) (n := 0) (Nat.le_of_ble_eq_true rfl) (Nat.le_of_ble_eq_true rfl) ?_
        refine W.eq (g2 := F0 m 49 ls []) rfl ?_
        refine lv_aload_n hx hb dX5_giveBack_49 rfl (lv_at hl 1 rfl) ?_
        refine lv_aload_n hx hb dX5_giveBack_50 rfl (lv_at hl 1 rfl) ?_
        refine c_get (v := .int pc41) (C := RX5) (Tc := TX5) (N := 19) (ci := 4) hx hb hq pin_wsX50 hown hE hP hO 28 (sg_28 G h0 a _ _ _ _ _) rfl 12 (by decide) (hq _ pw_506) (fun _ h9 => h9) rfl dX5_giveBack_51 ?_
        refine lv_iconst (v := 1) hx hb dX5_giveBack_54 (by decide) ?_
        refine lv_iadd hx hb dX5_giveBack_55 ?_
        refine lv_topi (fun x50 e51 => ?_)
        refine c_put (v := .int x50) (ty := .int) (C := RX5) (Tc := TX5) (N := 19) (ci := 4) hx hb hq pin_wsX50 tyX5 tyX5_ok nmX5 hown hE hP hD hS hO 28 (sg_28 G h0 a _ _ _ _ _) rfl 13 (by decide) (hq _ pw_566) (fun _ h9 => h9) rfl (by decide +kernel) rfl rfl (Nat.le_of_ble_eq_true rfl) (sf_21 G h0 a _ _ _ _ _ x50) dX5_giveBack_56 (fun H locs w hP hD hS hO => ?_)
        refine lv_iload_n hx hb dX5_giveBack_59 rfl (lv_at hl 0 rfl) ?_
        refine lv_if_eq (tgt := 68) hx hb dX5_giveBack_60 (by decide) (fun c52 => ?_) (fun c52 => absurd c52 (by decide))
        have hz53 : tp40 ≤ 32000 := (by omega)
        have hz54 : ba42 ≤ 32000 ∧ on43 ≤ 100 := (by omega)
        have hz55 : MsO K mo44 ba42 := h48
        have hz56 : FrO K nm it fr45 on43 := h49
        have hO : OKP G h0 a (upd (upd (upd (upd (upd (upd (upd (upd F 18 (nI ba42)) 19 (nI tp40)) 20 pc41) 21 x50) 22 (nI on43)) 23 (F 23)) 24 (F 24)) 25 (F 25)) (updR (updR R 5 (.ref pq)) 6 (va_rf mo44)) Z (updA B 30 fr45) J K w := hO.to rfl
        exact W.vret hx hb hr (fun t99 ht99 hW99 => ⟨⟨_, (w, (tp40, (F 23), (F 25), x50, pc41, (F 24), J, ba42, on43, mo44, fr45)), rfl, ⟨rfl, hz53, hz54, hz55, hz56, hO⟩, by rw [ht99]; exact hP, hD⟩, hS.F ht99⟩) hS.2.2 dX5_giveBack_68
      · have n57 : ¬ (1 < on) := fun h9 => c33 ((nI_ltI (a := 1) (b := on) (by omega) (by omega)).mpr h9)
        refine lv_aload_n hx hb dX5_giveBack_33 rfl (lv_at hl 1 rfl) ?_
        refine lv_lload_n hx hb dX5_giveBack_34 rfl (lv_at hl 2 rfl) ?_
        refine lv_l2i hx hb dX5_giveBack_35 rfl ?_
        refine lv_topi (fun x58 e59 => ?_)
        refine c_put (v := .int x58) (ty := .int) (C := RX5) (Tc := TX5) (N := 19) (ci := 4) hx hb hq pin_wsX50 tyX5 tyX5_ok nmX5 hown hE hP hD hS hO 28 (sg_28 G h0 a _ _ _ _ _) rfl 17 (by decide) (hq _ pw_501) (fun _ h9 => h9) rfl (by decide +kernel) rfl rfl (Nat.le_of_ble_eq_true rfl) (sf_24 G h0 a _ _ _ _ _ x58) dX5_giveBack_36 (fun H locs w hP hD hS hO => ?_)
        refine lv_aload_n hx hb dX5_giveBack_39 rfl (lv_at hl 1 rfl) ?_
        refine lv_iconst (v := 0) hx hb dX5_giveBack_40 (by decide) ?_
        refine c_put (v := .int 0) (ty := .int) (C := RX5) (Tc := TX5) (N := 19) (ci := 4) hx hb hq pin_wsX50 tyX5 tyX5_ok nmX5 hown hE hP hD hS hO 28 (sg_28 G h0 a _ _ _ _ _) rfl 16 (by decide) (hq _ pw_513) (fun _ h9 => h9) rfl (by decide +kernel) rfl rfl (Nat.le_of_ble_eq_true rfl) (sf_23 G h0 a _ _ _ _ _ 0) dX5_giveBack_41 (fun H locs w hP hD hS hO => ?_)
        have hz60 : tp ≤ 32000 := (by omega)
        have hz61 : ba ≤ 32000 ∧ on ≤ 100 := (by omega)
        have hz62 : MsO K (some mq) ba := hms
        have hz63 : FrO K nm it (B 30) on := hfr
        have hO : OKP G h0 a (upd (upd (upd (upd (upd (upd (upd (upd F 18 (nI ba)) 19 (nI tp)) 20 (F 20)) 21 (F 21)) 22 (nI on)) 23 (0 : Int32)) 24 x58) 25 (F 25)) (updR (updR R 5 (.ref pq)) 6 (va_rf (some mq))) Z (updA B 30 (B 30)) J K w := hO.to rfl
        exact W.vret hx hb hr (fun t99 ht99 hW99 => ⟨⟨_, (w, (tp, (0 : Int32), (F 25), (F 21), (F 20), x58, J, ba, on, (some mq), (B 30))), rfl, ⟨rfl, hz60, hz61, hz62, hz63, hO⟩, by rw [ht99]; exact hP, hD⟩, hS.F ht99⟩) hS.2.2 dX5_giveBack_44
    · refine lv_iconst (v := 1) hx hb dX5_giveBack_19 (by decide) ?_
      refine lv_goto (tgt := 24) hx hb dX5_giveBack_20 (by decide) ?_
      refine lv_istore_n (lv' := [(3, .int 1), (0, .ref (a 5)), (1, .long x)]) hx hb dX5_giveBack_24 rfl hl (by decide) rfl (fun ls hl => ?_)
      refine lv_aload_n hx hb dX5_giveBack_25 rfl (lv_at hl 1 rfl) ?_
      refine c_get (v := .int (nI on)) (C := RX5) (Tc := TX5) (N := 19) (ci := 4) hx hb hq pin_wsX50 hown hE hP hO 28 (sg_28 G h0 a _ _ _ _ _) rfl 15 (by decide) (hq _ pw_502) (fun _ h9 => h9) rfl dX5_giveBack_26 ?_
      refine lv_iconst (v := 1) hx hb dX5_giveBack_29 (by decide) ?_
      refine lv_icmp_gt (tgt := 45) hx hb dX5_giveBack_30 (by decide) (fun c64 => ?_) (fun c64 => ?_)
      · have n65 : 1 < on := (nI_ltI (a := 1) (b := on) (by omega) (by omega)).mp c64
        refine lv_aload_n hx hb dX5_giveBack_45 rfl (lv_at hl 1 rfl) ?_
        have hO : OKP G h0 a (upd (upd (upd (upd (upd (upd F 18 (nI ba)) 19 (nI tp)) 22 (nI on)) 18 (nI ba)) 19 (nI tp)) 22 (nI on)) (updR (updR (updR (updR R 5 (.ref pq)) 6 (.ref mq)) 5 (.ref pq)) 6 (va_rf (some mq))) Z B J K w := hO.to rfl
        obtain ⟨_, qr69, hqr70⟩ := hO.2.1 28 _ (sg_28 G h0 a _ _ _ _ _)
        refine pc_V0 (G := G) (As := []) (rest := []) hx hb hml hown hq hE hX pX0_al hP hD hS hA hl.1 (M_close l G h0 a (upd (upd (upd F 18 (nI ba)) 19 (nI tp)) 22 (nI on)) (updR (updR R 5 (.ref pq)) 6 (.ref mq)) Z B J K w tp pq dr ml nd nm cp it s9 g rk ba on (some mq) (by omega) hwp hps hrk (by omega) (by omega) hms hfr (by omega) hO) (gV pw_703 pw_704 pw_705 pw_539 pw_701) hV_X5_close qr69 4 hqr70 rfl rfl rfl (Nat.le_of_ble_eq_true rfl) dX5_giveBack_46 ⟨Nat.le_of_ble_eq_true rfl, Nat.le_of_ble_eq_true rfl⟩ ⟨Nat.le_of_ble_eq_true rfl, Nat.le_of_ble_eq_true rfl⟩ (fun v68 u66 H locs hw67 hP hD hS => ?_)
        obtain ⟨w, tp71, pc72, ba73, on74, mo75, fr76⟩ := u66
        obtain ⟨hw67, h77, h78, h79, h80, hO⟩ := hw67
        have h77 : tp71 ≤ 32000 := h77
        have h78 : ba73 ≤ 32000 ∧ on74 ≤ 100 := h78
        have h79 : MsO K mo75 ba73 := h79
        have h80 : FrO K nm it fr76 on74 := h80
        obtain rfl : v68 = none := hw67
        have hO : OKP G h0 a (upd (upd (upd (upd F 18 (nI ba73)) 19 (nI tp71)) 20 pc72) 22 (nI on74)) (updR (updR R 5 (.ref pq)) 6 (va_rf mo75)) Z (updA B 30 fr76) J K w := hO.to rfl
        refine W.widen (k := 0) (n := 0) (Nat.le_of_ble_eq_true rfl) (Nat.le_of_ble_eq_true rfl) ?_
        refine W.eq (g2 := F0 m 49 ls []) rfl ?_
        refine lv_aload_n hx hb dX5_giveBack_49 rfl (lv_at hl 1 rfl) ?_
        refine lv_aload_n hx hb dX5_giveBack_50 rfl (lv_at hl 1 rfl) ?_
        refine c_get (v := .int pc72) (C := RX5) (Tc := TX5) (N := 19) (ci := 4) hx hb hq pin_wsX50 hown hE hP hO 28 (sg_28 G h0 a _ _ _ _ _) rfl 12 (by decide) (hq _ pw_506) (fun _ h9 => h9) rfl dX5_giveBack_51 ?_
        refine lv_iconst (v := 1) hx hb dX5_giveBack_54 (by decide) ?_
        refine lv_iadd hx hb dX5_giveBack_55 ?_
        refine lv_topi (fun x81 e82 => ?_)
        refine c_put (v := .int x81) (ty := .int) (C := RX5) (Tc := TX5) (N := 19) (ci := 4) hx hb hq pin_wsX50 tyX5 tyX5_ok nmX5 hown hE hP hD hS hO 28 (sg_28 G h0 a _ _ _ _ _) rfl 13 (by decide) (hq _ pw_566) (fun _ h9 => h9) rfl (by decide +kernel) rfl rfl (Nat.le_of_ble_eq_true rfl) (sf_21 G h0 a _ _ _ _ _ x81) dX5_giveBack_56 (fun H locs w hP hD hS hO => ?_)
        refine lv_iload_n hx hb dX5_giveBack_59 rfl (lv_at hl 0 rfl) ?_
        refine lv_if_eq (tgt := 68) hx hb dX5_giveBack_60 (by decide) (fun c83 => absurd c83 (by decide)) (fun c83 => ?_)
        refine lv_aload_n hx hb dX5_giveBack_63 rfl (lv_at hl 1 rfl) ?_
        refine lv_lload_n hx hb dX5_giveBack_64 rfl (lv_at hl 2 rfl) ?_
        have hO : OKW G h0 a (upd (upd (upd (upd (upd (upd F 18 (nI ba73)) 19 (nI tp71)) 20 pc72) 21 x81) 22 (nI on74)) 19 (nI tp71)) (updR (updR R 5 (.ref pq)) 6 (va_rf mo75)) Z (updA B 30 fr76) J K.1 (fun q99 x99 => x99 = rep G a K q99) w := hO.to rfl
        obtain ⟨_, qr87, hqr88⟩ := hO.2.1 28 _ (sg_28 G h0 a _ _ _ _ _)
        refine pc_V0 (G := G) (As := [.long x]) (rest := []) hx hb hml hown hq hE hX pX0_al hP hD hS hA hl.1 (M_push l G h0 a (upd (upd (upd (upd (upd F 18 (nI ba73)) 19 (nI tp71)) 20 pc72) 21 x81) 22 (nI on74)) (updR (updR R 5 (.ref pq)) 6 (va_rf mo75)) Z (updA B 30 fr76) J K.1 (fun q99 x99 => x99 = rep G a K q99) w x tp71 (by omega) hO) (gV pw_549 pw_550 pw_551 pw_539 pw_535) hV_X5_push qr87 4 hqr88 rfl rfl rfl (Nat.le_of_ble_eq_true rfl) dX5_giveBack_65 ⟨Nat.le_of_ble_eq_true rfl, Nat.le_of_ble_eq_true rfl⟩ ⟨Nat.le_of_ble_eq_true rfl, Nat.le_of_ble_eq_true rfl⟩ (fun v86 u84 H locs hw85 hP hD hS => ?_)
        obtain ⟨w, tp89, en90, rf91, J92⟩ := u84
        obtain ⟨hw85, h93, hO⟩ := hw85
        have h93 : tp89 ≤ 32000 := h93
        obtain rfl : v86 = none := hw85
        have hO : OKP G h0 a (upd (upd (upd (upd (upd (upd (upd F 18 (nI ba73)) 19 (nI tp89)) 20 pc72) 21 x81) 22 (nI on74)) 23 en90) 25 rf91) (updR (updR R 5 (.ref pq)) 6 (va_rf mo75)) Z (updA B 30 fr76) J92 K w := hO.to rfl
        refine W.widen (k := 0) (n := 0) (Nat.le_of_ble_eq_true rfl) (Nat.le_of_ble_eq_true rfl) ?_
        refine W.eq (g2 := F0 m 68 ls []) rfl ?_
        have hz94 : tp89 ≤ 32000 := (by omega)
        have hz95 : ba73 ≤ 32000 ∧ on74 ≤ 100 := (by omega)
        have hz96 : MsO K mo75 ba73 := h79
        have hz97 : FrO K nm it fr76 on74 := h80
        have hO : OKP G h0 a (upd (upd (upd (upd (upd (upd (upd (upd F 18 (nI ba73)) 19 (nI tp89)) 20 pc72) 21 x81) 22 (nI on74)) 23 en90) 24 (F 24)) 25 rf91) (updR (updR R 5 (.ref pq)) 6 (va_rf mo75)) Z (updA B 30 fr76) J92 K w := hO.to rfl
        exact W.vret hx hb hr (fun t99 ht99 hW99 => ⟨⟨_, (w, (tp89, en90, rf91, x81, pc72, (F 24), J92, ba73, on74, mo75, fr76)), rfl, ⟨rfl, hz94, hz95, hz96, hz97, hO⟩, by rw [ht99]; exact hP, hD⟩, hS.F ht99⟩) hS.2.2 dX5_giveBack_68
      · have n98 : ¬ (1 < on) := fun h9 => c64 ((nI_ltI (a := 1) (b := on) (by omega) (by omega)).mpr h9)
        refine lv_aload_n hx hb dX5_giveBack_33 rfl (lv_at hl 1 rfl) ?_
        refine lv_lload_n hx hb dX5_giveBack_34 rfl (lv_at hl 2 rfl) ?_
        refine lv_l2i hx hb dX5_giveBack_35 rfl ?_
        refine lv_topi (fun x99 e100 => ?_)
        refine c_put (v := .int x99) (ty := .int) (C := RX5) (Tc := TX5) (N := 19) (ci := 4) hx hb hq pin_wsX50 tyX5 tyX5_ok nmX5 hown hE hP hD hS hO 28 (sg_28 G h0 a _ _ _ _ _) rfl 17 (by decide) (hq _ pw_501) (fun _ h9 => h9) rfl (by decide +kernel) rfl rfl (Nat.le_of_ble_eq_true rfl) (sf_24 G h0 a _ _ _ _ _ x99) dX5_giveBack_36 (fun H locs w hP hD hS hO => ?_)
        refine lv_aload_n hx hb dX5_giveBack_39 rfl (lv_at hl 1 rfl) ?_
        refine lv_iconst (v := 0) hx hb dX5_giveBack_40 (by decide) ?_
        refine c_put (v := .int 0) (ty := .int) (C := RX5) (Tc := TX5) (N := 19) (ci := 4) hx hb hq pin_wsX50 tyX5 tyX5_ok nmX5 hown hE hP hD hS hO 28 (sg_28 G h0 a _ _ _ _ _) rfl 16 (by decide) (hq _ pw_513) (fun _ h9 => h9) rfl (by decide +kernel) rfl rfl (Nat.le_of_ble_eq_true rfl) (sf_23 G h0 a _ _ _ _ _ 0) dX5_giveBack_41 (fun H locs w hP hD hS hO => ?_)
        have hz101 : tp ≤ 32000 := (by omega)
        have hz102 : ba ≤ 32000 ∧ on ≤ 100 := (by omega)
        have hz103 : MsO K (some mq) ba := hms
        have hz104 : FrO K nm it (B 30) on := hfr
        have hO : OKP G h0 a (upd (upd (upd (upd (upd (upd (upd (upd F 18 (nI ba)) 19 (nI tp)) 20 (F 20)) 21 (F 21)) 22 (nI on)) 23 (0 : Int32)) 24 x99) 25 (F 25)) (updR (updR R 5 (.ref pq)) 6 (va_rf (some mq))) Z (updA B 30 (B 30)) J K w := hO.to rfl
        exact W.vret hx hb hr (fun t99 ht99 hW99 => ⟨⟨_, (w, (tp, (0 : Int32), (F 25), (F 21), (F 20), x99, J, ba, on, (some mq), (B 30))), rfl, ⟨rfl, hz101, hz102, hz103, hz104, hO⟩, by rw [ht99]; exact hP, hD⟩, hS.F ht99⟩) hS.2.2 dX5_giveBack_44
theorem dX5_leave_0 : decode cX5_leave 0 = .ok (.aload_n 0, 1) := by decide +kernel
theorem dX5_leave_1 : decode cX5_leave 1 = .ok (.getfield 96, 3) := by decide +kernel
theorem dX5_leave_4 : decode cX5_leave 4 = .ok (.ifnonnull 8, 3) := by decide +kernel
theorem dX5_leave_7 : decode cX5_leave 7 = .ok (.aload_n 0, 1) := by decide +kernel
theorem dX5_leave_8 : decode cX5_leave 8 = .ok (.invokevirtual 160, 3) := by decide +kernel
theorem dX5_leave_11 : decode cX5_leave 11 = .ok (.return_, 1) := by decide +kernel
theorem dX5_leave_12 : decode cX5_leave 12 = .ok (.aload_n 0, 1) := by decide +kernel
theorem dX5_leave_13 : decode cX5_leave 13 = .ok (.getfield 96, 3) := by decide +kernel
theorem dX5_leave_16 : decode cX5_leave 16 = .ok (.getfield 338, 3) := by decide +kernel
theorem dX5_leave_19 : decode cX5_leave 19 = .ok (.istore 4, 2) := by decide +kernel
theorem dX5_leave_21 : decode cX5_leave 21 = .ok (.iload 4, 2) := by decide +kernel
theorem dX5_leave_23 : decode cX5_leave 23 = .ok (.aload_n 0, 1) := by decide +kernel
theorem dX5_leave_24 : decode cX5_leave 24 = .ok (.getfield 96, 3) := by decide +kernel
theorem dX5_leave_27 : decode cX5_leave 27 = .ok (.getfield 341, 3) := by decide +kernel
theorem dX5_leave_30 : decode cX5_leave 30 = .ok (.if_icmp .ge 76, 3) := by decide +kernel
theorem dX5_leave_106 : decode cX5_leave 106 = .ok (.iload_n 1, 1) := by decide +kernel
theorem dX5_leave_107 : decode cX5_leave 107 = .ok (.ifCond .lt 11, 3) := by decide +kernel
theorem dX5_leave_118 : decode cX5_leave 118 = .ok (.aload_n 0, 1) := by decide +kernel
theorem dX5_leave_119 : decode cX5_leave 119 = .ok (.lload_n 2, 1) := by decide +kernel
theorem dX5_leave_120 : decode cX5_leave 120 = .ok (.invokevirtual 356, 3) := by decide +kernel
theorem dX5_leave_123 : decode cX5_leave 123 = .ok (.return_, 1) := by decide +kernel
theorem dX5_leave_110 : decode cX5_leave 110 = .ok (.aload_n 0, 1) := by decide +kernel
theorem dX5_leave_111 : decode cX5_leave 111 = .ok (.iload_n 1, 1) := by decide +kernel
theorem dX5_leave_112 : decode cX5_leave 112 = .ok (.putfield 132, 3) := by decide +kernel
theorem dX5_leave_115 : decode cX5_leave 115 = .ok (.goto 8, 3) := by decide +kernel
theorem dX5_leave_33 : decode cX5_leave 33 = .ok (.aload_n 0, 1) := by decide +kernel
theorem dX5_leave_34 : decode cX5_leave 34 = .ok (.getfield 11, 3) := by decide +kernel
theorem dX5_leave_37 : decode cX5_leave 37 = .ok (.iload 4, 2) := by decide +kernel
theorem dX5_leave_39 : decode cX5_leave 39 = .ok (.aload_n 0, 1) := by decide +kernel
theorem dX5_leave_40 : decode cX5_leave 40 = .ok (.getfield 106, 3) := by decide +kernel
theorem dX5_leave_43 : decode cX5_leave 43 = .ok (.invokevirtual 347, 3) := by decide +kernel
theorem dX5_leave_46 : decode cX5_leave 46 = .ok (.ifCond .eq 24, 3) := by decide +kernel
theorem dX5_leave_70 : decode cX5_leave 70 = .ok (.iconst 0, 1) := by decide +kernel
theorem dX5_leave_71 : decode cX5_leave 71 = .ok (.istore 5, 2) := by decide +kernel
theorem dX5_leave_73 : decode cX5_leave 73 = .ok (.iload 5, 2) := by decide +kernel
theorem dX5_leave_75 : decode cX5_leave 75 = .ok (.ifCond .eq 25, 3) := by decide +kernel
theorem dX5_leave_100 : decode cX5_leave 100 = .ok (.iinc 4 1, 3) := by decide +kernel
theorem dX5_leave_103 : decode cX5_leave 103 = .ok (.goto (-82), 3) := by decide +kernel
theorem dX5_leave_49 : decode cX5_leave 49 = .ok (.iload_n 1, 1) := by decide +kernel
theorem dX5_leave_50 : decode cX5_leave 50 = .ok (.ifCond .lt 16, 3) := by decide +kernel
theorem dX5_leave_66 : decode cX5_leave 66 = .ok (.iconst 1, 1) := by decide +kernel
theorem dX5_leave_67 : decode cX5_leave 67 = .ok (.goto 4, 3) := by decide +kernel
theorem dX5_leave_78 : decode cX5_leave 78 = .ok (.aload_n 0, 1) := by decide +kernel
theorem dX5_leave_79 : decode cX5_leave 79 = .ok (.getfield 11, 3) := by decide +kernel
theorem dX5_leave_82 : decode cX5_leave 82 = .ok (.iload 4, 2) := by decide +kernel
theorem dX5_leave_84 : decode cX5_leave 84 = .ok (.invokevirtual 344, 3) := by decide +kernel
theorem dX5_leave_87 : decode cX5_leave 87 = .ok (.iconst (-1), 1) := by decide +kernel
theorem dX5_leave_88 : decode cX5_leave 88 = .ok (.if_icmp .ne 12, 3) := by decide +kernel
theorem dX5_leave_91 : decode cX5_leave 91 = .ok (.aload_n 0, 1) := by decide +kernel
theorem dX5_leave_92 : decode cX5_leave 92 = .ok (.iload 4, 2) := by decide +kernel
theorem dX5_leave_94 : decode cX5_leave 94 = .ok (.iload_n 1, 1) := by decide +kernel
theorem dX5_leave_95 : decode cX5_leave 95 = .ok (.lload_n 2, 1) := by decide +kernel
theorem dX5_leave_96 : decode cX5_leave 96 = .ok (.invokevirtual 334, 3) := by decide +kernel
theorem dX5_leave_99 : decode cX5_leave 99 = .ok (.return_, 1) := by decide +kernel
theorem dX5_leave_53 : decode cX5_leave 53 = .ok (.aload_n 0, 1) := by decide +kernel
theorem dX5_leave_54 : decode cX5_leave 54 = .ok (.getfield 11, 3) := by decide +kernel
theorem dX5_leave_57 : decode cX5_leave 57 = .ok (.iload 4, 2) := by decide +kernel
theorem dX5_leave_59 : decode cX5_leave 59 = .ok (.iload_n 1, 1) := by decide +kernel
theorem dX5_leave_60 : decode cX5_leave 60 = .ok (.invokevirtual 347, 3) := by decide +kernel
theorem dX5_leave_63 : decode cX5_leave 63 = .ok (.ifCond .ne 7, 3) := by decide +kernel
theorem hV_X5_giveBack : yX5_giveBack.cls = RX5 ∧ yX5_giveBack.cls ≠ "java/lang/invoke/MethodHandle" ∧ yX5_giveBack.cls ≠ "java/lang/invoke/VarHandle" ∧ (parseMethodDescriptor yX5_giveBack.desc).map (fun d => d.parameters.length) = some 1 := by decide +kernel
theorem hV_X5_land : yX5_land.cls = RX5 ∧ yX5_land.cls ≠ "java/lang/invoke/MethodHandle" ∧ yX5_land.cls ≠ "java/lang/invoke/VarHandle" ∧ (parseMethodDescriptor yX5_land.desc).map (fun d => d.parameters.length) = some 3 := by decide +kernel
set_option maxHeartbeats 30000000 in
set_option maxRecDepth 100000 in
theorem M_leave (l : Launch) (G : pT) (h0 : Nat) (a : Nat → Nat) (F : Nat → Int32) (R : Nat → Value) (Z : Int64) (B : Nat → Nat → Int32) (J : Nat → Nat → Int64) (K : PK) (w : va_W) (x : Int32) (y : Int64) (tp : Nat) (pq : Nat) (dr : Nat) (ml : Nat) (nd : Nat) (nm : Nat) (cp : Nat) (it : Nat → Nat) (s9 : Nat) (g : Nat → Nat → Nat) (rk : Nat → Nat) (ba : Nat) (on : Nat) (mo : Option Nat) (rg : Nat) (htp : tp ≤ 32000) (hwp : WPr G K g) (hps : PgT G K g (a 1) pq dr ml nd nm cp it s9) (hrk : RkO K rk) (hba : ba ≤ 32000) (hon : on ≤ 100) (hms : MsO K mo ba) (hfr : FrO K nm it (B 30) on) (hrg : rg ≤ 625) (hO : OKP G h0 a (upd (upd (upd (upd F 6 (nI rg)) 18 (nI ba)) 19 (nI tp)) 22 (nI on)) (updR (updR R 5 (.ref pq)) 6 (va_rf mo)) Z B J K w) : PM l G pX0 yX5_leave cX5_leave 6 none ({ frames := 8, cells := 0, slots := 0, locals := 188 }) [.ref (a 5), .int x, .long y] w (fun (v : Option Value) (u : va_W × (Nat × Int32 × Int32 × Int32 × Int32 × Int32 × (Nat → Nat → Int64) × Nat × Nat × Option Nat × (Nat → Int32))) => v = none ∧ (u.2.1 ≤ 32000) ∧ (u.2.2.2.2.2.2.2.2.1 ≤ 32000 ∧ u.2.2.2.2.2.2.2.2.2.1 ≤ 100) ∧ (MsO K u.2.2.2.2.2.2.2.2.2.2.1 u.2.2.2.2.2.2.2.2.1) ∧ (FrO K nm it u.2.2.2.2.2.2.2.2.2.2.2 u.2.2.2.2.2.2.2.2.2.1) ∧ (OKP G h0 a (upd (upd (upd (upd (upd (upd (upd (upd (upd F 6 (nI rg)) 18 (nI u.2.2.2.2.2.2.2.2.1)) 19 (nI u.2.1)) 20 u.2.2.2.2.2.1) 21 u.2.2.2.2.1) 22 (nI u.2.2.2.2.2.2.2.2.2.1)) 23 u.2.2.1) 24 u.2.2.2.2.2.2.1) 25 u.2.2.2.1) (updR (updR R 5 (.ref pq)) 6 (va_rf u.2.2.2.2.2.2.2.2.2.2.1)) Z (updA B 30 u.2.2.2.2.2.2.2.2.2.2.2) u.2.2.2.2.2.2.2.1 K u.1)) (fun u => u.1) := by
  intro sz
  refine Met.ofW (cc := cX5_leave) (maxL := 6) (ret := none) (by decide) rfl ?_
  intro p e s m args below meth c s₁ B9 hml hv
  obtain ⟨rfl, hsz, hP, hD0, hE, hX⟩ := hv
  have hx := B9.exec
  have hb := B9.bytes
  have hr := B9.returns
  have hts := atoms_spec (ws := Cond.code yX5_leave cX5_leave 6 none :: pw) B9.pre
  have hq : ∀ w ∈ pw, w.before _ s = true := fun w h => hts w (List.mem_cons_of_mem _ h)
  have hown : s.vm.findClass RX5 = some m.cls := findClass_of_methodNamed B9.named
  have hlocks := B9.notSynchronized
  subst hsz
  have hD := hD0.self (sz := s.heap.size)
  have hA : ∀ q : Nat, s.heap.size ≤ q → va_A w s.heap.size q := fun q h => Or.inr h
  generalize va_A w s.heap.size = A at hD hE hA ⊢
  have hS : va_S A s.heap s.heap [] := va_S.rf
  have hl := lv_entry ([.ref (a 5), .int x, .long y]) (n := 6) (Nat.le_of_ble_eq_true rfl)
  rw [lg_entry_eq]
  generalize (lg_sl ([.ref (a 5), .int x, .long y]) ++ List.replicate (6 - (lg_sl ([.ref (a 5), .int x, .long y])).length) Slot.unset).toArray = ls at hl ⊢
  have hl : lv_has ls 6 [(0, .ref (a 5)), (1, .int x), (2, .long y)] := hl
  have hpg := hps.1
  have hp1 := hpg.1
  have hp2 := hpg.2.1
  have hp3 := hpg.2.2.1
  have hp4 := hpg.2.2.2.1
  have hp5 := hpg.2.2.2.2.1
  have hp6 := hpg.2.2.2.2.2.1
  have hp8 := hpg.2.2.2.2.2.2.2.1
  have hp9 := hpg.2.2.2.2.2.2.2.2
  rcases mo with _ | mq
  · have hl : lv_has ls 6 [(0, .ref (a 5)), (1, .int x), (2, .long y)] := hl
    refine W.eq (g2 := F0 m 0 ls []) rfl ?_
    have hO : OKP G h0 a (upd (upd (upd (upd F 6 (nI rg)) 18 (nI ba)) 19 (nI tp)) 22 (nI on)) (updR (updR R 5 (.ref pq)) 6 (.null)) Z B J K w := hO.to rfl
    refine lv_aload_n hx hb dX5_leave_0 rfl (lv_at hl 0 rfl) ?_
    refine c_get (v := .null) (C := RX5) (Tc := TX5) (N := 19) (ci := 4) hx hb hq pin_wsX50 hown hE hP hO 28 (sg_28 G h0 a _ _ _ _ _) rfl 9 (by decide) (hq _ pw_503) (fun _ h9 => h9) rfl dX5_leave_1 ?_
    refine lv_ifnonnullN hx hb dX5_leave_4 ?_
    refine lv_aload_n hx hb dX5_leave_7 rfl (lv_at hl 0 rfl) ?_
    have hO : OKW G h0 a (upd (upd (upd (upd F 6 (nI rg)) 18 (nI ba)) 19 (nI tp)) 22 (nI on)) (updR (updR R 5 (.ref pq)) 6 (.null)) Z B J K.1 (fun q99 x99 => x99 = rep G a K q99) w := hO.to rfl
    obtain ⟨_, qr4, hqr5⟩ := hO.2.1 28 _ (sg_28 G h0 a _ _ _ _ _)
    refine pc_V0 (G := G) (As := []) (rest := []) hx hb hml hown hq hE hX pX0_al hP hD hS hA hl.1 (M_refuse l G h0 a (upd (upd (upd (upd F 6 (nI rg)) 18 (nI ba)) 19 (nI tp)) 22 (nI on)) (updR (updR R 5 (.ref pq)) 6 (.null)) Z B J K.1 (fun q99 x99 => x99 = rep G a K q99) w hO) (gV pw_536 pw_537 pw_538 pw_539 pw_511) hV_X5_refuse qr4 4 hqr5 rfl rfl rfl (Nat.le_of_ble_eq_true rfl) dX5_leave_8 ⟨Nat.le_of_ble_eq_true rfl, Nat.le_of_ble_eq_true rfl⟩ ⟨Nat.le_of_ble_eq_true rfl, Nat.le_of_ble_eq_true rfl⟩ (fun v3 u1 H locs hw2 hP hD hS => ?_)
    obtain ⟨w, en6, rf7⟩ := u1
    obtain ⟨hw2, hO⟩ := hw2
    obtain rfl : v3 = none := hw2
    have hO : OKP G h0 a (upd (upd (upd (upd (upd (upd F 6 (nI rg)) 18 (nI ba)) 19 (nI tp)) 22 (nI on)) 23 en6) 25 rf7) (updR (updR R 5 (.ref pq)) 6 (.null)) Z B J K w := hO.to rfl
    refine W.widen (k := 0) (n := 0) (Nat.le_of_ble_eq_true rfl) (Nat.le_of_ble_eq_true rfl) ?_
    refine W.eq (g2 := F0 m 11 ls []) rfl ?_
    have hz8 : tp ≤ 32000 := (by omega)
    have hz9 : ba ≤ 32000 ∧ on ≤ 100 := (by omega)
    have hz10 : MsO K none ba := hms
    have hz11 : FrO K nm it (B 30) on := hfr
    have hO : OKP G h0 a (upd (upd (upd (upd (upd (upd (upd (upd (upd F 6 (nI rg)) 18 (nI ba)) 19 (nI tp)) 20 (F 20)) 21 (F 21)) 22 (nI on)) 23 en6) 24 (F 24)) 25 rf7) (updR (updR R 5 (.ref pq)) 6 (va_rf none)) Z (updA B 30 (B 30)) J K w := hO.to rfl
    exact W.vret hx hb hr (fun t99 ht99 hW99 => ⟨⟨_, (w, (tp, en6, rf7, (F 21), (F 20), (F 24), J, ba, on, none, (B 30))), rfl, ⟨rfl, hz8, hz9, hz10, hz11, hO⟩, by rw [ht99]; exact hP, hD⟩, hS.F ht99⟩) hS.2.2 dX5_leave_11
  · have hl : lv_has ls 6 [(0, .ref (a 5)), (1, .int x), (2, .long y)] := hl
    refine W.eq (g2 := F0 m 0 ls []) rfl ?_
    have hO : OKP G h0 a (upd (upd (upd (upd F 6 (nI rg)) 18 (nI ba)) 19 (nI tp)) 22 (nI on)) (updR (updR R 5 (.ref pq)) 6 (.ref mq)) Z B J K w := hO.to rfl
    have hmT := (hms mq rfl).1
    refine lv_aload_n hx hb dX5_leave_0 rfl (lv_at hl 0 rfl) ?_
    refine c_get (v := .ref mq) (C := RX5) (Tc := TX5) (N := 19) (ci := 4) hx hb hq pin_wsX50 hown hE hP hO 28 (sg_28 G h0 a _ _ _ _ _) rfl 9 (by decide) (hq _ pw_503) (fun _ h9 => h9) rfl dX5_leave_1 ?_
    refine lv_ifnonnull (tgt := 12) hx hb dX5_leave_4 (by decide) ?_
    refine lv_aload_n hx hb dX5_leave_12 rfl (lv_at hl 0 rfl) ?_
    refine c_get (v := .ref mq) (C := RX5) (Tc := TX5) (N := 19) (ci := 4) hx hb hq pin_wsX50 hown hE hP hO 28 (sg_28 G h0 a _ _ _ _ _) rfl 9 (by decide) (hq _ pw_503) (fun _ h9 => h9) rfl dX5_leave_13 ?_
    refine p_get (v := .int (K.2.1 13 mq)) (C := RX6) (Tc := TX6) (N := 12) (ci := 12) hx hb hq pin_wsX60 hown hE hP hO (by rw [hmT]; decide) (rep_3 hmT) rfl 10 (by decide) (hq _ pw_707) (fun _ h9 => h9) rfl dX5_leave_16 ?_
    refine lv_istore (lv' := [(4, .int (K.2.1 13 mq)), (0, .ref (a 5)), (1, .int x), (2, .long y)]) hx hb dX5_leave_19 hl (by decide) rfl (fun ls hl => ?_)
    have loop_r : ∀ (n_r : Nat) (k2 : Nat) (x2 : Int32) (H : Heap) (locs : List Loc) (ls : Array Slot) (w : va_W), k2 ≤ 4294967296 → 4294967296 + 1 ≤ k2 + n_r → (x2.toInt = (K.2.1 13 mq).toInt + (k2 : Int)) → va_P G.1 pCl w H → va_D A w → va_S A s.heap H locs → OKP G h0 a (upd (upd (upd (upd F 6 (nI rg)) 18 (nI ba)) 19 (nI tp)) 22 (nI on)) (updR (updR R 5 (.ref pq)) 6 (.ref mq)) Z B J K w → lv_has ls 6 [(4, .int x2), (2, .long y), (1, .int x), (0, .ref (a 5))] → W p l e (headSpec (Cond.code yX5_leave cX5_leave 6 none :: pw) ({ frames := 8, cells := 0, slots := 0, locals := 188 } : Room)).room s m ([.ref (a 5), .int x, .long y] : List Value).toArray below meth c H locs 0 0 (MQ below (pQ G A (fun (v : Option Value) (u : va_W × (Nat × Int32 × Int32 × Int32 × Int32 × Int32 × (Nat → Nat → Int64) × Nat × Nat × Option Nat × (Nat → Int32))) => v = none ∧ (u.2.1 ≤ 32000) ∧ (u.2.2.2.2.2.2.2.2.1 ≤ 32000 ∧ u.2.2.2.2.2.2.2.2.2.1 ≤ 100) ∧ (MsO K u.2.2.2.2.2.2.2.2.2.2.1 u.2.2.2.2.2.2.2.2.1) ∧ (FrO K nm it u.2.2.2.2.2.2.2.2.2.2.2 u.2.2.2.2.2.2.2.2.2.1) ∧ (OKP G h0 a (upd (upd (upd (upd (upd (upd (upd (upd (upd F 6 (nI rg)) 18 (nI u.2.2.2.2.2.2.2.2.1)) 19 (nI u.2.1)) 20 u.2.2.2.2.2.1) 21 u.2.2.2.2.1) 22 (nI u.2.2.2.2.2.2.2.2.2.1)) 23 u.2.2.1) 24 u.2.2.2.2.2.2.1) 25 u.2.2.2.1) (updR (updR R 5 (.ref pq)) 6 (va_rf u.2.2.2.2.2.2.2.2.2.2.1)) Z (updA B 30 u.2.2.2.2.2.2.2.2.2.2.2) u.2.2.2.2.2.2.2.1 K u.1)) (fun u => u.1)) ([.ref (a 5), .int x, .long y] : List Value).toArray s ({ frames := 8, cells := 0, slots := 0, locals := 188 } : Room).cells ({ frames := 8, cells := 0, slots := 0, locals := 188 } : Room).slots A) (F0 m 21 ls []) := by
      intro n_r
      induction n_r with
      | zero => intro k2 x2 H locs ls w hk_r hn_r; omega
      | succ n_r ih_r =>
        intro k2 x2 H locs ls w hk_r hn_r hx2 hP hD hS hO hl
        refine lv_iload hx hb dX5_leave_21 (lv_at hl 0 rfl) ?_
        refine lv_aload_n hx hb dX5_leave_23 rfl (lv_at hl 3 rfl) ?_
        refine c_get (v := .ref mq) (C := RX5) (Tc := TX5) (N := 19) (ci := 4) hx hb hq pin_wsX50 hown hE hP hO 28 (sg_28 G h0 a _ _ _ _ _) rfl 9 (by decide) (hq _ pw_503) (fun _ h9 => h9) rfl dX5_leave_24 ?_
        refine p_get (v := .int (K.2.1 14 mq)) (C := RX6) (Tc := TX6) (N := 12) (ci := 12) hx hb hq pin_wsX60 hown hE hP hO (by rw [hmT]; decide) (rep_3 hmT) rfl 11 (by decide) (hq _ pw_708) (fun _ h9 => h9) rfl dX5_leave_27 ?_
        refine lv_icmp_ge (tgt := 106) hx hb dX5_leave_30 (by decide) (fun c12 => ?_) (fun c12 => ?_)
        · refine lv_iload_n hx hb dX5_leave_106 rfl (lv_at hl 2 rfl) ?_
          refine lv_if_lt (tgt := 118) hx hb dX5_leave_107 (by decide) (fun c13 => ?_) (fun c13 => ?_)
          · refine lv_aload_n hx hb dX5_leave_118 rfl (lv_at hl 3 rfl) ?_
            refine lv_lload_n hx hb dX5_leave_119 rfl (lv_at hl 1 rfl) ?_
            have hO : OKP G h0 a (upd (upd (upd (upd (upd (upd (upd F 6 (nI rg)) 18 (nI ba)) 19 (nI tp)) 22 (nI on)) 18 (nI ba)) 19 (nI tp)) 22 (nI on)) (updR (updR (updR (updR R 5 (.ref pq)) 6 (.ref mq)) 5 (.ref pq)) 6 (va_rf (some mq))) Z B J K w := hO.to rfl
            obtain ⟨_, qr17, hqr18⟩ := hO.2.1 28 _ (sg_28 G h0 a _ _ _ _ _)
            refine pc_V0 (G := G) (As := [.long y]) (rest := []) hx hb hml hown hq hE hX pX0_al hP hD hS hA hl.1 (M_giveBack l G h0 a (upd (upd (upd (upd F 6 (nI rg)) 18 (nI ba)) 19 (nI tp)) 22 (nI on)) (updR (updR R 5 (.ref pq)) 6 (.ref mq)) Z B J K w y tp pq dr ml nd nm cp it s9 g rk ba on (some mq) (by omega) hwp hps hrk (by omega) (by omega) hms hfr hO) (gV pw_715 pw_716 pw_717 pw_539 pw_706) hV_X5_giveBack qr17 4 hqr18 rfl rfl rfl (Nat.le_of_ble_eq_true rfl) dX5_leave_120 ⟨Nat.le_of_ble_eq_true rfl, Nat.le_of_ble_eq_true rfl⟩ ⟨Nat.le_of_ble_eq_true rfl, Nat.le_of_ble_eq_true rfl⟩ (fun v16 u14 H locs hw15 hP hD hS => ?_)
            obtain ⟨w, tp19, en20, rf21, nx22, pc23, rs24, J25, ba26, on27, mo28, fr29⟩ := u14
            obtain ⟨hw15, h30, h31, h32, h33, hO⟩ := hw15
            have h30 : tp19 ≤ 32000 := h30
            have h31 : ba26 ≤ 32000 ∧ on27 ≤ 100 := h31
            have h32 : MsO K mo28 ba26 := h32
            have h33 : FrO K nm it fr29 on27 := h33
            obtain rfl : v16 = none := hw15
            have hO : OKP G h0 a (upd (upd (upd (upd (upd (upd (upd (upd (upd F 6 (nI rg)) 18 (nI ba26)) 19 (nI tp19)) 20 pc23) 21 nx22) 22 (nI on27)) 23 en20) 24 rs24) 25 rf21) (updR (updR R 5 (.ref pq)) 6 (va_rf mo28)) Z (updA B 30 fr29) J25 K w := hO.to rfl
            refine W.widen (k := 0) (n := 0) (Nat.le_of_ble_eq_true rfl) (Nat.le_of_ble_eq_true rfl) ?_
            refine W.eq (g2 := F0 m 123 ls []) rfl ?_
            have hz34 : tp19 ≤ 32000 := (by omega)
            have hz35 : ba26 ≤ 32000 ∧ on27 ≤ 100 := (by omega)
            have hz36 : MsO K mo28 ba26 := h32
            have hz37 : FrO K nm it fr29 on27 := h33
            have hO : OKP G h0 a (upd (upd (upd (upd (upd (upd (upd (upd (upd F 6 (nI rg)) 18 (nI ba26)) 19 (nI tp19)) 20 pc23) 21 nx22) 22 (nI on27)) 23 en20) 24 rs24) 25 rf21) (updR (updR R 5 (.ref pq)) 6 (va_rf mo28)) Z (updA B 30 fr29) J25 K w := hO.to rfl
            exact W.vret hx hb hr (fun t99 ht99 hW99 => ⟨⟨_, (w, (tp19, en20, rf21, nx22, pc23, rs24, J25, ba26, on27, mo28, fr29)), rfl, ⟨rfl, hz34, hz35, hz36, hz37, hO⟩, by rw [ht99]; exact hP, hD⟩, hS.F ht99⟩) hS.2.2 dX5_leave_123
          · refine lv_aload_n hx hb dX5_leave_110 rfl (lv_at hl 3 rfl) ?_
            refine lv_iload_n hx hb dX5_leave_111 rfl (lv_at hl 2 rfl) ?_
            refine c_put (v := .int x) (ty := .int) (C := RX5) (Tc := TX5) (N := 19) (ci := 4) hx hb hq pin_wsX50 tyX5 tyX5_ok nmX5 hown hE hP hD hS hO 28 (sg_28 G h0 a _ _ _ _ _) rfl 13 (by decide) (hq _ pw_566) (fun _ h9 => h9) rfl (by decide +kernel) rfl rfl (Nat.le_of_ble_eq_true rfl) (sf_21 G h0 a _ _ _ _ _ x) dX5_leave_112 (fun H locs w hP hD hS hO => ?_)
            refine lv_goto (tgt := 123) hx hb dX5_leave_115 (by decide) ?_
            have hz38 : tp ≤ 32000 := (by omega)
            have hz39 : ba ≤ 32000 ∧ on ≤ 100 := (by omega)
            have hz40 : MsO K (some mq) ba := hms
            have hz41 : FrO K nm it (B 30) on := hfr
            have hO : OKP G h0 a (upd (upd (upd (upd (upd (upd (upd (upd (upd F 6 (nI rg)) 18 (nI ba)) 19 (nI tp)) 20 (F 20)) 21 x) 22 (nI on)) 23 (F 23)) 24 (F 24)) 25 (F 25)) (updR (updR R 5 (.ref pq)) 6 (va_rf (some mq))) Z (updA B 30 (B 30)) J K w := hO.to rfl
            exact W.vret hx hb hr (fun t99 ht99 hW99 => ⟨⟨_, (w, (tp, (F 23), (F 25), x, (F 20), (F 24), J, ba, on, (some mq), (B 30))), rfl, ⟨rfl, hz38, hz39, hz40, hz41, hO⟩, by rw [ht99]; exact hP, hD⟩, hS.F ht99⟩) hS.2.2 dX5_leave_123
        · refine lv_aload_n hx hb dX5_leave_33 rfl (lv_at hl 3 rfl) ?_
          refine c_get (v := .ref (a 2)) (C := RX5) (Tc := TX5) (N := 19) (ci := 4) hx hb hq pin_wsX50 hown hE hP hO 28 (sg_28 G h0 a _ _ _ _ _) rfl 0 (by decide) (hq _ pw_470) (fun _ h9 => h9) rfl dX5_leave_34 ?_
          refine lv_iload hx hb dX5_leave_37 (lv_at hl 0 rfl) ?_
          refine lv_aload_n hx hb dX5_leave_39 rfl (lv_at hl 3 rfl) ?_
          refine c_get (v := .int (F 20)) (C := RX5) (Tc := TX5) (N := 19) (ci := 4) hx hb hq pin_wsX50 hown hE hP hO 28 (sg_28 G h0 a _ _ _ _ _) rfl 12 (by decide) (hq _ pw_506) (fun _ h9 => h9) rfl dX5_leave_40 ?_
          have hO : OKW G h0 a (upd (upd (upd (upd (upd F 6 (nI rg)) 18 (nI ba)) 19 (nI tp)) 22 (nI on)) 6 (nI rg)) (updR (updR R 5 (.ref pq)) 6 (.ref mq)) Z B J K.1 (fun q99 x99 => x99 = rep G a K q99) w := hO.to rfl
          obtain ⟨_, qr45, hqr46⟩ := hO.2.1 13 _ (sg_13 G h0 a _ _ _ _ _)
          refine pc_V0 (G := G) (As := [.int x2, .int (F 20)]) (rest := []) hx hb hml hown hq hE hX pX0_al hP hD hS hA hl.1 (K_isWithin l G h0 a (upd (upd (upd (upd F 6 (nI rg)) 18 (nI ba)) 19 (nI tp)) 22 (nI on)) (updR (updR R 5 (.ref pq)) 6 (.ref mq)) Z B J K.1 (fun q99 x99 => x99 = rep G a K q99) w x2 (F 20) rg (by omega) hO) (gV pw_709 pw_710 pw_711 pw_70 pw_383) hV_X1_isWithin qr45 1 hqr46 rfl rfl rfl (Nat.le_of_ble_eq_true rfl) dX5_leave_43 ⟨Nat.le_of_ble_eq_true rfl, Nat.le_of_ble_eq_true rfl⟩ ⟨Nat.le_of_ble_eq_true rfl, Nat.le_of_ble_eq_true rfl⟩ (fun v44 u42 H locs hw43 hP hD hS => ?_)
          obtain ⟨w, r47⟩ := u42
          obtain ⟨hw43, h48, hO⟩ := hw43
          have h48 : r47 ≤ 1 := h48
          obtain rfl : v44 = some (.int (nI r47)) := hw43
          have hO : OKP G h0 a (upd (upd (upd (upd F 6 (nI rg)) 18 (nI ba)) 19 (nI tp)) 22 (nI on)) (updR (updR R 5 (.ref pq)) 6 (.ref mq)) Z B J K w := hO.to rfl
          refine W.widen (k := 0) (n := 0) (Nat.le_of_ble_eq_true rfl) (Nat.le_of_ble_eq_true rfl) ?_
          refine W.eq (g2 := F0 m 46 ls [.int (nI r47)]) rfl ?_
          refine lv_if_eq (tgt := 70) hx hb dX5_leave_46 (by decide) (fun c49 => ?_) (fun c49 => ?_)
          · have n50 : r47 = 0 := (nI_eq (a := r47) (b := 0) (by omega) (by omega)).mp c49
            refine lv_iconst (v := 0) hx hb dX5_leave_70 (by decide) ?_
            refine lv_istore (lv' := [(5, .int 0), (4, .int x2), (2, .long y), (1, .int x), (0, .ref (a 5))]) hx hb dX5_leave_71 hl (by decide) rfl (fun ls hl => ?_)
            refine lv_iload hx hb dX5_leave_73 (lv_at hl 0 rfl) ?_
            refine lv_if_eq (tgt := 100) hx hb dX5_leave_75 (by decide) (fun c51 => ?_) (fun c51 => absurd c51 (by decide))
            obtain ⟨x52, e53⟩ : ∃ y : Int32, y = x2 + 1 := ⟨_, rfl⟩
            refine lv_iinc (v := x52) (lv' := [(4, .int x52), (5, .int 0), (2, .long y), (1, .int x), (0, .ref (a 5))]) hx hb dX5_leave_100 hl (k := 1) rfl (by rw [e53]; rfl) (by decide) rfl (fun ls hl => ?_)
            refine lv_goto (tgt := 21) hx hb dX5_leave_103 (by decide) ?_
            have hs9 := i32_succ c12
            have ha9 := i32_lo (K.2.1 13 mq)
            have hb9x := i32_hi x52
            have hx9 : x52.toInt = (K.2.1 13 mq).toInt + ((k2 + 1 : Nat) : Int) := by rw [e53, hs9, hx2]; omega
            have hO : OKP G h0 a (upd (upd (upd (upd F 6 (nI rg)) 18 (nI ba)) 19 (nI tp)) 22 (nI on)) (updR (updR R 5 (.ref pq)) 6 (.ref mq)) Z B J K w := hO.to rfl
            exact ih_r (k2 + 1) x52 _ _ _ _ (by omega) (by omega) hx9 hP hD hS hO (lv_sub hl [0, 2, 3, 4] rfl)
          · have n54 : ¬ (r47 = 0) := fun h9 => c49 ((nI_eq (a := r47) (b := 0) (by omega) (by omega)).mpr h9)
            refine lv_iload_n hx hb dX5_leave_49 rfl (lv_at hl 2 rfl) ?_
            refine lv_if_lt (tgt := 66) hx hb dX5_leave_50 (by decide) (fun c55 => ?_) (fun c55 => ?_)
            · refine lv_iconst (v := 1) hx hb dX5_leave_66 (by decide) ?_
              refine lv_goto (tgt := 71) hx hb dX5_leave_67 (by decide) ?_
              refine lv_istore (lv' := [(5, .int 1), (4, .int x2), (2, .long y), (1, .int x), (0, .ref (a 5))]) hx hb dX5_leave_71 hl (by decide) rfl (fun ls hl => ?_)
              refine lv_iload hx hb dX5_leave_73 (lv_at hl 0 rfl) ?_
              refine lv_if_eq (tgt := 100) hx hb dX5_leave_75 (by decide) (fun c56 => absurd c56 (by decide)) (fun c56 => ?_)
              refine lv_aload_n hx hb dX5_leave_78 rfl (lv_at hl 4 rfl) ?_
              refine c_get (v := .ref (a 2)) (C := RX5) (Tc := TX5) (N := 19) (ci := 4) hx hb hq pin_wsX50 hown hE hP hO 28 (sg_28 G h0 a _ _ _ _ _) rfl 0 (by decide) (hq _ pw_470) (fun _ h9 => h9) rfl dX5_leave_79 ?_
              refine lv_iload hx hb dX5_leave_82 (lv_at hl 1 rfl) ?_
              have hO : OKW G h0 a (upd (upd (upd (upd (upd F 6 (nI rg)) 18 (nI ba)) 19 (nI tp)) 22 (nI on)) 6 (nI rg)) (updR (updR R 5 (.ref pq)) 6 (.ref mq)) Z B J K.1 (fun q99 x99 => x99 = rep G a K q99) w := hO.to rfl
              obtain ⟨_, qr60, hqr61⟩ := hO.2.1 13 _ (sg_13 G h0 a _ _ _ _ _)
              refine pc_V0 (G := G) (As := [.int x2]) (rest := []) hx hb hml hown hq hE hX pX0_al hP hD hS hA hl.1 (K_caught l G h0 a (upd (upd (upd (upd F 6 (nI rg)) 18 (nI ba)) 19 (nI tp)) 22 (nI on)) (updR (updR R 5 (.ref pq)) 6 (.ref mq)) Z B J K.1 (fun q99 x99 => x99 = rep G a K q99) w x2 rg (by omega) hO) (gV pw_697 pw_698 pw_699 pw_70 pw_384) hV_X1_caught qr60 1 hqr61 rfl rfl rfl (Nat.le_of_ble_eq_true rfl) dX5_leave_84 ⟨Nat.le_of_ble_eq_true rfl, Nat.le_of_ble_eq_true rfl⟩ ⟨Nat.le_of_ble_eq_true rfl, Nat.le_of_ble_eq_true rfl⟩ (fun v59 u57 H locs hw58 hP hD hS => ?_)
              obtain ⟨w, r62⟩ := u57
              obtain ⟨hw58, hO⟩ := hw58
              obtain rfl : v59 = some (.int r62) := hw58
              have hO : OKP G h0 a (upd (upd (upd (upd F 6 (nI rg)) 18 (nI ba)) 19 (nI tp)) 22 (nI on)) (updR (updR R 5 (.ref pq)) 6 (.ref mq)) Z B J K w := hO.to rfl
              refine W.widen (k := 0) (n := 0) (Nat.le_of_ble_eq_true rfl) (Nat.le_of_ble_eq_true rfl) ?_
              refine W.eq (g2 := F0 m 87 ls [.int r62]) rfl ?_
              refine lv_iconst (v := (-1)) hx hb dX5_leave_87 (by decide) ?_
              refine lv_icmp_ne (tgt := 100) hx hb dX5_leave_88 (by decide) (fun c63 => ?_) (fun c63 => ?_)
              · obtain ⟨x64, e65⟩ : ∃ y : Int32, y = x2 + 1 := ⟨_, rfl⟩
                refine lv_iinc (v := x64) (lv' := [(4, .int x64), (5, .int 1), (2, .long y), (1, .int x), (0, .ref (a 5))]) hx hb dX5_leave_100 hl (k := 1) rfl (by rw [e65]; rfl) (by decide) rfl (fun ls hl => ?_)
                refine lv_goto (tgt := 21) hx hb dX5_leave_103 (by decide) ?_
                have hs9 := i32_succ c12
                have ha9 := i32_lo (K.2.1 13 mq)
                have hb9x := i32_hi x64
                have hx9 : x64.toInt = (K.2.1 13 mq).toInt + ((k2 + 1 : Nat) : Int) := by rw [e65, hs9, hx2]; omega
                have hO : OKP G h0 a (upd (upd (upd (upd F 6 (nI rg)) 18 (nI ba)) 19 (nI tp)) 22 (nI on)) (updR (updR R 5 (.ref pq)) 6 (.ref mq)) Z B J K w := hO.to rfl
                exact ih_r (k2 + 1) x64 _ _ _ _ (by omega) (by omega) hx9 hP hD hS hO (lv_sub hl [0, 2, 3, 4] rfl)
              · refine lv_aload_n hx hb dX5_leave_91 rfl (lv_at hl 4 rfl) ?_
                refine lv_iload hx hb dX5_leave_92 (lv_at hl 1 rfl) ?_
                refine lv_iload_n hx hb dX5_leave_94 rfl (lv_at hl 3 rfl) ?_
                refine lv_lload_n hx hb dX5_leave_95 rfl (lv_at hl 2 rfl) ?_
                have hO : OKP G h0 a (upd (upd (upd (upd (upd (upd (upd F 6 (nI rg)) 18 (nI ba)) 19 (nI tp)) 22 (nI on)) 6 (nI rg)) 18 (nI ba)) 19 (nI tp)) (updR (updR (updR R 5 (.ref pq)) 6 (.ref mq)) 6 (.ref mq)) Z B J K w := hO.to rfl
                obtain ⟨_, qr69, hqr70⟩ := hO.2.1 28 _ (sg_28 G h0 a _ _ _ _ _)
                refine pc_V0 (G := G) (As := [.int x2, .int x, .long y]) (rest := []) hx hb hml hown hq hE hX pX0_al hP hD hS hA hl.1 (M_land l G h0 a (upd (upd (upd (upd F 6 (nI rg)) 18 (nI ba)) 19 (nI tp)) 22 (nI on)) (updR (updR R 5 (.ref pq)) 6 (.ref mq)) Z B J K w mq ba rg x2 x y g tp (by omega) (by omega) hms hwp hO) (gV pw_712 pw_713 pw_714 pw_539 pw_700) hV_X5_land qr69 4 hqr70 rfl rfl rfl (Nat.le_of_ble_eq_true rfl) dX5_leave_96 ⟨Nat.le_of_ble_eq_true rfl, Nat.le_of_ble_eq_true rfl⟩ ⟨Nat.le_of_ble_eq_true rfl, Nat.le_of_ble_eq_true rfl⟩ (fun v68 u66 H locs hw67 hP hD hS => ?_)
                obtain ⟨w, tp71, nx72, J73⟩ := u66
                obtain ⟨hw67, h74, hO⟩ := hw67
                have h74 : tp71 ≤ 32000 := h74
                obtain rfl : v68 = none := hw67
                have hO : OKP G h0 a (upd (upd (upd (upd (upd F 6 (nI rg)) 18 (nI ba)) 19 (nI tp71)) 21 nx72) 22 (nI on)) (updR (updR R 5 (.ref pq)) 6 (.ref mq)) Z B J73 K w := hO.to rfl
                refine W.widen (k := 0) (n := 0) (Nat.le_of_ble_eq_true rfl) (Nat.le_of_ble_eq_true rfl) ?_
                refine W.eq (g2 := F0 m 99 ls []) rfl ?_
                have hz75 : tp71 ≤ 32000 := (by omega)
                have hz76 : ba ≤ 32000 ∧ on ≤ 100 := (by omega)
                have hz77 : MsO K (some mq) ba := hms
                have hz78 : FrO K nm it (B 30) on := hfr
                have hO : OKP G h0 a (upd (upd (upd (upd (upd (upd (upd (upd (upd F 6 (nI rg)) 18 (nI ba)) 19 (nI tp71)) 20 (F 20)) 21 nx72) 22 (nI on)) 23 (F 23)) 24 (F 24)) 25 (F 25)) (updR (updR R 5 (.ref pq)) 6 (va_rf (some mq))) Z (updA B 30 (B 30)) J73 K w := hO.to rfl
                exact W.vret hx hb hr (fun t99 ht99 hW99 => ⟨⟨_, (w, (tp71, (F 23), (F 25), nx72, (F 20), (F 24), J73, ba, on, (some mq), (B 30))), rfl, ⟨rfl, hz75, hz76, hz77, hz78, hO⟩, by rw [ht99]; exact hP, hD⟩, hS.F ht99⟩) hS.2.2 dX5_leave_99
            · refine lv_aload_n hx hb dX5_leave_53 rfl (lv_at hl 3 rfl) ?_
              refine c_get (v := .ref (a 2)) (C := RX5) (Tc := TX5) (N := 19) (ci := 4) hx hb hq pin_wsX50 hown hE hP hO 28 (sg_28 G h0 a _ _ _ _ _) rfl 0 (by decide) (hq _ pw_470) (fun _ h9 => h9) rfl dX5_leave_54 ?_
              refine lv_iload hx hb dX5_leave_57 (lv_at hl 0 rfl) ?_
              refine lv_iload_n hx hb dX5_leave_59 rfl (lv_at hl 2 rfl) ?_
              have hO : OKW G h0 a (upd (upd (upd (upd (upd F 6 (nI rg)) 18 (nI ba)) 19 (nI tp)) 22 (nI on)) 6 (nI rg)) (updR (updR R 5 (.ref pq)) 6 (.ref mq)) Z B J K.1 (fun q99 x99 => x99 = rep G a K q99) w := hO.to rfl
              obtain ⟨_, qr82, hqr83⟩ := hO.2.1 13 _ (sg_13 G h0 a _ _ _ _ _)
              refine pc_V0 (G := G) (As := [.int x2, .int x]) (rest := []) hx hb hml hown hq hE hX pX0_al hP hD hS hA hl.1 (K_isWithin l G h0 a (upd (upd (upd (upd F 6 (nI rg)) 18 (nI ba)) 19 (nI tp)) 22 (nI on)) (updR (updR R 5 (.ref pq)) 6 (.ref mq)) Z B J K.1 (fun q99 x99 => x99 = rep G a K q99) w x2 x rg (by omega) hO) (gV pw_709 pw_710 pw_711 pw_70 pw_383) hV_X1_isWithin qr82 1 hqr83 rfl rfl rfl (Nat.le_of_ble_eq_true rfl) dX5_leave_60 ⟨Nat.le_of_ble_eq_true rfl, Nat.le_of_ble_eq_true rfl⟩ ⟨Nat.le_of_ble_eq_true rfl, Nat.le_of_ble_eq_true rfl⟩ (fun v81 u79 H locs hw80 hP hD hS => ?_)
              obtain ⟨w, r84⟩ := u79
              obtain ⟨hw80, h85, hO⟩ := hw80
              have h85 : r84 ≤ 1 := h85
              obtain rfl : v81 = some (.int (nI r84)) := hw80
              have hO : OKP G h0 a (upd (upd (upd (upd F 6 (nI rg)) 18 (nI ba)) 19 (nI tp)) 22 (nI on)) (updR (updR R 5 (.ref pq)) 6 (.ref mq)) Z B J K w := hO.to rfl
              refine W.widen (k := 0) (n := 0) (Nat.le_of_ble_eq_true rfl) (Nat.le_of_ble_eq_true rfl) ?_
              refine W.eq (g2 := F0 m 63 ls [.int (nI r84)]) rfl ?_
              refine lv_if_ne (tgt := 70) hx hb dX5_leave_63 (by decide) (fun c86 => ?_) (fun c86 => ?_)
              · have n87 : ¬ (r84 = 0) := fun h9 => c86 ((nI_eq (a := r84) (b := 0) (by omega) (by omega)).mpr h9)
                refine lv_iconst (v := 0) hx hb dX5_leave_70 (by decide) ?_
                refine lv_istore (lv' := [(5, .int 0), (4, .int x2), (2, .long y), (1, .int x), (0, .ref (a 5))]) hx hb dX5_leave_71 hl (by decide) rfl (fun ls hl => ?_)
                refine lv_iload hx hb dX5_leave_73 (lv_at hl 0 rfl) ?_
                refine lv_if_eq (tgt := 100) hx hb dX5_leave_75 (by decide) (fun c88 => ?_) (fun c88 => absurd c88 (by decide))
                obtain ⟨x89, e90⟩ : ∃ y : Int32, y = x2 + 1 := ⟨_, rfl⟩
                refine lv_iinc (v := x89) (lv' := [(4, .int x89), (5, .int 0), (2, .long y), (1, .int x), (0, .ref (a 5))]) hx hb dX5_leave_100 hl (k := 1) rfl (by rw [e90]; rfl) (by decide) rfl (fun ls hl => ?_)
                refine lv_goto (tgt := 21) hx hb dX5_leave_103 (by decide) ?_
                have hs9 := i32_succ c12
                have ha9 := i32_lo (K.2.1 13 mq)
                have hb9x := i32_hi x89
                have hx9 : x89.toInt = (K.2.1 13 mq).toInt + ((k2 + 1 : Nat) : Int) := by rw [e90, hs9, hx2]; omega
                have hO : OKP G h0 a (upd (upd (upd (upd F 6 (nI rg)) 18 (nI ba)) 19 (nI tp)) 22 (nI on)) (updR (updR R 5 (.ref pq)) 6 (.ref mq)) Z B J K w := hO.to rfl
                exact ih_r (k2 + 1) x89 _ _ _ _ (by omega) (by omega) hx9 hP hD hS hO (lv_sub hl [0, 2, 3, 4] rfl)
              · have n91 : r84 = 0 := (nI_eq (a := r84) (b := 0) (by omega) (by omega)).mp c86
                refine lv_iconst (v := 1) hx hb dX5_leave_66 (by decide) ?_
                refine lv_goto (tgt := 71) hx hb dX5_leave_67 (by decide) ?_
                refine lv_istore (lv' := [(5, .int 1), (4, .int x2), (2, .long y), (1, .int x), (0, .ref (a 5))]) hx hb dX5_leave_71 hl (by decide) rfl (fun ls hl => ?_)
                refine lv_iload hx hb dX5_leave_73 (lv_at hl 0 rfl) ?_
                refine lv_if_eq (tgt := 100) hx hb dX5_leave_75 (by decide) (fun c92 => absurd c92 (by decide)) (fun c92 => ?_)
                refine lv_aload_n hx hb dX5_leave_78 rfl (lv_at hl 4 rfl) ?_
                refine c_get (v := .ref (a 2)) (C := RX5) (Tc := TX5) (N := 19) (ci := 4) hx hb hq pin_wsX50 hown hE hP hO 28 (sg_28 G h0 a _ _ _ _ _) rfl 0 (by decide) (hq _ pw_470) (fun _ h9 => h9) rfl dX5_leave_79 ?_
                refine lv_iload hx hb dX5_leave_82 (lv_at hl 1 rfl) ?_
                have hO : OKW G h0 a (upd (upd (upd (upd (upd F 6 (nI rg)) 18 (nI ba)) 19 (nI tp)) 22 (nI on)) 6 (nI rg)) (updR (updR R 5 (.ref pq)) 6 (.ref mq)) Z B J K.1 (fun q99 x99 => x99 = rep G a K q99) w := hO.to rfl
                obtain ⟨_, qr96, hqr97⟩ := hO.2.1 13 _ (sg_13 G h0 a _ _ _ _ _)
                refine pc_V0 (G := G) (As := [.int x2]) (rest := []) hx hb hml hown hq hE hX pX0_al hP hD hS hA hl.1 (K_caught l G h0 a (upd (upd (upd (upd F 6 (nI rg)) 18 (nI ba)) 19 (nI tp)) 22 (nI on)) (updR (updR R 5 (.ref pq)) 6 (.ref mq)) Z B J K.1 (fun q99 x99 => x99 = rep G a K q99) w x2 rg (by omega) hO) (gV pw_697 pw_698 pw_699 pw_70 pw_384) hV_X1_caught qr96 1 hqr97 rfl rfl rfl (Nat.le_of_ble_eq_true rfl) dX5_leave_84 ⟨Nat.le_of_ble_eq_true rfl, Nat.le_of_ble_eq_true rfl⟩ ⟨Nat.le_of_ble_eq_true rfl, Nat.le_of_ble_eq_true rfl⟩ (fun v95 u93 H locs hw94 hP hD hS => ?_)
                obtain ⟨w, r98⟩ := u93
                obtain ⟨hw94, hO⟩ := hw94
                obtain rfl : v95 = some (.int r98) := hw94
                have hO : OKP G h0 a (upd (upd (upd (upd F 6 (nI rg)) 18 (nI ba)) 19 (nI tp)) 22 (nI on)) (updR (updR R 5 (.ref pq)) 6 (.ref mq)) Z B J K w := hO.to rfl
                refine W.widen (k := 0) (n := 0) (Nat.le_of_ble_eq_true rfl) (Nat.le_of_ble_eq_true rfl) ?_
                refine W.eq (g2 := F0 m 87 ls [.int r98]) rfl ?_
                refine lv_iconst (v := (-1)) hx hb dX5_leave_87 (by decide) ?_
                refine lv_icmp_ne (tgt := 100) hx hb dX5_leave_88 (by decide) (fun c99 => ?_) (fun c99 => ?_)
                · obtain ⟨x100, e101⟩ : ∃ y : Int32, y = x2 + 1 := ⟨_, rfl⟩
                  refine lv_iinc (v := x100) (lv' := [(4, .int x100), (5, .int 1), (2, .long y), (1, .int x), (0, .ref (a 5))]) hx hb dX5_leave_100 hl (k := 1) rfl (by rw [e101]; rfl) (by decide) rfl (fun ls hl => ?_)
                  refine lv_goto (tgt := 21) hx hb dX5_leave_103 (by decide) ?_
                  have hs9 := i32_succ c12
                  have ha9 := i32_lo (K.2.1 13 mq)
                  have hb9x := i32_hi x100
                  have hx9 : x100.toInt = (K.2.1 13 mq).toInt + ((k2 + 1 : Nat) : Int) := by rw [e101, hs9, hx2]; omega
                  have hO : OKP G h0 a (upd (upd (upd (upd F 6 (nI rg)) 18 (nI ba)) 19 (nI tp)) 22 (nI on)) (updR (updR R 5 (.ref pq)) 6 (.ref mq)) Z B J K w := hO.to rfl
                  exact ih_r (k2 + 1) x100 _ _ _ _ (by omega) (by omega) hx9 hP hD hS hO (lv_sub hl [0, 2, 3, 4] rfl)
                · refine lv_aload_n hx hb dX5_leave_91 rfl (lv_at hl 4 rfl) ?_
                  refine lv_iload hx hb dX5_leave_92 (lv_at hl 1 rfl) ?_
                  refine lv_iload_n hx hb dX5_leave_94 rfl (lv_at hl 3 rfl) ?_
                  refine lv_lload_n hx hb dX5_leave_95 rfl (lv_at hl 2 rfl) ?_
                  have hO : OKP G h0 a (upd (upd (upd (upd (upd (upd (upd F 6 (nI rg)) 18 (nI ba)) 19 (nI tp)) 22 (nI on)) 6 (nI rg)) 18 (nI ba)) 19 (nI tp)) (updR (updR (updR R 5 (.ref pq)) 6 (.ref mq)) 6 (.ref mq)) Z B J K w := hO.to rfl
                  obtain ⟨_, qr105, hqr106⟩ := hO.2.1 28 _ (sg_28 G h0 a _ _ _ _ _)
                  refine pc_V0 (G := G) (As := [.int x2, .int x, .long y]) (rest := []) hx hb hml hown hq hE hX pX0_al hP hD hS hA hl.1 (M_land l G h0 a (upd (upd (upd (upd F 6 (nI rg)) 18 (nI ba)) 19 (nI tp)) 22 (nI on)) (updR (updR R 5 (.ref pq)) 6 (.ref mq)) Z B J K w mq ba rg x2 x y g tp (by omega) (by omega) hms hwp hO) (gV pw_712 pw_713 pw_714 pw_539 pw_700) hV_X5_land qr105 4 hqr106 rfl rfl rfl (Nat.le_of_ble_eq_true rfl) dX5_leave_96 ⟨Nat.le_of_ble_eq_true rfl, Nat.le_of_ble_eq_true rfl⟩ ⟨Nat.le_of_ble_eq_true rfl, Nat.le_of_ble_eq_true rfl⟩ (fun v104 u102 H locs hw103 hP hD hS => ?_)
                  obtain ⟨w, tp107, nx108, J109⟩ := u102
                  obtain ⟨hw103, h110, hO⟩ := hw103
                  have h110 : tp107 ≤ 32000 := h110
                  obtain rfl : v104 = none := hw103
                  have hO : OKP G h0 a (upd (upd (upd (upd (upd F 6 (nI rg)) 18 (nI ba)) 19 (nI tp107)) 21 nx108) 22 (nI on)) (updR (updR R 5 (.ref pq)) 6 (.ref mq)) Z B J109 K w := hO.to rfl
                  refine W.widen (k := 0) (n := 0) (Nat.le_of_ble_eq_true rfl) (Nat.le_of_ble_eq_true rfl) ?_
                  refine W.eq (g2 := F0 m 99 ls []) rfl ?_
                  have hz111 : tp107 ≤ 32000 := (by omega)
                  have hz112 : ba ≤ 32000 ∧ on ≤ 100 := (by omega)
                  have hz113 : MsO K (some mq) ba := hms
                  have hz114 : FrO K nm it (B 30) on := hfr
                  have hO : OKP G h0 a (upd (upd (upd (upd (upd (upd (upd (upd (upd F 6 (nI rg)) 18 (nI ba)) 19 (nI tp107)) 20 (F 20)) 21 nx108) 22 (nI on)) 23 (F 23)) 24 (F 24)) 25 (F 25)) (updR (updR R 5 (.ref pq)) 6 (va_rf (some mq))) Z (updA B 30 (B 30)) J109 K w := hO.to rfl
                  exact W.vret hx hb hr (fun t99 ht99 hW99 => ⟨⟨_, (w, (tp107, (F 23), (F 25), nx108, (F 20), (F 24), J109, ba, on, (some mq), (B 30))), rfl, ⟨rfl, hz111, hz112, hz113, hz114, hO⟩, by rw [ht99]; exact hP, hD⟩, hS.F ht99⟩) hS.2.2 dX5_leave_99
    have hO : OKP G h0 a (upd (upd (upd (upd F 6 (nI rg)) 18 (nI ba)) 19 (nI tp)) 22 (nI on)) (updR (updR R 5 (.ref pq)) 6 (.ref mq)) Z B J K w := hO.to rfl
    exact loop_r (4294967296 + 1) 0 (K.2.1 13 mq) _ _ _ _ (by omega) (by omega) (by omega) hP hD hS hO (lv_sub hl [0, 3, 2, 1] rfl)
theorem dX5_goOn_0 : decode cX5_goOn 0 = .ok (.iload_n 1, 1) := by decide +kernel
theorem dX5_goOn_1 : decode cX5_goOn 1 = .ok (.bipush (-2), 2) := by decide +kernel
theorem dX5_goOn_3 : decode cX5_goOn 3 = .ok (.if_icmp .ne 11, 3) := by decide +kernel
theorem dX5_goOn_14 : decode cX5_goOn 14 = .ok (.iload_n 1, 1) := by decide +kernel
theorem dX5_goOn_15 : decode cX5_goOn 15 = .ok (.iconst (-1), 1) := by decide +kernel
theorem dX5_goOn_16 : decode cX5_goOn 16 = .ok (.if_icmp .eq 9, 3) := by decide +kernel
theorem dX5_goOn_25 : decode cX5_goOn 25 = .ok (.return_, 1) := by decide +kernel
theorem dX5_goOn_19 : decode cX5_goOn 19 = .ok (.aload_n 0, 1) := by decide +kernel
theorem dX5_goOn_20 : decode cX5_goOn 20 = .ok (.iload_n 1, 1) := by decide +kernel
theorem dX5_goOn_21 : decode cX5_goOn 21 = .ok (.lload_n 2, 1) := by decide +kernel
theorem dX5_goOn_22 : decode cX5_goOn 22 = .ok (.invokevirtual 231, 3) := by decide +kernel
theorem dX5_goOn_6 : decode cX5_goOn 6 = .ok (.aload_n 0, 1) := by decide +kernel
theorem dX5_goOn_7 : decode cX5_goOn 7 = .ok (.lload_n 2, 1) := by decide +kernel
theorem dX5_goOn_8 : decode cX5_goOn 8 = .ok (.putfield 43, 3) := by decide +kernel
theorem dX5_goOn_11 : decode cX5_goOn 11 = .ok (.goto 14, 3) := by decide +kernel
theorem hV_X5_leave : yX5_leave.cls = RX5 ∧ yX5_leave.cls ≠ "java/lang/invoke/MethodHandle" ∧ yX5_leave.cls ≠ "java/lang/invoke/VarHandle" ∧ (parseMethodDescriptor yX5_leave.desc).map (fun d => d.parameters.length) = some 2 := by decide +kernel
set_option maxHeartbeats 20000000 in
set_option maxRecDepth 100000 in
theorem M_goOn (l : Launch) (G : pT) (h0 : Nat) (a : Nat → Nat) (F : Nat → Int32) (R : Nat → Value) (Z : Int64) (B : Nat → Nat → Int32) (J : Nat → Nat → Int64) (K : PK) (w : va_W) (x : Int32) (y : Int64) (tp : Nat) (pq : Nat) (dr : Nat) (ml : Nat) (nd : Nat) (nm : Nat) (cp : Nat) (it : Nat → Nat) (s9 : Nat) (g : Nat → Nat → Nat) (rk : Nat → Nat) (ba : Nat) (on : Nat) (mo : Option Nat) (rg : Nat) (htp : tp ≤ 32000) (hwp : WPr G K g) (hps : PgT G K g (a 1) pq dr ml nd nm cp it s9) (hrk : RkO K rk) (hba : ba ≤ 32000) (hon : on ≤ 100) (hms : MsO K mo ba) (hfr : FrO K nm it (B 30) on) (hrg : rg ≤ 625) (hO : OKP G h0 a (upd (upd (upd (upd F 6 (nI rg)) 18 (nI ba)) 19 (nI tp)) 22 (nI on)) (updR (updR R 5 (.ref pq)) 6 (va_rf mo)) Z B J K w) : PM l G pX0 yX5_goOn cX5_goOn 4 none ({ frames := 9, cells := 0, slots := 0, locals := 213 }) [.ref (a 5), .int x, .long y] w (fun (v : Option Value) (u : va_W × (Int64 × Nat × Int32 × Int32 × Int32 × Int32 × Int32 × (Nat → Nat → Int64) × Nat × Nat × Option Nat × (Nat → Int32))) => v = none ∧ (u.2.2.1 ≤ 32000) ∧ (u.2.2.2.2.2.2.2.2.2.1 ≤ 32000 ∧ u.2.2.2.2.2.2.2.2.2.2.1 ≤ 100) ∧ (MsO K u.2.2.2.2.2.2.2.2.2.2.2.1 u.2.2.2.2.2.2.2.2.2.1) ∧ (FrO K nm it u.2.2.2.2.2.2.2.2.2.2.2.2 u.2.2.2.2.2.2.2.2.2.2.1) ∧ (OKP G h0 a (upd (upd (upd (upd (upd (upd (upd (upd (upd F 6 (nI rg)) 18 (nI u.2.2.2.2.2.2.2.2.2.1)) 19 (nI u.2.2.1)) 20 u.2.2.2.2.2.2.1) 21 u.2.2.2.2.2.1) 22 (nI u.2.2.2.2.2.2.2.2.2.2.1)) 23 u.2.2.2.1) 24 u.2.2.2.2.2.2.2.1) 25 u.2.2.2.2.1) (updR (updR R 5 (.ref pq)) 6 (va_rf u.2.2.2.2.2.2.2.2.2.2.2.1)) u.2.1 (updA B 30 u.2.2.2.2.2.2.2.2.2.2.2.2) u.2.2.2.2.2.2.2.2.1 K u.1)) (fun u => u.1) := by
  intro sz
  refine Met.ofW (cc := cX5_goOn) (maxL := 4) (ret := none) (by decide) rfl ?_
  intro p e s m args below meth c s₁ B9 hml hv
  obtain ⟨rfl, hsz, hP, hD0, hE, hX⟩ := hv
  have hx := B9.exec
  have hb := B9.bytes
  have hr := B9.returns
  have hts := atoms_spec (ws := Cond.code yX5_goOn cX5_goOn 4 none :: pw) B9.pre
  have hq : ∀ w ∈ pw, w.before _ s = true := fun w h => hts w (List.mem_cons_of_mem _ h)
  have hown : s.vm.findClass RX5 = some m.cls := findClass_of_methodNamed B9.named
  have hlocks := B9.notSynchronized
  subst hsz
  have hD := hD0.self (sz := s.heap.size)
  have hA : ∀ q : Nat, s.heap.size ≤ q → va_A w s.heap.size q := fun q h => Or.inr h
  generalize va_A w s.heap.size = A at hD hE hA ⊢
  have hS : va_S A s.heap s.heap [] := va_S.rf
  have hl := lv_entry ([.ref (a 5), .int x, .long y]) (n := 4) (Nat.le_of_ble_eq_true rfl)
  rw [lg_entry_eq]
  generalize (lg_sl ([.ref (a 5), .int x, .long y]) ++ List.replicate (4 - (lg_sl ([.ref (a 5), .int x, .long y])).length) Slot.unset).toArray = ls at hl ⊢
  have hl : lv_has ls 4 [(0, .ref (a 5)), (1, .int x), (2, .long y)] := hl
  have hpg := hps.1
  have hp1 := hpg.1
  have hp2 := hpg.2.1
  have hp3 := hpg.2.2.1
  have hp4 := hpg.2.2.2.1
  have hp5 := hpg.2.2.2.2.1
  have hp6 := hpg.2.2.2.2.2.1
  have hp8 := hpg.2.2.2.2.2.2.2.1
  have hp9 := hpg.2.2.2.2.2.2.2.2
  refine lv_iload_n hx hb dX5_goOn_0 rfl (lv_at hl 1 rfl) ?_
  refine lv_bipush (v := (-2)) hx hb dX5_goOn_1 (by decide) ?_
  refine lv_icmp_ne (tgt := 14) hx hb dX5_goOn_3 (by decide) (fun c1 => ?_) (fun c1 => ?_)
  · refine lv_iload_n hx hb dX5_goOn_14 rfl (lv_at hl 1 rfl) ?_
    refine lv_iconst (v := (-1)) hx hb dX5_goOn_15 (by decide) ?_
    refine lv_icmp_eq (tgt := 25) hx hb dX5_goOn_16 (by decide) (fun c2 => ?_) (fun c2 => ?_)
    · have hz3 : tp ≤ 32000 := (by omega)
      have hz4 : ba ≤ 32000 ∧ on ≤ 100 := (by omega)
      have hz5 : MsO K mo ba := hms
      have hz6 : FrO K nm it (B 30) on := hfr
      have hO : OKP G h0 a (upd (upd (upd (upd (upd (upd (upd (upd (upd F 6 (nI rg)) 18 (nI ba)) 19 (nI tp)) 20 (F 20)) 21 (F 21)) 22 (nI on)) 23 (F 23)) 24 (F 24)) 25 (F 25)) (updR (updR R 5 (.ref pq)) 6 (va_rf mo)) Z (updA B 30 (B 30)) J K w := hO.to rfl
      exact W.vret hx hb hr (fun t99 ht99 hW99 => ⟨⟨_, (w, (Z, tp, (F 23), (F 25), (F 21), (F 20), (F 24), J, ba, on, mo, (B 30))), rfl, ⟨rfl, hz3, hz4, hz5, hz6, hO⟩, by rw [ht99]; exact hP, hD⟩, hS.F ht99⟩) hS.2.2 dX5_goOn_25
    · refine lv_aload_n hx hb dX5_goOn_19 rfl (lv_at hl 0 rfl) ?_
      refine lv_iload_n hx hb dX5_goOn_20 rfl (lv_at hl 1 rfl) ?_
      refine lv_lload_n hx hb dX5_goOn_21 rfl (lv_at hl 2 rfl) ?_
      have hO : OKP G h0 a (upd (upd (upd (upd (upd (upd (upd (upd F 6 (nI rg)) 18 (nI ba)) 19 (nI tp)) 22 (nI on)) 6 (nI rg)) 18 (nI ba)) 19 (nI tp)) 22 (nI on)) (updR (updR (updR (updR R 5 (.ref pq)) 6 (va_rf mo)) 5 (.ref pq)) 6 (va_rf mo)) Z B J K w := hO.to rfl
      obtain ⟨_, qr10, hqr11⟩ := hO.2.1 28 _ (sg_28 G h0 a _ _ _ _ _)
      refine pc_V0 (G := G) (As := [.int x, .long y]) (rest := []) hx hb hml hown hq hE hX pX0_al hP hD hS hA hl.1 (M_leave l G h0 a (upd (upd (upd (upd F 6 (nI rg)) 18 (nI ba)) 19 (nI tp)) 22 (nI on)) (updR (updR R 5 (.ref pq)) 6 (va_rf mo)) Z B J K w x y tp pq dr ml nd nm cp it s9 g rk ba on mo rg (by omega) hwp hps hrk (by omega) (by omega) hms hfr (by omega) hO) (gV pw_719 pw_720 pw_721 pw_539 pw_718) hV_X5_leave qr10 4 hqr11 rfl rfl rfl (Nat.le_of_ble_eq_true rfl) dX5_goOn_22 ⟨Nat.le_of_ble_eq_true rfl, Nat.le_of_ble_eq_true rfl⟩ ⟨Nat.le_of_ble_eq_true rfl, Nat.le_of_ble_eq_true rfl⟩ (fun v9 u7 H locs hw8 hP hD hS => ?_)
      obtain ⟨w, tp12, en13, rf14, nx15, pc16, rs17, J18, ba19, on20, mo21, fr22⟩ := u7
      obtain ⟨hw8, h23, h24, h25, h26, hO⟩ := hw8
      have h23 : tp12 ≤ 32000 := h23
      have h24 : ba19 ≤ 32000 ∧ on20 ≤ 100 := h24
      have h25 : MsO K mo21 ba19 := h25
      have h26 : FrO K nm it fr22 on20 := h26
      obtain rfl : v9 = none := hw8
      have hO : OKP G h0 a (upd (upd (upd (upd (upd (upd (upd (upd (upd F 6 (nI rg)) 18 (nI ba19)) 19 (nI tp12)) 20 pc16) 21 nx15) 22 (nI on20)) 23 en13) 24 rs17) 25 rf14) (updR (updR R 5 (.ref pq)) 6 (va_rf mo21)) Z (updA B 30 fr22) J18 K w := hO.to rfl
      refine W.widen (k := 0) (n := 0) (Nat.le_of_ble_eq_true rfl) (Nat.le_of_ble_eq_true rfl) ?_
      refine W.eq (g2 := F0 m 25 ls []) rfl ?_
      have hz27 : tp12 ≤ 32000 := (by omega)
      have hz28 : ba19 ≤ 32000 ∧ on20 ≤ 100 := (by omega)
      have hz29 : MsO K mo21 ba19 := h25
      have hz30 : FrO K nm it fr22 on20 := h26
      have hO : OKP G h0 a (upd (upd (upd (upd (upd (upd (upd (upd (upd F 6 (nI rg)) 18 (nI ba19)) 19 (nI tp12)) 20 pc16) 21 nx15) 22 (nI on20)) 23 en13) 24 rs17) 25 rf14) (updR (updR R 5 (.ref pq)) 6 (va_rf mo21)) Z (updA B 30 fr22) J18 K w := hO.to rfl
      exact W.vret hx hb hr (fun t99 ht99 hW99 => ⟨⟨_, (w, (Z, tp12, en13, rf14, nx15, pc16, rs17, J18, ba19, on20, mo21, fr22)), rfl, ⟨rfl, hz27, hz28, hz29, hz30, hO⟩, by rw [ht99]; exact hP, hD⟩, hS.F ht99⟩) hS.2.2 dX5_goOn_25
  · refine lv_aload_n hx hb dX5_goOn_6 rfl (lv_at hl 0 rfl) ?_
    refine lv_lload_n hx hb dX5_goOn_7 rfl (lv_at hl 2 rfl) ?_
    refine c_put (v := .long y) (ty := .long) (C := RX5) (Tc := TX5) (N := 19) (ci := 4) hx hb hq pin_wsX50 tyX5 tyX5_ok nmX5 hown hE hP hD hS hO 28 (sg_28 G h0 a _ _ _ _ _) rfl 14 (by decide) (hq _ pw_485) (fun _ h9 => h9) rfl (by decide +kernel) rfl rfl (Nat.le_of_ble_eq_true rfl) (sz G h0 a _ _ _ _ _ y) dX5_goOn_8 (fun H locs w hP hD hS hO => ?_)
    refine lv_goto (tgt := 25) hx hb dX5_goOn_11 (by decide) ?_
    have hz31 : tp ≤ 32000 := (by omega)
    have hz32 : ba ≤ 32000 ∧ on ≤ 100 := (by omega)
    have hz33 : MsO K mo ba := hms
    have hz34 : FrO K nm it (B 30) on := hfr
    have hO : OKP G h0 a (upd (upd (upd (upd (upd (upd (upd (upd (upd F 6 (nI rg)) 18 (nI ba)) 19 (nI tp)) 20 (F 20)) 21 (F 21)) 22 (nI on)) 23 (F 23)) 24 (F 24)) 25 (F 25)) (updR (updR R 5 (.ref pq)) 6 (va_rf mo)) y (updA B 30 (B 30)) J K w := hO.to rfl
    exact W.vret hx hb hr (fun t99 ht99 hW99 => ⟨⟨_, (w, (y, tp, (F 23), (F 25), (F 21), (F 20), (F 24), J, ba, on, mo, (B 30))), rfl, ⟨rfl, hz31, hz32, hz33, hz34, hO⟩, by rw [ht99]; exact hP, hD⟩, hS.F ht99⟩) hS.2.2 dX5_goOn_25
