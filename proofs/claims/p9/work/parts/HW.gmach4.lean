theorem dX5_make_0 : decode cX5_make 0 = .ok (.aload_n 0, 1) := by decide +kernel
theorem dX5_make_1 : decode cX5_make 1 = .ok (.getfield 18, 3) := by decide +kernel
theorem dX5_make_4 : decode cX5_make 4 = .ok (.lload_n 2, 1) := by decide +kernel
theorem dX5_make_5 : decode cX5_make 5 = .ok (.invokevirtual 280, 3) := by decide +kernel
theorem dX5_make_8 : decode cX5_make 8 = .ok (.ifCond .ne 7, 3) := by decide +kernel
theorem dX5_make_15 : decode cX5_make 15 = .ok (.aload_n 0, 1) := by decide +kernel
theorem dX5_make_16 : decode cX5_make 16 = .ok (.getfield 18, 3) := by decide +kernel
theorem dX5_make_19 : decode cX5_make 19 = .ok (.lload_n 2, 1) := by decide +kernel
theorem dX5_make_20 : decode cX5_make 20 = .ok (.invokevirtual 280, 3) := by decide +kernel
theorem dX5_make_23 : decode cX5_make 23 = .ok (.ifCond .ne 9, 3) := by decide +kernel
theorem dX5_make_32 : decode cX5_make 32 = .ok (.aload_n 0, 1) := by decide +kernel
theorem dX5_make_33 : decode cX5_make 33 = .ok (.aload_n 0, 1) := by decide +kernel
theorem dX5_make_34 : decode cX5_make 34 = .ok (.getfield 18, 3) := by decide +kernel
theorem dX5_make_37 : decode cX5_make 37 = .ok (.iload_n 1, 1) := by decide +kernel
theorem dX5_make_38 : decode cX5_make 38 = .ok (.lload_n 2, 1) := by decide +kernel
theorem dX5_make_39 : decode cX5_make 39 = .ok (.l2i, 1) := by decide +kernel
theorem dX5_make_40 : decode cX5_make 40 = .ok (.invokevirtual 286, 3) := by decide +kernel
theorem dX5_make_43 : decode cX5_make 43 = .ok (.invokevirtual 172, 3) := by decide +kernel
theorem dX5_make_46 : decode cX5_make 46 = .ok (.aload_n 0, 1) := by decide +kernel
theorem dX5_make_47 : decode cX5_make 47 = .ok (.getfield 36, 3) := by decide +kernel
theorem dX5_make_50 : decode cX5_make 50 = .ok (.bipush 8, 2) := by decide +kernel
theorem dX5_make_52 : decode cX5_make 52 = .ok (.dup2, 1) := by decide +kernel
theorem dX5_make_53 : decode cX5_make 53 = .ok (.iaload, 1) := by decide +kernel
theorem dX5_make_54 : decode cX5_make 54 = .ok (.iconst 1, 1) := by decide +kernel
theorem dX5_make_55 : decode cX5_make 55 = .ok (.iadd, 1) := by decide +kernel
theorem dX5_make_56 : decode cX5_make 56 = .ok (.iastore, 1) := by decide +kernel
theorem dX5_make_57 : decode cX5_make 57 = .ok (.aload_n 0, 1) := by decide +kernel
theorem dX5_make_58 : decode cX5_make 58 = .ok (.getfield 36, 3) := by decide +kernel
theorem dX5_make_61 : decode cX5_make 61 = .ok (.bipush 9, 2) := by decide +kernel
theorem dX5_make_63 : decode cX5_make 63 = .ok (.dup2, 1) := by decide +kernel
theorem dX5_make_64 : decode cX5_make 64 = .ok (.iaload, 1) := by decide +kernel
theorem dX5_make_65 : decode cX5_make 65 = .ok (.lload_n 2, 1) := by decide +kernel
theorem dX5_make_66 : decode cX5_make 66 = .ok (.l2i, 1) := by decide +kernel
theorem dX5_make_67 : decode cX5_make 67 = .ok (.iadd, 1) := by decide +kernel
theorem dX5_make_68 : decode cX5_make 68 = .ok (.iastore, 1) := by decide +kernel
theorem dX5_make_69 : decode cX5_make 69 = .ok (.return_, 1) := by decide +kernel
theorem dX5_make_26 : decode cX5_make 26 = .ok (.aload_n 0, 1) := by decide +kernel
theorem dX5_make_27 : decode cX5_make 27 = .ok (.iconst 3, 1) := by decide +kernel
theorem dX5_make_28 : decode cX5_make 28 = .ok (.putfield 116, 3) := by decide +kernel
theorem dX5_make_31 : decode cX5_make 31 = .ok (.return_, 1) := by decide +kernel
theorem dX5_make_11 : decode cX5_make 11 = .ok (.aload_n 0, 1) := by decide +kernel
theorem dX5_make_12 : decode cX5_make 12 = .ok (.invokevirtual 283, 3) := by decide +kernel
theorem hV_X3_hasRoom : yX3_hasRoom.cls = RX3 ∧ yX3_hasRoom.cls ≠ "java/lang/invoke/MethodHandle" ∧ yX3_hasRoom.cls ≠ "java/lang/invoke/VarHandle" ∧ (parseMethodDescriptor yX3_hasRoom.desc).map (fun d => d.parameters.length) = some 1 := by decide +kernel
theorem hV_X3_make : yX3_make.cls = RX3 ∧ yX3_make.cls ≠ "java/lang/invoke/MethodHandle" ∧ yX3_make.cls ≠ "java/lang/invoke/VarHandle" ∧ (parseMethodDescriptor yX3_make.desc).map (fun d => d.parameters.length) = some 2 := by decide +kernel
theorem hV_X5_collect : yX5_collect.cls = RX5 ∧ yX5_collect.cls ≠ "java/lang/invoke/MethodHandle" ∧ yX5_collect.cls ≠ "java/lang/invoke/VarHandle" ∧ (parseMethodDescriptor yX5_collect.desc).map (fun d => d.parameters.length) = some 0 := by decide +kernel
set_option maxHeartbeats 20000000 in
set_option maxRecDepth 100000 in
theorem M_make (l : Launch) (G : pT) (h0 : Nat) (a : Nat → Nat) (F : Nat → Int32) (R : Nat → Value) (Z : Int64) (B : Nat → Nat → Int32) (J : Nat → Nat → Int64) (K : PK) (w : va_W) (x : Int32) (y : Int64) (tp : Nat) (sp : Nat) (op : Nat) (ht : Nat) (pq : Nat) (dr : Nat) (ml : Nat) (nd : Nat) (nm : Nat) (cp : Nat) (it : Nat → Nat) (s9 : Nat) (g : Nat → Nat → Nat) (rk : Nat → Nat) (ba : Nat) (on : Nat) (mo : Option Nat) (cs : Nat) (htp : tp ≤ 32000) (hsp : (sp = 34 ∧ op = 35) ∨ (sp = 35 ∧ op = 34)) (hht : 8 ≤ ht ∧ ht ≤ 3008) (hwp : WPr G K g) (hps : PgT G K g (a 1) pq dr ml nd nm cp it s9) (hrk : RkO K rk) (hba : ba ≤ 32000) (hon : on ≤ 100) (hms : MsO K mo ba) (hfr : FrO K nm it (B 30) on) (hcs : cs ≤ 10000) (hO : OKP G h0 a (upd (upd (upd (upd (upd F 5 (nI cs)) 18 (nI ba)) 19 (nI tp)) 22 (nI on)) 26 (nI ht)) (updR (updR (updR (updR R 5 (.ref pq)) 6 (va_rf mo)) 7 (.ref (a sp))) 8 (.ref (a op))) Z B J K w) : PM l G pX0 yX5_make cX5_make 4 none ({ frames := 7, cells := 0, slots := 0, locals := 173 }) [.ref (a 5), .int x, .long y] w (fun (v : Option Value) (u : va_W × (Nat × Int32 × Int32 × (Nat → Int32) × (Nat → Nat → Int64) × Nat × Nat × Nat × Int32)) => v = none ∧ (u.2.1 ≤ 32000) ∧ (8 ≤ u.2.2.2.2.2.2.2.2.1 ∧ u.2.2.2.2.2.2.2.2.1 ≤ 3008) ∧ ((u.2.2.2.2.2.2.1 = 34 ∧ u.2.2.2.2.2.2.2.1 = 35) ∨ (u.2.2.2.2.2.2.1 = 35 ∧ u.2.2.2.2.2.2.2.1 = 34)) ∧ (OKP G h0 a (upd (upd (upd (upd (upd (upd (upd (upd F 5 (nI cs)) 18 (nI ba)) 19 (nI u.2.1)) 22 (nI on)) 23 u.2.2.1) 25 u.2.2.2.1) 26 (nI u.2.2.2.2.2.2.2.2.1)) 27 u.2.2.2.2.2.2.2.2.2) (updR (updR (updR (updR R 5 (.ref pq)) 6 (va_rf mo)) 7 (.ref (a u.2.2.2.2.2.2.1))) 8 (.ref (a u.2.2.2.2.2.2.2.1))) Z (updA B 33 u.2.2.2.2.1) u.2.2.2.2.2.1 K u.1)) (fun u => u.1) := by
  intro sz
  refine Met.ofW (cc := cX5_make) (maxL := 4) (ret := none) (by decide) rfl ?_
  intro p e s m args below meth c s₁ B9 hml hv
  obtain ⟨rfl, hsz, hP, hD0, hE, hX⟩ := hv
  have hx := B9.exec
  have hb := B9.bytes
  have hr := B9.returns
  have hts := atoms_spec (ws := Cond.code yX5_make cX5_make 4 none :: pw) B9.pre
  have hq : ∀ w ∈ pw, w.before _ s = true := fun w h => hts w (List.mem_cons_of_mem _ h)
  have hown : s.vm.findClass RX5 = some m.cls := findClass_of_methodNamed B9.named
  have hlocks := B9.notSynchronized
  subst hsz
  have hD := hD0.self (sz := s.heap.size)
  have hA : ∀ q : Nat, s.heap.size ≤ q → va_A w s.heap.size q := fun q h => Or.inr h
  generalize va_A w s.heap.size = A at hD hE hA ⊢
  have hS : va_S A s.heap s.heap [] := va_S.rf
  have hl := lv_entry ([.ref (a 5), .int x, .long y]) (n := 4) (Nat.le_of_ble_eq_true rfl)
  rw [lg_entry_eq]
  generalize (lg_sl ([.ref (a 5), .int x, .long y]) ++ List.replicate (4 - (lg_sl ([.ref (a 5), .int x, .long y])).length) Slot.unset).toArray = ls at hl ⊢
  have hl : lv_has ls 4 [(0, .ref (a 5)), (1, .int x), (2, .long y)] := hl
  have hpg := hps.1
  have hp1 := hpg.1
  have hp2 := hpg.2.1
  have hp3 := hpg.2.2.1
  have hp4 := hpg.2.2.2.1
  have hp5 := hpg.2.2.2.2.1
  have hp6 := hpg.2.2.2.2.2.1
  have hp8 := hpg.2.2.2.2.2.2.2.1
  have hp9 := hpg.2.2.2.2.2.2.2.2
  refine lv_aload_n hx hb dX5_make_0 rfl (lv_at hl 0 rfl) ?_
  refine c_get (v := .ref (a 28)) (C := RX5) (Tc := TX5) (N := 19) (ci := 4) hx hb hq pin_wsX50 hown hE hP hO 28 (sg_28 G h0 a _ _ _ _ _) rfl 1 (by decide) (hq _ pw_473) (fun _ h9 => h9) rfl dX5_make_1 ?_
  refine lv_lload_n hx hb dX5_make_4 rfl (lv_at hl 2 rfl) ?_
  have hO : OKW G h0 a (upd (upd (upd (upd (upd F 5 (nI cs)) 18 (nI ba)) 19 (nI tp)) 22 (nI on)) 26 (nI ht)) (updR (updR (updR (updR R 5 (.ref pq)) 6 (va_rf mo)) 7 (.ref (a sp))) 8 (.ref (a op))) Z B J K.1 (fun q99 x99 => x99 = rep G a K q99) w := hO.to rfl
  obtain ⟨_, qr4, hqr5⟩ := hO.2.1 29 _ (sg_29 G h0 a _ _ _ _ _)
  refine pc_V0 (G := G) (As := [.long y]) (rest := []) hx hb hml hown hq hE hX pX0_al hP hD hS hA hl.1 (K_hasRoom l G h0 a (upd (upd (upd (upd (upd F 5 (nI cs)) 18 (nI ba)) 19 (nI tp)) 22 (nI on)) 26 (nI ht)) (updR (updR (updR (updR R 5 (.ref pq)) 6 (va_rf mo)) 7 (.ref (a sp))) 8 (.ref (a op))) Z B J K.1 (fun q99 x99 => x99 = rep G a K q99) w y hO) (gV pw_540 pw_541 pw_542 pw_440 pw_425) hV_X3_hasRoom qr4 3 hqr5 rfl rfl rfl (Nat.le_of_ble_eq_true rfl) dX5_make_5 ⟨Nat.le_of_ble_eq_true rfl, Nat.le_of_ble_eq_true rfl⟩ ⟨Nat.le_of_ble_eq_true rfl, Nat.le_of_ble_eq_true rfl⟩ (fun v3 u1 H locs hw2 hP hD hS => ?_)
  obtain ⟨w, r6⟩ := u1
  obtain ⟨hw2, h7, hO⟩ := hw2
  have h7 : r6 ≤ 1 := h7
  obtain rfl : v3 = some (.int (nI r6)) := hw2
  have hO : OKP G h0 a (upd (upd (upd (upd (upd F 5 (nI cs)) 18 (nI ba)) 19 (nI tp)) 22 (nI on)) 26 (nI ht)) (updR (updR (updR (updR R 5 (.ref pq)) 6 (va_rf mo)) 7 (.ref (a sp))) 8 (.ref (a op))) Z B J K w := hO.to rfl
  refine W.widen (k := 0) (n := 0) (Nat.le_of_ble_eq_true rfl) (Nat.le_of_ble_eq_true rfl) ?_
  refine W.eq (g2 := F0 m 8 ls [.int (nI r6)]) rfl ?_
  refine lv_if_ne (tgt := 15) hx hb dX5_make_8 (by decide) (fun c8 => ?_) (fun c8 => ?_)
  · have n9 : ¬ (r6 = 0) := fun h9 => c8 ((nI_eq (a := r6) (b := 0) (by omega) (by omega)).mpr h9)
    refine lv_aload_n hx hb dX5_make_15 rfl (lv_at hl 0 rfl) ?_
    refine c_get (v := .ref (a 28)) (C := RX5) (Tc := TX5) (N := 19) (ci := 4) hx hb hq pin_wsX50 hown hE hP hO 28 (sg_28 G h0 a _ _ _ _ _) rfl 1 (by decide) (hq _ pw_473) (fun _ h9 => h9) rfl dX5_make_16 ?_
    refine lv_lload_n hx hb dX5_make_19 rfl (lv_at hl 2 rfl) ?_
    have hO : OKW G h0 a (upd (upd (upd (upd (upd F 5 (nI cs)) 18 (nI ba)) 19 (nI tp)) 22 (nI on)) 26 (nI ht)) (updR (updR (updR (updR R 5 (.ref pq)) 6 (va_rf mo)) 7 (.ref (a sp))) 8 (.ref (a op))) Z B J K.1 (fun q99 x99 => x99 = rep G a K q99) w := hO.to rfl
    obtain ⟨_, qr13, hqr14⟩ := hO.2.1 29 _ (sg_29 G h0 a _ _ _ _ _)
    refine pc_V0 (G := G) (As := [.long y]) (rest := []) hx hb hml hown hq hE hX pX0_al hP hD hS hA hl.1 (K_hasRoom l G h0 a (upd (upd (upd (upd (upd F 5 (nI cs)) 18 (nI ba)) 19 (nI tp)) 22 (nI on)) 26 (nI ht)) (updR (updR (updR (updR R 5 (.ref pq)) 6 (va_rf mo)) 7 (.ref (a sp))) 8 (.ref (a op))) Z B J K.1 (fun q99 x99 => x99 = rep G a K q99) w y hO) (gV pw_540 pw_541 pw_542 pw_440 pw_425) hV_X3_hasRoom qr13 3 hqr14 rfl rfl rfl (Nat.le_of_ble_eq_true rfl) dX5_make_20 ⟨Nat.le_of_ble_eq_true rfl, Nat.le_of_ble_eq_true rfl⟩ ⟨Nat.le_of_ble_eq_true rfl, Nat.le_of_ble_eq_true rfl⟩ (fun v12 u10 H locs hw11 hP hD hS => ?_)
    obtain ⟨w, r15⟩ := u10
    obtain ⟨hw11, h16, hO⟩ := hw11
    have h16 : r15 ≤ 1 := h16
    obtain rfl : v12 = some (.int (nI r15)) := hw11
    have hO : OKP G h0 a (upd (upd (upd (upd (upd F 5 (nI cs)) 18 (nI ba)) 19 (nI tp)) 22 (nI on)) 26 (nI ht)) (updR (updR (updR (updR R 5 (.ref pq)) 6 (va_rf mo)) 7 (.ref (a sp))) 8 (.ref (a op))) Z B J K w := hO.to rfl
    refine W.widen (k := 0) (n := 0) (Nat.le_of_ble_eq_true rfl) (Nat.le_of_ble_eq_true rfl) ?_
    refine W.eq (g2 := F0 m 23 ls [.int (nI r15)]) rfl ?_
    refine lv_if_ne (tgt := 32) hx hb dX5_make_23 (by decide) (fun c17 => ?_) (fun c17 => ?_)
    · have n18 : ¬ (r15 = 0) := fun h9 => c17 ((nI_eq (a := r15) (b := 0) (by omega) (by omega)).mpr h9)
      refine lv_aload_n hx hb dX5_make_32 rfl (lv_at hl 0 rfl) ?_
      refine lv_aload_n hx hb dX5_make_33 rfl (lv_at hl 0 rfl) ?_
      refine c_get (v := .ref (a 28)) (C := RX5) (Tc := TX5) (N := 19) (ci := 4) hx hb hq pin_wsX50 hown hE hP hO 28 (sg_28 G h0 a _ _ _ _ _) rfl 1 (by decide) (hq _ pw_473) (fun _ h9 => h9) rfl dX5_make_34 ?_
      refine lv_iload_n hx hb dX5_make_37 rfl (lv_at hl 1 rfl) ?_
      refine lv_lload_n hx hb dX5_make_38 rfl (lv_at hl 2 rfl) ?_
      refine lv_l2i hx hb dX5_make_39 rfl ?_
      refine lv_topi (fun x19 e20 => ?_)
      have hO : OKW G h0 a (upd (upd (upd (upd (upd (upd F 5 (nI cs)) 18 (nI ba)) 19 (nI tp)) 22 (nI on)) 26 (nI ht)) 26 (nI ht)) (updR (updR (updR (updR (updR (updR R 5 (.ref pq)) 6 (va_rf mo)) 7 (.ref (a sp))) 8 (.ref (a op))) 7 (.ref (a sp))) 8 (.ref (a op))) Z B J K.1 (fun q99 x99 => x99 = rep G a K q99) w := hO.to rfl
      obtain ⟨_, qr24, hqr25⟩ := hO.2.1 29 _ (sg_29 G h0 a _ _ _ _ _)
      refine pc_V0 (G := G) (As := [.int x, .int x19]) (rest := [.ref (a 5)]) hx hb hml hown hq hE hX pX0_al hP hD hS hA hl.1 (K_make l G h0 a (upd (upd (upd (upd (upd F 5 (nI cs)) 18 (nI ba)) 19 (nI tp)) 22 (nI on)) 26 (nI ht)) (updR (updR (updR (updR R 5 (.ref pq)) 6 (va_rf mo)) 7 (.ref (a sp))) 8 (.ref (a op))) Z B J K.1 (fun q99 x99 => x99 = rep G a K q99) w x x19 sp op ht hsp (by omega) hO) (gV pw_546 pw_547 pw_548 pw_440 pw_434) hV_X3_make qr24 3 hqr25 rfl rfl rfl (Nat.le_of_ble_eq_true rfl) dX5_make_40 ⟨Nat.le_of_ble_eq_true rfl, Nat.le_of_ble_eq_true rfl⟩ ⟨Nat.le_of_ble_eq_true rfl, Nat.le_of_ble_eq_true rfl⟩ (fun v23 u21 H locs hw22 hP hD hS => ?_)
      obtain ⟨w, ht26, r27, J28⟩ := u21
      obtain ⟨hw22, h29, hO⟩ := hw22
      have h29 : 8 ≤ ht26 ∧ ht26 ≤ 3008 := h29
      obtain rfl : v23 = some (.long r27) := hw22
      have hO : OKP G h0 a (upd (upd (upd (upd (upd F 5 (nI cs)) 18 (nI ba)) 19 (nI tp)) 22 (nI on)) 26 (nI ht26)) (updR (updR (updR (updR R 5 (.ref pq)) 6 (va_rf mo)) 7 (.ref (a sp))) 8 (.ref (a op))) Z B J28 K w := hO.to rfl
      refine W.widen (k := 0) (n := 0) (Nat.le_of_ble_eq_true rfl) (Nat.le_of_ble_eq_true rfl) ?_
      refine W.eq (g2 := F0 m 43 ls [.long r27, .ref (a 5)]) rfl ?_
      have hO : OKW G h0 a (upd (upd (upd (upd (upd (upd F 5 (nI cs)) 18 (nI ba)) 19 (nI tp)) 22 (nI on)) 26 (nI ht26)) 19 (nI tp)) (updR (updR (updR (updR R 5 (.ref pq)) 6 (va_rf mo)) 7 (.ref (a sp))) 8 (.ref (a op))) Z B J28 K.1 (fun q99 x99 => x99 = rep G a K q99) w := hO.to rfl
      obtain ⟨_, qr33, hqr34⟩ := hO.2.1 28 _ (sg_28 G h0 a _ _ _ _ _)
      refine pc_V0 (G := G) (As := [.long r27]) (rest := []) hx hb hml hown hq hE hX pX0_al hP hD hS hA hl.1 (M_push l G h0 a (upd (upd (upd (upd (upd F 5 (nI cs)) 18 (nI ba)) 19 (nI tp)) 22 (nI on)) 26 (nI ht26)) (updR (updR (updR (updR R 5 (.ref pq)) 6 (va_rf mo)) 7 (.ref (a sp))) 8 (.ref (a op))) Z B J28 K.1 (fun q99 x99 => x99 = rep G a K q99) w r27 tp (by omega) hO) (gV pw_549 pw_550 pw_551 pw_539 pw_535) hV_X5_push qr33 4 hqr34 rfl rfl rfl (Nat.le_of_ble_eq_true rfl) dX5_make_43 ⟨Nat.le_of_ble_eq_true rfl, Nat.le_of_ble_eq_true rfl⟩ ⟨Nat.le_of_ble_eq_true rfl, Nat.le_of_ble_eq_true rfl⟩ (fun v32 u30 H locs hw31 hP hD hS => ?_)
      obtain ⟨w, tp35, en36, rf37, J38⟩ := u30
      obtain ⟨hw31, h39, hO⟩ := hw31
      have h39 : tp35 ≤ 32000 := h39
      obtain rfl : v32 = none := hw31
      have hO : OKP G h0 a (upd (upd (upd (upd (upd (upd (upd F 5 (nI cs)) 18 (nI ba)) 19 (nI tp35)) 22 (nI on)) 23 en36) 25 rf37) 26 (nI ht26)) (updR (updR (updR (updR R 5 (.ref pq)) 6 (va_rf mo)) 7 (.ref (a sp))) 8 (.ref (a op))) Z B J38 K w := hO.to rfl
      refine W.widen (k := 0) (n := 0) (Nat.le_of_ble_eq_true rfl) (Nat.le_of_ble_eq_true rfl) ?_
      refine W.eq (g2 := F0 m 46 ls []) rfl ?_
      refine lv_aload_n hx hb dX5_make_46 rfl (lv_at hl 0 rfl) ?_
      refine c_get (v := .ref (a 33)) (C := RX5) (Tc := TX5) (N := 19) (ci := 4) hx hb hq pin_wsX50 hown hE hP hO 28 (sg_28 G h0 a _ _ _ _ _) rfl 7 (by decide) (hq _ pw_478) (fun _ h9 => h9) rfl dX5_make_47 ?_
      refine lv_bipush (v := 8) hx hb dX5_make_50 (by decide) ?_
      refine lv_dup2_11 hx hb dX5_make_52 rfl rfl ?_
      refine c_ldi (f := (B 33)) (n := 12) (t0 := 0) hx hb hE hP hO 36 (sg_36 G h0 a _ _ _ _ _) rfl (by unfold vp_in; decide) dX5_make_53 ?_
      refine W.eq (g2 := F0 m 54 ls [.int ((B 33) 8), .int 8, .ref (a 33)]) rfl ?_
      refine lv_topi (fun x40 e41 => ?_)
      refine lv_iconst (v := 1) hx hb dX5_make_54 (by decide) ?_
      refine lv_iadd hx hb dX5_make_55 ?_
      refine lv_topi (fun x42 e43 => ?_)
      refine c_sti (f := (B 33)) (n := 12) (t0 := 0) hx hb hE hP hD hS hO 36 (sg_36 G h0 a _ _ _ _ _) rfl (by unfold vp_in; decide) (sb_33 G h0 a _ _ _ _ _ _) dX5_make_56 (fun H locs w hP hD hS hO => ?_)
      refine lv_aload_n hx hb dX5_make_57 rfl (lv_at hl 0 rfl) ?_
      refine c_get (v := .ref (a 33)) (C := RX5) (Tc := TX5) (N := 19) (ci := 4) hx hb hq pin_wsX50 hown hE hP hO 28 (sg_28 G h0 a _ _ _ _ _) rfl 7 (by decide) (hq _ pw_478) (fun _ h9 => h9) rfl dX5_make_58 ?_
      refine lv_bipush (v := 9) hx hb dX5_make_61 (by decide) ?_
      refine lv_dup2_11 hx hb dX5_make_63 rfl rfl ?_
      refine c_ldi (f := (upd (B 33) 8 x42)) (n := 12) (t0 := 0) hx hb hE hP hO 36 (sg_36 G h0 a _ _ _ _ _) rfl (by unfold vp_in; decide) dX5_make_64 ?_
      refine W.eq (g2 := F0 m 65 ls [.int ((upd (B 33) 8 x42) 9), .int 9, .ref (a 33)]) rfl ?_
      refine lv_topi (fun x44 e45 => ?_)
      refine lv_lload_n hx hb dX5_make_65 rfl (lv_at hl 2 rfl) ?_
      refine lv_l2i hx hb dX5_make_66 rfl ?_
      refine lv_topi (fun x46 e47 => ?_)
      refine lv_iadd hx hb dX5_make_67 ?_
      refine lv_topi (fun x48 e49 => ?_)
      refine c_sti (f := (upd (B 33) 8 x42)) (n := 12) (t0 := 0) hx hb hE hP hD hS hO 36 (sg_36 G h0 a _ _ _ _ _) rfl (by unfold vp_in; decide) (sb_33 G h0 a _ _ _ _ _ _) dX5_make_68 (fun H locs w hP hD hS hO => ?_)
      have hz50 : tp35 ≤ 32000 := (by omega)
      have hz51 : 8 ≤ ht26 ∧ ht26 ≤ 3008 := (by omega)
      have hz52 : (sp = 34 ∧ op = 35) ∨ (sp = 35 ∧ op = 34) := (by omega)
      have hO : OKP G h0 a (upd (upd (upd (upd (upd (upd (upd (upd F 5 (nI cs)) 18 (nI ba)) 19 (nI tp35)) 22 (nI on)) 23 en36) 25 rf37) 26 (nI ht26)) 27 (F 27)) (updR (updR (updR (updR R 5 (.ref pq)) 6 (va_rf mo)) 7 (.ref (a sp))) 8 (.ref (a op))) Z (updA B 33 (upd (upd (B 33) 8 x42) 9 x48)) J38 K w := hO.to rfl
      exact W.vret hx hb hr (fun t99 ht99 hW99 => ⟨⟨_, (w, (tp35, en36, rf37, (upd (upd (B 33) 8 x42) 9 x48), J38, sp, op, ht26, (F 27))), rfl, ⟨rfl, hz50, hz51, hz52, hO⟩, by rw [ht99]; exact hP, hD⟩, hS.F ht99⟩) hS.2.2 dX5_make_69
    · have n53 : r15 = 0 := (nI_eq (a := r15) (b := 0) (by omega) (by omega)).mp c17
      refine lv_aload_n hx hb dX5_make_26 rfl (lv_at hl 0 rfl) ?_
      refine lv_iconst (v := 3) hx hb dX5_make_27 (by decide) ?_
      refine c_put (v := .int 3) (ty := .int) (C := RX5) (Tc := TX5) (N := 19) (ci := 4) hx hb hq pin_wsX50 tyX5 tyX5_ok nmX5 hown hE hP hD hS hO 28 (sg_28 G h0 a _ _ _ _ _) rfl 16 (by decide) (hq _ pw_513) (fun _ h9 => h9) rfl (by decide +kernel) rfl rfl (Nat.le_of_ble_eq_true rfl) (sf_23 G h0 a _ _ _ _ _ 3) dX5_make_28 (fun H locs w hP hD hS hO => ?_)
      have hz54 : tp ≤ 32000 := (by omega)
      have hz55 : 8 ≤ ht ∧ ht ≤ 3008 := (by omega)
      have hz56 : (sp = 34 ∧ op = 35) ∨ (sp = 35 ∧ op = 34) := (by omega)
      have hO : OKP G h0 a (upd (upd (upd (upd (upd (upd (upd (upd F 5 (nI cs)) 18 (nI ba)) 19 (nI tp)) 22 (nI on)) 23 (3 : Int32)) 25 (F 25)) 26 (nI ht)) 27 (F 27)) (updR (updR (updR (updR R 5 (.ref pq)) 6 (va_rf mo)) 7 (.ref (a sp))) 8 (.ref (a op))) Z (updA B 33 (B 33)) J K w := hO.to rfl
      exact W.vret hx hb hr (fun t99 ht99 hW99 => ⟨⟨_, (w, (tp, (3 : Int32), (F 25), (B 33), J, sp, op, ht, (F 27))), rfl, ⟨rfl, hz54, hz55, hz56, hO⟩, by rw [ht99]; exact hP, hD⟩, hS.F ht99⟩) hS.2.2 dX5_make_31
  · have n57 : r6 = 0 := (nI_eq (a := r6) (b := 0) (by omega) (by omega)).mp c8
    refine lv_aload_n hx hb dX5_make_11 rfl (lv_at hl 0 rfl) ?_
    have hO : OKP G h0 a (upd (upd (upd (upd (upd (upd (upd (upd (upd (upd F 5 (nI cs)) 18 (nI ba)) 19 (nI tp)) 22 (nI on)) 26 (nI ht)) 5 (nI cs)) 18 (nI ba)) 19 (nI tp)) 22 (nI on)) 26 (nI ht)) (updR (updR (updR (updR (updR (updR (updR (updR R 5 (.ref pq)) 6 (va_rf mo)) 7 (.ref (a sp))) 8 (.ref (a op))) 5 (.ref pq)) 6 (va_rf mo)) 7 (.ref (a sp))) 8 (.ref (a op))) Z B J K w := hO.to rfl
    obtain ⟨_, qr61, hqr62⟩ := hO.2.1 28 _ (sg_28 G h0 a _ _ _ _ _)
    refine pc_V0 (G := G) (As := []) (rest := []) hx hb hml hown hq hE hX pX0_al hP hD hS hA hl.1 (M_collect l G h0 a (upd (upd (upd (upd (upd F 5 (nI cs)) 18 (nI ba)) 19 (nI tp)) 22 (nI on)) 26 (nI ht)) (updR (updR (updR (updR R 5 (.ref pq)) 6 (va_rf mo)) 7 (.ref (a sp))) 8 (.ref (a op))) Z B J K w sp op ht pq dr ml nd nm cp it s9 g rk ba on mo tp cs hsp (by omega) hwp hps hrk (by omega) (by omega) hms hfr (by omega) (by omega) hO) (gV pw_543 pw_544 pw_545 pw_539 pw_534) hV_X5_collect qr61 4 hqr62 rfl rfl rfl (Nat.le_of_ble_eq_true rfl) dX5_make_12 ⟨Nat.le_of_ble_eq_true rfl, Nat.le_of_ble_eq_true rfl⟩ ⟨Nat.le_of_ble_eq_true rfl, Nat.le_of_ble_eq_true rfl⟩ (fun v60 u58 H locs hw59 hP hD hS => ?_)
    obtain ⟨w, J63, sp64, op65, ht66, ot67⟩ := u58
    obtain ⟨hw59, h68, h69, hO⟩ := hw59
    have h68 : 8 ≤ ht66 ∧ ht66 ≤ 3008 := h68
    have h69 : (sp64 = 34 ∧ op65 = 35) ∨ (sp64 = 35 ∧ op65 = 34) := h69
    obtain rfl : v60 = none := hw59
    have hO : OKP G h0 a (upd (upd (upd (upd (upd (upd F 5 (nI cs)) 18 (nI ba)) 19 (nI tp)) 22 (nI on)) 26 (nI ht66)) 27 ot67) (updR (updR (updR (updR R 5 (.ref pq)) 6 (va_rf mo)) 7 (.ref (a sp64))) 8 (.ref (a op65))) Z B J63 K w := hO.to rfl
    refine W.widen (k := 0) (n := 0) (Nat.le_of_ble_eq_true rfl) (Nat.le_of_ble_eq_true rfl) ?_
    refine W.eq (g2 := F0 m 15 ls []) rfl ?_
    refine lv_aload_n hx hb dX5_make_15 rfl (lv_at hl 0 rfl) ?_
    refine c_get (v := .ref (a 28)) (C := RX5) (Tc := TX5) (N := 19) (ci := 4) hx hb hq pin_wsX50 hown hE hP hO 28 (sg_28 G h0 a _ _ _ _ _) rfl 1 (by decide) (hq _ pw_473) (fun _ h9 => h9) rfl dX5_make_16 ?_
    refine lv_lload_n hx hb dX5_make_19 rfl (lv_at hl 2 rfl) ?_
    have hO : OKW G h0 a (upd (upd (upd (upd (upd (upd F 5 (nI cs)) 18 (nI ba)) 19 (nI tp)) 22 (nI on)) 26 (nI ht66)) 27 ot67) (updR (updR (updR (updR R 5 (.ref pq)) 6 (va_rf mo)) 7 (.ref (a sp64))) 8 (.ref (a op65))) Z B J63 K.1 (fun q99 x99 => x99 = rep G a K q99) w := hO.to rfl
    obtain ⟨_, qr73, hqr74⟩ := hO.2.1 29 _ (sg_29 G h0 a _ _ _ _ _)
    refine pc_V0 (G := G) (As := [.long y]) (rest := []) hx hb hml hown hq hE hX pX0_al hP hD hS hA hl.1 (K_hasRoom l G h0 a (upd (upd (upd (upd (upd (upd F 5 (nI cs)) 18 (nI ba)) 19 (nI tp)) 22 (nI on)) 26 (nI ht66)) 27 ot67) (updR (updR (updR (updR R 5 (.ref pq)) 6 (va_rf mo)) 7 (.ref (a sp64))) 8 (.ref (a op65))) Z B J63 K.1 (fun q99 x99 => x99 = rep G a K q99) w y hO) (gV pw_540 pw_541 pw_542 pw_440 pw_425) hV_X3_hasRoom qr73 3 hqr74 rfl rfl rfl (Nat.le_of_ble_eq_true rfl) dX5_make_20 ⟨Nat.le_of_ble_eq_true rfl, Nat.le_of_ble_eq_true rfl⟩ ⟨Nat.le_of_ble_eq_true rfl, Nat.le_of_ble_eq_true rfl⟩ (fun v72 u70 H locs hw71 hP hD hS => ?_)
    obtain ⟨w, r75⟩ := u70
    obtain ⟨hw71, h76, hO⟩ := hw71
    have h76 : r75 ≤ 1 := h76
    obtain rfl : v72 = some (.int (nI r75)) := hw71
    have hO : OKP G h0 a (upd (upd (upd (upd (upd (upd F 5 (nI cs)) 18 (nI ba)) 19 (nI tp)) 22 (nI on)) 26 (nI ht66)) 27 ot67) (updR (updR (updR (updR R 5 (.ref pq)) 6 (va_rf mo)) 7 (.ref (a sp64))) 8 (.ref (a op65))) Z B J63 K w := hO.to rfl
    refine W.widen (k := 0) (n := 0) (Nat.le_of_ble_eq_true rfl) (Nat.le_of_ble_eq_true rfl) ?_
    refine W.eq (g2 := F0 m 23 ls [.int (nI r75)]) rfl ?_
    refine lv_if_ne (tgt := 32) hx hb dX5_make_23 (by decide) (fun c77 => ?_) (fun c77 => ?_)
    · have n78 : ¬ (r75 = 0) := fun h9 => c77 ((nI_eq (a := r75) (b := 0) (by omega) (by omega)).mpr h9)
      refine lv_aload_n hx hb dX5_make_32 rfl (lv_at hl 0 rfl) ?_
      refine lv_aload_n hx hb dX5_make_33 rfl (lv_at hl 0 rfl) ?_
      refine c_get (v := .ref (a 28)) (C := RX5) (Tc := TX5) (N := 19) (ci := 4) hx hb hq pin_wsX50 hown hE hP hO 28 (sg_28 G h0 a _ _ _ _ _) rfl 1 (by decide) (hq _ pw_473) (fun _ h9 => h9) rfl dX5_make_34 ?_
      refine lv_iload_n hx hb dX5_make_37 rfl (lv_at hl 1 rfl) ?_
      refine lv_lload_n hx hb dX5_make_38 rfl (lv_at hl 2 rfl) ?_
      refine lv_l2i hx hb dX5_make_39 rfl ?_
      refine lv_topi (fun x79 e80 => ?_)
      have hO : OKW G h0 a (upd (upd (upd (upd (upd (upd (upd F 5 (nI cs)) 18 (nI ba)) 19 (nI tp)) 22 (nI on)) 26 (nI ht66)) 27 ot67) 26 (nI ht66)) (updR (updR (updR (updR (updR (updR R 5 (.ref pq)) 6 (va_rf mo)) 7 (.ref (a sp64))) 8 (.ref (a op65))) 7 (.ref (a sp64))) 8 (.ref (a op65))) Z B J63 K.1 (fun q99 x99 => x99 = rep G a K q99) w := hO.to rfl
      obtain ⟨_, qr84, hqr85⟩ := hO.2.1 29 _ (sg_29 G h0 a _ _ _ _ _)
      refine pc_V0 (G := G) (As := [.int x, .int x79]) (rest := [.ref (a 5)]) hx hb hml hown hq hE hX pX0_al hP hD hS hA hl.1 (K_make l G h0 a (upd (upd (upd (upd (upd (upd F 5 (nI cs)) 18 (nI ba)) 19 (nI tp)) 22 (nI on)) 26 (nI ht66)) 27 ot67) (updR (updR (updR (updR R 5 (.ref pq)) 6 (va_rf mo)) 7 (.ref (a sp64))) 8 (.ref (a op65))) Z B J63 K.1 (fun q99 x99 => x99 = rep G a K q99) w x x79 sp64 op65 ht66 h69 (by omega) hO) (gV pw_546 pw_547 pw_548 pw_440 pw_434) hV_X3_make qr84 3 hqr85 rfl rfl rfl (Nat.le_of_ble_eq_true rfl) dX5_make_40 ⟨Nat.le_of_ble_eq_true rfl, Nat.le_of_ble_eq_true rfl⟩ ⟨Nat.le_of_ble_eq_true rfl, Nat.le_of_ble_eq_true rfl⟩ (fun v83 u81 H locs hw82 hP hD hS => ?_)
      obtain ⟨w, ht86, r87, J88⟩ := u81
      obtain ⟨hw82, h89, hO⟩ := hw82
      have h89 : 8 ≤ ht86 ∧ ht86 ≤ 3008 := h89
      obtain rfl : v83 = some (.long r87) := hw82
      have hO : OKP G h0 a (upd (upd (upd (upd (upd (upd F 5 (nI cs)) 18 (nI ba)) 19 (nI tp)) 22 (nI on)) 26 (nI ht86)) 27 ot67) (updR (updR (updR (updR R 5 (.ref pq)) 6 (va_rf mo)) 7 (.ref (a sp64))) 8 (.ref (a op65))) Z B J88 K w := hO.to rfl
      refine W.widen (k := 0) (n := 0) (Nat.le_of_ble_eq_true rfl) (Nat.le_of_ble_eq_true rfl) ?_
      refine W.eq (g2 := F0 m 43 ls [.long r87, .ref (a 5)]) rfl ?_
      have hO : OKW G h0 a (upd (upd (upd (upd (upd (upd (upd F 5 (nI cs)) 18 (nI ba)) 19 (nI tp)) 22 (nI on)) 26 (nI ht86)) 27 ot67) 19 (nI tp)) (updR (updR (updR (updR R 5 (.ref pq)) 6 (va_rf mo)) 7 (.ref (a sp64))) 8 (.ref (a op65))) Z B J88 K.1 (fun q99 x99 => x99 = rep G a K q99) w := hO.to rfl
      obtain ⟨_, qr93, hqr94⟩ := hO.2.1 28 _ (sg_28 G h0 a _ _ _ _ _)
      refine pc_V0 (G := G) (As := [.long r87]) (rest := []) hx hb hml hown hq hE hX pX0_al hP hD hS hA hl.1 (M_push l G h0 a (upd (upd (upd (upd (upd (upd F 5 (nI cs)) 18 (nI ba)) 19 (nI tp)) 22 (nI on)) 26 (nI ht86)) 27 ot67) (updR (updR (updR (updR R 5 (.ref pq)) 6 (va_rf mo)) 7 (.ref (a sp64))) 8 (.ref (a op65))) Z B J88 K.1 (fun q99 x99 => x99 = rep G a K q99) w r87 tp (by omega) hO) (gV pw_549 pw_550 pw_551 pw_539 pw_535) hV_X5_push qr93 4 hqr94 rfl rfl rfl (Nat.le_of_ble_eq_true rfl) dX5_make_43 ⟨Nat.le_of_ble_eq_true rfl, Nat.le_of_ble_eq_true rfl⟩ ⟨Nat.le_of_ble_eq_true rfl, Nat.le_of_ble_eq_true rfl⟩ (fun v92 u90 H locs hw91 hP hD hS => ?_)
      obtain ⟨w, tp95, en96, rf97, J98⟩ := u90
      obtain ⟨hw91, h99, hO⟩ := hw91
      have h99 : tp95 ≤ 32000 := h99
      obtain rfl : v92 = none := hw91
      have hO : OKP G h0 a (upd (upd (upd (upd (upd (upd (upd (upd F 5 (nI cs)) 18 (nI ba)) 19 (nI tp95)) 22 (nI on)) 23 en96) 25 rf97) 26 (nI ht86)) 27 ot67) (updR (updR (updR (updR R 5 (.ref pq)) 6 (va_rf mo)) 7 (.ref (a sp64))) 8 (.ref (a op65))) Z B J98 K w := hO.to rfl
      refine W.widen (k := 0) (n := 0) (Nat.le_of_ble_eq_true rfl) (Nat.le_of_ble_eq_true rfl) ?_
      refine W.eq (g2 := F0 m 46 ls []) rfl ?_
      refine lv_aload_n hx hb dX5_make_46 rfl (lv_at hl 0 rfl) ?_
      refine c_get (v := .ref (a 33)) (C := RX5) (Tc := TX5) (N := 19) (ci := 4) hx hb hq pin_wsX50 hown hE hP hO 28 (sg_28 G h0 a _ _ _ _ _) rfl 7 (by decide) (hq _ pw_478) (fun _ h9 => h9) rfl dX5_make_47 ?_
      refine lv_bipush (v := 8) hx hb dX5_make_50 (by decide) ?_
      refine lv_dup2_11 hx hb dX5_make_52 rfl rfl ?_
      refine c_ldi (f := (B 33)) (n := 12) (t0 := 0) hx hb hE hP hO 36 (sg_36 G h0 a _ _ _ _ _) rfl (by unfold vp_in; decide) dX5_make_53 ?_
      refine W.eq (g2 := F0 m 54 ls [.int ((B 33) 8), .int 8, .ref (a 33)]) rfl ?_
      refine lv_topi (fun x100 e101 => ?_)
      refine lv_iconst (v := 1) hx hb dX5_make_54 (by decide) ?_
      refine lv_iadd hx hb dX5_make_55 ?_
      refine lv_topi (fun x102 e103 => ?_)
      refine c_sti (f := (B 33)) (n := 12) (t0 := 0) hx hb hE hP hD hS hO 36 (sg_36 G h0 a _ _ _ _ _) rfl (by unfold vp_in; decide) (sb_33 G h0 a _ _ _ _ _ _) dX5_make_56 (fun H locs w hP hD hS hO => ?_)
      refine lv_aload_n hx hb dX5_make_57 rfl (lv_at hl 0 rfl) ?_
      refine c_get (v := .ref (a 33)) (C := RX5) (Tc := TX5) (N := 19) (ci := 4) hx hb hq pin_wsX50 hown hE hP hO 28 (sg_28 G h0 a _ _ _ _ _) rfl 7 (by decide) (hq _ pw_478) (fun _ h9 => h9) rfl dX5_make_58 ?_
      refine lv_bipush (v := 9) hx hb dX5_make_61 (by decide) ?_
      refine lv_dup2_11 hx hb dX5_make_63 rfl rfl ?_
      refine c_ldi (f := (upd (B 33) 8 x102)) (n := 12) (t0 := 0) hx hb hE hP hO 36 (sg_36 G h0 a _ _ _ _ _) rfl (by unfold vp_in; decide) dX5_make_64 ?_
      refine W.eq (g2 := F0 m 65 ls [.int ((upd (B 33) 8 x102) 9), .int 9, .ref (a 33)]) rfl ?_
      refine lv_topi (fun x104 e105 => ?_)
      refine lv_lload_n hx hb dX5_make_65 rfl (lv_at hl 2 rfl) ?_
      refine lv_l2i hx hb dX5_make_66 rfl ?_
      refine lv_topi (fun x106 e107 => ?_)
      refine lv_iadd hx hb dX5_make_67 ?_
      refine lv_topi (fun x108 e109 => ?_)
      refine c_sti (f := (upd (B 33) 8 x102)) (n := 12) (t0 := 0) hx hb hE hP hD hS hO 36 (sg_36 G h0 a _ _ _ _ _) rfl (by unfold vp_in; decide) (sb_33 G h0 a _ _ _ _ _ _) dX5_make_68 (fun H locs w hP hD hS hO => ?_)
      have hz110 : tp95 ≤ 32000 := (by omega)
      have hz111 : 8 ≤ ht86 ∧ ht86 ≤ 3008 := (by omega)
      have hz112 : (sp64 = 34 ∧ op65 = 35) ∨ (sp64 = 35 ∧ op65 = 34) := (by omega)
      have hO : OKP G h0 a (upd (upd (upd (upd (upd (upd (upd (upd F 5 (nI cs)) 18 (nI ba)) 19 (nI tp95)) 22 (nI on)) 23 en96) 25 rf97) 26 (nI ht86)) 27 ot67) (updR (updR (updR (updR R 5 (.ref pq)) 6 (va_rf mo)) 7 (.ref (a sp64))) 8 (.ref (a op65))) Z (updA B 33 (upd (upd (B 33) 8 x102) 9 x108)) J98 K w := hO.to rfl
      exact W.vret hx hb hr (fun t99 ht99 hW99 => ⟨⟨_, (w, (tp95, en96, rf97, (upd (upd (B 33) 8 x102) 9 x108), J98, sp64, op65, ht86, ot67)), rfl, ⟨rfl, hz110, hz111, hz112, hO⟩, by rw [ht99]; exact hP, hD⟩, hS.F ht99⟩) hS.2.2 dX5_make_69
    · have n113 : r75 = 0 := (nI_eq (a := r75) (b := 0) (by omega) (by omega)).mp c77
      refine lv_aload_n hx hb dX5_make_26 rfl (lv_at hl 0 rfl) ?_
      refine lv_iconst (v := 3) hx hb dX5_make_27 (by decide) ?_
      refine c_put (v := .int 3) (ty := .int) (C := RX5) (Tc := TX5) (N := 19) (ci := 4) hx hb hq pin_wsX50 tyX5 tyX5_ok nmX5 hown hE hP hD hS hO 28 (sg_28 G h0 a _ _ _ _ _) rfl 16 (by decide) (hq _ pw_513) (fun _ h9 => h9) rfl (by decide +kernel) rfl rfl (Nat.le_of_ble_eq_true rfl) (sf_23 G h0 a _ _ _ _ _ 3) dX5_make_28 (fun H locs w hP hD hS hO => ?_)
      have hz114 : tp ≤ 32000 := (by omega)
      have hz115 : 8 ≤ ht66 ∧ ht66 ≤ 3008 := (by omega)
      have hz116 : (sp64 = 34 ∧ op65 = 35) ∨ (sp64 = 35 ∧ op65 = 34) := (by omega)
      have hO : OKP G h0 a (upd (upd (upd (upd (upd (upd (upd (upd F 5 (nI cs)) 18 (nI ba)) 19 (nI tp)) 22 (nI on)) 23 (3 : Int32)) 25 (F 25)) 26 (nI ht66)) 27 ot67) (updR (updR (updR (updR R 5 (.ref pq)) 6 (va_rf mo)) 7 (.ref (a sp64))) 8 (.ref (a op65))) Z (updA B 33 (B 33)) J63 K w := hO.to rfl
      exact W.vret hx hb hr (fun t99 ht99 hW99 => ⟨⟨_, (w, (tp, (3 : Int32), (F 25), (B 33), J63, sp64, op65, ht66, ot67)), rfl, ⟨rfl, hz114, hz115, hz116, hO⟩, by rw [ht99]; exact hP, hD⟩, hS.F ht99⟩) hS.2.2 dX5_make_31
theorem dX2_cells_0 : decode cX2_cells 0 = .ok (.iconst 1, 1) := by decide +kernel
theorem dX2_cells_1 : decode cX2_cells 1 = .ok (.aload_n 0, 1) := by decide +kernel
theorem dX2_cells_2 : decode cX2_cells 2 = .ok (.getfield 38, 3) := by decide +kernel
theorem dX2_cells_5 : decode cX2_cells 5 = .ok (.invokevirtual 44, 3) := by decide +kernel
theorem dX2_cells_8 : decode cX2_cells 8 = .ok (.iadd, 1) := by decide +kernel
theorem dX2_cells_9 : decode cX2_cells 9 = .ok (.ireturn, 1) := by decide +kernel
set_option maxHeartbeats 6000000 in
set_option maxRecDepth 100000 in
theorem O_cells (l : Launch) (G : pT) (h0 : Nat) (a : Nat → Nat) (F : Nat → Int32) (R : Nat → Value) (Z : Int64) (B : Nat → Nat → Int32) (J : Nat → Nat → Int64) (K : PK) (w : va_W) (d0 : Nat) (g : Nat → Nat → Nat) (hd0 : K.1 d0 = 4) (hwp : WPr G K g) (hO : OKP G h0 a F R Z B J K w) : PM l G pX0 yX2_cells cX2_cells 1 (some .int) ({ frames := 3, cells := 0, slots := 0, locals := 80 }) [.ref d0] w (fun (v : Option Value) (u : va_W × (Int32)) => v = some (.int u.2) ∧ (OKP G h0 a F R Z B J K u.1)) (fun u => u.1) := by
  intro sz
  refine Met.ofW (cc := cX2_cells) (maxL := 1) (ret := (some .int)) (by decide) rfl ?_
  intro p e s m args below meth c s₁ B9 hml hv
  obtain ⟨rfl, hsz, hP, hD0, hE, hX⟩ := hv
  have hx := B9.exec
  have hb := B9.bytes
  have hr := B9.returns
  have hts := atoms_spec (ws := Cond.code yX2_cells cX2_cells 1 (some .int) :: pw) B9.pre
  have hq : ∀ w ∈ pw, w.before _ s = true := fun w h => hts w (List.mem_cons_of_mem _ h)
  have hown : s.vm.findClass RX2 = some m.cls := findClass_of_methodNamed B9.named
  have hlocks := B9.notSynchronized
  subst hsz
  have hD := hD0.self (sz := s.heap.size)
  have hA : ∀ q : Nat, s.heap.size ≤ q → va_A w s.heap.size q := fun q h => Or.inr h
  generalize va_A w s.heap.size = A at hD hE hA ⊢
  have hS : va_S A s.heap s.heap [] := va_S.rf
  have hl := lv_entry ([.ref d0]) (n := 1) (Nat.le_of_ble_eq_true rfl)
  rw [lg_entry_eq]
  generalize (lg_sl ([.ref d0]) ++ List.replicate (1 - (lg_sl ([.ref d0])).length) Slot.unset).toArray = ls at hl ⊢
  have hl : lv_has ls 1 [(0, .ref d0)] := hl
  obtain ⟨lm, hflm, htlm, hrlm, holm⟩ := (hwp.2.2.1 d0 hd0).2.2.1
  obtain ⟨nlm, itlm, cplm, hlclm, hnblm, hcblm⟩ := hwp.2.1 lm htlm
  rw [hrlm] at hlclm hnblm
  have hnclm := hlclm.2.2.1
  have hnblm : nlm ≤ 5000 := hnblm
  have hlclm : LsC G K lm 1 nlm itlm cplm := hlclm
  refine lv_iconst (v := 1) hx hb dX2_cells_0 (by decide) ?_
  refine lv_aload_n hx hb dX2_cells_1 rfl (lv_at hl 0 rfl) ?_
  refine p_get (v := .ref lm) (C := RX2) (Tc := TX2) (N := 13) (ci := 2) hx hb hq pin_wsX20 hown hE hP hO (by rw [hd0]; decide) (rep_4 hd0) rfl 11 (by decide) (hq _ pw_138) (fun _ h9 => h9) (congrArg (fun z => some (va_rf z)) hflm) dX2_cells_2 ?_
  have hO : OKP G h0 a F R Z B J K w := hO.to rfl
  obtain ⟨qr4, hqr5⟩ := p_recv hO (by rw [htlm]; decide) (rep_5 htlm)
  refine pc_V0 (G := G) (As := []) (rest := [.int 1]) hx hb hml hown hq hE hX pX0_al hP hD hS hA hl.1 (L_size l G h0 a F R Z B J K w lm 1 nlm itlm hlclm.ls hO) (gV pw_123 pw_87 pw_88 pw_32 pw_16) hV_Jx4a65c_size_8abf5 qr4 10 hqr5 rfl rfl rfl (Nat.le_of_ble_eq_true rfl) dX2_cells_5 ⟨Nat.le_of_ble_eq_true rfl, Nat.le_of_ble_eq_true rfl⟩ ⟨Nat.le_of_ble_eq_true rfl, Nat.le_of_ble_eq_true rfl⟩ (fun v3 u1 H locs hw2 hP hD hS => ?_)
  obtain ⟨w, _⟩ := u1
  obtain ⟨hw2, hO⟩ := hw2
  obtain rfl : v3 = some (.int (nI nlm)) := hw2
  have hO : OKP G h0 a F R Z B J K w := hO.to rfl
  refine W.widen (k := 0) (n := 0) (Nat.le_of_ble_eq_true rfl) (Nat.le_of_ble_eq_true rfl) ?_
  refine W.eq (g2 := F0 m 8 ls [.int (nI nlm), .int 1]) rfl ?_
  refine lv_iadd hx hb dX2_cells_8 ?_
  refine lv_topi (fun x6 e7 => ?_)
  obtain rfl : x6 = nI (1 + nlm) := e7.trans (nI_add (1) (nlm))
  have hO : OKP G h0 a F R Z B J K w := hO.to rfl
  exact W.iret (v := (nI (1 + nlm))) hx hb hr (fun t99 ht99 hW99 => ⟨⟨_, (w, (nI (1 + nlm))), rfl, ⟨rfl, hO⟩, by rw [ht99]; exact hP, hD⟩, hS.F ht99⟩) hS.2.2 dX2_cells_9
theorem dX5_makeObject_0 : decode cX5_makeObject 0 = .ok (.aload_n 0, 1) := by decide +kernel
theorem dX5_makeObject_1 : decode cX5_makeObject 1 = .ok (.getfield 47, 3) := by decide +kernel
theorem dX5_makeObject_4 : decode cX5_makeObject 4 = .ok (.iload_n 1, 1) := by decide +kernel
theorem dX5_makeObject_5 : decode cX5_makeObject 5 = .ok (.invokevirtual 55, 3) := by decide +kernel
theorem dX5_makeObject_8 : decode cX5_makeObject 8 = .ok (.astore_n 2, 1) := by decide +kernel
theorem dX5_makeObject_9 : decode cX5_makeObject 9 = .ok (.aload_n 2, 1) := by decide +kernel
theorem dX5_makeObject_10 : decode cX5_makeObject 10 = .ok (.ifnonnull 10, 3) := by decide +kernel
theorem dX5_makeObject_13 : decode cX5_makeObject 13 = .ok (.aload_n 0, 1) := by decide +kernel
theorem dX5_makeObject_14 : decode cX5_makeObject 14 = .ok (.invokevirtual 160, 3) := by decide +kernel
theorem dX5_makeObject_17 : decode cX5_makeObject 17 = .ok (.goto 13, 3) := by decide +kernel
theorem dX5_makeObject_30 : decode cX5_makeObject 30 = .ok (.return_, 1) := by decide +kernel
theorem dX5_makeObject_20 : decode cX5_makeObject 20 = .ok (.aload_n 0, 1) := by decide +kernel
theorem dX5_makeObject_21 : decode cX5_makeObject 21 = .ok (.iload_n 1, 1) := by decide +kernel
theorem dX5_makeObject_22 : decode cX5_makeObject 22 = .ok (.aload_n 2, 1) := by decide +kernel
theorem dX5_makeObject_23 : decode cX5_makeObject 23 = .ok (.invokevirtual 272, 3) := by decide +kernel
theorem dX5_makeObject_26 : decode cX5_makeObject 26 = .ok (.i2l, 1) := by decide +kernel
theorem dX5_makeObject_27 : decode cX5_makeObject 27 = .ok (.invokevirtual 275, 3) := by decide +kernel
theorem hV_X2_cells : yX2_cells.cls = RX2 ∧ yX2_cells.cls ≠ "java/lang/invoke/MethodHandle" ∧ yX2_cells.cls ≠ "java/lang/invoke/VarHandle" ∧ (parseMethodDescriptor yX2_cells.desc).map (fun d => d.parameters.length) = some 0 := by decide +kernel
theorem hV_X5_make : yX5_make.cls = RX5 ∧ yX5_make.cls ≠ "java/lang/invoke/MethodHandle" ∧ yX5_make.cls ≠ "java/lang/invoke/VarHandle" ∧ (parseMethodDescriptor yX5_make.desc).map (fun d => d.parameters.length) = some 2 := by decide +kernel
set_option maxHeartbeats 20000000 in
set_option maxRecDepth 100000 in
theorem M_makeObject (l : Launch) (G : pT) (h0 : Nat) (a : Nat → Nat) (F : Nat → Int32) (R : Nat → Value) (Z : Int64) (B : Nat → Nat → Int32) (J : Nat → Nat → Int64) (K : PK) (w : va_W) (x : Int32) (tp : Nat) (sp : Nat) (op : Nat) (ht : Nat) (pq : Nat) (dr : Nat) (ml : Nat) (nd : Nat) (nm : Nat) (cp : Nat) (it : Nat → Nat) (s9 : Nat) (g : Nat → Nat → Nat) (rk : Nat → Nat) (ba : Nat) (on : Nat) (mo : Option Nat) (cs : Nat) (htp : tp ≤ 32000) (hsp : (sp = 34 ∧ op = 35) ∨ (sp = 35 ∧ op = 34)) (hht : 8 ≤ ht ∧ ht ≤ 3008) (hwp : WPr G K g) (hps : PgT G K g (a 1) pq dr ml nd nm cp it s9) (hrk : RkO K rk) (hba : ba ≤ 32000) (hon : on ≤ 100) (hms : MsO K mo ba) (hfr : FrO K nm it (B 30) on) (hcs : cs ≤ 10000) (hO : OKP G h0 a (upd (upd (upd (upd (upd F 5 (nI cs)) 18 (nI ba)) 19 (nI tp)) 22 (nI on)) 26 (nI ht)) (updR (updR (updR (updR R 5 (.ref pq)) 6 (va_rf mo)) 7 (.ref (a sp))) 8 (.ref (a op))) Z B J K w) : PM l G pX0 yX5_makeObject cX5_makeObject 3 none ({ frames := 8, cells := 0, slots := 0, locals := 196 }) [.ref (a 5), .int x] w (fun (v : Option Value) (u : va_W × (Nat × Int32 × Int32 × (Nat → Int32) × (Nat → Nat → Int64) × Nat × Nat × Nat × Int32)) => v = none ∧ (u.2.1 ≤ 32000) ∧ (8 ≤ u.2.2.2.2.2.2.2.2.1 ∧ u.2.2.2.2.2.2.2.2.1 ≤ 3008) ∧ ((u.2.2.2.2.2.2.1 = 34 ∧ u.2.2.2.2.2.2.2.1 = 35) ∨ (u.2.2.2.2.2.2.1 = 35 ∧ u.2.2.2.2.2.2.2.1 = 34)) ∧ (OKP G h0 a (upd (upd (upd (upd (upd (upd (upd (upd F 5 (nI cs)) 18 (nI ba)) 19 (nI u.2.1)) 22 (nI on)) 23 u.2.2.1) 25 u.2.2.2.1) 26 (nI u.2.2.2.2.2.2.2.2.1)) 27 u.2.2.2.2.2.2.2.2.2) (updR (updR (updR (updR R 5 (.ref pq)) 6 (va_rf mo)) 7 (.ref (a u.2.2.2.2.2.2.1))) 8 (.ref (a u.2.2.2.2.2.2.2.1))) Z (updA B 33 u.2.2.2.2.1) u.2.2.2.2.2.1 K u.1)) (fun u => u.1) := by
  intro sz
  refine Met.ofW (cc := cX5_makeObject) (maxL := 3) (ret := none) (by decide) rfl ?_
  intro p e s m args below meth c s₁ B9 hml hv
  obtain ⟨rfl, hsz, hP, hD0, hE, hX⟩ := hv
  have hx := B9.exec
  have hb := B9.bytes
  have hr := B9.returns
  have hts := atoms_spec (ws := Cond.code yX5_makeObject cX5_makeObject 3 none :: pw) B9.pre
  have hq : ∀ w ∈ pw, w.before _ s = true := fun w h => hts w (List.mem_cons_of_mem _ h)
  have hown : s.vm.findClass RX5 = some m.cls := findClass_of_methodNamed B9.named
  have hlocks := B9.notSynchronized
  subst hsz
  have hD := hD0.self (sz := s.heap.size)
  have hA : ∀ q : Nat, s.heap.size ≤ q → va_A w s.heap.size q := fun q h => Or.inr h
  generalize va_A w s.heap.size = A at hD hE hA ⊢
  have hS : va_S A s.heap s.heap [] := va_S.rf
  have hl := lv_entry ([.ref (a 5), .int x]) (n := 3) (Nat.le_of_ble_eq_true rfl)
  rw [lg_entry_eq]
  generalize (lg_sl ([.ref (a 5), .int x]) ++ List.replicate (3 - (lg_sl ([.ref (a 5), .int x])).length) Slot.unset).toArray = ls at hl ⊢
  have hl : lv_has ls 3 [(0, .ref (a 5)), (1, .int x)] := hl
  have hpg := hps.1
  have hp1 := hpg.1
  have hp2 := hpg.2.1
  have hp3 := hpg.2.2.1
  have hp4 := hpg.2.2.2.1
  have hp5 := hpg.2.2.2.2.1
  have hp6 := hpg.2.2.2.2.2.1
  have hp8 := hpg.2.2.2.2.2.2.2.1
  have hp9 := hpg.2.2.2.2.2.2.2.2
  refine lv_aload_n hx hb dX5_makeObject_0 rfl (lv_at hl 0 rfl) ?_
  refine c_get (v := .ref pq) (C := RX5) (Tc := TX5) (N := 19) (ci := 4) hx hb hq pin_wsX50 hown hE hP hO 28 (sg_28 G h0 a _ _ _ _ _) rfl 8 (by decide) (hq _ pw_486) (fun _ h9 => h9) rfl dX5_makeObject_1 ?_
  refine lv_iload_n hx hb dX5_makeObject_4 rfl (lv_at hl 1 rfl) ?_
  have hO : OKP G h0 a (upd (upd (upd (upd (upd F 5 (nI cs)) 18 (nI ba)) 19 (nI tp)) 22 (nI on)) 26 (nI ht)) (updR (updR (updR (updR R 5 (.ref pq)) 6 (va_rf mo)) 7 (.ref (a sp))) 8 (.ref (a op))) Z B J K w := hO.to rfl
  obtain ⟨qr4, hqr5⟩ := p_recv hO (by rw [hp1]; decide) (rep_7 hp1)
  refine pc_V0 (G := G) (As := [.int x]) (rest := []) hx hb hml hown hq hE hX pX0_al hP hD hS hA hl.1 (G_decl l G h0 a (upd (upd (upd (upd (upd F 5 (nI cs)) 18 (nI ba)) 19 (nI tp)) 22 (nI on)) 26 (nI ht)) (updR (updR (updR (updR R 5 (.ref pq)) 6 (va_rf mo)) 7 (.ref (a sp))) 8 (.ref (a op))) Z B J K w pq dr ml nd x g hps.1 hps.2.1 hO) (gV pw_492 pw_182 pw_183 pw_106 pw_13) hV_X9_decl qr4 6 hqr5 rfl rfl rfl (Nat.le_of_ble_eq_true rfl) dX5_makeObject_5 ⟨Nat.le_of_ble_eq_true rfl, Nat.le_of_ble_eq_true rfl⟩ ⟨Nat.le_of_ble_eq_true rfl, Nat.le_of_ble_eq_true rfl⟩ (fun v3 u1 H locs hw2 hP hD hS => ?_)
  obtain ⟨w, o6⟩ := u1
  obtain ⟨hw2, h7, h8, hO⟩ := hw2
  have h7 : DoN K o6 := h7
  have h8 : DoK K dr nd x o6 := h8
  obtain rfl : v3 = some ((va_rf o6)) := hw2
  have hO : OKP G h0 a (upd (upd (upd (upd (upd F 5 (nI cs)) 18 (nI ba)) 19 (nI tp)) 22 (nI on)) 26 (nI ht)) (updR (updR (updR (updR R 5 (.ref pq)) 6 (va_rf mo)) 7 (.ref (a sp))) 8 (.ref (a op))) Z B J K w := hO.to rfl
  refine W.widen (k := 0) (n := 0) (Nat.le_of_ble_eq_true rfl) (Nat.le_of_ble_eq_true rfl) ?_
  refine W.eq (g2 := F0 m 8 ls [(va_rf o6)]) rfl ?_
  rcases o6 with _ | d9
  · have hl : lv_has ls 3 [(0, .ref (a 5)), (1, .int x)] := hl
    refine W.eq (g2 := F0 m 8 ls [.null]) rfl ?_
    refine lv_astore_nN (lv' := [(2, .null), (0, .ref (a 5)), (1, .int x)]) hx hb dX5_makeObject_8 rfl hl (by decide) rfl (fun ls hl => ?_)
    refine lv_aload_nN hx hb dX5_makeObject_9 rfl (lv_at hl 0 rfl) ?_
    refine lv_ifnonnullN hx hb dX5_makeObject_10 ?_
    refine lv_aload_n hx hb dX5_makeObject_13 rfl (lv_at hl 1 rfl) ?_
    have hO : OKW G h0 a (upd (upd (upd (upd (upd F 5 (nI cs)) 18 (nI ba)) 19 (nI tp)) 22 (nI on)) 26 (nI ht)) (updR (updR (updR (updR R 5 (.ref pq)) 6 (va_rf mo)) 7 (.ref (a sp))) 8 (.ref (a op))) Z B J K.1 (fun q99 x99 => x99 = rep G a K q99) w := hO.to rfl
    obtain ⟨_, qr13, hqr14⟩ := hO.2.1 28 _ (sg_28 G h0 a _ _ _ _ _)
    refine pc_V0 (G := G) (As := []) (rest := []) hx hb hml hown hq hE hX pX0_al hP hD hS hA hl.1 (M_refuse l G h0 a (upd (upd (upd (upd (upd F 5 (nI cs)) 18 (nI ba)) 19 (nI tp)) 22 (nI on)) 26 (nI ht)) (updR (updR (updR (updR R 5 (.ref pq)) 6 (va_rf mo)) 7 (.ref (a sp))) 8 (.ref (a op))) Z B J K.1 (fun q99 x99 => x99 = rep G a K q99) w hO) (gV pw_536 pw_537 pw_538 pw_539 pw_511) hV_X5_refuse qr13 4 hqr14 rfl rfl rfl (Nat.le_of_ble_eq_true rfl) dX5_makeObject_14 ⟨Nat.le_of_ble_eq_true rfl, Nat.le_of_ble_eq_true rfl⟩ ⟨Nat.le_of_ble_eq_true rfl, Nat.le_of_ble_eq_true rfl⟩ (fun v12 u10 H locs hw11 hP hD hS => ?_)
    obtain ⟨w, en15, rf16⟩ := u10
    obtain ⟨hw11, hO⟩ := hw11
    obtain rfl : v12 = none := hw11
    have hO : OKP G h0 a (upd (upd (upd (upd (upd (upd (upd F 5 (nI cs)) 18 (nI ba)) 19 (nI tp)) 22 (nI on)) 23 en15) 25 rf16) 26 (nI ht)) (updR (updR (updR (updR R 5 (.ref pq)) 6 (va_rf mo)) 7 (.ref (a sp))) 8 (.ref (a op))) Z B J K w := hO.to rfl
    refine W.widen (k := 0) (n := 0) (Nat.le_of_ble_eq_true rfl) (Nat.le_of_ble_eq_true rfl) ?_
    refine W.eq (g2 := F0 m 17 ls []) rfl ?_
    refine lv_goto (tgt := 30) hx hb dX5_makeObject_17 (by decide) ?_
    have hz17 : tp ≤ 32000 := (by omega)
    have hz18 : 8 ≤ ht ∧ ht ≤ 3008 := (by omega)
    have hz19 : (sp = 34 ∧ op = 35) ∨ (sp = 35 ∧ op = 34) := (by omega)
    have hO : OKP G h0 a (upd (upd (upd (upd (upd (upd (upd (upd F 5 (nI cs)) 18 (nI ba)) 19 (nI tp)) 22 (nI on)) 23 en15) 25 rf16) 26 (nI ht)) 27 (F 27)) (updR (updR (updR (updR R 5 (.ref pq)) 6 (va_rf mo)) 7 (.ref (a sp))) 8 (.ref (a op))) Z (updA B 33 (B 33)) J K w := hO.to rfl
    exact W.vret hx hb hr (fun t99 ht99 hW99 => ⟨⟨_, (w, (tp, en15, rf16, (B 33), J, sp, op, ht, (F 27))), rfl, ⟨rfl, hz17, hz18, hz19, hO⟩, by rw [ht99]; exact hP, hD⟩, hS.F ht99⟩) hS.2.2 dX5_makeObject_30
  · have hl : lv_has ls 3 [(0, .ref (a 5)), (1, .int x)] := hl
    refine W.eq (g2 := F0 m 8 ls [.ref d9]) rfl ?_
    have hdT := h7 d9 rfl
    refine lv_astore_n (lv' := [(2, .ref d9), (0, .ref (a 5)), (1, .int x)]) hx hb dX5_makeObject_8 rfl hl (by decide) rfl (fun ls hl => ?_)
    refine lv_aload_n hx hb dX5_makeObject_9 rfl (lv_at hl 0 rfl) ?_
    refine lv_ifnonnull (tgt := 20) hx hb dX5_makeObject_10 (by decide) ?_
    refine lv_aload_n hx hb dX5_makeObject_20 rfl (lv_at hl 1 rfl) ?_
    refine lv_iload_n hx hb dX5_makeObject_21 rfl (lv_at hl 2 rfl) ?_
    refine lv_aload_n hx hb dX5_makeObject_22 rfl (lv_at hl 0 rfl) ?_
    have hO : OKP G h0 a (upd (upd (upd (upd (upd F 5 (nI cs)) 18 (nI ba)) 19 (nI tp)) 22 (nI on)) 26 (nI ht)) (updR (updR (updR (updR R 5 (.ref pq)) 6 (va_rf mo)) 7 (.ref (a sp))) 8 (.ref (a op))) Z B J K w := hO.to rfl
    obtain ⟨qr23, hqr24⟩ := p_recv hO (by rw [hdT]; decide) (rep_4 hdT)
    refine pc_V0 (G := G) (As := []) (rest := [.int x, .ref (a 5)]) hx hb hml hown hq hE hX pX0_al hP hD hS hA hl.1 (O_cells l G h0 a (upd (upd (upd (upd (upd F 5 (nI cs)) 18 (nI ba)) 19 (nI tp)) 22 (nI on)) 26 (nI ht)) (updR (updR (updR (updR R 5 (.ref pq)) 6 (va_rf mo)) 7 (.ref (a sp))) 8 (.ref (a op))) Z B J K w d9 g hdT hwp hO) (gV pw_553 pw_554 pw_555 pw_146 pw_411) hV_X2_cells qr23 2 hqr24 rfl rfl rfl (Nat.le_of_ble_eq_true rfl) dX5_makeObject_23 ⟨Nat.le_of_ble_eq_true rfl, Nat.le_of_ble_eq_true rfl⟩ ⟨Nat.le_of_ble_eq_true rfl, Nat.le_of_ble_eq_true rfl⟩ (fun v22 u20 H locs hw21 hP hD hS => ?_)
    obtain ⟨w, r25⟩ := u20
    obtain ⟨hw21, hO⟩ := hw21
    obtain rfl : v22 = some (.int r25) := hw21
    have hO : OKP G h0 a (upd (upd (upd (upd (upd F 5 (nI cs)) 18 (nI ba)) 19 (nI tp)) 22 (nI on)) 26 (nI ht)) (updR (updR (updR (updR R 5 (.ref pq)) 6 (va_rf mo)) 7 (.ref (a sp))) 8 (.ref (a op))) Z B J K w := hO.to rfl
    refine W.widen (k := 0) (n := 0) (Nat.le_of_ble_eq_true rfl) (Nat.le_of_ble_eq_true rfl) ?_
    refine W.eq (g2 := F0 m 26 ls [.int r25, .int x, .ref (a 5)]) rfl ?_
    refine lv_i2l hx hb dX5_makeObject_26 rfl ?_
    refine lv_topl (fun x26 e27 => ?_)
    have hO : OKP G h0 a (upd (upd (upd (upd (upd (upd (upd (upd (upd (upd F 5 (nI cs)) 18 (nI ba)) 19 (nI tp)) 22 (nI on)) 26 (nI ht)) 5 (nI cs)) 18 (nI ba)) 19 (nI tp)) 22 (nI on)) 26 (nI ht)) (updR (updR (updR (updR (updR (updR (updR (updR R 5 (.ref pq)) 6 (va_rf mo)) 7 (.ref (a sp))) 8 (.ref (a op))) 5 (.ref pq)) 6 (va_rf mo)) 7 (.ref (a sp))) 8 (.ref (a op))) Z B J K w := hO.to rfl
    obtain ⟨_, qr31, hqr32⟩ := hO.2.1 28 _ (sg_28 G h0 a _ _ _ _ _)
    refine pc_V0 (G := G) (As := [.int x, .long x26]) (rest := []) hx hb hml hown hq hE hX pX0_al hP hD hS hA hl.1 (M_make l G h0 a (upd (upd (upd (upd (upd F 5 (nI cs)) 18 (nI ba)) 19 (nI tp)) 22 (nI on)) 26 (nI ht)) (updR (updR (updR (updR R 5 (.ref pq)) 6 (va_rf mo)) 7 (.ref (a sp))) 8 (.ref (a op))) Z B J K w x x26 tp sp op ht pq dr ml nd nm cp it s9 g rk ba on mo cs (by omega) hsp (by omega) hwp hps hrk (by omega) (by omega) hms hfr (by omega) hO) (gV pw_556 pw_557 pw_558 pw_539 pw_552) hV_X5_make qr31 4 hqr32 rfl rfl rfl (Nat.le_of_ble_eq_true rfl) dX5_makeObject_27 ⟨Nat.le_of_ble_eq_true rfl, Nat.le_of_ble_eq_true rfl⟩ ⟨Nat.le_of_ble_eq_true rfl, Nat.le_of_ble_eq_true rfl⟩ (fun v30 u28 H locs hw29 hP hD hS => ?_)
    obtain ⟨w, tp33, en34, rf35, ta36, J37, sp38, op39, ht40, ot41⟩ := u28
    obtain ⟨hw29, h42, h43, h44, hO⟩ := hw29
    have h42 : tp33 ≤ 32000 := h42
    have h43 : 8 ≤ ht40 ∧ ht40 ≤ 3008 := h43
    have h44 : (sp38 = 34 ∧ op39 = 35) ∨ (sp38 = 35 ∧ op39 = 34) := h44
    obtain rfl : v30 = none := hw29
    have hO : OKP G h0 a (upd (upd (upd (upd (upd (upd (upd (upd F 5 (nI cs)) 18 (nI ba)) 19 (nI tp33)) 22 (nI on)) 23 en34) 25 rf35) 26 (nI ht40)) 27 ot41) (updR (updR (updR (updR R 5 (.ref pq)) 6 (va_rf mo)) 7 (.ref (a sp38))) 8 (.ref (a op39))) Z (updA B 33 ta36) J37 K w := hO.to rfl
    refine W.widen (k := 0) (n := 0) (Nat.le_of_ble_eq_true rfl) (Nat.le_of_ble_eq_true rfl) ?_
    refine W.eq (g2 := F0 m 30 ls []) rfl ?_
    have hz45 : tp33 ≤ 32000 := (by omega)
    have hz46 : 8 ≤ ht40 ∧ ht40 ≤ 3008 := (by omega)
    have hz47 : (sp38 = 34 ∧ op39 = 35) ∨ (sp38 = 35 ∧ op39 = 34) := (by omega)
    have hO : OKP G h0 a (upd (upd (upd (upd (upd (upd (upd (upd F 5 (nI cs)) 18 (nI ba)) 19 (nI tp33)) 22 (nI on)) 23 en34) 25 rf35) 26 (nI ht40)) 27 ot41) (updR (updR (updR (updR R 5 (.ref pq)) 6 (va_rf mo)) 7 (.ref (a sp38))) 8 (.ref (a op39))) Z (updA B 33 ta36) J37 K w := hO.to rfl
    exact W.vret hx hb hr (fun t99 ht99 hW99 => ⟨⟨_, (w, (tp33, en34, rf35, ta36, J37, sp38, op39, ht40, ot41)), rfl, ⟨rfl, hz45, hz46, hz47, hO⟩, by rw [ht99]; exact hP, hD⟩, hS.F ht99⟩) hS.2.2 dX5_makeObject_30
theorem dX5_makeArray_0 : decode cX5_makeArray 0 = .ok (.aload_n 0, 1) := by decide +kernel
theorem dX5_makeArray_1 : decode cX5_makeArray 1 = .ok (.invokevirtual 166, 3) := by decide +kernel
theorem dX5_makeArray_4 : decode cX5_makeArray 4 = .ok (.ifCond .ne 4, 3) := by decide +kernel
theorem dX5_makeArray_8 : decode cX5_makeArray 8 = .ok (.iload_n 2, 1) := by decide +kernel
theorem dX5_makeArray_9 : decode cX5_makeArray 9 = .ok (.ifCond .ge 12, 3) := by decide +kernel
theorem dX5_makeArray_21 : decode cX5_makeArray 21 = .ok (.aload_n 0, 1) := by decide +kernel
theorem dX5_makeArray_22 : decode cX5_makeArray 22 = .ok (.iload_n 1, 1) := by decide +kernel
theorem dX5_makeArray_23 : decode cX5_makeArray 23 = .ok (.ldc2_w 278, 3) := by decide +kernel
theorem dX5_makeArray_26 : decode cX5_makeArray 26 = .ok (.iload_n 2, 1) := by decide +kernel
theorem dX5_makeArray_27 : decode cX5_makeArray 27 = .ok (.i2l, 1) := by decide +kernel
theorem dX5_makeArray_28 : decode cX5_makeArray 28 = .ok (.ladd, 1) := by decide +kernel
theorem dX5_makeArray_29 : decode cX5_makeArray 29 = .ok (.invokevirtual 275, 3) := by decide +kernel
theorem dX5_makeArray_32 : decode cX5_makeArray 32 = .ok (.return_, 1) := by decide +kernel
theorem dX5_makeArray_12 : decode cX5_makeArray 12 = .ok (.aload_n 0, 1) := by decide +kernel
theorem dX5_makeArray_13 : decode cX5_makeArray 13 = .ok (.bipush 6, 2) := by decide +kernel
theorem dX5_makeArray_15 : decode cX5_makeArray 15 = .ok (.invokevirtual 252, 3) := by decide +kernel
theorem dX5_makeArray_18 : decode cX5_makeArray 18 = .ok (.goto 14, 3) := by decide +kernel
theorem dX5_makeArray_7 : decode cX5_makeArray 7 = .ok (.return_, 1) := by decide +kernel
set_option maxHeartbeats 20000000 in
set_option maxRecDepth 100000 in
theorem M_makeArray (l : Launch) (G : pT) (h0 : Nat) (a : Nat → Nat) (F : Nat → Int32) (R : Nat → Value) (Z : Int64) (B : Nat → Nat → Int32) (J : Nat → Nat → Int64) (K : PK) (w : va_W) (x : Int32) (y : Int32) (tp : Nat) (sp : Nat) (op : Nat) (ht : Nat) (pq : Nat) (dr : Nat) (ml : Nat) (nd : Nat) (nm : Nat) (cp : Nat) (it : Nat → Nat) (s9 : Nat) (g : Nat → Nat → Nat) (rk : Nat → Nat) (ba : Nat) (on : Nat) (mo : Option Nat) (cs : Nat) (htp : tp ≤ 32000) (hsp : (sp = 34 ∧ op = 35) ∨ (sp = 35 ∧ op = 34)) (hht : 8 ≤ ht ∧ ht ≤ 3008) (hwp : WPr G K g) (hps : PgT G K g (a 1) pq dr ml nd nm cp it s9) (hrk : RkO K rk) (hba : ba ≤ 32000) (hon : on ≤ 100) (hms : MsO K mo ba) (hfr : FrO K nm it (B 30) on) (hcs : cs ≤ 10000) (hO : OKP G h0 a (upd (upd (upd (upd (upd F 5 (nI cs)) 18 (nI ba)) 19 (nI tp)) 22 (nI on)) 26 (nI ht)) (updR (updR (updR (updR R 5 (.ref pq)) 6 (va_rf mo)) 7 (.ref (a sp))) 8 (.ref (a op))) Z B J K w) : PM l G pX0 yX5_makeArray cX5_makeArray 3 none ({ frames := 8, cells := 0, slots := 0, locals := 196 }) [.ref (a 5), .int x, .int y] w (fun (v : Option Value) (u : va_W × (Nat × Int32 × Int32 × (Nat → Int32) × (Nat → Nat → Int64) × Int64 × Nat × Nat × Nat × Int32)) => v = none ∧ (u.2.1 ≤ 32000) ∧ (8 ≤ u.2.2.2.2.2.2.2.2.2.1 ∧ u.2.2.2.2.2.2.2.2.2.1 ≤ 3008) ∧ ((u.2.2.2.2.2.2.2.1 = 34 ∧ u.2.2.2.2.2.2.2.2.1 = 35) ∨ (u.2.2.2.2.2.2.2.1 = 35 ∧ u.2.2.2.2.2.2.2.2.1 = 34)) ∧ (OKP G h0 a (upd (upd (upd (upd (upd (upd (upd (upd F 5 (nI cs)) 18 (nI ba)) 19 (nI u.2.1)) 22 (nI on)) 23 u.2.2.1) 25 u.2.2.2.1) 26 (nI u.2.2.2.2.2.2.2.2.2.1)) 27 u.2.2.2.2.2.2.2.2.2.2) (updR (updR (updR (updR R 5 (.ref pq)) 6 (va_rf mo)) 7 (.ref (a u.2.2.2.2.2.2.2.1))) 8 (.ref (a u.2.2.2.2.2.2.2.2.1))) u.2.2.2.2.2.2.1 (updA B 33 u.2.2.2.2.1) u.2.2.2.2.2.1 K u.1)) (fun u => u.1) := by
  intro sz
  refine Met.ofW (cc := cX5_makeArray) (maxL := 3) (ret := none) (by decide) rfl ?_
  intro p e s m args below meth c s₁ B9 hml hv
  obtain ⟨rfl, hsz, hP, hD0, hE, hX⟩ := hv
  have hx := B9.exec
  have hb := B9.bytes
  have hr := B9.returns
  have hts := atoms_spec (ws := Cond.code yX5_makeArray cX5_makeArray 3 none :: pw) B9.pre
  have hq : ∀ w ∈ pw, w.before _ s = true := fun w h => hts w (List.mem_cons_of_mem _ h)
  have hown : s.vm.findClass RX5 = some m.cls := findClass_of_methodNamed B9.named
  have hlocks := B9.notSynchronized
  subst hsz
  have hD := hD0.self (sz := s.heap.size)
  have hA : ∀ q : Nat, s.heap.size ≤ q → va_A w s.heap.size q := fun q h => Or.inr h
  generalize va_A w s.heap.size = A at hD hE hA ⊢
  have hS : va_S A s.heap s.heap [] := va_S.rf
  have hl := lv_entry ([.ref (a 5), .int x, .int y]) (n := 3) (Nat.le_of_ble_eq_true rfl)
  rw [lg_entry_eq]
  generalize (lg_sl ([.ref (a 5), .int x, .int y]) ++ List.replicate (3 - (lg_sl ([.ref (a 5), .int x, .int y])).length) Slot.unset).toArray = ls at hl ⊢
  have hl : lv_has ls 3 [(0, .ref (a 5)), (1, .int x), (2, .int y)] := hl
  have hpg := hps.1
  have hp1 := hpg.1
  have hp2 := hpg.2.1
  have hp3 := hpg.2.2.1
  have hp4 := hpg.2.2.2.1
  have hp5 := hpg.2.2.2.2.1
  have hp6 := hpg.2.2.2.2.2.1
  have hp8 := hpg.2.2.2.2.2.2.2.1
  have hp9 := hpg.2.2.2.2.2.2.2.2
  refine lv_aload_n hx hb dX5_makeArray_0 rfl (lv_at hl 0 rfl) ?_
  have hO : OKW G h0 a (upd (upd (upd (upd (upd F 5 (nI cs)) 18 (nI ba)) 19 (nI tp)) 22 (nI on)) 26 (nI ht)) (updR (updR (updR (updR R 5 (.ref pq)) 6 (va_rf mo)) 7 (.ref (a sp))) 8 (.ref (a op))) Z B J K.1 (fun q99 x99 => x99 = rep G a K q99) w := hO.to rfl
  obtain ⟨_, qr4, hqr5⟩ := hO.2.1 28 _ (sg_28 G h0 a _ _ _ _ _)
  refine pc_V0 (G := G) (As := []) (rest := []) hx hb hml hown hq hE hX pX0_al hP hD hS hA hl.1 (M_burn l G h0 a (upd (upd (upd (upd (upd F 5 (nI cs)) 18 (nI ba)) 19 (nI tp)) 22 (nI on)) 26 (nI ht)) (updR (updR (updR (updR R 5 (.ref pq)) 6 (va_rf mo)) 7 (.ref (a sp))) 8 (.ref (a op))) Z B J K.1 (fun q99 x99 => x99 = rep G a K q99) w hO) (gV pw_567 pw_568 pw_569 pw_539 pw_560) hV_X5_burn qr4 4 hqr5 rfl rfl rfl (Nat.le_of_ble_eq_true rfl) dX5_makeArray_1 ⟨Nat.le_of_ble_eq_true rfl, Nat.le_of_ble_eq_true rfl⟩ ⟨Nat.le_of_ble_eq_true rfl, Nat.le_of_ble_eq_true rfl⟩ (fun v3 u1 H locs hw2 hP hD hS => ?_)
  obtain ⟨w, r6, en7, ta8⟩ := u1
  obtain ⟨hw2, h9, hO⟩ := hw2
  have h9 : r6 ≤ 1 := h9
  obtain rfl : v3 = some (.int (nI r6)) := hw2
  have hO : OKP G h0 a (upd (upd (upd (upd (upd (upd F 5 (nI cs)) 18 (nI ba)) 19 (nI tp)) 22 (nI on)) 23 en7) 26 (nI ht)) (updR (updR (updR (updR R 5 (.ref pq)) 6 (va_rf mo)) 7 (.ref (a sp))) 8 (.ref (a op))) Z (updA B 33 ta8) J K w := hO.to rfl
  refine W.widen (k := 0) (n := 0) (Nat.le_of_ble_eq_true rfl) (Nat.le_of_ble_eq_true rfl) ?_
  refine W.eq (g2 := F0 m 4 ls [.int (nI r6)]) rfl ?_
  refine lv_if_ne (tgt := 8) hx hb dX5_makeArray_4 (by decide) (fun c10 => ?_) (fun c10 => ?_)
  · have n11 : ¬ (r6 = 0) := fun h9 => c10 ((nI_eq (a := r6) (b := 0) (by omega) (by omega)).mpr h9)
    refine lv_iload_n hx hb dX5_makeArray_8 rfl (lv_at hl 2 rfl) ?_
    refine lv_if_ge (tgt := 21) hx hb dX5_makeArray_9 (by decide) (fun c12 => ?_) (fun c12 => ?_)
    · refine lv_aload_n hx hb dX5_makeArray_21 rfl (lv_at hl 0 rfl) ?_
      refine lv_iload_n hx hb dX5_makeArray_22 rfl (lv_at hl 1 rfl) ?_
      refine lv_ldc2 (v := 2) hx hb hown (hq _ pw_659) dX5_makeArray_23 ?_
      refine lv_iload_n hx hb dX5_makeArray_26 rfl (lv_at hl 2 rfl) ?_
      refine lv_i2l hx hb dX5_makeArray_27 rfl ?_
      refine lv_topl (fun x13 e14 => ?_)
      refine lv_ladd hx hb dX5_makeArray_28 ?_
      refine lv_topl (fun x15 e16 => ?_)
      have hO : OKP G h0 a (upd (upd (upd (upd (upd (upd (upd (upd (upd (upd (upd F 5 (nI cs)) 18 (nI ba)) 19 (nI tp)) 22 (nI on)) 23 en7) 26 (nI ht)) 5 (nI cs)) 18 (nI ba)) 19 (nI tp)) 22 (nI on)) 26 (nI ht)) (updR (updR (updR (updR (updR (updR (updR (updR R 5 (.ref pq)) 6 (va_rf mo)) 7 (.ref (a sp))) 8 (.ref (a op))) 5 (.ref pq)) 6 (va_rf mo)) 7 (.ref (a sp))) 8 (.ref (a op))) Z (updA B 33 ta8) J K w := hO.to rfl
      obtain ⟨_, qr20, hqr21⟩ := hO.2.1 28 _ (sg_28 G h0 a _ _ _ _ _)
      refine pc_V0 (G := G) (As := [.int x, .long x15]) (rest := []) hx hb hml hown hq hE hX pX0_al hP hD hS hA hl.1 (M_make l G h0 a (upd (upd (upd (upd (upd (upd F 5 (nI cs)) 18 (nI ba)) 19 (nI tp)) 22 (nI on)) 23 en7) 26 (nI ht)) (updR (updR (updR (updR R 5 (.ref pq)) 6 (va_rf mo)) 7 (.ref (a sp))) 8 (.ref (a op))) Z (updA B 33 ta8) J K w x x15 tp sp op ht pq dr ml nd nm cp it s9 g rk ba on mo cs (by omega) hsp (by omega) hwp hps hrk (by omega) (by omega) hms hfr (by omega) hO) (gV pw_556 pw_557 pw_558 pw_539 pw_552) hV_X5_make qr20 4 hqr21 rfl rfl rfl (Nat.le_of_ble_eq_true rfl) dX5_makeArray_29 ⟨Nat.le_of_ble_eq_true rfl, Nat.le_of_ble_eq_true rfl⟩ ⟨Nat.le_of_ble_eq_true rfl, Nat.le_of_ble_eq_true rfl⟩ (fun v19 u17 H locs hw18 hP hD hS => ?_)
      obtain ⟨w, tp22, en23, rf24, ta25, J26, sp27, op28, ht29, ot30⟩ := u17
      obtain ⟨hw18, h31, h32, h33, hO⟩ := hw18
      have h31 : tp22 ≤ 32000 := h31
      have h32 : 8 ≤ ht29 ∧ ht29 ≤ 3008 := h32
      have h33 : (sp27 = 34 ∧ op28 = 35) ∨ (sp27 = 35 ∧ op28 = 34) := h33
      obtain rfl : v19 = none := hw18
      have hO : OKP G h0 a (upd (upd (upd (upd (upd (upd (upd (upd F 5 (nI cs)) 18 (nI ba)) 19 (nI tp22)) 22 (nI on)) 23 en23) 25 rf24) 26 (nI ht29)) 27 ot30) (updR (updR (updR (updR R 5 (.ref pq)) 6 (va_rf mo)) 7 (.ref (a sp27))) 8 (.ref (a op28))) Z (updA B 33 ta25) J26 K w := hO.to rfl
      refine W.widen (k := 0) (n := 0) (Nat.le_of_ble_eq_true rfl) (Nat.le_of_ble_eq_true rfl) ?_
      refine W.eq (g2 := F0 m 32 ls []) rfl ?_
      have hz34 : tp22 ≤ 32000 := (by omega)
      have hz35 : 8 ≤ ht29 ∧ ht29 ≤ 3008 := (by omega)
      have hz36 : (sp27 = 34 ∧ op28 = 35) ∨ (sp27 = 35 ∧ op28 = 34) := (by omega)
      have hO : OKP G h0 a (upd (upd (upd (upd (upd (upd (upd (upd F 5 (nI cs)) 18 (nI ba)) 19 (nI tp22)) 22 (nI on)) 23 en23) 25 rf24) 26 (nI ht29)) 27 ot30) (updR (updR (updR (updR R 5 (.ref pq)) 6 (va_rf mo)) 7 (.ref (a sp27))) 8 (.ref (a op28))) Z (updA B 33 ta25) J26 K w := hO.to rfl
      exact W.vret hx hb hr (fun t99 ht99 hW99 => ⟨⟨_, (w, (tp22, en23, rf24, ta25, J26, Z, sp27, op28, ht29, ot30)), rfl, ⟨rfl, hz34, hz35, hz36, hO⟩, by rw [ht99]; exact hP, hD⟩, hS.F ht99⟩) hS.2.2 dX5_makeArray_32
    · refine lv_aload_n hx hb dX5_makeArray_12 rfl (lv_at hl 0 rfl) ?_
      refine lv_bipush (v := 6) hx hb dX5_makeArray_13 (by decide) ?_
      have hO : OKW G h0 a (upd (upd (upd (upd (upd (upd F 5 (nI cs)) 18 (nI ba)) 19 (nI tp)) 22 (nI on)) 23 en7) 26 (nI ht)) (updR (updR (updR (updR R 5 (.ref pq)) 6 (va_rf mo)) 7 (.ref (a sp))) 8 (.ref (a op))) Z (updA B 33 ta8) J K.1 (fun q99 x99 => x99 = rep G a K q99) w := hO.to rfl
      obtain ⟨_, qr40, hqr41⟩ := hO.2.1 28 _ (sg_28 G h0 a _ _ _ _ _)
      refine pc_V0 (G := G) (As := [.int 6]) (rest := []) hx hb hml hown hq hE hX pX0_al hP hD hS hA hl.1 (M_raise l G h0 a (upd (upd (upd (upd (upd (upd F 5 (nI cs)) 18 (nI ba)) 19 (nI tp)) 22 (nI on)) 23 en7) 26 (nI ht)) (updR (updR (updR (updR R 5 (.ref pq)) 6 (va_rf mo)) 7 (.ref (a sp))) 8 (.ref (a op))) Z (updA B 33 ta8) J K.1 (fun q99 x99 => x99 = rep G a K q99) w 6 hO) (gV pw_570 pw_571 pw_572 pw_539 pw_561) hV_X5_raise qr40 4 hqr41 rfl rfl rfl (Nat.le_of_ble_eq_true rfl) dX5_makeArray_15 ⟨Nat.le_of_ble_eq_true rfl, Nat.le_of_ble_eq_true rfl⟩ ⟨Nat.le_of_ble_eq_true rfl, Nat.le_of_ble_eq_true rfl⟩ (fun v39 u37 H locs hw38 hP hD hS => ?_)
      obtain ⟨w, z42⟩ := u37
      obtain ⟨hw38, hO⟩ := hw38
      obtain rfl : v39 = none := hw38
      have hO : OKP G h0 a (upd (upd (upd (upd (upd (upd F 5 (nI cs)) 18 (nI ba)) 19 (nI tp)) 22 (nI on)) 23 en7) 26 (nI ht)) (updR (updR (updR (updR R 5 (.ref pq)) 6 (va_rf mo)) 7 (.ref (a sp))) 8 (.ref (a op))) z42 (updA B 33 ta8) J K w := hO.to rfl
      refine W.widen (k := 0) (n := 0) (Nat.le_of_ble_eq_true rfl) (Nat.le_of_ble_eq_true rfl) ?_
      refine W.eq (g2 := F0 m 18 ls []) rfl ?_
      refine lv_goto (tgt := 32) hx hb dX5_makeArray_18 (by decide) ?_
      have hz43 : tp ≤ 32000 := (by omega)
      have hz44 : 8 ≤ ht ∧ ht ≤ 3008 := (by omega)
      have hz45 : (sp = 34 ∧ op = 35) ∨ (sp = 35 ∧ op = 34) := (by omega)
      have hO : OKP G h0 a (upd (upd (upd (upd (upd (upd (upd (upd F 5 (nI cs)) 18 (nI ba)) 19 (nI tp)) 22 (nI on)) 23 en7) 25 (F 25)) 26 (nI ht)) 27 (F 27)) (updR (updR (updR (updR R 5 (.ref pq)) 6 (va_rf mo)) 7 (.ref (a sp))) 8 (.ref (a op))) z42 (updA B 33 ta8) J K w := hO.to rfl
      exact W.vret hx hb hr (fun t99 ht99 hW99 => ⟨⟨_, (w, (tp, en7, (F 25), ta8, J, z42, sp, op, ht, (F 27))), rfl, ⟨rfl, hz43, hz44, hz45, hO⟩, by rw [ht99]; exact hP, hD⟩, hS.F ht99⟩) hS.2.2 dX5_makeArray_32
  · have n46 : r6 = 0 := (nI_eq (a := r6) (b := 0) (by omega) (by omega)).mp c10
    have hz47 : tp ≤ 32000 := (by omega)
    have hz48 : 8 ≤ ht ∧ ht ≤ 3008 := (by omega)
    have hz49 : (sp = 34 ∧ op = 35) ∨ (sp = 35 ∧ op = 34) := (by omega)
    have hO : OKP G h0 a (upd (upd (upd (upd (upd (upd (upd (upd F 5 (nI cs)) 18 (nI ba)) 19 (nI tp)) 22 (nI on)) 23 en7) 25 (F 25)) 26 (nI ht)) 27 (F 27)) (updR (updR (updR (updR R 5 (.ref pq)) 6 (va_rf mo)) 7 (.ref (a sp))) 8 (.ref (a op))) Z (updA B 33 ta8) J K w := hO.to rfl
    exact W.vret hx hb hr (fun t99 ht99 hW99 => ⟨⟨_, (w, (tp, en7, (F 25), ta8, J, Z, sp, op, ht, (F 27))), rfl, ⟨rfl, hz47, hz48, hz49, hO⟩, by rw [ht99]; exact hP, hD⟩, hS.F ht99⟩) hS.2.2 dX5_makeArray_7
