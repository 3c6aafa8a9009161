theorem dX5_goOutward_0 : decode cX5_goOutward 0 = .ok (.iconst 0, 1) := by decide +kernel
theorem dX5_goOutward_1 : decode cX5_goOutward 1 = .ok (.istore_n 1, 1) := by decide +kernel
theorem dX5_goOutward_2 : decode cX5_goOutward 2 = .ok (.iload_n 1, 1) := by decide +kernel
theorem dX5_goOutward_3 : decode cX5_goOutward 3 = .ok (.bipush 100, 2) := by decide +kernel
theorem dX5_goOutward_5 : decode cX5_goOutward 5 = .ok (.if_icmp .ge 72, 3) := by decide +kernel
theorem dX5_goOutward_77 : decode cX5_goOutward 77 = .ok (.aload_n 0, 1) := by decide +kernel
theorem dX5_goOutward_78 : decode cX5_goOutward 78 = .ok (.invokevirtual 160, 3) := by decide +kernel
theorem dX5_goOutward_81 : decode cX5_goOutward 81 = .ok (.return_, 1) := by decide +kernel
theorem dX5_goOutward_8 : decode cX5_goOutward 8 = .ok (.aload_n 0, 1) := by decide +kernel
theorem dX5_goOutward_9 : decode cX5_goOutward 9 = .ok (.getfield 96, 3) := by decide +kernel
theorem dX5_goOutward_12 : decode cX5_goOutward 12 = .ok (.ifnull 65, 3) := by decide +kernel
theorem dX5_goOutward_15 : decode cX5_goOutward 15 = .ok (.aload_n 0, 1) := by decide +kernel
theorem dX5_goOutward_16 : decode cX5_goOutward 16 = .ok (.aload_n 0, 1) := by decide +kernel
theorem dX5_goOutward_17 : decode cX5_goOutward 17 = .ok (.getfield 18, 3) := by decide +kernel
theorem dX5_goOutward_20 : decode cX5_goOutward 20 = .ok (.aload_n 0, 1) := by decide +kernel
theorem dX5_goOutward_21 : decode cX5_goOutward 21 = .ok (.getfield 43, 3) := by decide +kernel
theorem dX5_goOutward_24 : decode cX5_goOutward 24 = .ok (.invokevirtual 51, 3) := by decide +kernel
theorem dX5_goOutward_27 : decode cX5_goOutward 27 = .ok (.invokevirtual 331, 3) := by decide +kernel
theorem dX5_goOutward_30 : decode cX5_goOutward 30 = .ok (.istore_n 2, 1) := by decide +kernel
theorem dX5_goOutward_31 : decode cX5_goOutward 31 = .ok (.iload_n 2, 1) := by decide +kernel
theorem dX5_goOutward_32 : decode cX5_goOutward 32 = .ok (.iconst (-1), 1) := by decide +kernel
theorem dX5_goOutward_33 : decode cX5_goOutward 33 = .ok (.if_icmp .eq 20, 3) := by decide +kernel
theorem dX5_goOutward_53 : decode cX5_goOutward 53 = .ok (.aload_n 0, 1) := by decide +kernel
theorem dX5_goOutward_54 : decode cX5_goOutward 54 = .ok (.getfield 93, 3) := by decide +kernel
theorem dX5_goOutward_57 : decode cX5_goOutward 57 = .ok (.iconst 1, 1) := by decide +kernel
theorem dX5_goOutward_58 : decode cX5_goOutward 58 = .ok (.if_icmp .gt 9, 3) := by decide +kernel
theorem dX5_goOutward_67 : decode cX5_goOutward 67 = .ok (.aload_n 0, 1) := by decide +kernel
theorem dX5_goOutward_68 : decode cX5_goOutward 68 = .ok (.invokevirtual 328, 3) := by decide +kernel
theorem dX5_goOutward_71 : decode cX5_goOutward 71 = .ok (.iinc 1 1, 3) := by decide +kernel
theorem dX5_goOutward_74 : decode cX5_goOutward 74 = .ok (.goto (-72), 3) := by decide +kernel
theorem dX5_goOutward_61 : decode cX5_goOutward 61 = .ok (.aload_n 0, 1) := by decide +kernel
theorem dX5_goOutward_62 : decode cX5_goOutward 62 = .ok (.iconst 1, 1) := by decide +kernel
theorem dX5_goOutward_63 : decode cX5_goOutward 63 = .ok (.putfield 116, 3) := by decide +kernel
theorem dX5_goOutward_66 : decode cX5_goOutward 66 = .ok (.return_, 1) := by decide +kernel
theorem dX5_goOutward_36 : decode cX5_goOutward 36 = .ok (.aload_n 0, 1) := by decide +kernel
theorem dX5_goOutward_37 : decode cX5_goOutward 37 = .ok (.iload_n 2, 1) := by decide +kernel
theorem dX5_goOutward_38 : decode cX5_goOutward 38 = .ok (.bipush (-2), 2) := by decide +kernel
theorem dX5_goOutward_40 : decode cX5_goOutward 40 = .ok (.aload_n 0, 1) := by decide +kernel
theorem dX5_goOutward_41 : decode cX5_goOutward 41 = .ok (.getfield 43, 3) := by decide +kernel
theorem dX5_goOutward_44 : decode cX5_goOutward 44 = .ok (.invokevirtual 334, 3) := by decide +kernel
theorem dX5_goOutward_47 : decode cX5_goOutward 47 = .ok (.aload_n 0, 1) := by decide +kernel
theorem dX5_goOutward_48 : decode cX5_goOutward 48 = .ok (.lconst 0, 1) := by decide +kernel
theorem dX5_goOutward_49 : decode cX5_goOutward 49 = .ok (.putfield 43, 3) := by decide +kernel
theorem dX5_goOutward_52 : decode cX5_goOutward 52 = .ok (.return_, 1) := by decide +kernel
theorem hV_X5_handlerOf : yX5_handlerOf.cls = RX5 ∧ yX5_handlerOf.cls ≠ "java/lang/invoke/MethodHandle" ∧ yX5_handlerOf.cls ≠ "java/lang/invoke/VarHandle" ∧ (parseMethodDescriptor yX5_handlerOf.desc).map (fun d => d.parameters.length) = some 1 := by decide +kernel
set_option maxHeartbeats 30000000 in
set_option maxRecDepth 100000 in
theorem M_goOutward (l : Launch) (G : pT) (h0 : Nat) (a : Nat → Nat) (F : Nat → Int32) (R : Nat → Value) (Z : Int64) (B : Nat → Nat → Int32) (J : Nat → Nat → Int64) (K : PK) (w : va_W) (tp : Nat) (sp : Nat) (op : Nat) (ht : Nat) (pq : Nat) (dr : Nat) (ml : Nat) (nd : Nat) (nm : Nat) (cp : Nat) (it : Nat → Nat) (s9 : Nat) (g : Nat → Nat → Nat) (rk : Nat → Nat) (ba : Nat) (on : Nat) (mo : Option Nat) (rg : Nat) (htp : tp ≤ 32000) (hsp : (sp = 34 ∧ op = 35) ∨ (sp = 35 ∧ op = 34)) (hht : 8 ≤ ht ∧ ht ≤ 3008) (hwp : WPr G K g) (hps : PgT G K g (a 1) pq dr ml nd nm cp it s9) (hrk : RkO K rk) (hba : ba ≤ 32000) (hon : on ≤ 100) (hms : MsO K mo ba) (hfr : FrO K nm it (B 30) on) (hrg : rg ≤ 625) (hO : OKP G h0 a (upd (upd (upd (upd (upd F 6 (nI rg)) 18 (nI ba)) 19 (nI tp)) 22 (nI on)) 26 (nI ht)) (updR (updR (updR (updR R 5 (.ref pq)) 6 (va_rf mo)) 7 (.ref (a sp))) 8 (.ref (a op))) Z B J K w) : PM l G pX0 yX5_goOutward cX5_goOutward 3 none ({ frames := 7, cells := 0, slots := 0, locals := 165 }) [.ref (a 5)] w (fun (v : Option Value) (u : va_W × (Nat × Int32 × Int32 × Int32 × Int32 × (Nat → Nat → Int64) × Int64 × Nat × Nat × Option Nat × (Nat → Int32))) => v = none ∧ (u.2.1 ≤ 32000) ∧ (u.2.2.2.2.2.2.2.2.1 ≤ 32000 ∧ u.2.2.2.2.2.2.2.2.2.1 ≤ 100) ∧ (MsO K u.2.2.2.2.2.2.2.2.2.2.1 u.2.2.2.2.2.2.2.2.1) ∧ (FrO K nm it u.2.2.2.2.2.2.2.2.2.2.2 u.2.2.2.2.2.2.2.2.2.1) ∧ (OKP G h0 a (upd (upd (upd (upd (upd (upd (upd (upd (upd F 6 (nI rg)) 18 (nI u.2.2.2.2.2.2.2.2.1)) 19 (nI u.2.1)) 20 u.2.2.2.2.2.1) 21 u.2.2.2.2.1) 22 (nI u.2.2.2.2.2.2.2.2.2.1)) 23 u.2.2.1) 25 u.2.2.2.1) 26 (nI ht)) (updR (updR (updR (updR R 5 (.ref pq)) 6 (va_rf u.2.2.2.2.2.2.2.2.2.2.1)) 7 (.ref (a sp))) 8 (.ref (a op))) u.2.2.2.2.2.2.2.1 (updA B 30 u.2.2.2.2.2.2.2.2.2.2.2) u.2.2.2.2.2.2.1 K u.1)) (fun u => u.1) := by
  intro sz
  refine Met.ofW (cc := cX5_goOutward) (maxL := 3) (ret := none) (by decide) rfl ?_
  intro p e s m args below meth c s₁ B9 hml hv
  obtain ⟨rfl, hsz, hP, hD0, hE, hX⟩ := hv
  have hx := B9.exec
  have hb := B9.bytes
  have hr := B9.returns
  have hts := atoms_spec (ws := Cond.code yX5_goOutward cX5_goOutward 3 none :: pw) B9.pre
  have hq : ∀ w ∈ pw, w.before _ s = true := fun w h => hts w (List.mem_cons_of_mem _ h)
  have hown : s.vm.findClass RX5 = some m.cls := findClass_of_methodNamed B9.named
  have hlocks := B9.notSynchronized
  subst hsz
  have hD := hD0.self (sz := s.heap.size)
  have hA : ∀ q : Nat, s.heap.size ≤ q → va_A w s.heap.size q := fun q h => Or.inr h
  generalize va_A w s.heap.size = A at hD hE hA ⊢
  have hS : va_S A s.heap s.heap [] := va_S.rf
  have hl := lv_entry ([.ref (a 5)]) (n := 3) (Nat.le_of_ble_eq_true rfl)
  rw [lg_entry_eq]
  generalize (lg_sl ([.ref (a 5)]) ++ List.replicate (3 - (lg_sl ([.ref (a 5)])).length) Slot.unset).toArray = ls at hl ⊢
  have hl : lv_has ls 3 [(0, .ref (a 5))] := hl
  have hpg := hps.1
  have hp1 := hpg.1
  have hp2 := hpg.2.1
  have hp3 := hpg.2.2.1
  have hp4 := hpg.2.2.2.1
  have hp5 := hpg.2.2.2.2.1
  have hp6 := hpg.2.2.2.2.2.1
  have hp8 := hpg.2.2.2.2.2.2.2.1
  have hp9 := hpg.2.2.2.2.2.2.2.2
  refine lv_iconst (v := 0) hx hb dX5_goOutward_0 (by decide) ?_
  refine lv_istore_n (lv' := [(1, .int 0), (0, .ref (a 5))]) hx hb dX5_goOutward_1 rfl hl (by decide) rfl (fun ls hl => ?_)
  have loop_o : ∀ (n_o : Nat) (i2 : Nat) (ba2 : Nat) (on2 : Nat) (tp2 : Nat) (pc2 : Int32) (mo2 : Option Nat) (f2 : Nat → Int32) (H : Heap) (locs : List Loc) (ls : Array Slot) (w : va_W), i2 ≤ 100 → 100 + 1 ≤ i2 + n_o → (ba2 ≤ 32000 ∧ on2 ≤ 100 ∧ tp2 ≤ 32000) → (MsO K mo2 ba2) → (FrO K nm it f2 on2) → va_P G.1 pCl w H → va_D A w → va_S A s.heap H locs → OKP G h0 a (upd (upd (upd (upd (upd (upd F 6 (nI rg)) 18 (nI ba2)) 19 (nI tp2)) 20 pc2) 22 (nI on2)) 26 (nI ht)) (updR (updR (updR (updR R 5 (.ref pq)) 6 (va_rf mo2)) 7 (.ref (a sp))) 8 (.ref (a op))) Z (updA B 30 f2) J K w → lv_has ls 3 [(1, .int (nI i2)), (0, .ref (a 5))] → W p l e (headSpec (Cond.code yX5_goOutward cX5_goOutward 3 none :: pw) ({ frames := 7, cells := 0, slots := 0, locals := 165 } : Room)).room s m ([.ref (a 5)] : List Value).toArray below meth c H locs 0 0 (MQ below (pQ G A (fun (v : Option Value) (u : va_W × (Nat × Int32 × Int32 × Int32 × Int32 × (Nat → Nat → Int64) × Int64 × Nat × Nat × Option Nat × (Nat → Int32))) => v = none ∧ (u.2.1 ≤ 32000) ∧ (u.2.2.2.2.2.2.2.2.1 ≤ 32000 ∧ u.2.2.2.2.2.2.2.2.2.1 ≤ 100) ∧ (MsO K u.2.2.2.2.2.2.2.2.2.2.1 u.2.2.2.2.2.2.2.2.1) ∧ (FrO K nm it u.2.2.2.2.2.2.2.2.2.2.2 u.2.2.2.2.2.2.2.2.2.1) ∧ (OKP G h0 a (upd (upd (upd (upd (upd (upd (upd (upd (upd F 6 (nI rg)) 18 (nI u.2.2.2.2.2.2.2.2.1)) 19 (nI u.2.1)) 20 u.2.2.2.2.2.1) 21 u.2.2.2.2.1) 22 (nI u.2.2.2.2.2.2.2.2.2.1)) 23 u.2.2.1) 25 u.2.2.2.1) 26 (nI ht)) (updR (updR (updR (updR R 5 (.ref pq)) 6 (va_rf u.2.2.2.2.2.2.2.2.2.2.1)) 7 (.ref (a sp))) 8 (.ref (a op))) u.2.2.2.2.2.2.2.1 (updA B 30 u.2.2.2.2.2.2.2.2.2.2.2) u.2.2.2.2.2.2.1 K u.1)) (fun u => u.1)) ([.ref (a 5)] : List Value).toArray s ({ frames := 7, cells := 0, slots := 0, locals := 165 } : Room).cells ({ frames := 7, cells := 0, slots := 0, locals := 165 } : Room).slots A) (F0 m 2 ls []) := by
    intro n_o
    induction n_o with
    | zero => intro i2 ba2 on2 tp2 pc2 mo2 f2 H locs ls w hk_o hn_o; omega
    | succ n_o ih_o =>
      intro i2 ba2 on2 tp2 pc2 mo2 f2 H locs ls w hk_o hn_o hba2 hms2 hfr2 hP hD hS hO hl
      rcases mo2 with _ | m9
      · have hl : lv_has ls 3 [(1, .int (nI i2)), (0, .ref (a 5))] := hl
        refine W.eq (g2 := F0 m 2 ls []) rfl ?_
        have hO : OKP G h0 a (upd (upd (upd (upd (upd (upd F 6 (nI rg)) 18 (nI ba2)) 19 (nI tp2)) 20 pc2) 22 (nI on2)) 26 (nI ht)) (updR (updR (updR (updR R 5 (.ref pq)) 6 (.null)) 7 (.ref (a sp))) 8 (.ref (a op))) Z (updA B 30 f2) J K w := hO.to rfl
        refine lv_iload_n hx hb dX5_goOutward_2 rfl (lv_at hl 0 rfl) ?_
        refine lv_bipush (v := 100) hx hb dX5_goOutward_3 (by decide) ?_
        refine lv_icmp_ge (tgt := 77) hx hb dX5_goOutward_5 (by decide) (fun c1 => ?_) (fun c1 => ?_)
        · have n2 : 100 ≤ i2 := (nI_leI (a := 100) (b := i2) (by omega) (by omega)).mp c1
          refine lv_aload_n hx hb dX5_goOutward_77 rfl (lv_at hl 1 rfl) ?_
          have hO : OKW G h0 a (upd (upd (upd (upd (upd (upd F 6 (nI rg)) 18 (nI ba2)) 19 (nI tp2)) 20 pc2) 22 (nI on2)) 26 (nI ht)) (updR (updR (updR (updR R 5 (.ref pq)) 6 (.null)) 7 (.ref (a sp))) 8 (.ref (a op))) Z (updA B 30 f2) J K.1 (fun q99 x99 => x99 = rep G a K q99) w := hO.to rfl
          obtain ⟨_, qr6, hqr7⟩ := hO.2.1 28 _ (sg_28 G h0 a _ _ _ _ _)
          refine pc_V0 (G := G) (As := []) (rest := []) hx hb hml hown hq hE hX pX0_al hP hD hS hA hl.1 (M_refuse l G h0 a (upd (upd (upd (upd (upd (upd F 6 (nI rg)) 18 (nI ba2)) 19 (nI tp2)) 20 pc2) 22 (nI on2)) 26 (nI ht)) (updR (updR (updR (updR R 5 (.ref pq)) 6 (.null)) 7 (.ref (a sp))) 8 (.ref (a op))) Z (updA B 30 f2) J K.1 (fun q99 x99 => x99 = rep G a K q99) w hO) (gV pw_536 pw_537 pw_538 pw_539 pw_511) hV_X5_refuse qr6 4 hqr7 rfl rfl rfl (Nat.le_of_ble_eq_true rfl) dX5_goOutward_78 ⟨Nat.le_of_ble_eq_true rfl, Nat.le_of_ble_eq_true rfl⟩ ⟨Nat.le_of_ble_eq_true rfl, Nat.le_of_ble_eq_true rfl⟩ (fun v5 u3 H locs hw4 hP hD hS => ?_)
          obtain ⟨w, en8, rf9⟩ := u3
          obtain ⟨hw4, hO⟩ := hw4
          obtain rfl : v5 = none := hw4
          have hO : OKP G h0 a (upd (upd (upd (upd (upd (upd (upd (upd F 6 (nI rg)) 18 (nI ba2)) 19 (nI tp2)) 20 pc2) 22 (nI on2)) 23 en8) 25 rf9) 26 (nI ht)) (updR (updR (updR (updR R 5 (.ref pq)) 6 (.null)) 7 (.ref (a sp))) 8 (.ref (a op))) Z (updA B 30 f2) J K w := hO.to rfl
          refine W.widen (k := 0) (n := 0) (Nat.le_of_ble_eq_true rfl) (Nat.le_of_ble_eq_true rfl) ?_
          refine W.eq (g2 := F0 m 81 ls []) rfl ?_
          have hz10 : tp2 ≤ 32000 := (by omega)
          have hz11 : ba2 ≤ 32000 ∧ on2 ≤ 100 := (by omega)
          have hz12 : MsO K none ba2 := hms2
          have hz13 : FrO K nm it f2 on2 := hfr2
          have hO : OKP G h0 a (upd (upd (upd (upd (upd (upd (upd (upd (upd F 6 (nI rg)) 18 (nI ba2)) 19 (nI tp2)) 20 pc2) 21 (F 21)) 22 (nI on2)) 23 en8) 25 rf9) 26 (nI ht)) (updR (updR (updR (updR R 5 (.ref pq)) 6 (va_rf none)) 7 (.ref (a sp))) 8 (.ref (a op))) Z (updA B 30 f2) J K w := hO.to rfl
          exact W.vret hx hb hr (fun t99 ht99 hW99 => ⟨⟨_, (w, (tp2, en8, rf9, (F 21), pc2, J, Z, ba2, on2, none, f2)), rfl, ⟨rfl, hz10, hz11, hz12, hz13, hO⟩, by rw [ht99]; exact hP, hD⟩, hS.F ht99⟩) hS.2.2 dX5_goOutward_81
        · have n14 : ¬ (100 ≤ i2) := fun h9 => c1 ((nI_leI (a := 100) (b := i2) (by omega) (by omega)).mpr h9)
          refine lv_aload_n hx hb dX5_goOutward_8 rfl (lv_at hl 1 rfl) ?_
          refine c_get (v := .null) (C := RX5) (Tc := TX5) (N := 19) (ci := 4) hx hb hq pin_wsX50 hown hE hP hO 28 (sg_28 G h0 a _ _ _ _ _) rfl 9 (by decide) (hq _ pw_503) (fun _ h9 => h9) rfl dX5_goOutward_9 ?_
          refine lv_ifnullN (tgt := 77) hx hb dX5_goOutward_12 (by decide) ?_
          refine lv_aload_n hx hb dX5_goOutward_77 rfl (lv_at hl 1 rfl) ?_
          have hO : OKW G h0 a (upd (upd (upd (upd (upd (upd F 6 (nI rg)) 18 (nI ba2)) 19 (nI tp2)) 20 pc2) 22 (nI on2)) 26 (nI ht)) (updR (updR (updR (updR R 5 (.ref pq)) 6 (.null)) 7 (.ref (a sp))) 8 (.ref (a op))) Z (updA B 30 f2) J K.1 (fun q99 x99 => x99 = rep G a K q99) w := hO.to rfl
          obtain ⟨_, qr18, hqr19⟩ := hO.2.1 28 _ (sg_28 G h0 a _ _ _ _ _)
          refine pc_V0 (G := G) (As := []) (rest := []) hx hb hml hown hq hE hX pX0_al hP hD hS hA hl.1 (M_refuse l G h0 a (upd (upd (upd (upd (upd (upd F 6 (nI rg)) 18 (nI ba2)) 19 (nI tp2)) 20 pc2) 22 (nI on2)) 26 (nI ht)) (updR (updR (updR (updR R 5 (.ref pq)) 6 (.null)) 7 (.ref (a sp))) 8 (.ref (a op))) Z (updA B 30 f2) J K.1 (fun q99 x99 => x99 = rep G a K q99) w hO) (gV pw_536 pw_537 pw_538 pw_539 pw_511) hV_X5_refuse qr18 4 hqr19 rfl rfl rfl (Nat.le_of_ble_eq_true rfl) dX5_goOutward_78 ⟨Nat.le_of_ble_eq_true rfl, Nat.le_of_ble_eq_true rfl⟩ ⟨Nat.le_of_ble_eq_true rfl, Nat.le_of_ble_eq_true rfl⟩ (fun v17 u15 H locs hw16 hP hD hS => ?_)
          obtain ⟨w, en20, rf21⟩ := u15
          obtain ⟨hw16, hO⟩ := hw16
          obtain rfl : v17 = none := hw16
          have hO : OKP G h0 a (upd (upd (upd (upd (upd (upd (upd (upd F 6 (nI rg)) 18 (nI ba2)) 19 (nI tp2)) 20 pc2) 22 (nI on2)) 23 en20) 25 rf21) 26 (nI ht)) (updR (updR (updR (updR R 5 (.ref pq)) 6 (.null)) 7 (.ref (a sp))) 8 (.ref (a op))) Z (updA B 30 f2) J K w := hO.to rfl
          refine W.widen (k := 0) (n := 0) (Nat.le_of_ble_eq_true rfl) (Nat.le_of_ble_eq_true rfl) ?_
          refine W.eq (g2 := F0 m 81 ls []) rfl ?_
          have hz22 : tp2 ≤ 32000 := (by omega)
          have hz23 : ba2 ≤ 32000 ∧ on2 ≤ 100 := (by omega)
          have hz24 : MsO K none ba2 := hms2
          have hz25 : FrO K nm it f2 on2 := hfr2
          have hO : OKP G h0 a (upd (upd (upd (upd (upd (upd (upd (upd (upd F 6 (nI rg)) 18 (nI ba2)) 19 (nI tp2)) 20 pc2) 21 (F 21)) 22 (nI on2)) 23 en20) 25 rf21) 26 (nI ht)) (updR (updR (updR (updR R 5 (.ref pq)) 6 (va_rf none)) 7 (.ref (a sp))) 8 (.ref (a op))) Z (updA B 30 f2) J K w := hO.to rfl
          exact W.vret hx hb hr (fun t99 ht99 hW99 => ⟨⟨_, (w, (tp2, en20, rf21, (F 21), pc2, J, Z, ba2, on2, none, f2)), rfl, ⟨rfl, hz22, hz23, hz24, hz25, hO⟩, by rw [ht99]; exact hP, hD⟩, hS.F ht99⟩) hS.2.2 dX5_goOutward_81
      · have hl : lv_has ls 3 [(1, .int (nI i2)), (0, .ref (a 5))] := hl
        refine W.eq (g2 := F0 m 2 ls []) rfl ?_
        have hO : OKP G h0 a (upd (upd (upd (upd (upd (upd F 6 (nI rg)) 18 (nI ba2)) 19 (nI tp2)) 20 pc2) 22 (nI on2)) 26 (nI ht)) (updR (updR (updR (updR R 5 (.ref pq)) 6 (.ref m9)) 7 (.ref (a sp))) 8 (.ref (a op))) Z (updA B 30 f2) J K w := hO.to rfl
        have hmT := (hms2 m9 rfl).1
        refine lv_iload_n hx hb dX5_goOutward_2 rfl (lv_at hl 0 rfl) ?_
        refine lv_bipush (v := 100) hx hb dX5_goOutward_3 (by decide) ?_
        refine lv_icmp_ge (tgt := 77) hx hb dX5_goOutward_5 (by decide) (fun c26 => ?_) (fun c26 => ?_)
        · have n27 : 100 ≤ i2 := (nI_leI (a := 100) (b := i2) (by omega) (by omega)).mp c26
          refine lv_aload_n hx hb dX5_goOutward_77 rfl (lv_at hl 1 rfl) ?_
          have hO : OKW G h0 a (upd (upd (upd (upd (upd (upd F 6 (nI rg)) 18 (nI ba2)) 19 (nI tp2)) 20 pc2) 22 (nI on2)) 26 (nI ht)) (updR (updR (updR (updR R 5 (.ref pq)) 6 (.ref m9)) 7 (.ref (a sp))) 8 (.ref (a op))) Z (updA B 30 f2) J K.1 (fun q99 x99 => x99 = rep G a K q99) w := hO.to rfl
          obtain ⟨_, qr31, hqr32⟩ := hO.2.1 28 _ (sg_28 G h0 a _ _ _ _ _)
          refine pc_V0 (G := G) (As := []) (rest := []) hx hb hml hown hq hE hX pX0_al hP hD hS hA hl.1 (M_refuse l G h0 a (upd (upd (upd (upd (upd (upd F 6 (nI rg)) 18 (nI ba2)) 19 (nI tp2)) 20 pc2) 22 (nI on2)) 26 (nI ht)) (updR (updR (updR (updR R 5 (.ref pq)) 6 (.ref m9)) 7 (.ref (a sp))) 8 (.ref (a op))) Z (updA B 30 f2) J K.1 (fun q99 x99 => x99 = rep G a K q99) w hO) (gV pw_536 pw_537 pw_538 pw_539 pw_511) hV_X5_refuse qr31 4 hqr32 rfl rfl rfl (Nat.le_of_ble_eq_true rfl) dX5_goOutward_78 ⟨Nat.le_of_ble_eq_true rfl, Nat.le_of_ble_eq_true rfl⟩ ⟨Nat.le_of_ble_eq_true rfl, Nat.le_of_ble_eq_true rfl⟩ (fun v30 u28 H locs hw29 hP hD hS => ?_)
          obtain ⟨w, en33, rf34⟩ := u28
          obtain ⟨hw29, hO⟩ := hw29
          obtain rfl : v30 = none := hw29
          have hO : OKP G h0 a (upd (upd (upd (upd (upd (upd (upd (upd F 6 (nI rg)) 18 (nI ba2)) 19 (nI tp2)) 20 pc2) 22 (nI on2)) 23 en33) 25 rf34) 26 (nI ht)) (updR (updR (updR (updR R 5 (.ref pq)) 6 (.ref m9)) 7 (.ref (a sp))) 8 (.ref (a op))) Z (updA B 30 f2) J K w := hO.to rfl
          refine W.widen (k := 0) (n := 0) (Nat.le_of_ble_eq_true rfl) (Nat.le_of_ble_eq_true rfl) ?_
          refine W.eq (g2 := F0 m 81 ls []) rfl ?_
          have hz35 : tp2 ≤ 32000 := (by omega)
          have hz36 : ba2 ≤ 32000 ∧ on2 ≤ 100 := (by omega)
          have hz37 : MsO K (some m9) ba2 := hms2
          have hz38 : FrO K nm it f2 on2 := hfr2
          have hO : OKP G h0 a (upd (upd (upd (upd (upd (upd (upd (upd (upd F 6 (nI rg)) 18 (nI ba2)) 19 (nI tp2)) 20 pc2) 21 (F 21)) 22 (nI on2)) 23 en33) 25 rf34) 26 (nI ht)) (updR (updR (updR (updR R 5 (.ref pq)) 6 (va_rf (some m9))) 7 (.ref (a sp))) 8 (.ref (a op))) Z (updA B 30 f2) J K w := hO.to rfl
          exact W.vret hx hb hr (fun t99 ht99 hW99 => ⟨⟨_, (w, (tp2, en33, rf34, (F 21), pc2, J, Z, ba2, on2, (some m9), f2)), rfl, ⟨rfl, hz35, hz36, hz37, hz38, hO⟩, by rw [ht99]; exact hP, hD⟩, hS.F ht99⟩) hS.2.2 dX5_goOutward_81
        · have n39 : ¬ (100 ≤ i2) := fun h9 => c26 ((nI_leI (a := 100) (b := i2) (by omega) (by omega)).mpr h9)
          refine lv_aload_n hx hb dX5_goOutward_8 rfl (lv_at hl 1 rfl) ?_
          refine c_get (v := .ref m9) (C := RX5) (Tc := TX5) (N := 19) (ci := 4) hx hb hq pin_wsX50 hown hE hP hO 28 (sg_28 G h0 a _ _ _ _ _) rfl 9 (by decide) (hq _ pw_503) (fun _ h9 => h9) rfl dX5_goOutward_9 ?_
          refine lv_ifnull hx hb dX5_goOutward_12 ?_
          refine lv_aload_n hx hb dX5_goOutward_15 rfl (lv_at hl 1 rfl) ?_
          refine lv_aload_n hx hb dX5_goOutward_16 rfl (lv_at hl 1 rfl) ?_
          refine c_get (v := .ref (a 28)) (C := RX5) (Tc := TX5) (N := 19) (ci := 4) hx hb hq pin_wsX50 hown hE hP hO 28 (sg_28 G h0 a _ _ _ _ _) rfl 1 (by decide) (hq _ pw_473) (fun _ h9 => h9) rfl dX5_goOutward_17 ?_
          refine lv_aload_n hx hb dX5_goOutward_20 rfl (lv_at hl 1 rfl) ?_
          refine c_get (v := .long Z) (C := RX5) (Tc := TX5) (N := 19) (ci := 4) hx hb hq pin_wsX50 hown hE hP hO 28 (sg_28 G h0 a _ _ _ _ _) rfl 14 (by decide) (hq _ pw_485) (fun _ h9 => h9) rfl dX5_goOutward_21 ?_
          have hO : OKW G h0 a (upd (upd (upd (upd (upd (upd (upd F 6 (nI rg)) 18 (nI ba2)) 19 (nI tp2)) 20 pc2) 22 (nI on2)) 26 (nI ht)) 26 (nI ht)) (updR (updR (updR (updR (updR (updR R 5 (.ref pq)) 6 (.ref m9)) 7 (.ref (a sp))) 8 (.ref (a op))) 7 (.ref (a sp))) 8 (.ref (a op))) Z (updA B 30 f2) J K.1 (fun q99 x99 => x99 = rep G a K q99) w := hO.to rfl
          obtain ⟨_, qr43, hqr44⟩ := hO.2.1 29 _ (sg_29 G h0 a _ _ _ _ _)
          refine pc_V0 (G := G) (As := [.long Z]) (rest := [.ref (a 5)]) hx hb hml hown hq hE hX pX0_al hP hD hS hA hl.1 (K_typeOf l G h0 a (upd (upd (upd (upd (upd (upd F 6 (nI rg)) 18 (nI ba2)) 19 (nI tp2)) 20 pc2) 22 (nI on2)) 26 (nI ht)) (updR (updR (updR (updR R 5 (.ref pq)) 6 (.ref m9)) 7 (.ref (a sp))) 8 (.ref (a op))) Z (updA B 30 f2) J K.1 (fun q99 x99 => x99 = rep G a K q99) w Z sp op ht hsp (by omega) hO) (gV pw_489 pw_490 pw_491 pw_440 pw_441) hV_X3_typeOf qr43 3 hqr44 rfl rfl rfl (Nat.le_of_ble_eq_true rfl) dX5_goOutward_24 ⟨Nat.le_of_ble_eq_true rfl, Nat.le_of_ble_eq_true rfl⟩ ⟨Nat.le_of_ble_eq_true rfl, Nat.le_of_ble_eq_true rfl⟩ (fun v42 u40 H locs hw41 hP hD hS => ?_)
          obtain ⟨w, r45⟩ := u40
          obtain ⟨hw41, hO⟩ := hw41
          obtain rfl : v42 = some (.int r45) := hw41
          have hO : OKP G h0 a (upd (upd (upd (upd (upd (upd F 6 (nI rg)) 18 (nI ba2)) 19 (nI tp2)) 20 pc2) 22 (nI on2)) 26 (nI ht)) (updR (updR (updR (updR R 5 (.ref pq)) 6 (.ref m9)) 7 (.ref (a sp))) 8 (.ref (a op))) Z (updA B 30 f2) J K w := hO.to rfl
          refine W.widen (k := 0) (n := 0) (Nat.le_of_ble_eq_true rfl) (Nat.le_of_ble_eq_true rfl) ?_
          refine W.eq (g2 := F0 m 27 ls [.int r45, .ref (a 5)]) rfl ?_
          have hO : OKP G h0 a (upd (upd (upd (upd (upd (upd (upd F 6 (nI rg)) 18 (nI ba2)) 19 (nI tp2)) 20 pc2) 22 (nI on2)) 26 (nI ht)) 6 (nI rg)) (updR (updR (updR (updR (updR (updR R 5 (.ref pq)) 6 (.ref m9)) 7 (.ref (a sp))) 8 (.ref (a op))) 5 (.ref pq)) 6 (.ref m9)) Z (updA B 30 f2) J K w := hO.to rfl
          obtain ⟨_, qr49, hqr50⟩ := hO.2.1 28 _ (sg_28 G h0 a _ _ _ _ _)
          refine pc_V0 (G := G) (As := [.int r45]) (rest := []) hx hb hml hown hq hE hX pX0_al hP hD hS hA hl.1 (M_handlerOf l G h0 a (upd (upd (upd (upd (upd (upd F 6 (nI rg)) 18 (nI ba2)) 19 (nI tp2)) 20 pc2) 22 (nI on2)) 26 (nI ht)) (updR (updR (updR (updR R 5 (.ref pq)) 6 (.ref m9)) 7 (.ref (a sp))) 8 (.ref (a op))) Z (updA B 30 f2) J K w m9 rg r45 pq dr ml nd g hps.1 hps.2.1 (by omega) hmT hO) (gV pw_728 pw_729 pw_730 pw_539 pw_727) hV_X5_handlerOf qr49 4 hqr50 rfl rfl rfl (Nat.le_of_ble_eq_true rfl) dX5_goOutward_27 ⟨Nat.le_of_ble_eq_true rfl, Nat.le_of_ble_eq_true rfl⟩ ⟨Nat.le_of_ble_eq_true rfl, Nat.le_of_ble_eq_true rfl⟩ (fun v48 u46 H locs hw47 hP hD hS => ?_)
          obtain ⟨w, r51⟩ := u46
          obtain ⟨hw47, hO⟩ := hw47
          obtain rfl : v48 = some (.int r51) := hw47
          have hO : OKP G h0 a (upd (upd (upd (upd (upd (upd F 6 (nI rg)) 18 (nI ba2)) 19 (nI tp2)) 20 pc2) 22 (nI on2)) 26 (nI ht)) (updR (updR (updR (updR R 5 (.ref pq)) 6 (.ref m9)) 7 (.ref (a sp))) 8 (.ref (a op))) Z (updA B 30 f2) J K w := hO.to rfl
          refine W.widen (k := 0) (n := 0) (Nat.le_of_ble_eq_true rfl) (Nat.le_of_ble_eq_true rfl) ?_
          refine W.eq (g2 := F0 m 30 ls [.int r51]) rfl ?_
          refine lv_istore_n (lv' := [(2, .int r51), (1, .int (nI i2)), (0, .ref (a 5))]) hx hb dX5_goOutward_30 rfl hl (by decide) rfl (fun ls hl => ?_)
          refine lv_iload_n hx hb dX5_goOutward_31 rfl (lv_at hl 0 rfl) ?_
          refine lv_iconst (v := (-1)) hx hb dX5_goOutward_32 (by decide) ?_
          refine lv_icmp_eq (tgt := 53) hx hb dX5_goOutward_33 (by decide) (fun c52 => ?_) (fun c52 => ?_)
          · refine lv_aload_n hx hb dX5_goOutward_53 rfl (lv_at hl 2 rfl) ?_
            refine c_get (v := .int (nI on2)) (C := RX5) (Tc := TX5) (N := 19) (ci := 4) hx hb hq pin_wsX50 hown hE hP hO 28 (sg_28 G h0 a _ _ _ _ _) rfl 15 (by decide) (hq _ pw_502) (fun _ h9 => h9) rfl dX5_goOutward_54 ?_
            refine lv_iconst (v := 1) hx hb dX5_goOutward_57 (by decide) ?_
            refine lv_icmp_gt (tgt := 67) hx hb dX5_goOutward_58 (by decide) (fun c53 => ?_) (fun c53 => ?_)
            · have n54 : 1 < on2 := (nI_ltI (a := 1) (b := on2) (by omega) (by omega)).mp c53
              refine lv_aload_n hx hb dX5_goOutward_67 rfl (lv_at hl 2 rfl) ?_
              have hO : OKP G h0 a (upd (upd (upd (upd (upd (upd (upd (upd (upd F 6 (nI rg)) 18 (nI ba2)) 19 (nI tp2)) 20 pc2) 22 (nI on2)) 26 (nI ht)) 18 (nI ba2)) 19 (nI tp2)) 22 (nI on2)) (updR (updR (updR (updR (updR (updR R 5 (.ref pq)) 6 (.ref m9)) 7 (.ref (a sp))) 8 (.ref (a op))) 5 (.ref pq)) 6 (va_rf (some m9))) Z (updA B 30 f2) J K w := hO.to rfl
              obtain ⟨_, qr58, hqr59⟩ := hO.2.1 28 _ (sg_28 G h0 a _ _ _ _ _)
              refine pc_V0 (G := G) (As := []) (rest := []) hx hb hml hown hq hE hX pX0_al hP hD hS hA hl.1 (M_close l G h0 a (upd (upd (upd (upd (upd (upd F 6 (nI rg)) 18 (nI ba2)) 19 (nI tp2)) 20 pc2) 22 (nI on2)) 26 (nI ht)) (updR (updR (updR (updR R 5 (.ref pq)) 6 (.ref m9)) 7 (.ref (a sp))) 8 (.ref (a op))) Z (updA B 30 f2) J K w tp2 pq dr ml nd nm cp it s9 g rk ba2 on2 (some m9) (by omega) hwp hps hrk (by omega) (by omega) hms2 hfr2 (by omega) hO) (gV pw_703 pw_704 pw_705 pw_539 pw_701) hV_X5_close qr58 4 hqr59 rfl rfl rfl (Nat.le_of_ble_eq_true rfl) dX5_goOutward_68 ⟨Nat.le_of_ble_eq_true rfl, Nat.le_of_ble_eq_true rfl⟩ ⟨Nat.le_of_ble_eq_true rfl, Nat.le_of_ble_eq_true rfl⟩ (fun v57 u55 H locs hw56 hP hD hS => ?_)
              obtain ⟨w, tp60, pc61, ba62, on63, mo64, fr65⟩ := u55
              obtain ⟨hw56, h66, h67, h68, h69, hO⟩ := hw56
              have h66 : tp60 ≤ 32000 := h66
              have h67 : ba62 ≤ 32000 ∧ on63 ≤ 100 := h67
              have h68 : MsO K mo64 ba62 := h68
              have h69 : FrO K nm it fr65 on63 := h69
              obtain rfl : v57 = none := hw56
              have hO : OKP G h0 a (upd (upd (upd (upd (upd (upd F 6 (nI rg)) 18 (nI ba62)) 19 (nI tp60)) 20 pc61) 22 (nI on63)) 26 (nI ht)) (updR (updR (updR (updR R 5 (.ref pq)) 6 (va_rf mo64)) 7 (.ref (a sp))) 8 (.ref (a op))) Z (updA B 30 fr65) J K w := hO.to rfl
              refine W.widen (k := 0) (n := 0) (Nat.le_of_ble_eq_true rfl) (Nat.le_of_ble_eq_true rfl) ?_
              refine W.eq (g2 := F0 m 71 ls []) rfl ?_
              refine lv_iinc (v := (nI (i2 + 1))) (lv' := [(1, .int (nI (i2 + 1))), (2, .int r51), (0, .ref (a 5))]) hx hb dX5_goOutward_71 hl (k := 1) rfl (nI_1 i2) (by decide) rfl (fun ls hl => ?_)
              refine lv_goto (tgt := 2) hx hb dX5_goOutward_74 (by decide) ?_
              have hO : OKP G h0 a (upd (upd (upd (upd (upd (upd F 6 (nI rg)) 18 (nI ba62)) 19 (nI tp60)) 20 pc61) 22 (nI on63)) 26 (nI ht)) (updR (updR (updR (updR R 5 (.ref pq)) 6 (va_rf mo64)) 7 (.ref (a sp))) 8 (.ref (a op))) Z (updA B 30 fr65) J K w := hO.to rfl
              exact ih_o (i2 + 1) ba62 on63 tp60 pc61 mo64 fr65 _ _ _ _ (by omega) (by omega) (by omega) h68 h69 hP hD hS hO (lv_sub hl [0, 2] rfl)
            · have n70 : ¬ (1 < on2) := fun h9 => c53 ((nI_ltI (a := 1) (b := on2) (by omega) (by omega)).mpr h9)
              refine lv_aload_n hx hb dX5_goOutward_61 rfl (lv_at hl 2 rfl) ?_
              refine lv_iconst (v := 1) hx hb dX5_goOutward_62 (by decide) ?_
              refine c_put (v := .int 1) (ty := .int) (C := RX5) (Tc := TX5) (N := 19) (ci := 4) hx hb hq pin_wsX50 tyX5 tyX5_ok nmX5 hown hE hP hD hS hO 28 (sg_28 G h0 a _ _ _ _ _) rfl 16 (by decide) (hq _ pw_513) (fun _ h9 => h9) rfl (by decide +kernel) rfl rfl (Nat.le_of_ble_eq_true rfl) (sf_23 G h0 a _ _ _ _ _ 1) dX5_goOutward_63 (fun H locs w hP hD hS hO => ?_)
              have hz71 : tp2 ≤ 32000 := (by omega)
              have hz72 : ba2 ≤ 32000 ∧ on2 ≤ 100 := (by omega)
              have hz73 : MsO K (some m9) ba2 := hms2
              have hz74 : FrO K nm it f2 on2 := hfr2
              have hO : OKP G h0 a (upd (upd (upd (upd (upd (upd (upd (upd (upd F 6 (nI rg)) 18 (nI ba2)) 19 (nI tp2)) 20 pc2) 21 (F 21)) 22 (nI on2)) 23 (1 : Int32)) 25 (F 25)) 26 (nI ht)) (updR (updR (updR (updR R 5 (.ref pq)) 6 (va_rf (some m9))) 7 (.ref (a sp))) 8 (.ref (a op))) Z (updA B 30 f2) J K w := hO.to rfl
              exact W.vret hx hb hr (fun t99 ht99 hW99 => ⟨⟨_, (w, (tp2, (1 : Int32), (F 25), (F 21), pc2, J, Z, ba2, on2, (some m9), f2)), rfl, ⟨rfl, hz71, hz72, hz73, hz74, hO⟩, by rw [ht99]; exact hP, hD⟩, hS.F ht99⟩) hS.2.2 dX5_goOutward_66
          · refine lv_aload_n hx hb dX5_goOutward_36 rfl (lv_at hl 2 rfl) ?_
            refine lv_iload_n hx hb dX5_goOutward_37 rfl (lv_at hl 0 rfl) ?_
            refine lv_bipush (v := (-2)) hx hb dX5_goOutward_38 (by decide) ?_
            refine lv_aload_n hx hb dX5_goOutward_40 rfl (lv_at hl 2 rfl) ?_
            refine c_get (v := .long Z) (C := RX5) (Tc := TX5) (N := 19) (ci := 4) hx hb hq pin_wsX50 hown hE hP hO 28 (sg_28 G h0 a _ _ _ _ _) rfl 14 (by decide) (hq _ pw_485) (fun _ h9 => h9) rfl dX5_goOutward_41 ?_
            have hO : OKP G h0 a (upd (upd (upd (upd (upd (upd (upd (upd (upd F 6 (nI rg)) 18 (nI ba2)) 19 (nI tp2)) 20 pc2) 22 (nI on2)) 26 (nI ht)) 6 (nI rg)) 18 (nI ba2)) 19 (nI tp2)) (updR (updR (updR (updR (updR R 5 (.ref pq)) 6 (.ref m9)) 7 (.ref (a sp))) 8 (.ref (a op))) 6 (.ref m9)) Z (updA B 30 f2) J K w := hO.to rfl
            obtain ⟨_, qr78, hqr79⟩ := hO.2.1 28 _ (sg_28 G h0 a _ _ _ _ _)
            refine pc_V0 (G := G) (As := [.int r51, .int (-2), .long Z]) (rest := []) hx hb hml hown hq hE hX pX0_al hP hD hS hA hl.1 (M_land l G h0 a (upd (upd (upd (upd (upd (upd F 6 (nI rg)) 18 (nI ba2)) 19 (nI tp2)) 20 pc2) 22 (nI on2)) 26 (nI ht)) (updR (updR (updR (updR R 5 (.ref pq)) 6 (.ref m9)) 7 (.ref (a sp))) 8 (.ref (a op))) Z (updA B 30 f2) J K w m9 ba2 rg r51 (-2) Z g tp2 (by omega) (by omega) hms2 hwp hO) (gV pw_712 pw_713 pw_714 pw_539 pw_700) hV_X5_land qr78 4 hqr79 rfl rfl rfl (Nat.le_of_ble_eq_true rfl) dX5_goOutward_44 ⟨Nat.le_of_ble_eq_true rfl, Nat.le_of_ble_eq_true rfl⟩ ⟨Nat.le_of_ble_eq_true rfl, Nat.le_of_ble_eq_true rfl⟩ (fun v77 u75 H locs hw76 hP hD hS => ?_)
            obtain ⟨w, tp80, nx81, J82⟩ := u75
            obtain ⟨hw76, h83, hO⟩ := hw76
            have h83 : tp80 ≤ 32000 := h83
            obtain rfl : v77 = none := hw76
            have hO : OKP G h0 a (upd (upd (upd (upd (upd (upd (upd F 6 (nI rg)) 18 (nI ba2)) 19 (nI tp80)) 20 pc2) 21 nx81) 22 (nI on2)) 26 (nI ht)) (updR (updR (updR (updR R 5 (.ref pq)) 6 (.ref m9)) 7 (.ref (a sp))) 8 (.ref (a op))) Z (updA B 30 f2) J82 K w := hO.to rfl
            refine W.widen (k := 0) (n := 0) (Nat.le_of_ble_eq_true rfl) (Nat.le_of_ble_eq_true rfl) ?_
            refine W.eq (g2 := F0 m 47 ls []) rfl ?_
            refine lv_aload_n hx hb dX5_goOutward_47 rfl (lv_at hl 2 rfl) ?_
            refine lv_lconst (v := 0) hx hb dX5_goOutward_48 (by decide) ?_
            refine c_put (v := .long 0) (ty := .long) (C := RX5) (Tc := TX5) (N := 19) (ci := 4) hx hb hq pin_wsX50 tyX5 tyX5_ok nmX5 hown hE hP hD hS hO 28 (sg_28 G h0 a _ _ _ _ _) rfl 14 (by decide) (hq _ pw_485) (fun _ h9 => h9) rfl (by decide +kernel) rfl rfl (Nat.le_of_ble_eq_true rfl) (sz G h0 a _ _ _ _ _ 0) dX5_goOutward_49 (fun H locs w hP hD hS hO => ?_)
            have hz84 : tp80 ≤ 32000 := (by omega)
            have hz85 : ba2 ≤ 32000 ∧ on2 ≤ 100 := (by omega)
            have hz86 : MsO K (some m9) ba2 := hms2
            have hz87 : FrO K nm it f2 on2 := hfr2
            have hO : OKP G h0 a (upd (upd (upd (upd (upd (upd (upd (upd (upd F 6 (nI rg)) 18 (nI ba2)) 19 (nI tp80)) 20 pc2) 21 nx81) 22 (nI on2)) 23 (F 23)) 25 (F 25)) 26 (nI ht)) (updR (updR (updR (updR R 5 (.ref pq)) 6 (va_rf (some m9))) 7 (.ref (a sp))) 8 (.ref (a op))) (0 : Int64) (updA B 30 f2) J82 K w := hO.to rfl
            exact W.vret hx hb hr (fun t99 ht99 hW99 => ⟨⟨_, (w, (tp80, (F 23), (F 25), nx81, pc2, J82, (0 : Int64), ba2, on2, (some m9), f2)), rfl, ⟨rfl, hz84, hz85, hz86, hz87, hO⟩, by rw [ht99]; exact hP, hD⟩, hS.F ht99⟩) hS.2.2 dX5_goOutward_52
  have hO : OKP G h0 a (upd (upd (upd (upd (upd (upd F 6 (nI rg)) 18 (nI ba)) 19 (nI tp)) 20 (F 20)) 22 (nI on)) 26 (nI ht)) (updR (updR (updR (updR R 5 (.ref pq)) 6 (va_rf mo)) 7 (.ref (a sp))) 8 (.ref (a op))) Z (updA B 30 (B 30)) J K w := hO.to rfl
  exact loop_o (100 + 1) 0 ba on tp (F 20) mo (B 30) _ _ _ _ (by omega) (by omega) (by omega) hms hfr hP hD hS hO (lv_sub hl [0, 1] rfl)
theorem dX5_callSuper_0 : decode cX5_callSuper 0 = .ok (.aload_n 0, 1) := by decide +kernel
theorem dX5_callSuper_1 : decode cX5_callSuper 1 = .ok (.invokevirtual 166, 3) := by decide +kernel
theorem dX5_callSuper_4 : decode cX5_callSuper 4 = .ok (.ifCond .eq 23, 3) := by decide +kernel
theorem dX5_callSuper_27 : decode cX5_callSuper 27 = .ok (.return_, 1) := by decide +kernel
theorem dX5_callSuper_7 : decode cX5_callSuper 7 = .ok (.aload_n 0, 1) := by decide +kernel
theorem dX5_callSuper_8 : decode cX5_callSuper 8 = .ok (.aload_n 0, 1) := by decide +kernel
theorem dX5_callSuper_9 : decode cX5_callSuper 9 = .ok (.getfield 47, 3) := by decide +kernel
theorem dX5_callSuper_12 : decode cX5_callSuper 12 = .ok (.iload_n 1, 1) := by decide +kernel
theorem dX5_callSuper_13 : decode cX5_callSuper 13 = .ok (.invokevirtual 310, 3) := by decide +kernel
theorem dX5_callSuper_16 : decode cX5_callSuper 16 = .ok (.aload_n 0, 1) := by decide +kernel
theorem dX5_callSuper_17 : decode cX5_callSuper 17 = .ok (.getfield 103, 3) := by decide +kernel
theorem dX5_callSuper_20 : decode cX5_callSuper 20 = .ok (.iload_n 2, 1) := by decide +kernel
theorem dX5_callSuper_21 : decode cX5_callSuper 21 = .ok (.isub, 1) := by decide +kernel
theorem dX5_callSuper_22 : decode cX5_callSuper 22 = .ok (.iconst 1, 1) := by decide +kernel
theorem dX5_callSuper_23 : decode cX5_callSuper 23 = .ok (.isub, 1) := by decide +kernel
theorem dX5_callSuper_24 : decode cX5_callSuper 24 = .ok (.invokevirtual 319, 3) := by decide +kernel
theorem hV_X5_begin : yX5_begin.cls = RX5 ∧ yX5_begin.cls ≠ "java/lang/invoke/MethodHandle" ∧ yX5_begin.cls ≠ "java/lang/invoke/VarHandle" ∧ (parseMethodDescriptor yX5_begin.desc).map (fun d => d.parameters.length) = some 2 := by decide +kernel
set_option maxHeartbeats 20000000 in
set_option maxRecDepth 100000 in
theorem M_callSuper (l : Launch) (G : pT) (h0 : Nat) (a : Nat → Nat) (F : Nat → Int32) (R : Nat → Value) (Z : Int64) (B : Nat → Nat → Int32) (J : Nat → Nat → Int64) (K : PK) (w : va_W) (x : Int32) (rt : Nat) (tp : Nat) (pq : Nat) (dr : Nat) (ml : Nat) (nd : Nat) (nm : Nat) (cp : Nat) (it : Nat → Nat) (s9 : Nat) (g : Nat → Nat → Nat) (rk : Nat → Nat) (ba : Nat) (on : Nat) (mo : Option Nat) (htp : tp ≤ 32000) (hwp : WPr G K g) (hps : PgT G K g (a 1) pq dr ml nd nm cp it s9) (hrk : RkO K rk) (hba : ba ≤ 32000) (hon : on ≤ 100) (hms : MsO K mo ba) (hfr : FrO K nm it (B 30) on) (hrt : rt ≤ 6000) (hO : OKP G h0 a (upd (upd (upd F 18 (nI ba)) 19 (nI tp)) 22 (nI on)) (updR (updR R 5 (.ref pq)) 6 (va_rf mo)) Z B J K w) : PM l G pX0 yX5_callSuper cX5_callSuper 3 none ({ frames := 6, cells := 0, slots := 0, locals := 145 }) [.ref (a 5), .int x, .int (nI rt)] w (fun (v : Option Value) (u : va_W × (Nat × Int32 × Int32 × Int32 × (Nat → Int32) × Nat × Nat × Option Nat × (Nat → Int32))) => v = none ∧ (u.2.1 ≤ 32000) ∧ (u.2.2.2.2.2.2.1 ≤ 32000 ∧ u.2.2.2.2.2.2.2.1 ≤ 100) ∧ (MsO K u.2.2.2.2.2.2.2.2.1 u.2.2.2.2.2.2.1) ∧ (FrO K nm it u.2.2.2.2.2.2.2.2.2 u.2.2.2.2.2.2.2.1) ∧ (OKP G h0 a (upd (upd (upd (upd (upd (upd F 18 (nI u.2.2.2.2.2.2.1)) 19 (nI u.2.1)) 21 u.2.2.2.2.1) 22 (nI u.2.2.2.2.2.2.2.1)) 23 u.2.2.1) 25 u.2.2.2.1) (updR (updR R 5 (.ref pq)) 6 (va_rf u.2.2.2.2.2.2.2.2.1)) Z (updA (updA B 30 u.2.2.2.2.2.2.2.2.2) 33 u.2.2.2.2.2.1) J K u.1)) (fun u => u.1) := by
  intro sz
  refine Met.ofW (cc := cX5_callSuper) (maxL := 3) (ret := none) (by decide) rfl ?_
  intro p e s m args below meth c s₁ B9 hml hv
  obtain ⟨rfl, hsz, hP, hD0, hE, hX⟩ := hv
  have hx := B9.exec
  have hb := B9.bytes
  have hr := B9.returns
  have hts := atoms_spec (ws := Cond.code yX5_callSuper cX5_callSuper 3 none :: pw) B9.pre
  have hq : ∀ w ∈ pw, w.before _ s = true := fun w h => hts w (List.mem_cons_of_mem _ h)
  have hown : s.vm.findClass RX5 = some m.cls := findClass_of_methodNamed B9.named
  have hlocks := B9.notSynchronized
  subst hsz
  have hD := hD0.self (sz := s.heap.size)
  have hA : ∀ q : Nat, s.heap.size ≤ q → va_A w s.heap.size q := fun q h => Or.inr h
  generalize va_A w s.heap.size = A at hD hE hA ⊢
  have hS : va_S A s.heap s.heap [] := va_S.rf
  have hl := lv_entry ([.ref (a 5), .int x, .int (nI rt)]) (n := 3) (Nat.le_of_ble_eq_true rfl)
  rw [lg_entry_eq]
  generalize (lg_sl ([.ref (a 5), .int x, .int (nI rt)]) ++ List.replicate (3 - (lg_sl ([.ref (a 5), .int x, .int (nI rt)])).length) Slot.unset).toArray = ls at hl ⊢
  have hl : lv_has ls 3 [(0, .ref (a 5)), (1, .int x), (2, .int (nI rt))] := hl
  have hpg := hps.1
  have hp1 := hpg.1
  have hp2 := hpg.2.1
  have hp3 := hpg.2.2.1
  have hp4 := hpg.2.2.2.1
  have hp5 := hpg.2.2.2.2.1
  have hp6 := hpg.2.2.2.2.2.1
  have hp8 := hpg.2.2.2.2.2.2.2.1
  have hp9 := hpg.2.2.2.2.2.2.2.2
  refine lv_aload_n hx hb dX5_callSuper_0 rfl (lv_at hl 0 rfl) ?_
  have hO : OKW G h0 a (upd (upd (upd F 18 (nI ba)) 19 (nI tp)) 22 (nI on)) (updR (updR R 5 (.ref pq)) 6 (va_rf mo)) Z B J K.1 (fun q99 x99 => x99 = rep G a K q99) w := hO.to rfl
  obtain ⟨_, qr4, hqr5⟩ := hO.2.1 28 _ (sg_28 G h0 a _ _ _ _ _)
  refine pc_V0 (G := G) (As := []) (rest := []) hx hb hml hown hq hE hX pX0_al hP hD hS hA hl.1 (M_burn l G h0 a (upd (upd (upd F 18 (nI ba)) 19 (nI tp)) 22 (nI on)) (updR (updR R 5 (.ref pq)) 6 (va_rf mo)) Z B J K.1 (fun q99 x99 => x99 = rep G a K q99) w hO) (gV pw_567 pw_568 pw_569 pw_539 pw_560) hV_X5_burn qr4 4 hqr5 rfl rfl rfl (Nat.le_of_ble_eq_true rfl) dX5_callSuper_1 ⟨Nat.le_of_ble_eq_true rfl, Nat.le_of_ble_eq_true rfl⟩ ⟨Nat.le_of_ble_eq_true rfl, Nat.le_of_ble_eq_true rfl⟩ (fun v3 u1 H locs hw2 hP hD hS => ?_)
  obtain ⟨w, r6, en7, ta8⟩ := u1
  obtain ⟨hw2, h9, hO⟩ := hw2
  have h9 : r6 ≤ 1 := h9
  obtain rfl : v3 = some (.int (nI r6)) := hw2
  have hO : OKP G h0 a (upd (upd (upd (upd F 18 (nI ba)) 19 (nI tp)) 22 (nI on)) 23 en7) (updR (updR R 5 (.ref pq)) 6 (va_rf mo)) Z (updA B 33 ta8) J K w := hO.to rfl
  refine W.widen (k := 0) (n := 0) (Nat.le_of_ble_eq_true rfl) (Nat.le_of_ble_eq_true rfl) ?_
  refine W.eq (g2 := F0 m 4 ls [.int (nI r6)]) rfl ?_
  refine lv_if_eq (tgt := 27) hx hb dX5_callSuper_4 (by decide) (fun c10 => ?_) (fun c10 => ?_)
  · have n11 : r6 = 0 := (nI_eq (a := r6) (b := 0) (by omega) (by omega)).mp c10
    have hz12 : tp ≤ 32000 := (by omega)
    have hz13 : ba ≤ 32000 ∧ on ≤ 100 := (by omega)
    have hz14 : MsO K mo ba := hms
    have hz15 : FrO K nm it (B 30) on := hfr
    have hO : OKP G h0 a (upd (upd (upd (upd (upd (upd F 18 (nI ba)) 19 (nI tp)) 21 (F 21)) 22 (nI on)) 23 en7) 25 (F 25)) (updR (updR R 5 (.ref pq)) 6 (va_rf mo)) Z (updA (updA B 30 (B 30)) 33 ta8) J K w := hO.to rfl
    exact W.vret hx hb hr (fun t99 ht99 hW99 => ⟨⟨_, (w, (tp, en7, (F 25), (F 21), ta8, ba, on, mo, (B 30))), rfl, ⟨rfl, hz12, hz13, hz14, hz15, hO⟩, by rw [ht99]; exact hP, hD⟩, hS.F ht99⟩) hS.2.2 dX5_callSuper_27
  · have n16 : ¬ (r6 = 0) := fun h9 => c10 ((nI_eq (a := r6) (b := 0) (by omega) (by omega)).mpr h9)
    refine lv_aload_n hx hb dX5_callSuper_7 rfl (lv_at hl 0 rfl) ?_
    refine lv_aload_n hx hb dX5_callSuper_8 rfl (lv_at hl 0 rfl) ?_
    refine c_get (v := .ref pq) (C := RX5) (Tc := TX5) (N := 19) (ci := 4) hx hb hq pin_wsX50 hown hE hP hO 28 (sg_28 G h0 a _ _ _ _ _) rfl 8 (by decide) (hq _ pw_486) (fun _ h9 => h9) rfl dX5_callSuper_9 ?_
    refine lv_iload_n hx hb dX5_callSuper_12 rfl (lv_at hl 1 rfl) ?_
    have hO : OKP G h0 a (upd (upd (upd (upd F 18 (nI ba)) 19 (nI tp)) 22 (nI on)) 23 en7) (updR (updR R 5 (.ref pq)) 6 (va_rf mo)) Z (updA B 33 ta8) J K w := hO.to rfl
    obtain ⟨qr20, hqr21⟩ := p_recv hO (by rw [hp1]; decide) (rep_7 hp1)
    refine pc_V0 (G := G) (As := [.int x]) (rest := [.ref (a 5)]) hx hb hml hown hq hE hX pX0_al hP hD hS hA hl.1 (G_methodX l G h0 a (upd (upd (upd (upd F 18 (nI ba)) 19 (nI tp)) 22 (nI on)) 23 en7) (updR (updR R 5 (.ref pq)) 6 (va_rf mo)) Z (updA B 33 ta8) J K w pq dr ml nd x nm cp it g hps.1 hps.2.2.1 hO) (gV pw_528 pw_529 pw_530 pw_106 pw_518) hV_X9_method qr20 6 hqr21 rfl rfl rfl (Nat.le_of_ble_eq_true rfl) dX5_callSuper_13 ⟨Nat.le_of_ble_eq_true rfl, Nat.le_of_ble_eq_true rfl⟩ ⟨Nat.le_of_ble_eq_true rfl, Nat.le_of_ble_eq_true rfl⟩ (fun v19 u17 H locs hw18 hP hD hS => ?_)
    obtain ⟨w, o22⟩ := u17
    obtain ⟨hw18, h23, hO⟩ := hw18
    have h23 : MoX K nm it x o22 := h23
    obtain rfl : v19 = some ((va_rf o22)) := hw18
    have hO : OKP G h0 a (upd (upd (upd (upd F 18 (nI ba)) 19 (nI tp)) 22 (nI on)) 23 en7) (updR (updR R 5 (.ref pq)) 6 (va_rf mo)) Z (updA B 33 ta8) J K w := hO.to rfl
    refine W.widen (k := 0) (n := 0) (Nat.le_of_ble_eq_true rfl) (Nat.le_of_ble_eq_true rfl) ?_
    refine W.eq (g2 := F0 m 16 ls [(va_rf o22), .ref (a 5)]) rfl ?_
    rcases o22 with _ | d24
    · have hl : lv_has ls 3 [(0, .ref (a 5)), (1, .int x), (2, .int (nI rt))] := hl
      refine W.eq (g2 := F0 m 16 ls [.null, .ref (a 5)]) rfl ?_
      refine lv_aload_n hx hb dX5_callSuper_16 rfl (lv_at hl 0 rfl) ?_
      refine c_get (v := .int (nI tp)) (C := RX5) (Tc := TX5) (N := 19) (ci := 4) hx hb hq pin_wsX50 hown hE hP hO 28 (sg_28 G h0 a _ _ _ _ _) rfl 11 (by decide) (hq _ pw_505) (fun _ h9 => h9) rfl dX5_callSuper_17 ?_
      refine lv_iload_n hx hb dX5_callSuper_20 rfl (lv_at hl 2 rfl) ?_
      refine lv_isub hx hb dX5_callSuper_21 ?_
      refine lv_topi (fun x25 e26 => ?_)
      refine lv_iconst (v := 1) hx hb dX5_callSuper_22 (by decide) ?_
      refine lv_isub hx hb dX5_callSuper_23 ?_
      refine lv_topi (fun x27 e28 => ?_)
      have hO : OKW G h0 a (upd (upd (upd (upd F 18 (nI ba)) 19 (nI tp)) 22 (nI on)) 23 en7) (updR (updR R 5 (.ref pq)) 6 (va_rf mo)) Z (updA B 33 ta8) J K.1 (fun q99 x99 => x99 = rep G a K q99) w := hO.to rfl
      obtain ⟨_, qr32, hqr33⟩ := hO.2.1 28 _ (sg_28 G h0 a _ _ _ _ _)
      refine pc_V0 (G := G) (As := [.null, .int x27]) (rest := []) hx hb hml hown hq hE hX pX0_al hP hD hS hA hl.1 (M_beginN l G h0 a (upd (upd (upd (upd F 18 (nI ba)) 19 (nI tp)) 22 (nI on)) 23 en7) (updR (updR R 5 (.ref pq)) 6 (va_rf mo)) Z (updA B 33 ta8) J K.1 (fun q99 x99 => x99 = rep G a K q99) w x27 hO) (gV pw_574 pw_575 pw_576 pw_539 pw_563) hV_X5_begin qr32 4 hqr33 rfl rfl rfl (Nat.le_of_ble_eq_true rfl) dX5_callSuper_24 ⟨Nat.le_of_ble_eq_true rfl, Nat.le_of_ble_eq_true rfl⟩ ⟨Nat.le_of_ble_eq_true rfl, Nat.le_of_ble_eq_true rfl⟩ (fun v31 u29 H locs hw30 hP hD hS => ?_)
      obtain ⟨w, en34, rf35⟩ := u29
      obtain ⟨hw30, hO⟩ := hw30
      obtain rfl : v31 = none := hw30
      have hO : OKP G h0 a (upd (upd (upd (upd (upd F 18 (nI ba)) 19 (nI tp)) 22 (nI on)) 23 en34) 25 rf35) (updR (updR R 5 (.ref pq)) 6 (va_rf mo)) Z (updA B 33 ta8) J K w := hO.to rfl
      refine W.widen (k := 0) (n := 0) (Nat.le_of_ble_eq_true rfl) (Nat.le_of_ble_eq_true rfl) ?_
      refine W.eq (g2 := F0 m 27 ls []) rfl ?_
      have hz36 : tp ≤ 32000 := (by omega)
      have hz37 : ba ≤ 32000 ∧ on ≤ 100 := (by omega)
      have hz38 : MsO K mo ba := hms
      have hz39 : FrO K nm it (B 30) on := hfr
      have hO : OKP G h0 a (upd (upd (upd (upd (upd (upd F 18 (nI ba)) 19 (nI tp)) 21 (F 21)) 22 (nI on)) 23 en34) 25 rf35) (updR (updR R 5 (.ref pq)) 6 (va_rf mo)) Z (updA (updA B 30 (B 30)) 33 ta8) J K w := hO.to rfl
      exact W.vret hx hb hr (fun t99 ht99 hW99 => ⟨⟨_, (w, (tp, en34, rf35, (F 21), ta8, ba, on, mo, (B 30))), rfl, ⟨rfl, hz36, hz37, hz38, hz39, hO⟩, by rw [ht99]; exact hP, hD⟩, hS.F ht99⟩) hS.2.2 dX5_callSuper_27
    · have hl : lv_has ls 3 [(0, .ref (a 5)), (1, .int x), (2, .int (nI rt))] := hl
      refine W.eq (g2 := F0 m 16 ls [.ref d24, .ref (a 5)]) rfl ?_
      have hdT := (h23 d24 rfl).1
      refine lv_aload_n hx hb dX5_callSuper_16 rfl (lv_at hl 0 rfl) ?_
      refine c_get (v := .int (nI tp)) (C := RX5) (Tc := TX5) (N := 19) (ci := 4) hx hb hq pin_wsX50 hown hE hP hO 28 (sg_28 G h0 a _ _ _ _ _) rfl 11 (by decide) (hq _ pw_505) (fun _ h9 => h9) rfl dX5_callSuper_17 ?_
      refine lv_iload_n hx hb dX5_callSuper_20 rfl (lv_at hl 2 rfl) ?_
      refine lv_isub hx hb dX5_callSuper_21 ?_
      refine lv_topi (fun x40 e41 => ?_)
      refine lv_iconst (v := 1) hx hb dX5_callSuper_22 (by decide) ?_
      refine lv_isub hx hb dX5_callSuper_23 ?_
      refine lv_topi (fun x42 e43 => ?_)
      have hO : OKP G h0 a (upd (upd (upd (upd (upd (upd (upd F 18 (nI ba)) 19 (nI tp)) 22 (nI on)) 23 en7) 18 (nI ba)) 19 (nI tp)) 22 (nI on)) (updR (updR (updR (updR R 5 (.ref pq)) 6 (va_rf mo)) 5 (.ref pq)) 6 (va_rf mo)) Z (updA B 33 ta8) J K w := hO.to rfl
      obtain ⟨_, qr47, hqr48⟩ := hO.2.1 28 _ (sg_28 G h0 a _ _ _ _ _)
      refine pc_V0 (G := G) (As := [.ref d24, .int x42]) (rest := []) hx hb hml hown hq hE hX pX0_al hP hD hS hA hl.1 (M_begin l G h0 a (upd (upd (upd (upd F 18 (nI ba)) 19 (nI tp)) 22 (nI on)) 23 en7) (updR (updR R 5 (.ref pq)) 6 (va_rf mo)) Z (updA B 33 ta8) J K w d24 x42 tp pq dr ml nd nm cp it s9 g rk ba on mo (by omega) hwp hps hrk (by omega) (by omega) hms hfr hdT (rc_of (by omega) hrt e41 e43) hO) (gV pw_574 pw_575 pw_576 pw_539 pw_563) hV_X5_begin qr47 4 hqr48 rfl rfl rfl (Nat.le_of_ble_eq_true rfl) dX5_callSuper_24 ⟨Nat.le_of_ble_eq_true rfl, Nat.le_of_ble_eq_true rfl⟩ ⟨Nat.le_of_ble_eq_true rfl, Nat.le_of_ble_eq_true rfl⟩ (fun v46 u44 H locs hw45 hP hD hS => ?_)
      obtain ⟨w, tp49, en50, rf51, nx52, ta53, ba54, on55, mo56, fr57⟩ := u44
      obtain ⟨hw45, h58, h59, h60, h61, hO⟩ := hw45
      have h58 : tp49 ≤ 32000 := h58
      have h59 : ba54 ≤ 32000 ∧ on55 ≤ 100 := h59
      have h60 : MsO K mo56 ba54 := h60
      have h61 : FrO K nm it fr57 on55 := h61
      obtain rfl : v46 = none := hw45
      have hO : OKP G h0 a (upd (upd (upd (upd (upd (upd F 18 (nI ba54)) 19 (nI tp49)) 21 nx52) 22 (nI on55)) 23 en50) 25 rf51) (updR (updR R 5 (.ref pq)) 6 (va_rf mo56)) Z (updA (updA B 30 fr57) 33 ta53) J K w := hO.to rfl
      refine W.widen (k := 0) (n := 0) (Nat.le_of_ble_eq_true rfl) (Nat.le_of_ble_eq_true rfl) ?_
      refine W.eq (g2 := F0 m 27 ls []) rfl ?_
      have hz62 : tp49 ≤ 32000 := (by omega)
      have hz63 : ba54 ≤ 32000 ∧ on55 ≤ 100 := (by omega)
      have hz64 : MsO K mo56 ba54 := h60
      have hz65 : FrO K nm it fr57 on55 := h61
      have hO : OKP G h0 a (upd (upd (upd (upd (upd (upd F 18 (nI ba54)) 19 (nI tp49)) 21 nx52) 22 (nI on55)) 23 en50) 25 rf51) (updR (updR R 5 (.ref pq)) 6 (va_rf mo56)) Z (updA (updA B 30 fr57) 33 ta53) J K w := hO.to rfl
      exact W.vret hx hb hr (fun t99 ht99 hW99 => ⟨⟨_, (w, (tp49, en50, rf51, nx52, ta53, ba54, on55, mo56, fr57)), rfl, ⟨rfl, hz62, hz63, hz64, hz65, hO⟩, by rw [ht99]; exact hP, hD⟩, hS.F ht99⟩) hS.2.2 dX5_callSuper_27
theorem dX5_callNearest_0 : decode cX5_callNearest 0 = .ok (.aload_n 0, 1) := by decide +kernel
theorem dX5_callNearest_1 : decode cX5_callNearest 1 = .ok (.getfield 103, 3) := by decide +kernel
theorem dX5_callNearest_4 : decode cX5_callNearest 4 = .ok (.iload_n 2, 1) := by decide +kernel
theorem dX5_callNearest_5 : decode cX5_callNearest 5 = .ok (.isub, 1) := by decide +kernel
theorem dX5_callNearest_6 : decode cX5_callNearest 6 = .ok (.iconst 1, 1) := by decide +kernel
theorem dX5_callNearest_7 : decode cX5_callNearest 7 = .ok (.isub, 1) := by decide +kernel
theorem dX5_callNearest_8 : decode cX5_callNearest 8 = .ok (.istore_n 3, 1) := by decide +kernel
theorem dX5_callNearest_9 : decode cX5_callNearest 9 = .ok (.iload_n 3, 1) := by decide +kernel
theorem dX5_callNearest_10 : decode cX5_callNearest 10 = .ok (.ifCond .ge 8, 3) := by decide +kernel
theorem dX5_callNearest_18 : decode cX5_callNearest 18 = .ok (.aload_n 0, 1) := by decide +kernel
theorem dX5_callNearest_19 : decode cX5_callNearest 19 = .ok (.invokevirtual 166, 3) := by decide +kernel
theorem dX5_callNearest_22 : decode cX5_callNearest 22 = .ok (.ifCond .ne 4, 3) := by decide +kernel
theorem dX5_callNearest_26 : decode cX5_callNearest 26 = .ok (.aload_n 0, 1) := by decide +kernel
theorem dX5_callNearest_27 : decode cX5_callNearest 27 = .ok (.getfield 22, 3) := by decide +kernel
theorem dX5_callNearest_30 : decode cX5_callNearest 30 = .ok (.iload_n 3, 1) := by decide +kernel
theorem dX5_callNearest_31 : decode cX5_callNearest 31 = .ok (.laload, 1) := by decide +kernel
theorem dX5_callNearest_32 : decode cX5_callNearest 32 = .ok (.lconst 0, 1) := by decide +kernel
theorem dX5_callNearest_33 : decode cX5_callNearest 33 = .ok (.lcmp, 1) := by decide +kernel
theorem dX5_callNearest_34 : decode cX5_callNearest 34 = .ok (.ifCond .ne 9, 3) := by decide +kernel
theorem dX5_callNearest_43 : decode cX5_callNearest 43 = .ok (.aload_n 0, 1) := by decide +kernel
theorem dX5_callNearest_44 : decode cX5_callNearest 44 = .ok (.getfield 47, 3) := by decide +kernel
theorem dX5_callNearest_47 : decode cX5_callNearest 47 = .ok (.aload_n 0, 1) := by decide +kernel
theorem dX5_callNearest_48 : decode cX5_callNearest 48 = .ok (.getfield 18, 3) := by decide +kernel
theorem dX5_callNearest_51 : decode cX5_callNearest 51 = .ok (.aload_n 0, 1) := by decide +kernel
theorem dX5_callNearest_52 : decode cX5_callNearest 52 = .ok (.getfield 22, 3) := by decide +kernel
theorem dX5_callNearest_55 : decode cX5_callNearest 55 = .ok (.iload_n 3, 1) := by decide +kernel
theorem dX5_callNearest_56 : decode cX5_callNearest 56 = .ok (.laload, 1) := by decide +kernel
theorem dX5_callNearest_57 : decode cX5_callNearest 57 = .ok (.invokevirtual 51, 3) := by decide +kernel
theorem dX5_callNearest_60 : decode cX5_callNearest 60 = .ok (.invokevirtual 55, 3) := by decide +kernel
theorem dX5_callNearest_63 : decode cX5_callNearest 63 = .ok (.astore 4, 2) := by decide +kernel
theorem dX5_callNearest_65 : decode cX5_callNearest 65 = .ok (.aload_n 0, 1) := by decide +kernel
theorem dX5_callNearest_66 : decode cX5_callNearest 66 = .ok (.aload 4, 2) := by decide +kernel
theorem dX5_callNearest_68 : decode cX5_callNearest 68 = .ok (.ifnonnull 7, 3) := by decide +kernel
theorem dX5_callNearest_71 : decode cX5_callNearest 71 = .ok (.aconst_null, 1) := by decide +kernel
theorem dX5_callNearest_72 : decode cX5_callNearest 72 = .ok (.goto 9, 3) := by decide +kernel
theorem dX5_callNearest_81 : decode cX5_callNearest 81 = .ok (.iload_n 3, 1) := by decide +kernel
theorem dX5_callNearest_82 : decode cX5_callNearest 82 = .ok (.invokevirtual 319, 3) := by decide +kernel
theorem dX5_callNearest_85 : decode cX5_callNearest 85 = .ok (.return_, 1) := by decide +kernel
theorem dX5_callNearest_75 : decode cX5_callNearest 75 = .ok (.aload 4, 2) := by decide +kernel
theorem dX5_callNearest_77 : decode cX5_callNearest 77 = .ok (.iload_n 1, 1) := by decide +kernel
theorem dX5_callNearest_78 : decode cX5_callNearest 78 = .ok (.invokevirtual 316, 3) := by decide +kernel
theorem dX5_callNearest_37 : decode cX5_callNearest 37 = .ok (.aload_n 0, 1) := by decide +kernel
theorem dX5_callNearest_38 : decode cX5_callNearest 38 = .ok (.iconst 1, 1) := by decide +kernel
theorem dX5_callNearest_39 : decode cX5_callNearest 39 = .ok (.invokevirtual 252, 3) := by decide +kernel
theorem dX5_callNearest_42 : decode cX5_callNearest 42 = .ok (.return_, 1) := by decide +kernel
theorem dX5_callNearest_25 : decode cX5_callNearest 25 = .ok (.return_, 1) := by decide +kernel
theorem dX5_callNearest_13 : decode cX5_callNearest 13 = .ok (.aload_n 0, 1) := by decide +kernel
theorem dX5_callNearest_14 : decode cX5_callNearest 14 = .ok (.invokevirtual 160, 3) := by decide +kernel
theorem dX5_callNearest_17 : decode cX5_callNearest 17 = .ok (.return_, 1) := by decide +kernel
set_option maxHeartbeats 30000000 in
set_option maxRecDepth 100000 in
theorem M_callNearest (l : Launch) (G : pT) (h0 : Nat) (a : Nat → Nat) (F : Nat → Int32) (R : Nat → Value) (Z : Int64) (B : Nat → Nat → Int32) (J : Nat → Nat → Int64) (K : PK) (w : va_W) (x : Int32) (rt : Nat) (tp : Nat) (sp : Nat) (op : Nat) (ht : Nat) (pq : Nat) (dr : Nat) (ml : Nat) (nd : Nat) (nm : Nat) (cp : Nat) (it : Nat → Nat) (s9 : Nat) (g : Nat → Nat → Nat) (rk : Nat → Nat) (ba : Nat) (on : Nat) (mo : Option Nat) (htp : tp ≤ 32000) (hsp : (sp = 34 ∧ op = 35) ∨ (sp = 35 ∧ op = 34)) (hht : 8 ≤ ht ∧ ht ≤ 3008) (hwp : WPr G K g) (hps : PgT G K g (a 1) pq dr ml nd nm cp it s9) (hrk : RkO K rk) (hba : ba ≤ 32000) (hon : on ≤ 100) (hms : MsO K mo ba) (hfr : FrO K nm it (B 30) on) (hrt : rt ≤ 6000) (hO : OKP G h0 a (upd (upd (upd (upd F 18 (nI ba)) 19 (nI tp)) 22 (nI on)) 26 (nI ht)) (updR (updR (updR (updR R 5 (.ref pq)) 6 (va_rf mo)) 7 (.ref (a sp))) 8 (.ref (a op))) Z B J K w) : PM l G pX0 yX5_callNearest cX5_callNearest 5 none ({ frames := 7, cells := 0, slots := 0, locals := 169 }) [.ref (a 5), .int x, .int (nI rt)] w (fun (v : Option Value) (u : va_W × (Nat × Int32 × Int32 × Int32 × (Nat → Int32) × Int64 × Nat × Nat × Option Nat × (Nat → Int32))) => v = none ∧ (u.2.1 ≤ 32000) ∧ (u.2.2.2.2.2.2.2.1 ≤ 32000 ∧ u.2.2.2.2.2.2.2.2.1 ≤ 100) ∧ (MsO K u.2.2.2.2.2.2.2.2.2.1 u.2.2.2.2.2.2.2.1) ∧ (FrO K nm it u.2.2.2.2.2.2.2.2.2.2 u.2.2.2.2.2.2.2.2.1) ∧ (OKP G h0 a (upd (upd (upd (upd (upd (upd (upd F 18 (nI u.2.2.2.2.2.2.2.1)) 19 (nI u.2.1)) 21 u.2.2.2.2.1) 22 (nI u.2.2.2.2.2.2.2.2.1)) 23 u.2.2.1) 25 u.2.2.2.1) 26 (nI ht)) (updR (updR (updR (updR R 5 (.ref pq)) 6 (va_rf u.2.2.2.2.2.2.2.2.2.1)) 7 (.ref (a sp))) 8 (.ref (a op))) u.2.2.2.2.2.2.1 (updA (updA B 30 u.2.2.2.2.2.2.2.2.2.2) 33 u.2.2.2.2.2.1) J K u.1)) (fun u => u.1) := by
  intro sz
  refine Met.ofW (cc := cX5_callNearest) (maxL := 5) (ret := none) (by decide) rfl ?_
  intro p e s m args below meth c s₁ B9 hml hv
  obtain ⟨rfl, hsz, hP, hD0, hE, hX⟩ := hv
  have hx := B9.exec
  have hb := B9.bytes
  have hr := B9.returns
  have hts := atoms_spec (ws := Cond.code yX5_callNearest cX5_callNearest 5 none :: pw) B9.pre
  have hq : ∀ w ∈ pw, w.before _ s = true := fun w h => hts w (List.mem_cons_of_mem _ h)
  have hown : s.vm.findClass RX5 = some m.cls := findClass_of_methodNamed B9.named
  have hlocks := B9.notSynchronized
  subst hsz
  have hD := hD0.self (sz := s.heap.size)
  have hA : ∀ q : Nat, s.heap.size ≤ q → va_A w s.heap.size q := fun q h => Or.inr h
  generalize va_A w s.heap.size = A at hD hE hA ⊢
  have hS : va_S A s.heap s.heap [] := va_S.rf
  have hl := lv_entry ([.ref (a 5), .int x, .int (nI rt)]) (n := 5) (Nat.le_of_ble_eq_true rfl)
  rw [lg_entry_eq]
  generalize (lg_sl ([.ref (a 5), .int x, .int (nI rt)]) ++ List.replicate (5 - (lg_sl ([.ref (a 5), .int x, .int (nI rt)])).length) Slot.unset).toArray = ls at hl ⊢
  have hl : lv_has ls 5 [(0, .ref (a 5)), (1, .int x), (2, .int (nI rt))] := hl
  have hpg := hps.1
  have hp1 := hpg.1
  have hp2 := hpg.2.1
  have hp3 := hpg.2.2.1
  have hp4 := hpg.2.2.2.1
  have hp5 := hpg.2.2.2.2.1
  have hp6 := hpg.2.2.2.2.2.1
  have hp8 := hpg.2.2.2.2.2.2.2.1
  have hp9 := hpg.2.2.2.2.2.2.2.2
  refine lv_aload_n hx hb dX5_callNearest_0 rfl (lv_at hl 0 rfl) ?_
  refine c_get (v := .int (nI tp)) (C := RX5) (Tc := TX5) (N := 19) (ci := 4) hx hb hq pin_wsX50 hown hE hP hO 28 (sg_28 G h0 a _ _ _ _ _) rfl 11 (by decide) (hq _ pw_505) (fun _ h9 => h9) rfl dX5_callNearest_1 ?_
  refine lv_iload_n hx hb dX5_callNearest_4 rfl (lv_at hl 2 rfl) ?_
  refine lv_isub hx hb dX5_callNearest_5 ?_
  refine lv_topi (fun x1 e2 => ?_)
  refine lv_iconst (v := 1) hx hb dX5_callNearest_6 (by decide) ?_
  refine lv_isub hx hb dX5_callNearest_7 ?_
  refine lv_topi (fun x3 e4 => ?_)
  have hrcv := rc_of (by omega) hrt e2 e4
  refine lv_istore_n (lv' := [(3, .int x3), (0, .ref (a 5)), (1, .int x), (2, .int (nI rt))]) hx hb dX5_callNearest_8 rfl hl (by decide) rfl (fun ls hl => ?_)
  refine lv_iload_n hx hb dX5_callNearest_9 rfl (lv_at hl 0 rfl) ?_
  refine lv_if_ge (tgt := 18) hx hb dX5_callNearest_10 (by decide) (fun c5 => ?_) (fun c5 => ?_)
  · obtain ⟨rc, hrc1, hrc2⟩ := RcO.nn hrcv (nn_le c5)
    rw [hrc1] at hl
    refine lv_aload_n hx hb dX5_callNearest_18 rfl (lv_at hl 1 rfl) ?_
    have hO : OKW G h0 a (upd (upd (upd (upd F 18 (nI ba)) 19 (nI tp)) 22 (nI on)) 26 (nI ht)) (updR (updR (updR (updR R 5 (.ref pq)) 6 (va_rf mo)) 7 (.ref (a sp))) 8 (.ref (a op))) Z B J K.1 (fun q99 x99 => x99 = rep G a K q99) w := hO.to rfl
    obtain ⟨_, qr9, hqr10⟩ := hO.2.1 28 _ (sg_28 G h0 a _ _ _ _ _)
    refine pc_V0 (G := G) (As := []) (rest := []) hx hb hml hown hq hE hX pX0_al hP hD hS hA hl.1 (M_burn l G h0 a (upd (upd (upd (upd F 18 (nI ba)) 19 (nI tp)) 22 (nI on)) 26 (nI ht)) (updR (updR (updR (updR R 5 (.ref pq)) 6 (va_rf mo)) 7 (.ref (a sp))) 8 (.ref (a op))) Z B J K.1 (fun q99 x99 => x99 = rep G a K q99) w hO) (gV pw_567 pw_568 pw_569 pw_539 pw_560) hV_X5_burn qr9 4 hqr10 rfl rfl rfl (Nat.le_of_ble_eq_true rfl) dX5_callNearest_19 ⟨Nat.le_of_ble_eq_true rfl, Nat.le_of_ble_eq_true rfl⟩ ⟨Nat.le_of_ble_eq_true rfl, Nat.le_of_ble_eq_true rfl⟩ (fun v8 u6 H locs hw7 hP hD hS => ?_)
    obtain ⟨w, r11, en12, ta13⟩ := u6
    obtain ⟨hw7, h14, hO⟩ := hw7
    have h14 : r11 ≤ 1 := h14
    obtain rfl : v8 = some (.int (nI r11)) := hw7
    have hO : OKP G h0 a (upd (upd (upd (upd (upd F 18 (nI ba)) 19 (nI tp)) 22 (nI on)) 23 en12) 26 (nI ht)) (updR (updR (updR (updR R 5 (.ref pq)) 6 (va_rf mo)) 7 (.ref (a sp))) 8 (.ref (a op))) Z (updA B 33 ta13) J K w := hO.to rfl
    refine W.widen (k := 0) (n := 0) (Nat.le_of_ble_eq_true rfl) (Nat.le_of_ble_eq_true rfl) ?_
    refine W.eq (g2 := F0 m 22 ls [.int (nI r11)]) rfl ?_
    refine lv_if_ne (tgt := 26) hx hb dX5_callNearest_22 (by decide) (fun c15 => ?_) (fun c15 => ?_)
    · have n16 : ¬ (r11 = 0) := fun h9 => c15 ((nI_eq (a := r11) (b := 0) (by omega) (by omega)).mpr h9)
      refine lv_aload_n hx hb dX5_callNearest_26 rfl (lv_at hl 1 rfl) ?_
      refine c_get (v := .ref (a 29)) (C := RX5) (Tc := TX5) (N := 19) (ci := 4) hx hb hq pin_wsX50 hown hE hP hO 28 (sg_28 G h0 a _ _ _ _ _) rfl 2 (by decide) (hq _ pw_474) (fun _ h9 => h9) rfl dX5_callNearest_27 ?_
      refine lv_iload_n hx hb dX5_callNearest_30 rfl (lv_at hl 0 rfl) ?_
      refine c_ldl (f := (J 29)) (n := 32000) (t0 := 2) hx hb hE hP hO 32 (sg_32 G h0 a _ _ _ _ _) rfl (vp_in_nI (by omega) (by decide)) dX5_callNearest_31 ?_
      rw [(nI_clamp (show rc < 2 ^ 31 by omega))]
      refine lv_topl (fun x17 e18 => ?_)
      refine lv_lconst (v := 0) hx hb dX5_callNearest_32 (by decide) ?_
      refine W.lcmp hx hb dX5_callNearest_33 ?_
      refine lv_topi (fun x19 e20 => ?_)
      refine lv_if_ne (tgt := 43) hx hb dX5_callNearest_34 (by decide) (fun c21 => ?_) (fun c21 => ?_)
      · refine lv_aload_n hx hb dX5_callNearest_43 rfl (lv_at hl 1 rfl) ?_
        refine c_get (v := .ref pq) (C := RX5) (Tc := TX5) (N := 19) (ci := 4) hx hb hq pin_wsX50 hown hE hP hO 28 (sg_28 G h0 a _ _ _ _ _) rfl 8 (by decide) (hq _ pw_486) (fun _ h9 => h9) rfl dX5_callNearest_44 ?_
        refine lv_aload_n hx hb dX5_callNearest_47 rfl (lv_at hl 1 rfl) ?_
        refine c_get (v := .ref (a 28)) (C := RX5) (Tc := TX5) (N := 19) (ci := 4) hx hb hq pin_wsX50 hown hE hP hO 28 (sg_28 G h0 a _ _ _ _ _) rfl 1 (by decide) (hq _ pw_473) (fun _ h9 => h9) rfl dX5_callNearest_48 ?_
        refine lv_aload_n hx hb dX5_callNearest_51 rfl (lv_at hl 1 rfl) ?_
        refine c_get (v := .ref (a 29)) (C := RX5) (Tc := TX5) (N := 19) (ci := 4) hx hb hq pin_wsX50 hown hE hP hO 28 (sg_28 G h0 a _ _ _ _ _) rfl 2 (by decide) (hq _ pw_474) (fun _ h9 => h9) rfl dX5_callNearest_52 ?_
        refine lv_iload_n hx hb dX5_callNearest_55 rfl (lv_at hl 0 rfl) ?_
        refine c_ldl (f := (J 29)) (n := 32000) (t0 := 2) hx hb hE hP hO 32 (sg_32 G h0 a _ _ _ _ _) rfl (vp_in_nI (by omega) (by decide)) dX5_callNearest_56 ?_
        rw [(nI_clamp (show rc < 2 ^ 31 by omega))]
        refine lv_topl (fun x22 e23 => ?_)
        have hO : OKW G h0 a (upd (upd (upd (upd (upd (upd F 18 (nI ba)) 19 (nI tp)) 22 (nI on)) 23 en12) 26 (nI ht)) 26 (nI ht)) (updR (updR (updR (updR (updR (updR R 5 (.ref pq)) 6 (va_rf mo)) 7 (.ref (a sp))) 8 (.ref (a op))) 7 (.ref (a sp))) 8 (.ref (a op))) Z (updA B 33 ta13) J K.1 (fun q99 x99 => x99 = rep G a K q99) w := hO.to rfl
        obtain ⟨_, qr27, hqr28⟩ := hO.2.1 29 _ (sg_29 G h0 a _ _ _ _ _)
        refine pc_V0 (G := G) (As := [.long x22]) (rest := [.ref pq]) hx hb hml hown hq hE hX pX0_al hP hD hS hA hl.1 (K_typeOf l G h0 a (upd (upd (upd (upd (upd F 18 (nI ba)) 19 (nI tp)) 22 (nI on)) 23 en12) 26 (nI ht)) (updR (updR (updR (updR R 5 (.ref pq)) 6 (va_rf mo)) 7 (.ref (a sp))) 8 (.ref (a op))) Z (updA B 33 ta13) J K.1 (fun q99 x99 => x99 = rep G a K q99) w x22 sp op ht hsp (by omega) hO) (gV pw_489 pw_490 pw_491 pw_440 pw_441) hV_X3_typeOf qr27 3 hqr28 rfl rfl rfl (Nat.le_of_ble_eq_true rfl) dX5_callNearest_57 ⟨Nat.le_of_ble_eq_true rfl, Nat.le_of_ble_eq_true rfl⟩ ⟨Nat.le_of_ble_eq_true rfl, Nat.le_of_ble_eq_true rfl⟩ (fun v26 u24 H locs hw25 hP hD hS => ?_)
        obtain ⟨w, r29⟩ := u24
        obtain ⟨hw25, hO⟩ := hw25
        obtain rfl : v26 = some (.int r29) := hw25
        have hO : OKP G h0 a (upd (upd (upd (upd (upd F 18 (nI ba)) 19 (nI tp)) 22 (nI on)) 23 en12) 26 (nI ht)) (updR (updR (updR (updR R 5 (.ref pq)) 6 (va_rf mo)) 7 (.ref (a sp))) 8 (.ref (a op))) Z (updA B 33 ta13) J K w := hO.to rfl
        refine W.widen (k := 0) (n := 0) (Nat.le_of_ble_eq_true rfl) (Nat.le_of_ble_eq_true rfl) ?_
        refine W.eq (g2 := F0 m 60 ls [.int r29, .ref pq]) rfl ?_
        have hO : OKP G h0 a (upd (upd (upd (upd (upd F 18 (nI ba)) 19 (nI tp)) 22 (nI on)) 23 en12) 26 (nI ht)) (updR (updR (updR (updR R 5 (.ref pq)) 6 (va_rf mo)) 7 (.ref (a sp))) 8 (.ref (a op))) Z (updA B 33 ta13) J K w := hO.to rfl
        obtain ⟨qr33, hqr34⟩ := p_recv hO (by rw [hp1]; decide) (rep_7 hp1)
        refine pc_V0 (G := G) (As := [.int r29]) (rest := []) hx hb hml hown hq hE hX pX0_al hP hD hS hA hl.1 (G_decl l G h0 a (upd (upd (upd (upd (upd F 18 (nI ba)) 19 (nI tp)) 22 (nI on)) 23 en12) 26 (nI ht)) (updR (updR (updR (updR R 5 (.ref pq)) 6 (va_rf mo)) 7 (.ref (a sp))) 8 (.ref (a op))) Z (updA B 33 ta13) J K w pq dr ml nd r29 g hps.1 hps.2.1 hO) (gV pw_492 pw_182 pw_183 pw_106 pw_13) hV_X9_decl qr33 6 hqr34 rfl rfl rfl (Nat.le_of_ble_eq_true rfl) dX5_callNearest_60 ⟨Nat.le_of_ble_eq_true rfl, Nat.le_of_ble_eq_true rfl⟩ ⟨Nat.le_of_ble_eq_true rfl, Nat.le_of_ble_eq_true rfl⟩ (fun v32 u30 H locs hw31 hP hD hS => ?_)
        obtain ⟨w, o35⟩ := u30
        obtain ⟨hw31, h36, h37, hO⟩ := hw31
        have h36 : DoN K o35 := h36
        have h37 : DoK K dr nd r29 o35 := h37
        obtain rfl : v32 = some ((va_rf o35)) := hw31
        have hO : OKP G h0 a (upd (upd (upd (upd (upd F 18 (nI ba)) 19 (nI tp)) 22 (nI on)) 23 en12) 26 (nI ht)) (updR (updR (updR (updR R 5 (.ref pq)) 6 (va_rf mo)) 7 (.ref (a sp))) 8 (.ref (a op))) Z (updA B 33 ta13) J K w := hO.to rfl
        refine W.widen (k := 0) (n := 0) (Nat.le_of_ble_eq_true rfl) (Nat.le_of_ble_eq_true rfl) ?_
        refine W.eq (g2 := F0 m 63 ls [(va_rf o35)]) rfl ?_
        rcases o35 with _ | d38
        · have hl : lv_has ls 5 [(3, .int (nI rc)), (0, .ref (a 5)), (1, .int x), (2, .int (nI rt))] := hl
          refine W.eq (g2 := F0 m 63 ls [.null]) rfl ?_
          refine lv_astoreN (lv' := [(4, .null), (3, .int (nI rc)), (0, .ref (a 5)), (1, .int x), (2, .int (nI rt))]) hx hb dX5_callNearest_63 hl (by decide) rfl (fun ls hl => ?_)
          refine lv_aload_n hx hb dX5_callNearest_65 rfl (lv_at hl 2 rfl) ?_
          refine lv_aloadN hx hb dX5_callNearest_66 (lv_at hl 0 rfl) ?_
          refine lv_ifnonnullN hx hb dX5_callNearest_68 ?_
          refine lv_null hx hb dX5_callNearest_71 ?_
          refine lv_goto (tgt := 81) hx hb dX5_callNearest_72 (by decide) ?_
          refine lv_iload_n hx hb dX5_callNearest_81 rfl (lv_at hl 1 rfl) ?_
          have hO : OKW G h0 a (upd (upd (upd (upd (upd F 18 (nI ba)) 19 (nI tp)) 22 (nI on)) 23 en12) 26 (nI ht)) (updR (updR (updR (updR R 5 (.ref pq)) 6 (va_rf mo)) 7 (.ref (a sp))) 8 (.ref (a op))) Z (updA B 33 ta13) J K.1 (fun q99 x99 => x99 = rep G a K q99) w := hO.to rfl
          obtain ⟨_, qr42, hqr43⟩ := hO.2.1 28 _ (sg_28 G h0 a _ _ _ _ _)
          refine pc_V0 (G := G) (As := [.null, .int (nI rc)]) (rest := []) hx hb hml hown hq hE hX pX0_al hP hD hS hA hl.1 (M_beginN l G h0 a (upd (upd (upd (upd (upd F 18 (nI ba)) 19 (nI tp)) 22 (nI on)) 23 en12) 26 (nI ht)) (updR (updR (updR (updR R 5 (.ref pq)) 6 (va_rf mo)) 7 (.ref (a sp))) 8 (.ref (a op))) Z (updA B 33 ta13) J K.1 (fun q99 x99 => x99 = rep G a K q99) w (nI rc) hO) (gV pw_574 pw_575 pw_576 pw_539 pw_563) hV_X5_begin qr42 4 hqr43 rfl rfl rfl (Nat.le_of_ble_eq_true rfl) dX5_callNearest_82 ⟨Nat.le_of_ble_eq_true rfl, Nat.le_of_ble_eq_true rfl⟩ ⟨Nat.le_of_ble_eq_true rfl, Nat.le_of_ble_eq_true rfl⟩ (fun v41 u39 H locs hw40 hP hD hS => ?_)
          obtain ⟨w, en44, rf45⟩ := u39
          obtain ⟨hw40, hO⟩ := hw40
          obtain rfl : v41 = none := hw40
          have hO : OKP G h0 a (upd (upd (upd (upd (upd (upd F 18 (nI ba)) 19 (nI tp)) 22 (nI on)) 23 en44) 25 rf45) 26 (nI ht)) (updR (updR (updR (updR R 5 (.ref pq)) 6 (va_rf mo)) 7 (.ref (a sp))) 8 (.ref (a op))) Z (updA B 33 ta13) J K w := hO.to rfl
          refine W.widen (k := 0) (n := 0) (Nat.le_of_ble_eq_true rfl) (Nat.le_of_ble_eq_true rfl) ?_
          refine W.eq (g2 := F0 m 85 ls []) rfl ?_
          have hz46 : tp ≤ 32000 := (by omega)
          have hz47 : ba ≤ 32000 ∧ on ≤ 100 := (by omega)
          have hz48 : MsO K mo ba := hms
          have hz49 : FrO K nm it (B 30) on := hfr
          have hO : OKP G h0 a (upd (upd (upd (upd (upd (upd (upd F 18 (nI ba)) 19 (nI tp)) 21 (F 21)) 22 (nI on)) 23 en44) 25 rf45) 26 (nI ht)) (updR (updR (updR (updR R 5 (.ref pq)) 6 (va_rf mo)) 7 (.ref (a sp))) 8 (.ref (a op))) Z (updA (updA B 30 (B 30)) 33 ta13) J K w := hO.to rfl
          exact W.vret hx hb hr (fun t99 ht99 hW99 => ⟨⟨_, (w, (tp, en44, rf45, (F 21), ta13, Z, ba, on, mo, (B 30))), rfl, ⟨rfl, hz46, hz47, hz48, hz49, hO⟩, by rw [ht99]; exact hP, hD⟩, hS.F ht99⟩) hS.2.2 dX5_callNearest_85
        · have hl : lv_has ls 5 [(3, .int (nI rc)), (0, .ref (a 5)), (1, .int x), (2, .int (nI rt))] := hl
          refine W.eq (g2 := F0 m 63 ls [.ref d38]) rfl ?_
          have hdT := h36 d38 rfl
          refine lv_astore (lv' := [(4, .ref d38), (3, .int (nI rc)), (0, .ref (a 5)), (1, .int x), (2, .int (nI rt))]) hx hb dX5_callNearest_63 hl (by decide) rfl (fun ls hl => ?_)
          refine lv_aload_n hx hb dX5_callNearest_65 rfl (lv_at hl 2 rfl) ?_
          refine lv_aload hx hb dX5_callNearest_66 (lv_at hl 0 rfl) ?_
          refine lv_ifnonnull (tgt := 75) hx hb dX5_callNearest_68 (by decide) ?_
          refine lv_aload hx hb dX5_callNearest_75 (lv_at hl 0 rfl) ?_
          refine lv_iload_n hx hb dX5_callNearest_77 rfl (lv_at hl 3 rfl) ?_
          have hO : OKP G h0 a (upd (upd (upd (upd (upd F 18 (nI ba)) 19 (nI tp)) 22 (nI on)) 23 en12) 26 (nI ht)) (updR (updR (updR (updR R 5 (.ref pq)) 6 (va_rf mo)) 7 (.ref (a sp))) 8 (.ref (a op))) Z (updA B 33 ta13) J K w := hO.to rfl
          obtain ⟨qr53, hqr54⟩ := p_recv hO (by rw [hdT]; decide) (rep_4 hdT)
          refine pc_V0 (G := G) (As := [.int x]) (rest := [.ref (a 5)]) hx hb hml hown hq hE hX pX0_al hP hD hS hA hl.1 (O_nearest l G h0 a (upd (upd (upd (upd (upd F 18 (nI ba)) 19 (nI tp)) 22 (nI on)) 23 en12) 26 (nI ht)) (updR (updR (updR (updR R 5 (.ref pq)) 6 (va_rf mo)) 7 (.ref (a sp))) 8 (.ref (a op))) Z (updA B 33 ta13) J K w d38 x g rk hdT hwp hrk hO) (gV pw_573 pw_222 pw_223 pw_146 pw_154) hV_X2_nearest qr53 2 hqr54 rfl rfl rfl (Nat.le_of_ble_eq_true rfl) dX5_callNearest_78 ⟨Nat.le_of_ble_eq_true rfl, Nat.le_of_ble_eq_true rfl⟩ ⟨Nat.le_of_ble_eq_true rfl, Nat.le_of_ble_eq_true rfl⟩ (fun v52 u50 H locs hw51 hP hD hS => ?_)
          obtain ⟨w, o55⟩ := u50
          obtain ⟨hw51, h56, hO⟩ := hw51
          have h56 : MoN K o55 := h56
          obtain rfl : v52 = some ((va_rf o55)) := hw51
          have hO : OKP G h0 a (upd (upd (upd (upd (upd F 18 (nI ba)) 19 (nI tp)) 22 (nI on)) 23 en12) 26 (nI ht)) (updR (updR (updR (updR R 5 (.ref pq)) 6 (va_rf mo)) 7 (.ref (a sp))) 8 (.ref (a op))) Z (updA B 33 ta13) J K w := hO.to rfl
          refine W.widen (k := 0) (n := 0) (Nat.le_of_ble_eq_true rfl) (Nat.le_of_ble_eq_true rfl) ?_
          refine W.eq (g2 := F0 m 81 ls [(va_rf o55), .ref (a 5)]) rfl ?_
          rcases o55 with _ | d57
          · have hl : lv_has ls 5 [(4, .ref d38), (3, .int (nI rc)), (0, .ref (a 5)), (1, .int x), (2, .int (nI rt))] := hl
            refine W.eq (g2 := F0 m 81 ls [.null, .ref (a 5)]) rfl ?_
            refine lv_iload_n hx hb dX5_callNearest_81 rfl (lv_at hl 1 rfl) ?_
            have hO : OKW G h0 a (upd (upd (upd (upd (upd F 18 (nI ba)) 19 (nI tp)) 22 (nI on)) 23 en12) 26 (nI ht)) (updR (updR (updR (updR R 5 (.ref pq)) 6 (va_rf mo)) 7 (.ref (a sp))) 8 (.ref (a op))) Z (updA B 33 ta13) J K.1 (fun q99 x99 => x99 = rep G a K q99) w := hO.to rfl
            obtain ⟨_, qr61, hqr62⟩ := hO.2.1 28 _ (sg_28 G h0 a _ _ _ _ _)
            refine pc_V0 (G := G) (As := [.null, .int (nI rc)]) (rest := []) hx hb hml hown hq hE hX pX0_al hP hD hS hA hl.1 (M_beginN l G h0 a (upd (upd (upd (upd (upd F 18 (nI ba)) 19 (nI tp)) 22 (nI on)) 23 en12) 26 (nI ht)) (updR (updR (updR (updR R 5 (.ref pq)) 6 (va_rf mo)) 7 (.ref (a sp))) 8 (.ref (a op))) Z (updA B 33 ta13) J K.1 (fun q99 x99 => x99 = rep G a K q99) w (nI rc) hO) (gV pw_574 pw_575 pw_576 pw_539 pw_563) hV_X5_begin qr61 4 hqr62 rfl rfl rfl (Nat.le_of_ble_eq_true rfl) dX5_callNearest_82 ⟨Nat.le_of_ble_eq_true rfl, Nat.le_of_ble_eq_true rfl⟩ ⟨Nat.le_of_ble_eq_true rfl, Nat.le_of_ble_eq_true rfl⟩ (fun v60 u58 H locs hw59 hP hD hS => ?_)
            obtain ⟨w, en63, rf64⟩ := u58
            obtain ⟨hw59, hO⟩ := hw59
            obtain rfl : v60 = none := hw59
            have hO : OKP G h0 a (upd (upd (upd (upd (upd (upd F 18 (nI ba)) 19 (nI tp)) 22 (nI on)) 23 en63) 25 rf64) 26 (nI ht)) (updR (updR (updR (updR R 5 (.ref pq)) 6 (va_rf mo)) 7 (.ref (a sp))) 8 (.ref (a op))) Z (updA B 33 ta13) J K w := hO.to rfl
            refine W.widen (k := 0) (n := 0) (Nat.le_of_ble_eq_true rfl) (Nat.le_of_ble_eq_true rfl) ?_
            refine W.eq (g2 := F0 m 85 ls []) rfl ?_
            have hz65 : tp ≤ 32000 := (by omega)
            have hz66 : ba ≤ 32000 ∧ on ≤ 100 := (by omega)
            have hz67 : MsO K mo ba := hms
            have hz68 : FrO K nm it (B 30) on := hfr
            have hO : OKP G h0 a (upd (upd (upd (upd (upd (upd (upd F 18 (nI ba)) 19 (nI tp)) 21 (F 21)) 22 (nI on)) 23 en63) 25 rf64) 26 (nI ht)) (updR (updR (updR (updR R 5 (.ref pq)) 6 (va_rf mo)) 7 (.ref (a sp))) 8 (.ref (a op))) Z (updA (updA B 30 (B 30)) 33 ta13) J K w := hO.to rfl
            exact W.vret hx hb hr (fun t99 ht99 hW99 => ⟨⟨_, (w, (tp, en63, rf64, (F 21), ta13, Z, ba, on, mo, (B 30))), rfl, ⟨rfl, hz65, hz66, hz67, hz68, hO⟩, by rw [ht99]; exact hP, hD⟩, hS.F ht99⟩) hS.2.2 dX5_callNearest_85
          · have hl : lv_has ls 5 [(4, .ref d38), (3, .int (nI rc)), (0, .ref (a 5)), (1, .int x), (2, .int (nI rt))] := hl
            refine W.eq (g2 := F0 m 81 ls [.ref d57, .ref (a 5)]) rfl ?_
            have hnT := h56 d57 rfl
            refine lv_iload_n hx hb dX5_callNearest_81 rfl (lv_at hl 1 rfl) ?_
            have hO : OKP G h0 a (upd (upd (upd (upd (upd (upd (upd (upd F 18 (nI ba)) 19 (nI tp)) 22 (nI on)) 23 en12) 26 (nI ht)) 18 (nI ba)) 19 (nI tp)) 22 (nI on)) (updR (updR (updR (updR (updR (updR R 5 (.ref pq)) 6 (va_rf mo)) 7 (.ref (a sp))) 8 (.ref (a op))) 5 (.ref pq)) 6 (va_rf mo)) Z (updA B 33 ta13) J K w := hO.to rfl
            obtain ⟨_, qr72, hqr73⟩ := hO.2.1 28 _ (sg_28 G h0 a _ _ _ _ _)
            refine pc_V0 (G := G) (As := [.ref d57, .int (nI rc)]) (rest := []) hx hb hml hown hq hE hX pX0_al hP hD hS hA hl.1 (M_begin l G h0 a (upd (upd (upd (upd (upd F 18 (nI ba)) 19 (nI tp)) 22 (nI on)) 23 en12) 26 (nI ht)) (updR (updR (updR (updR R 5 (.ref pq)) 6 (va_rf mo)) 7 (.ref (a sp))) 8 (.ref (a op))) Z (updA B 33 ta13) J K w d57 (nI rc) tp pq dr ml nd nm cp it s9 g rk ba on mo (by omega) hwp hps hrk (by omega) (by omega) hms hfr hnT (Or.inr ⟨rc, rfl, hrc2⟩) hO) (gV pw_574 pw_575 pw_576 pw_539 pw_563) hV_X5_begin qr72 4 hqr73 rfl rfl rfl (Nat.le_of_ble_eq_true rfl) dX5_callNearest_82 ⟨Nat.le_of_ble_eq_true rfl, Nat.le_of_ble_eq_true rfl⟩ ⟨Nat.le_of_ble_eq_true rfl, Nat.le_of_ble_eq_true rfl⟩ (fun v71 u69 H locs hw70 hP hD hS => ?_)
            obtain ⟨w, tp74, en75, rf76, nx77, ta78, ba79, on80, mo81, fr82⟩ := u69
            obtain ⟨hw70, h83, h84, h85, h86, hO⟩ := hw70
            have h83 : tp74 ≤ 32000 := h83
            have h84 : ba79 ≤ 32000 ∧ on80 ≤ 100 := h84
            have h85 : MsO K mo81 ba79 := h85
            have h86 : FrO K nm it fr82 on80 := h86
            obtain rfl : v71 = none := hw70
            have hO : OKP G h0 a (upd (upd (upd (upd (upd (upd (upd F 18 (nI ba79)) 19 (nI tp74)) 21 nx77) 22 (nI on80)) 23 en75) 25 rf76) 26 (nI ht)) (updR (updR (updR (updR R 5 (.ref pq)) 6 (va_rf mo81)) 7 (.ref (a sp))) 8 (.ref (a op))) Z (updA (updA B 30 fr82) 33 ta78) J K w := hO.to rfl
            refine W.widen (k := 0) (n := 0) (Nat.le_of_ble_eq_true rfl) (Nat.le_of_ble_eq_true rfl) ?_
            refine W.eq (g2 := F0 m 85 ls []) rfl ?_
            have hz87 : tp74 ≤ 32000 := (by omega)
            have hz88 : ba79 ≤ 32000 ∧ on80 ≤ 100 := (by omega)
            have hz89 : MsO K mo81 ba79 := h85
            have hz90 : FrO K nm it fr82 on80 := h86
            have hO : OKP G h0 a (upd (upd (upd (upd (upd (upd (upd F 18 (nI ba79)) 19 (nI tp74)) 21 nx77) 22 (nI on80)) 23 en75) 25 rf76) 26 (nI ht)) (updR (updR (updR (updR R 5 (.ref pq)) 6 (va_rf mo81)) 7 (.ref (a sp))) 8 (.ref (a op))) Z (updA (updA B 30 fr82) 33 ta78) J K w := hO.to rfl
            exact W.vret hx hb hr (fun t99 ht99 hW99 => ⟨⟨_, (w, (tp74, en75, rf76, nx77, ta78, Z, ba79, on80, mo81, fr82)), rfl, ⟨rfl, hz87, hz88, hz89, hz90, hO⟩, by rw [ht99]; exact hP, hD⟩, hS.F ht99⟩) hS.2.2 dX5_callNearest_85
      · refine lv_aload_n hx hb dX5_callNearest_37 rfl (lv_at hl 1 rfl) ?_
        refine lv_iconst (v := 1) hx hb dX5_callNearest_38 (by decide) ?_
        have hO : OKW G h0 a (upd (upd (upd (upd (upd F 18 (nI ba)) 19 (nI tp)) 22 (nI on)) 23 en12) 26 (nI ht)) (updR (updR (updR (updR R 5 (.ref pq)) 6 (va_rf mo)) 7 (.ref (a sp))) 8 (.ref (a op))) Z (updA B 33 ta13) J K.1 (fun q99 x99 => x99 = rep G a K q99) w := hO.to rfl
        obtain ⟨_, qr94, hqr95⟩ := hO.2.1 28 _ (sg_28 G h0 a _ _ _ _ _)
        refine pc_V0 (G := G) (As := [.int 1]) (rest := []) hx hb hml hown hq hE hX pX0_al hP hD hS hA hl.1 (M_raise l G h0 a (upd (upd (upd (upd (upd F 18 (nI ba)) 19 (nI tp)) 22 (nI on)) 23 en12) 26 (nI ht)) (updR (updR (updR (updR R 5 (.ref pq)) 6 (va_rf mo)) 7 (.ref (a sp))) 8 (.ref (a op))) Z (updA B 33 ta13) J K.1 (fun q99 x99 => x99 = rep G a K q99) w 1 hO) (gV pw_570 pw_571 pw_572 pw_539 pw_561) hV_X5_raise qr94 4 hqr95 rfl rfl rfl (Nat.le_of_ble_eq_true rfl) dX5_callNearest_39 ⟨Nat.le_of_ble_eq_true rfl, Nat.le_of_ble_eq_true rfl⟩ ⟨Nat.le_of_ble_eq_true rfl, Nat.le_of_ble_eq_true rfl⟩ (fun v93 u91 H locs hw92 hP hD hS => ?_)
        obtain ⟨w, z96⟩ := u91
        obtain ⟨hw92, hO⟩ := hw92
        obtain rfl : v93 = none := hw92
        have hO : OKP G h0 a (upd (upd (upd (upd (upd F 18 (nI ba)) 19 (nI tp)) 22 (nI on)) 23 en12) 26 (nI ht)) (updR (updR (updR (updR R 5 (.ref pq)) 6 (va_rf mo)) 7 (.ref (a sp))) 8 (.ref (a op))) z96 (updA B 33 ta13) J K w := hO.to rfl
        refine W.widen (k := 0) (n := 0) (Nat.le_of_ble_eq_true rfl) (Nat.le_of_ble_eq_true rfl) ?_
        refine W.eq (g2 := F0 m 42 ls []) rfl ?_
        have hz97 : tp ≤ 32000 := (by omega)
        have hz98 : ba ≤ 32000 ∧ on ≤ 100 := (by omega)
        have hz99 : MsO K mo ba := hms
        have hz100 : FrO K nm it (B 30) on := hfr
        have hO : OKP G h0 a (upd (upd (upd (upd (upd (upd (upd F 18 (nI ba)) 19 (nI tp)) 21 (F 21)) 22 (nI on)) 23 en12) 25 (F 25)) 26 (nI ht)) (updR (updR (updR (updR R 5 (.ref pq)) 6 (va_rf mo)) 7 (.ref (a sp))) 8 (.ref (a op))) z96 (updA (updA B 30 (B 30)) 33 ta13) J K w := hO.to rfl
        exact W.vret hx hb hr (fun t99 ht99 hW99 => ⟨⟨_, (w, (tp, en12, (F 25), (F 21), ta13, z96, ba, on, mo, (B 30))), rfl, ⟨rfl, hz97, hz98, hz99, hz100, hO⟩, by rw [ht99]; exact hP, hD⟩, hS.F ht99⟩) hS.2.2 dX5_callNearest_42
    · have n101 : r11 = 0 := (nI_eq (a := r11) (b := 0) (by omega) (by omega)).mp c15
      have hz102 : tp ≤ 32000 := (by omega)
      have hz103 : ba ≤ 32000 ∧ on ≤ 100 := (by omega)
      have hz104 : MsO K mo ba := hms
      have hz105 : FrO K nm it (B 30) on := hfr
      have hO : OKP G h0 a (upd (upd (upd (upd (upd (upd (upd F 18 (nI ba)) 19 (nI tp)) 21 (F 21)) 22 (nI on)) 23 en12) 25 (F 25)) 26 (nI ht)) (updR (updR (updR (updR R 5 (.ref pq)) 6 (va_rf mo)) 7 (.ref (a sp))) 8 (.ref (a op))) Z (updA (updA B 30 (B 30)) 33 ta13) J K w := hO.to rfl
      exact W.vret hx hb hr (fun t99 ht99 hW99 => ⟨⟨_, (w, (tp, en12, (F 25), (F 21), ta13, Z, ba, on, mo, (B 30))), rfl, ⟨rfl, hz102, hz103, hz104, hz105, hO⟩, by rw [ht99]; exact hP, hD⟩, hS.F ht99⟩) hS.2.2 dX5_callNearest_25
  · refine lv_aload_n hx hb dX5_callNearest_13 rfl (lv_at hl 1 rfl) ?_
    have hO : OKW G h0 a (upd (upd (upd (upd F 18 (nI ba)) 19 (nI tp)) 22 (nI on)) 26 (nI ht)) (updR (updR (updR (updR R 5 (.ref pq)) 6 (va_rf mo)) 7 (.ref (a sp))) 8 (.ref (a op))) Z B J K.1 (fun q99 x99 => x99 = rep G a K q99) w := hO.to rfl
    obtain ⟨_, qr109, hqr110⟩ := hO.2.1 28 _ (sg_28 G h0 a _ _ _ _ _)
    refine pc_V0 (G := G) (As := []) (rest := []) hx hb hml hown hq hE hX pX0_al hP hD hS hA hl.1 (M_refuse l G h0 a (upd (upd (upd (upd F 18 (nI ba)) 19 (nI tp)) 22 (nI on)) 26 (nI ht)) (updR (updR (updR (updR R 5 (.ref pq)) 6 (va_rf mo)) 7 (.ref (a sp))) 8 (.ref (a op))) Z B J K.1 (fun q99 x99 => x99 = rep G a K q99) w hO) (gV pw_536 pw_537 pw_538 pw_539 pw_511) hV_X5_refuse qr109 4 hqr110 rfl rfl rfl (Nat.le_of_ble_eq_true rfl) dX5_callNearest_14 ⟨Nat.le_of_ble_eq_true rfl, Nat.le_of_ble_eq_true rfl⟩ ⟨Nat.le_of_ble_eq_true rfl, Nat.le_of_ble_eq_true rfl⟩ (fun v108 u106 H locs hw107 hP hD hS => ?_)
    obtain ⟨w, en111, rf112⟩ := u106
    obtain ⟨hw107, hO⟩ := hw107
    obtain rfl : v108 = none := hw107
    have hO : OKP G h0 a (upd (upd (upd (upd (upd (upd F 18 (nI ba)) 19 (nI tp)) 22 (nI on)) 23 en111) 25 rf112) 26 (nI ht)) (updR (updR (updR (updR R 5 (.ref pq)) 6 (va_rf mo)) 7 (.ref (a sp))) 8 (.ref (a op))) Z B J K w := hO.to rfl
    refine W.widen (k := 0) (n := 0) (Nat.le_of_ble_eq_true rfl) (Nat.le_of_ble_eq_true rfl) ?_
    refine W.eq (g2 := F0 m 17 ls []) rfl ?_
    have hz113 : tp ≤ 32000 := (by omega)
    have hz114 : ba ≤ 32000 ∧ on ≤ 100 := (by omega)
    have hz115 : MsO K mo ba := hms
    have hz116 : FrO K nm it (B 30) on := hfr
    have hO : OKP G h0 a (upd (upd (upd (upd (upd (upd (upd F 18 (nI ba)) 19 (nI tp)) 21 (F 21)) 22 (nI on)) 23 en111) 25 rf112) 26 (nI ht)) (updR (updR (updR (updR R 5 (.ref pq)) 6 (va_rf mo)) 7 (.ref (a sp))) 8 (.ref (a op))) Z (updA (updA B 30 (B 30)) 33 (B 33)) J K w := hO.to rfl
    exact W.vret hx hb hr (fun t99 ht99 hW99 => ⟨⟨_, (w, (tp, en111, rf112, (F 21), (B 33), Z, ba, on, mo, (B 30))), rfl, ⟨rfl, hz113, hz114, hz115, hz116, hO⟩, by rw [ht99]; exact hP, hD⟩, hS.F ht99⟩) hS.2.2 dX5_callNearest_17
