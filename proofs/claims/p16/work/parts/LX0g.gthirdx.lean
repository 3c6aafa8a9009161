set_option maxHeartbeats 60000000 in
set_option maxRecDepth 100000 in
theorem N_thirdRound (l : Launch) (G : pT) (h0 : Nat) (a : Nat → Nat) (F : Nat → Int32) (R : Nat → Value) (Z : Int64) (B : Nat → Nat → Int32) (J : Nat → Nat → Int64) (K : PK) (w : va_W) (pq : Nat) (dr : Nat) (ml : Nat) (nd : Nat) (nm : Nat) (cp : Nat) (it : Nat → Nat) (s9 : Nat) (sz : Nat) (g : Nat → Nat → Nat) (rk : Nat → Nat) (hsz : sz ≤ 5000) (hwp : WPr G K g) (hps : PgT G K g (a 1) pq dr ml nd nm cp it s9) (hrk : RkO K rk) (hO : OKP G h0 a (upd F 2 (nI sz)) R Z B J K w) : PM l G pX0 yX9_thirdRound cX9_thirdRound 4 none ({ frames := 8, cells := 0, slots := 0, locals := 196 }) [.ref pq] w (fun (v : Option Value) (u : va_W × (PK)) => v = none ∧ (LgK K u.2 pq) ∧ (Cln u.2 pq → Cln K pq ∧ (Rd3 G K dr nd (B 11) sz)) ∧ (OKP G h0 a (upd F 2 (nI sz)) R Z B J u.2 u.1)) (fun u => u.1) := by
  intro sz
  refine Met.ofW (cc := cX9_thirdRound) (maxL := 4) (ret := none) (by decide) rfl ?_
  intro p e s m args below meth c s₁ B9 hml hv
  obtain ⟨rfl, hsz, hP, hD0, hE, hX⟩ := hv
  have hx := B9.exec
  have hb := B9.bytes
  have hr := B9.returns
  have hts := atoms_spec (ws := Cond.code yX9_thirdRound cX9_thirdRound 4 none :: pw) B9.pre
  have hq : ∀ w ∈ pw, w.before _ s = true := fun w h => hts w (List.mem_cons_of_mem _ h)
  have hown : s.vm.findClass RX9 = some m.cls := findClass_of_methodNamed B9.named
  have hlocks := B9.notSynchronized
  subst hsz
  have hD := hD0.self (sz := s.heap.size)
  have hA : ∀ q : Nat, s.heap.size ≤ q → va_A w s.heap.size q := fun q h => Or.inr h
  generalize va_A w s.heap.size = A at hD hE hA ⊢
  have hS : va_S A s.heap s.heap [] := va_S.rf
  have hl := lv_entry ([.ref pq]) (n := 4) (Nat.le_of_ble_eq_true rfl)
  rw [lg_entry_eq]
  generalize (lg_sl ([.ref pq]) ++ List.replicate (4 - (lg_sl ([.ref pq])).length) Slot.unset).toArray = ls at hl ⊢
  have hl : lv_has ls 4 [(0, .ref pq)] := hl
  have hp1 := hps.1.1
  have hp2 := hps.1.2.1
  have hp3 := hps.1.2.2.1
  have hp4 := hps.1.2.2.2.1
  have hp5 := hps.1.2.2.2.2.1
  have hp6 := hps.1.2.2.2.2.2.1
  have hp8 := hps.1.2.2.2.2.2.2.2.1
  have hp9 := hps.1.2.2.2.2.2.2.2.2
  refine lv_bipush (v := 7) hx hb dX9_thirdRound_0 (by decide) ?_
  refine lv_istore_n (lv' := [(1, .int 7), (0, .ref pq)]) hx hb dX9_thirdRound_2 rfl hl (by decide) rfl (fun ls hl => ?_)
  have loop_2 : ∀ (n_2 : Nat) (i2 : Nat) (K2 : PK) (H : Heap) (locs : List Loc) (ls : Array Slot) (w : va_W), i2 ≤ nd → nd + 1 ≤ i2 + n_2 → (LgK K K2 pq) → (Cln K2 pq → Cln K pq ∧ (∀ k : Nat, 7 ≤ k → k < i2 → ∀ d : Nat, K.2.2.2.2.1 dr k = some d → ∀ u e : Nat, u < nd → K.2.2.2.2.1 dr u = some e → bitL (K.2.2.2.1 d) u → JmA G K dr nd (B 11) sz d e)) → va_P G.1 pCl w H → va_D A w → va_S A s.heap H locs → OKP G h0 a (upd F 2 (nI sz)) R Z B J K2 w → lv_has ls 4 [(1, .int (nI i2)), (0, .ref pq)] → W p l e (headSpec (Cond.code yX9_thirdRound cX9_thirdRound 4 none :: pw) ({ frames := 8, cells := 0, slots := 0, locals := 196 } : Room)).room s m ([.ref pq] : List Value).toArray below meth c H locs 0 0 (MQ below (pQ G A (fun (v : Option Value) (u : va_W × (PK)) => v = none ∧ (LgK K u.2 pq) ∧ (Cln u.2 pq → Cln K pq ∧ (Rd3 G K dr nd (B 11) sz)) ∧ (OKP G h0 a (upd F 2 (nI sz)) R Z B J u.2 u.1)) (fun u => u.1)) ([.ref pq] : List Value).toArray s ({ frames := 8, cells := 0, slots := 0, locals := 196 } : Room).cells ({ frames := 8, cells := 0, slots := 0, locals := 196 } : Room).slots A) (F0 m 3 ls []) := by
    intro n_2
    induction n_2 with
    | zero => intro i2 K2 H locs ls w hk_2 hn_2; omega
    | succ n_2 ih_2 =>
      intro i2 K2 H locs ls w hk_2 hn_2 hlg2 hcl2 hP hD hS hO hl
      refine lv_iload_n hx hb dX9_thirdRound_3 rfl (lv_at hl 0 rfl) ?_
      refine lv_aload_n hx hb dX9_thirdRound_4 rfl (lv_at hl 1 rfl) ?_
      refine p_get (v := .int (nI nd)) (C := RX9) (Tc := TX9) (N := 5) (ci := 6) hx hb hq pin_wsX90 hown hE hP hO (by rw [((LgK.T hlg2 pq).trans hp1)]; decide) (rep_7 ((LgK.T hlg2 pq).trans hp1)) rfl 2 (by decide) (hq _ pw_14) (fun _ h9 => h9) (congrArg (fun z => some (Value.int z)) ((LgK.I hlg2 24 pq (by decide)).trans hp8)) dX9_thirdRound_5 ?_
      refine lv_icmp_ge (tgt := 71) hx hb dX9_thirdRound_8 (by decide) (fun c1 => ?_) (fun c1 => ?_)
      · have n2 : nd ≤ i2 := (nI_leI (a := nd) (b := i2) (by omega) (by omega)).mp c1
        refine lv_aload_n hx hb dX9_thirdRound_71 rfl (lv_at hl 1 rfl) ?_
        refine lv_aload_n hx hb dX9_thirdRound_72 rfl (lv_at hl 1 rfl) ?_
        refine lv_bipush (v := 36) hx hb dX9_thirdRound_73 (by decide) ?_
        have hO : OKP G h0 a (upd F 2 (nI sz)) R Z B J K2 w := hO.to rfl
        obtain ⟨qr6, hqr7⟩ := p_recv hO (by rw [((LgK.T hlg2 pq).trans hp1)]; decide) (rep_7 ((LgK.T hlg2 pq).trans hp1))
        refine pc_V0 (G := G) (As := [.int 36]) (rest := [.ref pq]) hx hb hml hown hq hE hX pX0_al hP hD hS hA hl.1 (N_find l G h0 a (upd F 2 (nI sz)) R Z B J K2 w pq dr ml nd 36 g (LgK.ps hlg2 hps).1 (LgK.ps hlg2 hps).2.1 hO) (gV pw_1102 pw_585 pw_586 pw_106 pw_509) hV_X9_find qr6 6 hqr7 rfl rfl rfl (Nat.le_of_ble_eq_true rfl) dX9_thirdRound_75 ⟨Nat.le_of_ble_eq_true rfl, Nat.le_of_ble_eq_true rfl⟩ ⟨Nat.le_of_ble_eq_true rfl, Nat.le_of_ble_eq_true rfl⟩ (fun v5 u3 H locs hw4 hP hD hS => ?_)
        obtain ⟨w, r8⟩ := u3
        obtain ⟨hw4, h9, hO⟩ := hw4
        have h9 : FdX K2 dr nd 36 r8 := h9
        obtain rfl : v5 = some (.int r8) := hw4
        have hO : OKP G h0 a (upd F 2 (nI sz)) R Z B J K2 w := hO.to rfl
        refine W.widen (k := 0) (n := 0) (Nat.le_of_ble_eq_true rfl) (Nat.le_of_ble_eq_true rfl) ?_
        refine W.eq (g2 := F0 m 78 ls [.int r8, .ref pq]) rfl ?_
        have hO : OKP G h0 a (upd F 2 (nI sz)) R Z B J K2 w := hO.to rfl
        obtain ⟨qr13, hqr14⟩ := p_recv hO (by rw [((LgK.T hlg2 pq).trans hp1)]; decide) (rep_7 ((LgK.T hlg2 pq).trans hp1))
        refine pc_V0 (G := G) (As := [.int r8]) (rest := []) hx hb hml hown hq hE hX pX0_al hP hD hS hA hl.1 (G_decl l G h0 a (upd F 2 (nI sz)) R Z B J K2 w pq dr ml nd r8 g (LgK.ps hlg2 hps).1 (LgK.ps hlg2 hps).2.1 hO) (gV pw_1103 pw_182 pw_183 pw_106 pw_13) hV_X9_decl qr13 6 hqr14 rfl rfl rfl (Nat.le_of_ble_eq_true rfl) dX9_thirdRound_78 ⟨Nat.le_of_ble_eq_true rfl, Nat.le_of_ble_eq_true rfl⟩ ⟨Nat.le_of_ble_eq_true rfl, Nat.le_of_ble_eq_true rfl⟩ (fun v12 u10 H locs hw11 hP hD hS => ?_)
        obtain ⟨w, o15⟩ := u10
        obtain ⟨hw11, h16, h17, hO⟩ := hw11
        have h16 : DoN K2 o15 := h16
        have h17 : DoK K2 dr nd r8 o15 := h17
        obtain rfl : v12 = some ((va_rf o15)) := hw11
        have hO : OKP G h0 a (upd F 2 (nI sz)) R Z B J K2 w := hO.to rfl
        refine W.widen (k := 0) (n := 0) (Nat.le_of_ble_eq_true rfl) (Nat.le_of_ble_eq_true rfl) ?_
        refine W.eq (g2 := F0 m 81 ls [(va_rf o15)]) rfl ?_
        rcases o15 with _ | d18
        · have hl : lv_has ls 4 [(1, .int (nI i2)), (0, .ref pq)] := hl
          refine W.eq (g2 := F0 m 81 ls [.null]) rfl ?_
          refine lv_astore_nN (lv' := [(1, .null), (0, .ref pq)]) hx hb dX9_thirdRound_81 rfl hl (by decide) rfl (fun ls hl => ?_)
          refine lv_aload_nN hx hb dX9_thirdRound_82 rfl (lv_at hl 0 rfl) ?_
          refine lv_ifnullN (tgt := 93) hx hb dX9_thirdRound_83 (by decide) ?_
          refine lv_null hx hb dX9_thirdRound_93 ?_
          refine lv_goto (tgt := 103) hx hb dX9_thirdRound_94 (by decide) ?_
          refine lv_astore_nN (lv' := [(2, .null), (1, .null), (0, .ref pq)]) hx hb dX9_thirdRound_103 rfl hl (by decide) rfl (fun ls hl => ?_)
          refine lv_aload_nN hx hb dX9_thirdRound_104 rfl (lv_at hl 0 rfl) ?_
          refine lv_ifnullN (tgt := 134) hx hb dX9_thirdRound_105 (by decide) ?_
          refine lv_aload_n hx hb dX9_thirdRound_134 rfl (lv_at hl 2 rfl) ?_
          refine lv_bipush (v := 9) hx hb dX9_thirdRound_135 (by decide) ?_
          refine lv_aload_n hx hb dX9_thirdRound_137 rfl (lv_at hl 2 rfl) ?_
          refine p_get (v := .ref (a 1)) (C := RX9) (Tc := TX9) (N := 5) (ci := 6) hx hb hq pin_wsX90 hown hE hP hO (by rw [((LgK.T hlg2 pq).trans hp1)]; decide) (rep_7 ((LgK.T hlg2 pq).trans hp1)) rfl 0 (by decide) (hq _ pw_784) (fun _ h9 => h9) (congrArg (fun z => some (va_rf z)) ((LgK.C hlg2 18 pq).trans hp2)) dX9_thirdRound_138 ?_
          refine c_get (v := .int (nI sz)) (C := RX10) (Tc := TX10) (N := 15) (ci := 7) hx hb hq pin_wsX100 hown hE hP hO 2 (sg_2 G h0 a _ _ _ _ _) rfl 8 (by decide) (hq _ pw_1115) (fun _ h9 => h9) rfl dX9_thirdRound_141 ?_
          have hO : OKP G h0 a (upd (upd F 2 (nI sz)) 2 (nI sz)) R Z B J K2 w := hO.to rfl
          obtain ⟨qr22, hqr23⟩ := p_recv hO (by rw [((LgK.T hlg2 pq).trans hp1)]; decide) (rep_7 ((LgK.T hlg2 pq).trans hp1))
          refine pc_V0 (G := G) (As := [.int 9, .int (nI sz)]) (rest := []) hx hb hml hown hq hE hX pX0_al hP hD hS hA hl.1 (N_report l G h0 a (upd F 2 (nI sz)) R Z B J K2 w pq dr ml nd nm cp it s9 9 (nI sz) sz g (by omega) (LgK.wp hlg2 hwp) (LgK.ps hlg2 hps) hO) (gV pw_1096 pw_1097 pw_1098 pw_106 pw_1084) hV_X9_report qr22 6 hqr23 rfl rfl rfl (Nat.le_of_ble_eq_true rfl) dX9_thirdRound_144 ⟨Nat.le_of_ble_eq_true rfl, Nat.le_of_ble_eq_true rfl⟩ ⟨Nat.le_of_ble_eq_true rfl, Nat.le_of_ble_eq_true rfl⟩ (fun v21 u19 H locs hw20 hP hD hS => ?_)
          obtain ⟨w, K24⟩ := u19
          obtain ⟨hw20, h25, h26, hO⟩ := hw20
          have h25 : LgK K2 K24 pq := h25
          have h26 : RpX 9 K24 pq := h26
          obtain rfl : v21 = none := hw20
          have hO : OKP G h0 a (upd F 2 (nI sz)) R Z B J K24 w := hO.to rfl
          refine W.widen (k := 0) (n := 0) (Nat.le_of_ble_eq_true rfl) (Nat.le_of_ble_eq_true rfl) ?_
          refine W.eq (g2 := F0 m 147 ls []) rfl ?_
          have hlg27 : LgK K K24 pq := LgK.trans hlg2 h25
          have hm28 : Cln K24 pq → Cln K2 pq := fun z => absurd z (h26 (by decide))
          have hz29 : LgK K K24 pq := hlg27
          have hz30 : Cln K24 pq → Cln K pq ∧ (Rd3 G K dr nd (B 11) sz) := (fun z => absurd z (h26 (by decide)))
          have hO : OKP G h0 a (upd F 2 (nI sz)) R Z B J K24 w := hO.to rfl
          exact W.vret hx hb hr (fun t99 ht99 hW99 => ⟨⟨_, (w, K24), rfl, ⟨rfl, hz29, hz30, hO⟩, by rw [ht99]; exact hP, hD⟩, hS.F ht99⟩) hS.2.2 dX9_thirdRound_147
        · have hl : lv_has ls 4 [(1, .int (nI i2)), (0, .ref pq)] := hl
          refine W.eq (g2 := F0 m 81 ls [.ref d18]) rfl ?_
          have hf31 : K.1 d18 = 4 := (LgK.T hlg2 d18).symm.trans (h16 d18 rfl)
          obtain ⟨kF, hkF, hxF, heF⟩ := h17 d18 rfl
          refine lv_astore_n (lv' := [(1, .ref d18), (0, .ref pq)]) hx hb dX9_thirdRound_81 rfl hl (by decide) rfl (fun ls hl => ?_)
          refine lv_aload_n hx hb dX9_thirdRound_82 rfl (lv_at hl 0 rfl) ?_
          refine lv_ifnull hx hb dX9_thirdRound_83 ?_
          refine lv_aload_n hx hb dX9_thirdRound_86 rfl (lv_at hl 0 rfl) ?_
          refine p_get (v := .int (K2.2.1 18 d18)) (C := RX2) (Tc := TX2) (N := 13) (ci := 2) hx hb hq pin_wsX20 hown hE hP hO (by rw [((LgK.T hlg2 d18).trans hf31)]; decide) (rep_4 ((LgK.T hlg2 d18).trans hf31)) rfl 3 (by decide) (hq _ pw_1101) (fun _ h9 => h9) rfl dX9_thirdRound_87 ?_
          refine lv_if_eq (tgt := 97) hx hb dX9_thirdRound_90 (by decide) (fun c32 => ?_) (fun c32 => ?_)
          · refine lv_aload_n hx hb dX9_thirdRound_97 rfl (lv_at hl 0 rfl) ?_
            refine lv_bipush (v := 37) hx hb dX9_thirdRound_98 (by decide) ?_
            have hO : OKP G h0 a (upd F 2 (nI sz)) R Z B J K2 w := hO.to rfl
            obtain ⟨qr36, hqr37⟩ := p_recv hO (by rw [((LgK.T hlg2 d18).trans hf31)]; decide) (rep_4 ((LgK.T hlg2 d18).trans hf31))
            refine pc_V0 (G := G) (As := [.int 37]) (rest := []) hx hb hml hown hq hE hX pX0_al hP hD hS hA hl.1 (N_nearest l G h0 a (upd F 2 (nI sz)) R Z B J K2 w d18 37 g rk ((LgK.T hlg2 d18).trans hf31) (LgK.wp hlg2 hwp) (LgK.rko hlg2 hrk) hO) (gV pw_1154 pw_222 pw_223 pw_146 pw_154) hV_X2_nearest qr36 2 hqr37 rfl rfl rfl (Nat.le_of_ble_eq_true rfl) dX9_thirdRound_100 ⟨Nat.le_of_ble_eq_true rfl, Nat.le_of_ble_eq_true rfl⟩ ⟨Nat.le_of_ble_eq_true rfl, Nat.le_of_ble_eq_true rfl⟩ (fun v35 u33 H locs hw34 hP hD hS => ?_)
            obtain ⟨w, o38⟩ := u33
            obtain ⟨hw34, h39, hO⟩ := hw34
            have h39 : NeQ K2 37 d18 o38 := h39
            obtain rfl : v35 = some ((va_rf o38)) := hw34
            have hO : OKP G h0 a (upd F 2 (nI sz)) R Z B J K2 w := hO.to rfl
            refine W.widen (k := 0) (n := 0) (Nat.le_of_ble_eq_true rfl) (Nat.le_of_ble_eq_true rfl) ?_
            refine W.eq (g2 := F0 m 103 ls [(va_rf o38)]) rfl ?_
            rcases o38 with _ | d40
            · have hl : lv_has ls 4 [(1, .ref d18), (0, .ref pq)] := hl
              refine W.eq (g2 := F0 m 103 ls [.null]) rfl ?_
              refine lv_astore_nN (lv' := [(2, .null), (1, .ref d18), (0, .ref pq)]) hx hb dX9_thirdRound_103 rfl hl (by decide) rfl (fun ls hl => ?_)
              refine lv_aload_nN hx hb dX9_thirdRound_104 rfl (lv_at hl 0 rfl) ?_
              refine lv_ifnullN (tgt := 134) hx hb dX9_thirdRound_105 (by decide) ?_
              refine lv_aload_n hx hb dX9_thirdRound_134 rfl (lv_at hl 2 rfl) ?_
              refine lv_bipush (v := 9) hx hb dX9_thirdRound_135 (by decide) ?_
              refine lv_aload_n hx hb dX9_thirdRound_137 rfl (lv_at hl 2 rfl) ?_
              refine p_get (v := .ref (a 1)) (C := RX9) (Tc := TX9) (N := 5) (ci := 6) hx hb hq pin_wsX90 hown hE hP hO (by rw [((LgK.T hlg2 pq).trans hp1)]; decide) (rep_7 ((LgK.T hlg2 pq).trans hp1)) rfl 0 (by decide) (hq _ pw_784) (fun _ h9 => h9) (congrArg (fun z => some (va_rf z)) ((LgK.C hlg2 18 pq).trans hp2)) dX9_thirdRound_138 ?_
              refine c_get (v := .int (nI sz)) (C := RX10) (Tc := TX10) (N := 15) (ci := 7) hx hb hq pin_wsX100 hown hE hP hO 2 (sg_2 G h0 a _ _ _ _ _) rfl 8 (by decide) (hq _ pw_1115) (fun _ h9 => h9) rfl dX9_thirdRound_141 ?_
              have hO : OKP G h0 a (upd (upd F 2 (nI sz)) 2 (nI sz)) R Z B J K2 w := hO.to rfl
              obtain ⟨qr44, hqr45⟩ := p_recv hO (by rw [((LgK.T hlg2 pq).trans hp1)]; decide) (rep_7 ((LgK.T hlg2 pq).trans hp1))
              refine pc_V0 (G := G) (As := [.int 9, .int (nI sz)]) (rest := []) hx hb hml hown hq hE hX pX0_al hP hD hS hA hl.1 (N_report l G h0 a (upd F 2 (nI sz)) R Z B J K2 w pq dr ml nd nm cp it s9 9 (nI sz) sz g (by omega) (LgK.wp hlg2 hwp) (LgK.ps hlg2 hps) hO) (gV pw_1096 pw_1097 pw_1098 pw_106 pw_1084) hV_X9_report qr44 6 hqr45 rfl rfl rfl (Nat.le_of_ble_eq_true rfl) dX9_thirdRound_144 ⟨Nat.le_of_ble_eq_true rfl, Nat.le_of_ble_eq_true rfl⟩ ⟨Nat.le_of_ble_eq_true rfl, Nat.le_of_ble_eq_true rfl⟩ (fun v43 u41 H locs hw42 hP hD hS => ?_)
              obtain ⟨w, K46⟩ := u41
              obtain ⟨hw42, h47, h48, hO⟩ := hw42
              have h47 : LgK K2 K46 pq := h47
              have h48 : RpX 9 K46 pq := h48
              obtain rfl : v43 = none := hw42
              have hO : OKP G h0 a (upd F 2 (nI sz)) R Z B J K46 w := hO.to rfl
              refine W.widen (k := 0) (n := 0) (Nat.le_of_ble_eq_true rfl) (Nat.le_of_ble_eq_true rfl) ?_
              refine W.eq (g2 := F0 m 147 ls []) rfl ?_
              have hlg49 : LgK K K46 pq := LgK.trans hlg2 h47
              have hm50 : Cln K46 pq → Cln K2 pq := fun z => absurd z (h48 (by decide))
              have hz51 : LgK K K46 pq := hlg49
              have hz52 : Cln K46 pq → Cln K pq ∧ (Rd3 G K dr nd (B 11) sz) := (fun z => absurd z (h48 (by decide)))
              have hO : OKP G h0 a (upd F 2 (nI sz)) R Z B J K46 w := hO.to rfl
              exact W.vret hx hb hr (fun t99 ht99 hW99 => ⟨⟨_, (w, K46), rfl, ⟨rfl, hz51, hz52, hO⟩, by rw [ht99]; exact hP, hD⟩, hS.F ht99⟩) hS.2.2 dX9_thirdRound_147
            · have hl : lv_has ls 4 [(1, .ref d18), (0, .ref pq)] := hl
              refine W.eq (g2 := F0 m 103 ls [.ref d40]) rfl ?_
              have hf53 : K.1 d40 = 3 := (LgK.T hlg2 d40).symm.trans (h39 d40 rfl).1
              obtain ⟨lp, hflp, htlp, hrlp, holp⟩ := (hwp.2.2.2 d40 hf53).1
              obtain ⟨nlp, itlp, cplp, hlclp, hnblp, hcblp⟩ := hwp.2.1 lp htlp
              rw [hrlp] at hlclp hnblp
              have hnclp := hlclp.2.2.1
              have hnblp : nlp ≤ 5000 := hnblp
              have hlclp : LsC G K lp 1 nlp itlp cplp := hlclp
              refine lv_astore_n (lv' := [(2, .ref d40), (1, .ref d18), (0, .ref pq)]) hx hb dX9_thirdRound_103 rfl hl (by decide) rfl (fun ls hl => ?_)
              refine lv_aload_n hx hb dX9_thirdRound_104 rfl (lv_at hl 0 rfl) ?_
              refine lv_ifnull hx hb dX9_thirdRound_105 ?_
              refine lv_aload_n hx hb dX9_thirdRound_108 rfl (lv_at hl 2 rfl) ?_
              refine p_get (v := .ref (a 1)) (C := RX9) (Tc := TX9) (N := 5) (ci := 6) hx hb hq pin_wsX90 hown hE hP hO (by rw [((LgK.T hlg2 pq).trans hp1)]; decide) (rep_7 ((LgK.T hlg2 pq).trans hp1)) rfl 0 (by decide) (hq _ pw_784) (fun _ h9 => h9) (congrArg (fun z => some (va_rf z)) ((LgK.C hlg2 18 pq).trans hp2)) dX9_thirdRound_109 ?_
              refine lv_aload_n hx hb dX9_thirdRound_112 rfl (lv_at hl 0 rfl) ?_
              refine p_get (v := .int (K2.2.1 8 d40)) (C := RX6) (Tc := TX6) (N := 12) (ci := 12) hx hb hq pin_wsX60 hown hE hP hO (by rw [((LgK.T hlg2 d40).trans hf53)]; decide) (rep_3 ((LgK.T hlg2 d40).trans hf53)) rfl 3 (by decide) (hq _ pw_1143) (fun _ h9 => h9) rfl dX9_thirdRound_113 ?_
              have hO : OKW G h0 a (upd (upd F 2 (nI sz)) 2 (nI sz)) R Z B J K2.1 (fun q99 x99 => x99 = rep G a K2 q99) w := hO.to rfl
              obtain ⟨_, qr57, hqr58⟩ := hO.2.1 2 _ (sg_2 G h0 a _ _ _ _ _)
              refine pc_V0 (G := G) (As := [.int (K2.2.1 8 d40)]) (rest := []) hx hb hml hown hq hE hX pX0_al hP hD hS hA hl.1 (N_typeAt l G h0 a (upd F 2 (nI sz)) R Z B J K2.1 (fun q99 x99 => x99 = rep G a K2 q99) w (K2.2.1 8 d40) sz (by omega) hO) (gV pw_1146 pw_93 pw_94 pw_59 pw_36) hV_X10_typeAt qr57 7 hqr58 rfl rfl rfl (Nat.le_of_ble_eq_true rfl) dX9_thirdRound_116 ⟨Nat.le_of_ble_eq_true rfl, Nat.le_of_ble_eq_true rfl⟩ ⟨Nat.le_of_ble_eq_true rfl, Nat.le_of_ble_eq_true rfl⟩ (fun v56 u54 H locs hw55 hP hD hS => ?_)
              obtain ⟨w, _⟩ := u54
              obtain ⟨hw55, hO⟩ := hw55
              obtain rfl : v56 = some (.int (tkN ((B 11)) sz 63 (K2.2.1 8 d40))) := hw55
              have hO : OKP G h0 a (upd F 2 (nI sz)) R Z B J K2 w := hO.to rfl
              refine W.widen (k := 0) (n := 0) (Nat.le_of_ble_eq_true rfl) (Nat.le_of_ble_eq_true rfl) ?_
              refine W.eq (g2 := F0 m 119 ls [.int (tkN ((B 11)) sz 63 (K2.2.1 8 d40))]) rfl ?_
              refine lv_bipush (v := 60) hx hb dX9_thirdRound_119 (by decide) ?_
              refine lv_icmp_ne (tgt := 134) hx hb dX9_thirdRound_121 (by decide) (fun c59 => ?_) (fun c59 => ?_)
              · refine lv_aload_n hx hb dX9_thirdRound_134 rfl (lv_at hl 2 rfl) ?_
                refine lv_bipush (v := 9) hx hb dX9_thirdRound_135 (by decide) ?_
                refine lv_aload_n hx hb dX9_thirdRound_137 rfl (lv_at hl 2 rfl) ?_
                refine p_get (v := .ref (a 1)) (C := RX9) (Tc := TX9) (N := 5) (ci := 6) hx hb hq pin_wsX90 hown hE hP hO (by rw [((LgK.T hlg2 pq).trans hp1)]; decide) (rep_7 ((LgK.T hlg2 pq).trans hp1)) rfl 0 (by decide) (hq _ pw_784) (fun _ h9 => h9) (congrArg (fun z => some (va_rf z)) ((LgK.C hlg2 18 pq).trans hp2)) dX9_thirdRound_138 ?_
                refine c_get (v := .int (nI sz)) (C := RX10) (Tc := TX10) (N := 15) (ci := 7) hx hb hq pin_wsX100 hown hE hP hO 2 (sg_2 G h0 a _ _ _ _ _) rfl 8 (by decide) (hq _ pw_1115) (fun _ h9 => h9) rfl dX9_thirdRound_141 ?_
                have hO : OKP G h0 a (upd (upd F 2 (nI sz)) 2 (nI sz)) R Z B J K2 w := hO.to rfl
                obtain ⟨qr63, hqr64⟩ := p_recv hO (by rw [((LgK.T hlg2 pq).trans hp1)]; decide) (rep_7 ((LgK.T hlg2 pq).trans hp1))
                refine pc_V0 (G := G) (As := [.int 9, .int (nI sz)]) (rest := []) hx hb hml hown hq hE hX pX0_al hP hD hS hA hl.1 (N_report l G h0 a (upd F 2 (nI sz)) R Z B J K2 w pq dr ml nd nm cp it s9 9 (nI sz) sz g (by omega) (LgK.wp hlg2 hwp) (LgK.ps hlg2 hps) hO) (gV pw_1096 pw_1097 pw_1098 pw_106 pw_1084) hV_X9_report qr63 6 hqr64 rfl rfl rfl (Nat.le_of_ble_eq_true rfl) dX9_thirdRound_144 ⟨Nat.le_of_ble_eq_true rfl, Nat.le_of_ble_eq_true rfl⟩ ⟨Nat.le_of_ble_eq_true rfl, Nat.le_of_ble_eq_true rfl⟩ (fun v62 u60 H locs hw61 hP hD hS => ?_)
                obtain ⟨w, K65⟩ := u60
                obtain ⟨hw61, h66, h67, hO⟩ := hw61
                have h66 : LgK K2 K65 pq := h66
                have h67 : RpX 9 K65 pq := h67
                obtain rfl : v62 = none := hw61
                have hO : OKP G h0 a (upd F 2 (nI sz)) R Z B J K65 w := hO.to rfl
                refine W.widen (k := 0) (n := 0) (Nat.le_of_ble_eq_true rfl) (Nat.le_of_ble_eq_true rfl) ?_
                refine W.eq (g2 := F0 m 147 ls []) rfl ?_
                have hlg68 : LgK K K65 pq := LgK.trans hlg2 h66
                have hm69 : Cln K65 pq → Cln K2 pq := fun z => absurd z (h67 (by decide))
                have hz70 : LgK K K65 pq := hlg68
                have hz71 : Cln K65 pq → Cln K pq ∧ (Rd3 G K dr nd (B 11) sz) := (fun z => absurd z (h67 (by decide)))
                have hO : OKP G h0 a (upd F 2 (nI sz)) R Z B J K65 w := hO.to rfl
                exact W.vret hx hb hr (fun t99 ht99 hW99 => ⟨⟨_, (w, K65), rfl, ⟨rfl, hz70, hz71, hO⟩, by rw [ht99]; exact hP, hD⟩, hS.F ht99⟩) hS.2.2 dX9_thirdRound_147
              · refine lv_aload_n hx hb dX9_thirdRound_124 rfl (lv_at hl 0 rfl) ?_
                refine p_get (v := .ref lp) (C := RX6) (Tc := TX6) (N := 12) (ci := 12) hx hb hq pin_wsX60 hown hE hP hO (by rw [((LgK.T hlg2 d40).trans hf53)]; decide) (rep_3 ((LgK.T hlg2 d40).trans hf53)) rfl 4 (by decide) (hq _ pw_1144) (fun _ h9 => h9) (congrArg (fun z => some (va_rf z)) ((LgK.C hlg2 6 d40).trans hflp)) dX9_thirdRound_125 ?_
                have hO : OKP G h0 a (upd F 2 (nI sz)) R Z B J K2 w := hO.to rfl
                obtain ⟨qr75, hqr76⟩ := p_recv hO (by rw [((LgK.T hlg2 lp).trans htlp)]; decide) (rep_5 ((LgK.T hlg2 lp).trans htlp))
                refine pc_V0 (G := G) (As := []) (rest := []) hx hb hml hown hq hE hX pX0_al hP hD hS hA hl.1 (L_size l G h0 a (upd F 2 (nI sz)) R Z B J K2 w lp 1 nlp itlp (LgK.ls hlg2 hlclp).ls hO) (gV pw_516 pw_87 pw_88 pw_32 pw_16) hV_Jx4a65c_size_8abf5 qr75 10 hqr76 rfl rfl rfl (Nat.le_of_ble_eq_true rfl) dX9_thirdRound_128 ⟨Nat.le_of_ble_eq_true rfl, Nat.le_of_ble_eq_true rfl⟩ ⟨Nat.le_of_ble_eq_true rfl, Nat.le_of_ble_eq_true rfl⟩ (fun v74 u72 H locs hw73 hP hD hS => ?_)
                obtain ⟨w, _⟩ := u72
                obtain ⟨hw73, hO⟩ := hw73
                obtain rfl : v74 = some (.int (nI nlp)) := hw73
                have hO : OKP G h0 a (upd F 2 (nI sz)) R Z B J K2 w := hO.to rfl
                refine W.widen (k := 0) (n := 0) (Nat.le_of_ble_eq_true rfl) (Nat.le_of_ble_eq_true rfl) ?_
                refine W.eq (g2 := F0 m 131 ls [.int (nI nlp)]) rfl ?_
                refine lv_if_eq (tgt := 147) hx hb dX9_thirdRound_131 (by decide) (fun c77 => ?_) (fun c77 => ?_)
                · have n78 : nlp = 0 := (nI_eq (a := nlp) (b := 0) (by omega) (by omega)).mp c77
                  have hlp0 : nlp = 0 := by omega
                  have hz79 : LgK K K2 pq := hlg2
                  have hz80 : Cln K2 pq → Cln K pq ∧ (Rd3 G K dr nd (B 11) sz) := (fun z => ⟨(hcl2 z).1, ⟨fun k h1 h2 => (hcl2 z).2 k h1 (by omega), kF, d18, d40, hkF, by have z8 := (LgK.fdx hlg2 h9); rw [hxF] at z8; exact z8, by have z8 := heF; rw [LgK.E hlg2] at z8; exact z8, ((LgK.I hlg2 18 d18 (by decide)).symm.trans c32), (LgK.nep hlg2 (h39 d40 rfl).2), by have z8 := c59; rw [LgK.I hlg2 8 _ (by decide)] at z8; exact z8, lp, cplp, itlp, hflp, by rw [← hlp0]; exact hlclp⟩⟩)
                  have hO : OKP G h0 a (upd F 2 (nI sz)) R Z B J K2 w := hO.to rfl
                  exact W.vret hx hb hr (fun t99 ht99 hW99 => ⟨⟨_, (w, K2), rfl, ⟨rfl, hz79, hz80, hO⟩, by rw [ht99]; exact hP, hD⟩, hS.F ht99⟩) hS.2.2 dX9_thirdRound_147
                · have n81 : ¬ (nlp = 0) := fun h9 => c77 ((nI_eq (a := nlp) (b := 0) (by omega) (by omega)).mpr h9)
                  refine lv_aload_n hx hb dX9_thirdRound_134 rfl (lv_at hl 2 rfl) ?_
                  refine lv_bipush (v := 9) hx hb dX9_thirdRound_135 (by decide) ?_
                  refine lv_aload_n hx hb dX9_thirdRound_137 rfl (lv_at hl 2 rfl) ?_
                  refine p_get (v := .ref (a 1)) (C := RX9) (Tc := TX9) (N := 5) (ci := 6) hx hb hq pin_wsX90 hown hE hP hO (by rw [((LgK.T hlg2 pq).trans hp1)]; decide) (rep_7 ((LgK.T hlg2 pq).trans hp1)) rfl 0 (by decide) (hq _ pw_784) (fun _ h9 => h9) (congrArg (fun z => some (va_rf z)) ((LgK.C hlg2 18 pq).trans hp2)) dX9_thirdRound_138 ?_
                  refine c_get (v := .int (nI sz)) (C := RX10) (Tc := TX10) (N := 15) (ci := 7) hx hb hq pin_wsX100 hown hE hP hO 2 (sg_2 G h0 a _ _ _ _ _) rfl 8 (by decide) (hq _ pw_1115) (fun _ h9 => h9) rfl dX9_thirdRound_141 ?_
                  have hO : OKP G h0 a (upd (upd F 2 (nI sz)) 2 (nI sz)) R Z B J K2 w := hO.to rfl
                  obtain ⟨qr85, hqr86⟩ := p_recv hO (by rw [((LgK.T hlg2 pq).trans hp1)]; decide) (rep_7 ((LgK.T hlg2 pq).trans hp1))
                  refine pc_V0 (G := G) (As := [.int 9, .int (nI sz)]) (rest := []) hx hb hml hown hq hE hX pX0_al hP hD hS hA hl.1 (N_report l G h0 a (upd F 2 (nI sz)) R Z B J K2 w pq dr ml nd nm cp it s9 9 (nI sz) sz g (by omega) (LgK.wp hlg2 hwp) (LgK.ps hlg2 hps) hO) (gV pw_1096 pw_1097 pw_1098 pw_106 pw_1084) hV_X9_report qr85 6 hqr86 rfl rfl rfl (Nat.le_of_ble_eq_true rfl) dX9_thirdRound_144 ⟨Nat.le_of_ble_eq_true rfl, Nat.le_of_ble_eq_true rfl⟩ ⟨Nat.le_of_ble_eq_true rfl, Nat.le_of_ble_eq_true rfl⟩ (fun v84 u82 H locs hw83 hP hD hS => ?_)
                  obtain ⟨w, K87⟩ := u82
                  obtain ⟨hw83, h88, h89, hO⟩ := hw83
                  have h88 : LgK K2 K87 pq := h88
                  have h89 : RpX 9 K87 pq := h89
                  obtain rfl : v84 = none := hw83
                  have hO : OKP G h0 a (upd F 2 (nI sz)) R Z B J K87 w := hO.to rfl
                  refine W.widen (k := 0) (n := 0) (Nat.le_of_ble_eq_true rfl) (Nat.le_of_ble_eq_true rfl) ?_
                  refine W.eq (g2 := F0 m 147 ls []) rfl ?_
                  have hlg90 : LgK K K87 pq := LgK.trans hlg2 h88
                  have hm91 : Cln K87 pq → Cln K2 pq := fun z => absurd z (h89 (by decide))
                  have hz92 : LgK K K87 pq := hlg90
                  have hz93 : Cln K87 pq → Cln K pq ∧ (Rd3 G K dr nd (B 11) sz) := (fun z => absurd z (h89 (by decide)))
                  have hO : OKP G h0 a (upd F 2 (nI sz)) R Z B J K87 w := hO.to rfl
                  exact W.vret hx hb hr (fun t99 ht99 hW99 => ⟨⟨_, (w, K87), rfl, ⟨rfl, hz92, hz93, hO⟩, by rw [ht99]; exact hP, hD⟩, hS.F ht99⟩) hS.2.2 dX9_thirdRound_147
          · refine lv_null hx hb dX9_thirdRound_93 ?_
            refine lv_goto (tgt := 103) hx hb dX9_thirdRound_94 (by decide) ?_
            refine lv_astore_nN (lv' := [(2, .null), (1, .ref d18), (0, .ref pq)]) hx hb dX9_thirdRound_103 rfl hl (by decide) rfl (fun ls hl => ?_)
            refine lv_aload_nN hx hb dX9_thirdRound_104 rfl (lv_at hl 0 rfl) ?_
            refine lv_ifnullN (tgt := 134) hx hb dX9_thirdRound_105 (by decide) ?_
            refine lv_aload_n hx hb dX9_thirdRound_134 rfl (lv_at hl 2 rfl) ?_
            refine lv_bipush (v := 9) hx hb dX9_thirdRound_135 (by decide) ?_
            refine lv_aload_n hx hb dX9_thirdRound_137 rfl (lv_at hl 2 rfl) ?_
            refine p_get (v := .ref (a 1)) (C := RX9) (Tc := TX9) (N := 5) (ci := 6) hx hb hq pin_wsX90 hown hE hP hO (by rw [((LgK.T hlg2 pq).trans hp1)]; decide) (rep_7 ((LgK.T hlg2 pq).trans hp1)) rfl 0 (by decide) (hq _ pw_784) (fun _ h9 => h9) (congrArg (fun z => some (va_rf z)) ((LgK.C hlg2 18 pq).trans hp2)) dX9_thirdRound_138 ?_
            refine c_get (v := .int (nI sz)) (C := RX10) (Tc := TX10) (N := 15) (ci := 7) hx hb hq pin_wsX100 hown hE hP hO 2 (sg_2 G h0 a _ _ _ _ _) rfl 8 (by decide) (hq _ pw_1115) (fun _ h9 => h9) rfl dX9_thirdRound_141 ?_
            have hO : OKP G h0 a (upd (upd F 2 (nI sz)) 2 (nI sz)) R Z B J K2 w := hO.to rfl
            obtain ⟨qr97, hqr98⟩ := p_recv hO (by rw [((LgK.T hlg2 pq).trans hp1)]; decide) (rep_7 ((LgK.T hlg2 pq).trans hp1))
            refine pc_V0 (G := G) (As := [.int 9, .int (nI sz)]) (rest := []) hx hb hml hown hq hE hX pX0_al hP hD hS hA hl.1 (N_report l G h0 a (upd F 2 (nI sz)) R Z B J K2 w pq dr ml nd nm cp it s9 9 (nI sz) sz g (by omega) (LgK.wp hlg2 hwp) (LgK.ps hlg2 hps) hO) (gV pw_1096 pw_1097 pw_1098 pw_106 pw_1084) hV_X9_report qr97 6 hqr98 rfl rfl rfl (Nat.le_of_ble_eq_true rfl) dX9_thirdRound_144 ⟨Nat.le_of_ble_eq_true rfl, Nat.le_of_ble_eq_true rfl⟩ ⟨Nat.le_of_ble_eq_true rfl, Nat.le_of_ble_eq_true rfl⟩ (fun v96 u94 H locs hw95 hP hD hS => ?_)
            obtain ⟨w, K99⟩ := u94
            obtain ⟨hw95, h100, h101, hO⟩ := hw95
            have h100 : LgK K2 K99 pq := h100
            have h101 : RpX 9 K99 pq := h101
            obtain rfl : v96 = none := hw95
            have hO : OKP G h0 a (upd F 2 (nI sz)) R Z B J K99 w := hO.to rfl
            refine W.widen (k := 0) (n := 0) (Nat.le_of_ble_eq_true rfl) (Nat.le_of_ble_eq_true rfl) ?_
            refine W.eq (g2 := F0 m 147 ls []) rfl ?_
            have hlg102 : LgK K K99 pq := LgK.trans hlg2 h100
            have hm103 : Cln K99 pq → Cln K2 pq := fun z => absurd z (h101 (by decide))
            have hz104 : LgK K K99 pq := hlg102
            have hz105 : Cln K99 pq → Cln K pq ∧ (Rd3 G K dr nd (B 11) sz) := (fun z => absurd z (h101 (by decide)))
            have hO : OKP G h0 a (upd F 2 (nI sz)) R Z B J K99 w := hO.to rfl
            exact W.vret hx hb hr (fun t99 ht99 hW99 => ⟨⟨_, (w, K99), rfl, ⟨rfl, hz104, hz105, hO⟩, by rw [ht99]; exact hP, hD⟩, hS.F ht99⟩) hS.2.2 dX9_thirdRound_147
      · have n106 : ¬ (nd ≤ i2) := fun h9 => c1 ((nI_leI (a := nd) (b := i2) (by omega) (by omega)).mpr h9)
        refine lv_aload_n hx hb dX9_thirdRound_11 rfl (lv_at hl 1 rfl) ?_
        refine p_get (v := .ref dr) (C := RX9) (Tc := TX9) (N := 5) (ci := 6) hx hb hq pin_wsX90 hown hE hP hO (by rw [((LgK.T hlg2 pq).trans hp1)]; decide) (rep_7 ((LgK.T hlg2 pq).trans hp1)) rfl 1 (by decide) (hq _ pw_15) (fun _ h9 => h9) (congrArg (fun z => some (va_rf z)) ((LgK.C hlg2 14 pq).trans hp3)) dX9_thirdRound_12 ?_
        refine lv_iload_n hx hb dX9_thirdRound_15 rfl (lv_at hl 0 rfl) ?_
        refine p_ald8 hx hb hE hP hO ((LgK.T hlg2 dr).trans hp4) (vp_in_nI (by omega) (by omega)) dX9_thirdRound_16 ?_
        rw [nI_clamp (show i2 < 2 ^ 31 by omega)]
        obtain ⟨d107, hd108, hd109, hd110, hd111⟩ := hps.2.1 i2 (by omega)
        have hd112 : K2.2.2.2.2.1 dr i2 = some d107 := by rw [LgK.E hlg2]; exact hd108
        rw [hd112]
        refine W.eq (g2 := F0 m 17 ls [.ref d107]) rfl ?_
        refine lv_astore_n (lv' := [(2, .ref d107), (1, .int (nI i2)), (0, .ref pq)]) hx hb dX9_thirdRound_17 rfl hl (by decide) rfl (fun ls hl => ?_)
        refine lv_iconst (v := 0) hx hb dX9_thirdRound_18 (by decide) ?_
        refine lv_istore_n (lv' := [(3, .int 0), (2, .ref d107), (1, .int (nI i2)), (0, .ref pq)]) hx hb dX9_thirdRound_19 rfl hl (by decide) rfl (fun ls hl => ?_)
        have loop_3 : ∀ (n_3 : Nat) (i3 : Nat) (K3 : PK) (d3 : Nat) (H : Heap) (locs : List Loc) (ls : Array Slot) (w : va_W), i3 ≤ nd → nd + 1 ≤ i3 + n_3 → (LgK K K3 pq) → (K.1 d3 = 4) → (K.2.2.2.2.1 dr i2 = some d3) → (K.2.1 15 d3 = nI i2) → (Cln K3 pq → Cln K pq ∧ ((∀ k : Nat, 7 ≤ k → k < i2 → ∀ d : Nat, K.2.2.2.2.1 dr k = some d → ∀ u e : Nat, u < nd → K.2.2.2.2.1 dr u = some e → bitL (K.2.2.2.1 d) u → JmA G K dr nd (B 11) sz d e) ∧ ∀ u : Nat, u < i3 → ∀ e : Nat, K.2.2.2.2.1 dr u = some e → bitL (K.2.2.2.1 d3) u → JmA G K dr nd (B 11) sz d3 e)) → va_P G.1 pCl w H → va_D A w → va_S A s.heap H locs → OKP G h0 a (upd F 2 (nI sz)) R Z B J K3 w → lv_has ls 4 [(3, .int (nI i3)), (2, .ref d3), (1, .int (nI i2)), (0, .ref pq)] → W p l e (headSpec (Cond.code yX9_thirdRound cX9_thirdRound 4 none :: pw) ({ frames := 8, cells := 0, slots := 0, locals := 196 } : Room)).room s m ([.ref pq] : List Value).toArray below meth c H locs 0 0 (MQ below (pQ G A (fun (v : Option Value) (u : va_W × (PK)) => v = none ∧ (LgK K u.2 pq) ∧ (Cln u.2 pq → Cln K pq ∧ (Rd3 G K dr nd (B 11) sz)) ∧ (OKP G h0 a (upd F 2 (nI sz)) R Z B J u.2 u.1)) (fun u => u.1)) ([.ref pq] : List Value).toArray s ({ frames := 8, cells := 0, slots := 0, locals := 196 } : Room).cells ({ frames := 8, cells := 0, slots := 0, locals := 196 } : Room).slots A) (F0 m 20 ls []) := by
          intro n_3
          induction n_3 with
          | zero => intro i3 K3 d3 H locs ls w hk_3 hn_3; omega
          | succ n_3 ih_3 =>
            intro i3 K3 d3 H locs ls w hk_3 hn_3 hlg3 hd3 he3 hn3 hcl3 hP hD hS hO hl
            refine lv_iload_n hx hb dX9_thirdRound_20 rfl (lv_at hl 0 rfl) ?_
            refine lv_aload_n hx hb dX9_thirdRound_21 rfl (lv_at hl 3 rfl) ?_
            refine p_get (v := .int (nI nd)) (C := RX9) (Tc := TX9) (N := 5) (ci := 6) hx hb hq pin_wsX90 hown hE hP hO (by rw [((LgK.T hlg3 pq).trans hp1)]; decide) (rep_7 ((LgK.T hlg3 pq).trans hp1)) rfl 2 (by decide) (hq _ pw_14) (fun _ h9 => h9) (congrArg (fun z => some (Value.int z)) ((LgK.I hlg3 24 pq (by decide)).trans hp8)) dX9_thirdRound_22 ?_
            refine lv_icmp_ge (tgt := 65) hx hb dX9_thirdRound_25 (by decide) (fun c113 => ?_) (fun c113 => ?_)
            · have n114 : nd ≤ i3 := (nI_leI (a := nd) (b := i3) (by omega) (by omega)).mp c113
              refine lv_iinc (v := (nI (i2 + 1))) (lv' := [(1, .int (nI (i2 + 1))), (3, .int (nI i3)), (2, .ref d3), (0, .ref pq)]) hx hb dX9_thirdRound_65 hl (k := 2) rfl (nI_1 i2) (by decide) rfl (fun ls hl => ?_)
              refine lv_goto (tgt := 3) hx hb dX9_thirdRound_68 (by decide) ?_
              have hO : OKP G h0 a (upd F 2 (nI sz)) R Z B J K3 w := hO.to rfl
              exact ih_2 (i2 + 1) K3 _ _ _ _ (by omega) (by omega) hlg3 (fun z => ⟨(hcl3 z).1, (alS7 (hcl3 z).2.1 (fun d hd u e hu he hb => by cases he3.symm.trans hd; exact (hcl3 z).2.2 u (by omega) e he hb))⟩) hP hD hS hO (lv_sub hl [0, 3] rfl)
            · have n115 : ¬ (nd ≤ i3) := fun h9 => c113 ((nI_leI (a := nd) (b := i3) (by omega) (by omega)).mpr h9)
              refine lv_aload_n hx hb dX9_thirdRound_28 rfl (lv_at hl 3 rfl) ?_
              refine lv_iload_n hx hb dX9_thirdRound_29 rfl (lv_at hl 0 rfl) ?_
              refine lv_iload_n hx hb dX9_thirdRound_30 rfl (lv_at hl 2 rfl) ?_
              have hO : OKP G h0 a (upd F 2 (nI sz)) R Z B J K3 w := hO.to rfl
              obtain ⟨qr119, hqr120⟩ := p_recv hO (by rw [((LgK.T hlg3 pq).trans hp1)]; decide) (rep_7 ((LgK.T hlg3 pq).trans hp1))
              refine pc_V0 (G := G) (As := [.int (nI i3), .int (nI i2)]) (rest := []) hx hb hml hown hq hE hX pX0_al hP hD hS hA hl.1 (G_isAbove l G h0 a (upd F 2 (nI sz)) R Z B J K3 w pq dr ml nd (nI i3) (nI i2) g (LgK.ps hlg3 hps).1 (LgK.ps hlg3 hps).2.1 hO) (gV pw_107 pw_108 pw_109 pw_106 pw_101) hV_X9_isAbove qr119 6 hqr120 rfl rfl rfl (Nat.le_of_ble_eq_true rfl) dX9_thirdRound_31 ⟨Nat.le_of_ble_eq_true rfl, Nat.le_of_ble_eq_true rfl⟩ ⟨Nat.le_of_ble_eq_true rfl, Nat.le_of_ble_eq_true rfl⟩ (fun v118 u116 H locs hw117 hP hD hS => ?_)
              obtain ⟨w, r121⟩ := u116
              obtain ⟨hw117, h122, h123, hO⟩ := hw117
              have h122 : r121 ≤ 1 := h122
              have h123 : AbQ K3 dr nd (nI i3) (nI i2) r121 := h123
              obtain rfl : v118 = some (.int (nI r121)) := hw117
              have hO : OKP G h0 a (upd F 2 (nI sz)) R Z B J K3 w := hO.to rfl
              refine W.widen (k := 0) (n := 0) (Nat.le_of_ble_eq_true rfl) (Nat.le_of_ble_eq_true rfl) ?_
              refine W.eq (g2 := F0 m 34 ls [.int (nI r121)]) rfl ?_
              have hbr : r121 = 1 ↔ bitL (K.2.2.2.1 d3) i3 := by rw [← LgK.L hlg3]; exact h123 i3 i2 d3 (by omega) (by omega) rfl rfl (by rw [LgK.E hlg3]; exact he3)
              refine lv_if_eq (tgt := 59) hx hb dX9_thirdRound_34 (by decide) (fun c124 => ?_) (fun c124 => ?_)
              · have n125 : r121 = 0 := (nI_eq (a := r121) (b := 0) (by omega) (by omega)).mp c124
                refine lv_iinc (v := (nI (i3 + 1))) (lv' := [(3, .int (nI (i3 + 1))), (2, .ref d3), (1, .int (nI i2)), (0, .ref pq)]) hx hb dX9_thirdRound_59 hl (k := 0) rfl (nI_1 i3) (by decide) rfl (fun ls hl => ?_)
                refine lv_goto (tgt := 20) hx hb dX9_thirdRound_62 (by decide) ?_
                have hO : OKP G h0 a (upd F 2 (nI sz)) R Z B J K3 w := hO.to rfl
                exact ih_3 (i3 + 1) K3 d3 _ _ _ _ (by omega) (by omega) hlg3 hd3 he3 hn3 (fun z => ⟨(hcl3 z).1, ⟨(hcl3 z).2.1, alS (hcl3 z).2.2 (fun e _ hb => absurd (hbr.mpr hb) (by omega))⟩⟩) hP hD hS hO (lv_sub hl [0, 1, 2, 3] rfl)
              · have n126 : ¬ (r121 = 0) := fun h9 => c124 ((nI_eq (a := r121) (b := 0) (by omega) (by omega)).mpr h9)
                refine lv_aload_n hx hb dX9_thirdRound_37 rfl (lv_at hl 3 rfl) ?_
                refine lv_aload_n hx hb dX9_thirdRound_38 rfl (lv_at hl 1 rfl) ?_
                refine lv_aload_n hx hb dX9_thirdRound_39 rfl (lv_at hl 3 rfl) ?_
                refine p_get (v := .ref dr) (C := RX9) (Tc := TX9) (N := 5) (ci := 6) hx hb hq pin_wsX90 hown hE hP hO (by rw [((LgK.T hlg3 pq).trans hp1)]; decide) (rep_7 ((LgK.T hlg3 pq).trans hp1)) rfl 1 (by decide) (hq _ pw_15) (fun _ h9 => h9) (congrArg (fun z => some (va_rf z)) ((LgK.C hlg3 14 pq).trans hp3)) dX9_thirdRound_40 ?_
                refine lv_iload_n hx hb dX9_thirdRound_43 rfl (lv_at hl 0 rfl) ?_
                refine p_ald8 hx hb hE hP hO ((LgK.T hlg3 dr).trans hp4) (vp_in_nI (by omega) (by omega)) dX9_thirdRound_44 ?_
                rw [nI_clamp (show i3 < 2 ^ 31 by omega)]
                obtain ⟨d127, hd128, hd129, hd130, hd131⟩ := hps.2.1 i3 (by omega)
                have hd132 : K3.2.2.2.2.1 dr i3 = some d127 := by rw [LgK.E hlg3]; exact hd128
                rw [hd132]
                refine W.eq (g2 := F0 m 45 ls [.ref d127, .ref d3, .ref pq]) rfl ?_
                have hO : OKP G h0 a (upd (upd F 2 (nI sz)) 2 (nI sz)) R Z B J K3 w := hO.to rfl
                obtain ⟨qr136, hqr137⟩ := p_recv hO (by rw [((LgK.T hlg3 pq).trans hp1)]; decide) (rep_7 ((LgK.T hlg3 pq).trans hp1))
                refine pc_V0 (G := G) (As := [.ref d3, .ref d127]) (rest := []) hx hb hml hown hq hE hX pX0_al hP hD hS hA hl.1 (N_judgeFields l G h0 a (upd F 2 (nI sz)) R Z B J K3 w pq dr ml nd nm cp it s9 d3 d127 sz g (by omega) (LgK.wp hlg3 hwp) (LgK.ps hlg3 hps) ((LgK.T hlg3 d3).trans hd3) ((LgK.T hlg3 d127).trans hd129) hO) (gV pw_1156 pw_1157 pw_1158 pw_106 pw_1141) hV_X9_judgeFields qr136 6 hqr137 rfl rfl rfl (Nat.le_of_ble_eq_true rfl) dX9_thirdRound_45 ⟨Nat.le_of_ble_eq_true rfl, Nat.le_of_ble_eq_true rfl⟩ ⟨Nat.le_of_ble_eq_true rfl, Nat.le_of_ble_eq_true rfl⟩ (fun v135 u133 H locs hw134 hP hD hS => ?_)
                obtain ⟨w, K138⟩ := u133
                obtain ⟨hw134, h139, h140, hO⟩ := hw134
                have h139 : LgK K3 K138 pq := h139
                have h140 : Cln K138 pq → Cln K3 pq ∧ (True) := h140
                obtain rfl : v135 = none := hw134
                have hO : OKP G h0 a (upd F 2 (nI sz)) R Z B J K138 w := hO.to rfl
                refine W.widen (k := 0) (n := 0) (Nat.le_of_ble_eq_true rfl) (Nat.le_of_ble_eq_true rfl) ?_
                refine W.eq (g2 := F0 m 48 ls []) rfl ?_
                have hlg141 : LgK K K138 pq := LgK.trans hlg3 h139
                have hm142 : Cln K138 pq → Cln K3 pq := fun z => (h140 z).1
                refine lv_aload_n hx hb dX9_thirdRound_48 rfl (lv_at hl 3 rfl) ?_
                refine lv_aload_n hx hb dX9_thirdRound_49 rfl (lv_at hl 1 rfl) ?_
                refine lv_aload_n hx hb dX9_thirdRound_50 rfl (lv_at hl 3 rfl) ?_
                refine p_get (v := .ref dr) (C := RX9) (Tc := TX9) (N := 5) (ci := 6) hx hb hq pin_wsX90 hown hE hP hO (by rw [((LgK.T hlg141 pq).trans hp1)]; decide) (rep_7 ((LgK.T hlg141 pq).trans hp1)) rfl 1 (by decide) (hq _ pw_15) (fun _ h9 => h9) (congrArg (fun z => some (va_rf z)) ((LgK.C hlg141 14 pq).trans hp3)) dX9_thirdRound_51 ?_
                refine lv_iload_n hx hb dX9_thirdRound_54 rfl (lv_at hl 0 rfl) ?_
                refine p_ald8 hx hb hE hP hO ((LgK.T hlg141 dr).trans hp4) (vp_in_nI (by omega) (by omega)) dX9_thirdRound_55 ?_
                rw [nI_clamp (show i3 < 2 ^ 31 by omega)]
                obtain ⟨d143, hd144, hd145, hd146, hd147⟩ := hps.2.1 i3 (by omega)
                have hd148 : K138.2.2.2.2.1 dr i3 = some d143 := by rw [LgK.E hlg141]; exact hd144
                rw [hd148]
                refine W.eq (g2 := F0 m 56 ls [.ref d143, .ref d3, .ref pq]) rfl ?_
                have hO : OKP G h0 a (upd (upd F 2 (nI sz)) 2 (nI sz)) R Z B J K138 w := hO.to rfl
                obtain ⟨qr152, hqr153⟩ := p_recv hO (by rw [((LgK.T hlg141 pq).trans hp1)]; decide) (rep_7 ((LgK.T hlg141 pq).trans hp1))
                refine pc_V0 (G := G) (As := [.ref d3, .ref d143]) (rest := []) hx hb hml hown hq hE hX pX0_al hP hD hS hA hl.1 (N_judgeMethods l G h0 a (upd F 2 (nI sz)) R Z B J K138 w pq dr ml nd nm cp it s9 d3 d143 i2 sz g rk (by omega) (LgK.wp hlg141 hwp) (LgK.ps hlg141 hps) ((LgK.T hlg141 d3).trans hd3) ((LgK.T hlg141 d143).trans hd145) (by omega) (by rw [LgK.E hlg141]; exact he3) ((LgK.I hlg141 15 d3 (by decide)).trans hn3) (LgK.rko hlg141 hrk) hO) (gV pw_1159 pw_1160 pw_1161 pw_106 pw_1155) hV_X9_judgeMethods qr152 6 hqr153 rfl rfl rfl (Nat.le_of_ble_eq_true rfl) dX9_thirdRound_56 ⟨Nat.le_of_ble_eq_true rfl, Nat.le_of_ble_eq_true rfl⟩ ⟨Nat.le_of_ble_eq_true rfl, Nat.le_of_ble_eq_true rfl⟩ (fun v151 u149 H locs hw150 hP hD hS => ?_)
                obtain ⟨w, K154⟩ := u149
                obtain ⟨hw150, h155, h156, hO⟩ := hw150
                have h155 : LgK K138 K154 pq := h155
                have h156 : Cln K154 pq → Cln K138 pq ∧ (JmA G K138 dr nd ((B 11)) sz d3 d143) := h156
                obtain rfl : v151 = none := hw150
                have hO : OKP G h0 a (upd F 2 (nI sz)) R Z B J K154 w := hO.to rfl
                refine W.widen (k := 0) (n := 0) (Nat.le_of_ble_eq_true rfl) (Nat.le_of_ble_eq_true rfl) ?_
                refine W.eq (g2 := F0 m 59 ls []) rfl ?_
                have hlg157 : LgK K K154 pq := LgK.trans hlg141 h155
                have hm158 : Cln K154 pq → Cln K138 pq := fun z => (h156 z).1
                refine lv_iinc (v := (nI (i3 + 1))) (lv' := [(3, .int (nI (i3 + 1))), (2, .ref d3), (1, .int (nI i2)), (0, .ref pq)]) hx hb dX9_thirdRound_59 hl (k := 0) rfl (nI_1 i3) (by decide) rfl (fun ls hl => ?_)
                refine lv_goto (tgt := 20) hx hb dX9_thirdRound_62 (by decide) ?_
                have hO : OKP G h0 a (upd F 2 (nI sz)) R Z B J K154 w := hO.to rfl
                exact ih_3 (i3 + 1) K154 d3 _ _ _ _ (by omega) (by omega) hlg157 hd3 he3 hn3 (fun z => ⟨(hcl3 (hm142 (hm158 z))).1, ⟨(hcl3 (hm142 (hm158 z))).2.1, alS (hcl3 (hm142 (hm158 z))).2.2 (fun e he _ => by cases hd144.symm.trans he; exact (LgK.jma hlg141 (h156 z).2))⟩⟩) hP hD hS hO (lv_sub hl [0, 1, 2, 3] rfl)
        have hO : OKP G h0 a (upd F 2 (nI sz)) R Z B J K2 w := hO.to rfl
        exact loop_3 (nd + 1) 0 K2 d107 _ _ _ _ (by omega) (by omega) hlg2 hd109 hd108 hd110 (fun z => ⟨(hcl2 z).1, ⟨(hcl2 z).2, fun u h => absurd h (by omega)⟩⟩) hP hD hS hO (lv_sub hl [0, 1, 2, 3] rfl)
  have hO : OKP G h0 a (upd F 2 (nI sz)) R Z B J K w := hO.to rfl
  exact loop_2 (nd + 1) 7 K _ _ _ _ (by omega) (by omega) LgK.rfl (fun z => ⟨z, (fun k h1 h2 => absurd h2 (by omega))⟩) hP hD hS hO (lv_sub hl [0, 1] rfl)
