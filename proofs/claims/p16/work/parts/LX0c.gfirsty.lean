theorem lt_of_lz {x lz : Int32} {i n m : Nat} (hi : i < 2147483648) (hm : n ≤ m) (h : nI i < x) (e : x = lz) (hc : lz ≤ nI n) (hn : n < 2147483648) : i < n := by
  rw [e] at h
  exact (nI_ltI (a := i) (b := n) hi hn).mp (Int32.lt_of_lt_of_le h hc)
set_option maxHeartbeats 16000000 in
set_option maxRecDepth 100000 in
theorem N_judgeHead (l : Launch) (G : pT) (h0 : Nat) (a : Nat → Nat) (F : Nat → Int32) (R : Nat → Value) (Z : Int64) (B : Nat → Nat → Int32) (J : Nat → Nat → Int64) (K : PK) (w : va_W) (pq : Nat) (dr : Nat) (ml : Nat) (nd : Nat) (nm : Nat) (cp : Nat) (it : Nat → Nat) (s9 : Nat) (d0 : Nat) (sz : Nat) (g : Nat → Nat → Nat) (hsz : sz ≤ 5000) (hwp : WPr G K g) (hps : PgT G K g (a 1) pq dr ml nd nm cp it s9) (hd0 : K.1 d0 = 4) (hO : OKP G h0 a (upd F 2 (nI sz)) R Z B J K w) : PM l G pX0 yX9_judgeHead cX9_judgeHead 5 none ({ frames := 5, cells := 0, slots := 0, locals := 126 }) [.ref pq, .ref d0] w (fun (v : Option Value) (u : va_W × (PK)) => v = none ∧ (LgK K u.2 pq) ∧ (Cln u.2 pq → Cln K pq ∧ (HdK K dr nd (B 9) sz d0)) ∧ (OKP G h0 a (upd F 2 (nI sz)) R Z B J u.2 u.1)) (fun u => u.1) := by
  intro sz
  refine Met.ofW (cc := cX9_judgeHead) (maxL := 5) (ret := none) (by decide) rfl ?_
  intro p e s m args below meth c s₁ B9 hml hv
  obtain ⟨rfl, hsz, hP, hD0, hE, hX⟩ := hv
  have hx := B9.exec
  have hb := B9.bytes
  have hr := B9.returns
  have hts := atoms_spec (ws := Cond.code yX9_judgeHead cX9_judgeHead 5 none :: pw) B9.pre
  have hq : ∀ w ∈ pw, w.before _ s = true := fun w h => hts w (List.mem_cons_of_mem _ h)
  have hown : s.vm.findClass RX9 = some m.cls := findClass_of_methodNamed B9.named
  have hlocks := B9.notSynchronized
  subst hsz
  have hD := hD0.self (sz := s.heap.size)
  have hA : ∀ q : Nat, s.heap.size ≤ q → va_A w s.heap.size q := fun q h => Or.inr h
  generalize va_A w s.heap.size = A at hD hE hA ⊢
  have hS : va_S A s.heap s.heap [] := va_S.rf
  have hl := lv_entry ([.ref pq, .ref d0]) (n := 5) (Nat.le_of_ble_eq_true rfl)
  rw [lg_entry_eq]
  generalize (lg_sl ([.ref pq, .ref d0]) ++ List.replicate (5 - (lg_sl ([.ref pq, .ref d0])).length) Slot.unset).toArray = ls at hl ⊢
  have hl : lv_has ls 5 [(0, .ref pq), (1, .ref d0)] := hl
  have hp1 := hps.1.1
  have hp2 := hps.1.2.1
  have hp3 := hps.1.2.2.1
  have hp4 := hps.1.2.2.2.1
  have hp5 := hps.1.2.2.2.2.1
  have hp6 := hps.1.2.2.2.2.2.1
  have hp8 := hps.1.2.2.2.2.2.2.2.1
  have hp9 := hps.1.2.2.2.2.2.2.2.2
  obtain ⟨lz9, hlz9⟩ : ∃ z : Int32, K.2.1 21 d0 = z := ⟨_, rfl⟩
  obtain ⟨b9, hb9, hb8⟩ : ∃ k : Nat, k < 2147483648 ∧ (∀ i : Nat, i < 2147483648 → nI i < lz9 → i < k) := by
    rcases i32_cases lz9 with h | ⟨k, h1, h2⟩
    · exact ⟨0, by decide, fun i hi h9 => absurd (Int32.lt_trans h9 h) (nI_pos hi)⟩
    · exact ⟨k, h2, fun i hi h9 => by rw [h1] at h9; exact (nI_ltI (a := i) (b := k) hi h2).mp h9⟩
  refine lv_aload_n hx hb dX9_judgeHead_0 rfl (lv_at hl 1 rfl) ?_
  refine p_get (v := .int (K.2.1 19 d0)) (C := RX2) (Tc := TX2) (N := 13) (ci := 2) hx hb hq pin_wsX20 hown hE hP hO (by rw [hd0]; decide) (rep_4 hd0) rfl 4 (by decide) (hq _ pw_1105) (fun _ h9 => h9) rfl dX9_judgeHead_1 ?_
  refine lv_iconst (v := (-1)) hx hb dX9_judgeHead_4 (by decide) ?_
  refine lv_icmp_eq (tgt := 17) hx hb dX9_judgeHead_5 (by decide) (fun c1 => ?_) (fun c1 => ?_)
  · refine lv_iconst (v := 0) hx hb dX9_judgeHead_17 (by decide) ?_
    refine lv_istore_n (lv' := [(2, .int 0), (0, .ref pq), (1, .ref d0)]) hx hb dX9_judgeHead_18 rfl hl (by decide) rfl (fun ls hl => ?_)
    have loop_2 : ∀ (n_2 : Nat) (i2 : Nat) (K2 : PK) (H : Heap) (locs : List Loc) (ls : Array Slot) (w : va_W), i2 ≤ b9 → b9 + 1 ≤ i2 + n_2 → (LgK K K2 pq) → (Cln K2 pq → Cln K pq ∧ ((¬ K.2.1 19 d0 = -1 → NmI K dr nd (B 9) sz (K.2.1 19 d0) 0) ∧ ∀ i : Nat, i < i2 → NmI K dr nd (B 9) sz (K.2.1 20 d0 + nI (2 * i)) 1)) → va_P G.1 pCl w H → va_D A w → va_S A s.heap H locs → OKP G h0 a (upd F 2 (nI sz)) R Z B J K2 w → lv_has ls 5 [(2, .int (nI i2)), (1, .ref d0), (0, .ref pq)] → W p l e (headSpec (Cond.code yX9_judgeHead cX9_judgeHead 5 none :: pw) ({ frames := 5, cells := 0, slots := 0, locals := 126 } : Room)).room s m ([.ref pq, .ref d0] : List Value).toArray below meth c H locs 0 0 (MQ below (pQ G A (fun (v : Option Value) (u : va_W × (PK)) => v = none ∧ (LgK K u.2 pq) ∧ (Cln u.2 pq → Cln K pq ∧ (HdK K dr nd (B 9) sz d0)) ∧ (OKP G h0 a (upd F 2 (nI sz)) R Z B J u.2 u.1)) (fun u => u.1)) ([.ref pq, .ref d0] : List Value).toArray s ({ frames := 5, cells := 0, slots := 0, locals := 126 } : Room).cells ({ frames := 5, cells := 0, slots := 0, locals := 126 } : Room).slots A) (F0 m 19 ls []) := by
      intro n_2
      induction n_2 with
      | zero => intro i2 K2 H locs ls w hk_2 hn_2; omega
      | succ n_2 ih_2 =>
        intro i2 K2 H locs ls w hk_2 hn_2 hlg2 hcl2 hP hD hS hO hl
        refine lv_iload_n hx hb dX9_judgeHead_19 rfl (lv_at hl 0 rfl) ?_
        refine lv_aload_n hx hb dX9_judgeHead_20 rfl (lv_at hl 1 rfl) ?_
        refine p_get (v := .int lz9) (C := RX2) (Tc := TX2) (N := 13) (ci := 2) hx hb hq pin_wsX20 hown hE hP hO (by rw [((LgK.T hlg2 d0).trans hd0)]; decide) (rep_4 ((LgK.T hlg2 d0).trans hd0)) rfl 6 (by decide) (hq _ pw_1106) (fun _ h9 => h9) (congrArg (fun z => some (Value.int z)) ((LgK.I hlg2 21 d0 (by decide)).trans hlz9)) dX9_judgeHead_21 ?_
        refine lv_icmp_ge (tgt := 96) hx hb dX9_judgeHead_24 (by decide) (fun c2 => ?_) (fun c2 => ?_)
        · have hz3 : LgK K K2 pq := hlg2
          have hz4 : Cln K2 pq → Cln K pq ∧ (HdK K dr nd (B 9) sz d0) := (fun z => ⟨(hcl2 z).1, (hcl2 z).2.1, fun i hi hlt => (hcl2 z).2.2 i (lt_of_lz hi hk_2 hlt hlz9 c2 (by omega))⟩)
          have hO : OKP G h0 a (upd F 2 (nI sz)) R Z B J K2 w := hO.to rfl
          exact W.vret hx hb hr (fun t99 ht99 hW99 => ⟨⟨_, (w, K2), rfl, ⟨rfl, hz3, hz4, hO⟩, by rw [ht99]; exact hP, hD⟩, hS.F ht99⟩) hS.2.2 dX9_judgeHead_96
        · have hi9 := hb8 i2 (by omega) (Int32.not_le.mp c2)
          refine lv_aload_n hx hb dX9_judgeHead_27 rfl (lv_at hl 1 rfl) ?_
          refine p_get (v := .int (K2.2.1 20 d0)) (C := RX2) (Tc := TX2) (N := 13) (ci := 2) hx hb hq pin_wsX20 hown hE hP hO (by rw [((LgK.T hlg2 d0).trans hd0)]; decide) (rep_4 ((LgK.T hlg2 d0).trans hd0)) rfl 5 (by decide) (hq _ pw_1107) (fun _ h9 => h9) rfl dX9_judgeHead_28 ?_
          refine lv_iconst (v := 2) hx hb dX9_judgeHead_31 (by decide) ?_
          refine lv_iload_n hx hb dX9_judgeHead_32 rfl (lv_at hl 0 rfl) ?_
          refine lv_imul hx hb dX9_judgeHead_33 ?_
          refine lv_topi (fun x5 e6 => ?_)
          obtain rfl : x5 = nI (2 * i2) := e6.trans (nI_mulN (2) (i2))
          refine lv_iadd hx hb dX9_judgeHead_34 ?_
          refine lv_topi (fun x7 e8 => ?_)
          refine lv_istore_n (lv' := [(3, .int x7), (2, .int (nI i2)), (1, .ref d0), (0, .ref pq)]) hx hb dX9_judgeHead_35 rfl hl (by decide) rfl (fun ls hl => ?_)
          refine lv_aload_n hx hb dX9_judgeHead_36 rfl (lv_at hl 3 rfl) ?_
          refine lv_iload_n hx hb dX9_judgeHead_37 rfl (lv_at hl 0 rfl) ?_
          refine lv_iconst (v := 1) hx hb dX9_judgeHead_38 (by decide) ?_
          have hO : OKP G h0 a (upd (upd F 2 (nI sz)) 2 (nI sz)) R Z B J K2 w := hO.to rfl
          obtain ⟨qr12, hqr13⟩ := p_recv hO (by rw [((LgK.T hlg2 pq).trans hp1)]; decide) (rep_7 ((LgK.T hlg2 pq).trans hp1))
          refine pc_V0 (G := G) (As := [.int x7, .int 1]) (rest := []) hx hb hml hown hq hE hX pX0_al hP hD hS hA hl.1 (N_judgeAboveName l G h0 a (upd F 2 (nI sz)) R Z B J K2 w pq dr ml nd nm cp it s9 x7 1 sz g (by omega) (LgK.wp hlg2 hwp) (LgK.ps hlg2 hps) hO) (gV pw_1108 pw_1109 pw_1110 pw_106 pw_1104) hV_X9_judgeAboveName qr12 6 hqr13 rfl rfl rfl (Nat.le_of_ble_eq_true rfl) dX9_judgeHead_39 ⟨Nat.le_of_ble_eq_true rfl, Nat.le_of_ble_eq_true rfl⟩ ⟨Nat.le_of_ble_eq_true rfl, Nat.le_of_ble_eq_true rfl⟩ (fun v11 u9 H locs hw10 hP hD hS => ?_)
          obtain ⟨w, K14⟩ := u9
          obtain ⟨hw10, h15, h16, hO⟩ := hw10
          have h15 : LgK K2 K14 pq := h15
          have h16 : Cln K14 pq → Cln K2 pq ∧ (NmI K2 dr nd ((B 9)) sz x7 1) := h16
          obtain rfl : v11 = none := hw10
          have hO : OKP G h0 a (upd F 2 (nI sz)) R Z B J K14 w := hO.to rfl
          refine W.widen (k := 0) (n := 0) (Nat.le_of_ble_eq_true rfl) (Nat.le_of_ble_eq_true rfl) ?_
          refine W.eq (g2 := F0 m 42 ls []) rfl ?_
          have hlg17 : LgK K K14 pq := LgK.trans hlg2 h15
          have hm18 : Cln K14 pq → Cln K2 pq := fun z => (h16 z).1
          refine lv_iconst (v := 0) hx hb dX9_judgeHead_42 (by decide) ?_
          refine lv_istore (lv' := [(4, .int 0), (3, .int x7), (2, .int (nI i2)), (1, .ref d0), (0, .ref pq)]) hx hb dX9_judgeHead_43 hl (by decide) rfl (fun ls hl => ?_)
          have loop_3 : ∀ (n_3 : Nat) (i3 : Nat) (K3 : PK) (tk3 : Int32) (H : Heap) (locs : List Loc) (ls : Array Slot) (w : va_W), i3 ≤ i2 → i2 + 1 ≤ i3 + n_3 → (LgK K K3 pq) → (Cln K3 pq → Cln K pq ∧ ((¬ K.2.1 19 d0 = -1 → NmI K dr nd (B 9) sz (K.2.1 19 d0) 0) ∧ ∀ i : Nat, i < (i2 + 1) → NmI K dr nd (B 9) sz (K.2.1 20 d0 + nI (2 * i)) 1)) → va_P G.1 pCl w H → va_D A w → va_S A s.heap H locs → OKP G h0 a (upd F 2 (nI sz)) R Z B J K3 w → lv_has ls 5 [(4, .int (nI i3)), (3, .int tk3), (2, .int (nI i2)), (1, .ref d0), (0, .ref pq)] → W p l e (headSpec (Cond.code yX9_judgeHead cX9_judgeHead 5 none :: pw) ({ frames := 5, cells := 0, slots := 0, locals := 126 } : Room)).room s m ([.ref pq, .ref d0] : List Value).toArray below meth c H locs 0 0 (MQ below (pQ G A (fun (v : Option Value) (u : va_W × (PK)) => v = none ∧ (LgK K u.2 pq) ∧ (Cln u.2 pq → Cln K pq ∧ (HdK K dr nd (B 9) sz d0)) ∧ (OKP G h0 a (upd F 2 (nI sz)) R Z B J u.2 u.1)) (fun u => u.1)) ([.ref pq, .ref d0] : List Value).toArray s ({ frames := 5, cells := 0, slots := 0, locals := 126 } : Room).cells ({ frames := 5, cells := 0, slots := 0, locals := 126 } : Room).slots A) (F0 m 45 ls []) := by
            intro n_3
            induction n_3 with
            | zero => intro i3 K3 tk3 H locs ls w hk_3 hn_3; omega
            | succ n_3 ih_3 =>
              intro i3 K3 tk3 H locs ls w hk_3 hn_3 hlg3 hcl3 hP hD hS hO hl
              refine lv_iload hx hb dX9_judgeHead_45 (lv_at hl 0 rfl) ?_
              refine lv_iload_n hx hb dX9_judgeHead_47 rfl (lv_at hl 2 rfl) ?_
              refine lv_icmp_ge (tgt := 90) hx hb dX9_judgeHead_48 (by decide) (fun c19 => ?_) (fun c19 => ?_)
              · have n20 : i2 ≤ i3 := (nI_leI (a := i2) (b := i3) (by omega) (by omega)).mp c19
                refine lv_iinc (v := (nI (i2 + 1))) (lv' := [(2, .int (nI (i2 + 1))), (4, .int (nI i3)), (3, .int tk3), (1, .ref d0), (0, .ref pq)]) hx hb dX9_judgeHead_90 hl (k := 2) rfl (nI_1 i2) (by decide) rfl (fun ls hl => ?_)
                refine lv_goto (tgt := 19) hx hb dX9_judgeHead_93 (by decide) ?_
                have hO : OKP G h0 a (upd F 2 (nI sz)) R Z B J K3 w := hO.to rfl
                exact ih_2 (i2 + 1) K3 _ _ _ _ (by omega) (by omega) hlg3 (fun z => ⟨(hcl3 z).1, (hcl3 z).2⟩) hP hD hS hO (lv_sub hl [0, 3, 4] rfl)
              · have n21 : ¬ (i2 ≤ i3) := fun h9 => c19 ((nI_leI (a := i2) (b := i3) (by omega) (by omega)).mpr h9)
                refine lv_aload_n hx hb dX9_judgeHead_51 rfl (lv_at hl 4 rfl) ?_
                refine p_get (v := .ref (a 1)) (C := RX9) (Tc := TX9) (N := 5) (ci := 6) hx hb hq pin_wsX90 hown hE hP hO (by rw [((LgK.T hlg3 pq).trans hp1)]; decide) (rep_7 ((LgK.T hlg3 pq).trans hp1)) rfl 0 (by decide) (hq _ pw_784) (fun _ h9 => h9) (congrArg (fun z => some (va_rf z)) ((LgK.C hlg3 18 pq).trans hp2)) dX9_judgeHead_52 ?_
                refine lv_aload_n hx hb dX9_judgeHead_55 rfl (lv_at hl 3 rfl) ?_
                refine p_get (v := .int (K3.2.1 20 d0)) (C := RX2) (Tc := TX2) (N := 13) (ci := 2) hx hb hq pin_wsX20 hown hE hP hO (by rw [((LgK.T hlg3 d0).trans hd0)]; decide) (rep_4 ((LgK.T hlg3 d0).trans hd0)) rfl 5 (by decide) (hq _ pw_1107) (fun _ h9 => h9) rfl dX9_judgeHead_56 ?_
                refine lv_iconst (v := 2) hx hb dX9_judgeHead_59 (by decide) ?_
                refine lv_iload hx hb dX9_judgeHead_60 (lv_at hl 0 rfl) ?_
                refine lv_imul hx hb dX9_judgeHead_62 ?_
                refine lv_topi (fun x22 e23 => ?_)
                obtain rfl : x22 = nI (2 * i3) := e23.trans (nI_mulN (2) (i3))
                refine lv_iadd hx hb dX9_judgeHead_63 ?_
                refine lv_topi (fun x24 e25 => ?_)
                have hO : OKW G h0 a (upd (upd F 2 (nI sz)) 2 (nI sz)) R Z B J K3.1 (fun q99 x99 => x99 = rep G a K3 q99) w := hO.to rfl
                obtain ⟨_, qr29, hqr30⟩ := hO.2.1 2 _ (sg_2 G h0 a _ _ _ _ _)
                refine pc_V0 (G := G) (As := [.int x24]) (rest := []) hx hb hml hown hq hE hX pX0_al hP hD hS hA hl.1 (K_valueAt l G h0 a (upd F 2 (nI sz)) R Z B J K3.1 (fun q99 x99 => x99 = rep G a K3 q99) w x24 sz (by omega) hO) (gV pw_785 pw_57 pw_58 pw_59 pw_39) hV_X10_valueAt qr29 7 hqr30 rfl rfl rfl (Nat.le_of_ble_eq_true rfl) dX9_judgeHead_64 ⟨Nat.le_of_ble_eq_true rfl, Nat.le_of_ble_eq_true rfl⟩ ⟨Nat.le_of_ble_eq_true rfl, Nat.le_of_ble_eq_true rfl⟩ (fun v28 u26 H locs hw27 hP hD hS => ?_)
                obtain ⟨w, r31⟩ := u26
                obtain ⟨hw27, hO⟩ := hw27
                obtain rfl : v28 = some (.int r31) := hw27
                have hO : OKP G h0 a (upd F 2 (nI sz)) R Z B J K3 w := hO.to rfl
                refine W.widen (k := 0) (n := 0) (Nat.le_of_ble_eq_true rfl) (Nat.le_of_ble_eq_true rfl) ?_
                refine W.eq (g2 := F0 m 67 ls [.int r31]) rfl ?_
                refine lv_aload_n hx hb dX9_judgeHead_67 rfl (lv_at hl 4 rfl) ?_
                refine p_get (v := .ref (a 1)) (C := RX9) (Tc := TX9) (N := 5) (ci := 6) hx hb hq pin_wsX90 hown hE hP hO (by rw [((LgK.T hlg3 pq).trans hp1)]; decide) (rep_7 ((LgK.T hlg3 pq).trans hp1)) rfl 0 (by decide) (hq _ pw_784) (fun _ h9 => h9) (congrArg (fun z => some (va_rf z)) ((LgK.C hlg3 18 pq).trans hp2)) dX9_judgeHead_68 ?_
                refine lv_iload_n hx hb dX9_judgeHead_71 rfl (lv_at hl 1 rfl) ?_
                have hO : OKW G h0 a (upd (upd F 2 (nI sz)) 2 (nI sz)) R Z B J K3.1 (fun q99 x99 => x99 = rep G a K3 q99) w := hO.to rfl
                obtain ⟨_, qr35, hqr36⟩ := hO.2.1 2 _ (sg_2 G h0 a _ _ _ _ _)
                refine pc_V0 (G := G) (As := [.int tk3]) (rest := [.int r31]) hx hb hml hown hq hE hX pX0_al hP hD hS hA hl.1 (K_valueAt l G h0 a (upd F 2 (nI sz)) R Z B J K3.1 (fun q99 x99 => x99 = rep G a K3 q99) w tk3 sz (by omega) hO) (gV pw_785 pw_57 pw_58 pw_59 pw_39) hV_X10_valueAt qr35 7 hqr36 rfl rfl rfl (Nat.le_of_ble_eq_true rfl) dX9_judgeHead_72 ⟨Nat.le_of_ble_eq_true rfl, Nat.le_of_ble_eq_true rfl⟩ ⟨Nat.le_of_ble_eq_true rfl, Nat.le_of_ble_eq_true rfl⟩ (fun v34 u32 H locs hw33 hP hD hS => ?_)
                obtain ⟨w, r37⟩ := u32
                obtain ⟨hw33, hO⟩ := hw33
                obtain rfl : v34 = some (.int r37) := hw33
                have hO : OKP G h0 a (upd F 2 (nI sz)) R Z B J K3 w := hO.to rfl
                refine W.widen (k := 0) (n := 0) (Nat.le_of_ble_eq_true rfl) (Nat.le_of_ble_eq_true rfl) ?_
                refine W.eq (g2 := F0 m 75 ls [.int r37, .int r31]) rfl ?_
                refine lv_icmp_ne (tgt := 84) hx hb dX9_judgeHead_75 (by decide) (fun c38 => ?_) (fun c38 => ?_)
                · refine lv_iinc (v := (nI (i3 + 1))) (lv' := [(4, .int (nI (i3 + 1))), (3, .int tk3), (2, .int (nI i2)), (1, .ref d0), (0, .ref pq)]) hx hb dX9_judgeHead_84 hl (k := 0) rfl (nI_1 i3) (by decide) rfl (fun ls hl => ?_)
                  refine lv_goto (tgt := 45) hx hb dX9_judgeHead_87 (by decide) ?_
                  have hO : OKP G h0 a (upd F 2 (nI sz)) R Z B J K3 w := hO.to rfl
                  exact ih_3 (i3 + 1) K3 tk3 _ _ _ _ (by omega) (by omega) hlg3 (fun z => ⟨(hcl3 z).1, (hcl3 z).2⟩) hP hD hS hO (lv_sub hl [0, 1, 2, 3, 4] rfl)
                · refine lv_aload_n hx hb dX9_judgeHead_78 rfl (lv_at hl 4 rfl) ?_
                  refine lv_iconst (v := 5) hx hb dX9_judgeHead_79 (by decide) ?_
                  refine lv_iload_n hx hb dX9_judgeHead_80 rfl (lv_at hl 1 rfl) ?_
                  have hO : OKP G h0 a (upd (upd F 2 (nI sz)) 2 (nI sz)) R Z B J K3 w := hO.to rfl
                  obtain ⟨qr42, hqr43⟩ := p_recv hO (by rw [((LgK.T hlg3 pq).trans hp1)]; decide) (rep_7 ((LgK.T hlg3 pq).trans hp1))
                  refine pc_V0 (G := G) (As := [.int 5, .int tk3]) (rest := []) hx hb hml hown hq hE hX pX0_al hP hD hS hA hl.1 (N_report l G h0 a (upd F 2 (nI sz)) R Z B J K3 w pq dr ml nd nm cp it s9 5 tk3 sz g (by omega) (LgK.wp hlg3 hwp) (LgK.ps hlg3 hps) hO) (gV pw_1096 pw_1097 pw_1098 pw_106 pw_1084) hV_X9_report qr42 6 hqr43 rfl rfl rfl (Nat.le_of_ble_eq_true rfl) dX9_judgeHead_81 ⟨Nat.le_of_ble_eq_true rfl, Nat.le_of_ble_eq_true rfl⟩ ⟨Nat.le_of_ble_eq_true rfl, Nat.le_of_ble_eq_true rfl⟩ (fun v41 u39 H locs hw40 hP hD hS => ?_)
                  obtain ⟨w, K44⟩ := u39
                  obtain ⟨hw40, h45, h46, hO⟩ := hw40
                  have h45 : LgK K3 K44 pq := h45
                  have h46 : RpX 5 K44 pq := h46
                  obtain rfl : v41 = none := hw40
                  have hO : OKP G h0 a (upd F 2 (nI sz)) R Z B J K44 w := hO.to rfl
                  refine W.widen (k := 0) (n := 0) (Nat.le_of_ble_eq_true rfl) (Nat.le_of_ble_eq_true rfl) ?_
                  refine W.eq (g2 := F0 m 84 ls []) rfl ?_
                  have hlg47 : LgK K K44 pq := LgK.trans hlg3 h45
                  have hm48 : Cln K44 pq → Cln K3 pq := fun z => absurd z (h46 (by decide))
                  refine lv_iinc (v := (nI (i3 + 1))) (lv' := [(4, .int (nI (i3 + 1))), (3, .int tk3), (2, .int (nI i2)), (1, .ref d0), (0, .ref pq)]) hx hb dX9_judgeHead_84 hl (k := 0) rfl (nI_1 i3) (by decide) rfl (fun ls hl => ?_)
                  refine lv_goto (tgt := 45) hx hb dX9_judgeHead_87 (by decide) ?_
                  have hO : OKP G h0 a (upd F 2 (nI sz)) R Z B J K44 w := hO.to rfl
                  exact ih_3 (i3 + 1) K44 tk3 _ _ _ _ (by omega) (by omega) hlg47 (fun z => absurd z (h46 (by decide))) hP hD hS hO (lv_sub hl [0, 1, 2, 3, 4] rfl)
          have hO : OKP G h0 a (upd F 2 (nI sz)) R Z B J K14 w := hO.to rfl
          exact loop_3 (i2 + 1) 0 K14 x7 _ _ _ _ (by omega) (by omega) hlg17 (fun z => ⟨(hcl2 (hm18 z)).1, ⟨(hcl2 (hm18 z)).2.1, alS (hcl2 (hm18 z)).2.2 (by have z8 := (LgK.nmi hlg2 (h16 z).2); rw [e8, LgK.I hlg2 20 d0 (by decide)] at z8; exact z8)⟩⟩) hP hD hS hO (lv_sub hl [0, 1, 2, 3, 4] rfl)
    have hO : OKP G h0 a (upd F 2 (nI sz)) R Z B J K w := hO.to rfl
    exact loop_2 (b9 + 1) 0 K _ _ _ _ (by omega) (by omega) LgK.rfl (fun z => ⟨z, ⟨(fun y => absurd c1 y), fun i h => absurd h (by omega)⟩⟩) hP hD hS hO (lv_sub hl [0, 2, 1] rfl)
  · refine lv_aload_n hx hb dX9_judgeHead_8 rfl (lv_at hl 0 rfl) ?_
    refine lv_aload_n hx hb dX9_judgeHead_9 rfl (lv_at hl 1 rfl) ?_
    refine p_get (v := .int (K.2.1 19 d0)) (C := RX2) (Tc := TX2) (N := 13) (ci := 2) hx hb hq pin_wsX20 hown hE hP hO (by rw [hd0]; decide) (rep_4 hd0) rfl 4 (by decide) (hq _ pw_1105) (fun _ h9 => h9) rfl dX9_judgeHead_10 ?_
    refine lv_iconst (v := 0) hx hb dX9_judgeHead_13 (by decide) ?_
    have hO : OKP G h0 a (upd (upd F 2 (nI sz)) 2 (nI sz)) R Z B J K w := hO.to rfl
    obtain ⟨qr52, hqr53⟩ := p_recv hO (by rw [hp1]; decide) (rep_7 hp1)
    refine pc_V0 (G := G) (As := [.int (K.2.1 19 d0), .int 0]) (rest := []) hx hb hml hown hq hE hX pX0_al hP hD hS hA hl.1 (N_judgeAboveName l G h0 a (upd F 2 (nI sz)) R Z B J K w pq dr ml nd nm cp it s9 (K.2.1 19 d0) 0 sz g (by omega) hwp hps hO) (gV pw_1108 pw_1109 pw_1110 pw_106 pw_1104) hV_X9_judgeAboveName qr52 6 hqr53 rfl rfl rfl (Nat.le_of_ble_eq_true rfl) dX9_judgeHead_14 ⟨Nat.le_of_ble_eq_true rfl, Nat.le_of_ble_eq_true rfl⟩ ⟨Nat.le_of_ble_eq_true rfl, Nat.le_of_ble_eq_true rfl⟩ (fun v51 u49 H locs hw50 hP hD hS => ?_)
    obtain ⟨w, K54⟩ := u49
    obtain ⟨hw50, h55, h56, hO⟩ := hw50
    have h55 : LgK K K54 pq := h55
    have h56 : Cln K54 pq → Cln K pq ∧ (NmI K dr nd ((B 9)) sz (K.2.1 19 d0) 0) := h56
    obtain rfl : v51 = none := hw50
    have hO : OKP G h0 a (upd F 2 (nI sz)) R Z B J K54 w := hO.to rfl
    refine W.widen (k := 0) (n := 0) (Nat.le_of_ble_eq_true rfl) (Nat.le_of_ble_eq_true rfl) ?_
    refine W.eq (g2 := F0 m 17 ls []) rfl ?_
    have hlg57 : LgK K K54 pq := LgK.trans LgK.rfl h55
    have hm58 : Cln K54 pq → Cln K pq := fun z => (h56 z).1
    refine lv_iconst (v := 0) hx hb dX9_judgeHead_17 (by decide) ?_
    refine lv_istore_n (lv' := [(2, .int 0), (0, .ref pq), (1, .ref d0)]) hx hb dX9_judgeHead_18 rfl hl (by decide) rfl (fun ls hl => ?_)
    have loop_2 : ∀ (n_2 : Nat) (i2 : Nat) (K2 : PK) (H : Heap) (locs : List Loc) (ls : Array Slot) (w : va_W), i2 ≤ b9 → b9 + 1 ≤ i2 + n_2 → (LgK K K2 pq) → (Cln K2 pq → Cln K pq ∧ ((¬ K.2.1 19 d0 = -1 → NmI K dr nd (B 9) sz (K.2.1 19 d0) 0) ∧ ∀ i : Nat, i < i2 → NmI K dr nd (B 9) sz (K.2.1 20 d0 + nI (2 * i)) 1)) → va_P G.1 pCl w H → va_D A w → va_S A s.heap H locs → OKP G h0 a (upd F 2 (nI sz)) R Z B J K2 w → lv_has ls 5 [(2, .int (nI i2)), (1, .ref d0), (0, .ref pq)] → W p l e (headSpec (Cond.code yX9_judgeHead cX9_judgeHead 5 none :: pw) ({ frames := 5, cells := 0, slots := 0, locals := 126 } : Room)).room s m ([.ref pq, .ref d0] : List Value).toArray below meth c H locs 0 0 (MQ below (pQ G A (fun (v : Option Value) (u : va_W × (PK)) => v = none ∧ (LgK K u.2 pq) ∧ (Cln u.2 pq → Cln K pq ∧ (HdK K dr nd (B 9) sz d0)) ∧ (OKP G h0 a (upd F 2 (nI sz)) R Z B J u.2 u.1)) (fun u => u.1)) ([.ref pq, .ref d0] : List Value).toArray s ({ frames := 5, cells := 0, slots := 0, locals := 126 } : Room).cells ({ frames := 5, cells := 0, slots := 0, locals := 126 } : Room).slots A) (F0 m 19 ls []) := by
      intro n_2
      induction n_2 with
      | zero => intro i2 K2 H locs ls w hk_2 hn_2; omega
      | succ n_2 ih_2 =>
        intro i2 K2 H locs ls w hk_2 hn_2 hlg2 hcl2 hP hD hS hO hl
        refine lv_iload_n hx hb dX9_judgeHead_19 rfl (lv_at hl 0 rfl) ?_
        refine lv_aload_n hx hb dX9_judgeHead_20 rfl (lv_at hl 1 rfl) ?_
        refine p_get (v := .int lz9) (C := RX2) (Tc := TX2) (N := 13) (ci := 2) hx hb hq pin_wsX20 hown hE hP hO (by rw [((LgK.T hlg2 d0).trans hd0)]; decide) (rep_4 ((LgK.T hlg2 d0).trans hd0)) rfl 6 (by decide) (hq _ pw_1106) (fun _ h9 => h9) (congrArg (fun z => some (Value.int z)) ((LgK.I hlg2 21 d0 (by decide)).trans hlz9)) dX9_judgeHead_21 ?_
        refine lv_icmp_ge (tgt := 96) hx hb dX9_judgeHead_24 (by decide) (fun c59 => ?_) (fun c59 => ?_)
        · have hz60 : LgK K K2 pq := hlg2
          have hz61 : Cln K2 pq → Cln K pq ∧ (HdK K dr nd (B 9) sz d0) := (fun z => ⟨(hcl2 z).1, (hcl2 z).2.1, fun i hi hlt => (hcl2 z).2.2 i (lt_of_lz hi hk_2 hlt hlz9 c59 (by omega))⟩)
          have hO : OKP G h0 a (upd F 2 (nI sz)) R Z B J K2 w := hO.to rfl
          exact W.vret hx hb hr (fun t99 ht99 hW99 => ⟨⟨_, (w, K2), rfl, ⟨rfl, hz60, hz61, hO⟩, by rw [ht99]; exact hP, hD⟩, hS.F ht99⟩) hS.2.2 dX9_judgeHead_96
        · have hi9 := hb8 i2 (by omega) (Int32.not_le.mp c59)
          refine lv_aload_n hx hb dX9_judgeHead_27 rfl (lv_at hl 1 rfl) ?_
          refine p_get (v := .int (K2.2.1 20 d0)) (C := RX2) (Tc := TX2) (N := 13) (ci := 2) hx hb hq pin_wsX20 hown hE hP hO (by rw [((LgK.T hlg2 d0).trans hd0)]; decide) (rep_4 ((LgK.T hlg2 d0).trans hd0)) rfl 5 (by decide) (hq _ pw_1107) (fun _ h9 => h9) rfl dX9_judgeHead_28 ?_
          refine lv_iconst (v := 2) hx hb dX9_judgeHead_31 (by decide) ?_
          refine lv_iload_n hx hb dX9_judgeHead_32 rfl (lv_at hl 0 rfl) ?_
          refine lv_imul hx hb dX9_judgeHead_33 ?_
          refine lv_topi (fun x62 e63 => ?_)
          obtain rfl : x62 = nI (2 * i2) := e63.trans (nI_mulN (2) (i2))
          refine lv_iadd hx hb dX9_judgeHead_34 ?_
          refine lv_topi (fun x64 e65 => ?_)
          refine lv_istore_n (lv' := [(3, .int x64), (2, .int (nI i2)), (1, .ref d0), (0, .ref pq)]) hx hb dX9_judgeHead_35 rfl hl (by decide) rfl (fun ls hl => ?_)
          refine lv_aload_n hx hb dX9_judgeHead_36 rfl (lv_at hl 3 rfl) ?_
          refine lv_iload_n hx hb dX9_judgeHead_37 rfl (lv_at hl 0 rfl) ?_
          refine lv_iconst (v := 1) hx hb dX9_judgeHead_38 (by decide) ?_
          have hO : OKP G h0 a (upd (upd F 2 (nI sz)) 2 (nI sz)) R Z B J K2 w := hO.to rfl
          obtain ⟨qr69, hqr70⟩ := p_recv hO (by rw [((LgK.T hlg2 pq).trans hp1)]; decide) (rep_7 ((LgK.T hlg2 pq).trans hp1))
          refine pc_V0 (G := G) (As := [.int x64, .int 1]) (rest := []) hx hb hml hown hq hE hX pX0_al hP hD hS hA hl.1 (N_judgeAboveName l G h0 a (upd F 2 (nI sz)) R Z B J K2 w pq dr ml nd nm cp it s9 x64 1 sz g (by omega) (LgK.wp hlg2 hwp) (LgK.ps hlg2 hps) hO) (gV pw_1108 pw_1109 pw_1110 pw_106 pw_1104) hV_X9_judgeAboveName qr69 6 hqr70 rfl rfl rfl (Nat.le_of_ble_eq_true rfl) dX9_judgeHead_39 ⟨Nat.le_of_ble_eq_true rfl, Nat.le_of_ble_eq_true rfl⟩ ⟨Nat.le_of_ble_eq_true rfl, Nat.le_of_ble_eq_true rfl⟩ (fun v68 u66 H locs hw67 hP hD hS => ?_)
          obtain ⟨w, K71⟩ := u66
          obtain ⟨hw67, h72, h73, hO⟩ := hw67
          have h72 : LgK K2 K71 pq := h72
          have h73 : Cln K71 pq → Cln K2 pq ∧ (NmI K2 dr nd ((B 9)) sz x64 1) := h73
          obtain rfl : v68 = none := hw67
          have hO : OKP G h0 a (upd F 2 (nI sz)) R Z B J K71 w := hO.to rfl
          refine W.widen (k := 0) (n := 0) (Nat.le_of_ble_eq_true rfl) (Nat.le_of_ble_eq_true rfl) ?_
          refine W.eq (g2 := F0 m 42 ls []) rfl ?_
          have hlg74 : LgK K K71 pq := LgK.trans hlg2 h72
          have hm75 : Cln K71 pq → Cln K2 pq := fun z => (h73 z).1
          refine lv_iconst (v := 0) hx hb dX9_judgeHead_42 (by decide) ?_
          refine lv_istore (lv' := [(4, .int 0), (3, .int x64), (2, .int (nI i2)), (1, .ref d0), (0, .ref pq)]) hx hb dX9_judgeHead_43 hl (by decide) rfl (fun ls hl => ?_)
          have loop_3 : ∀ (n_3 : Nat) (i3 : Nat) (K3 : PK) (tk3 : Int32) (H : Heap) (locs : List Loc) (ls : Array Slot) (w : va_W), i3 ≤ i2 → i2 + 1 ≤ i3 + n_3 → (LgK K K3 pq) → (Cln K3 pq → Cln K pq ∧ ((¬ K.2.1 19 d0 = -1 → NmI K dr nd (B 9) sz (K.2.1 19 d0) 0) ∧ ∀ i : Nat, i < (i2 + 1) → NmI K dr nd (B 9) sz (K.2.1 20 d0 + nI (2 * i)) 1)) → va_P G.1 pCl w H → va_D A w → va_S A s.heap H locs → OKP G h0 a (upd F 2 (nI sz)) R Z B J K3 w → lv_has ls 5 [(4, .int (nI i3)), (3, .int tk3), (2, .int (nI i2)), (1, .ref d0), (0, .ref pq)] → W p l e (headSpec (Cond.code yX9_judgeHead cX9_judgeHead 5 none :: pw) ({ frames := 5, cells := 0, slots := 0, locals := 126 } : Room)).room s m ([.ref pq, .ref d0] : List Value).toArray below meth c H locs 0 0 (MQ below (pQ G A (fun (v : Option Value) (u : va_W × (PK)) => v = none ∧ (LgK K u.2 pq) ∧ (Cln u.2 pq → Cln K pq ∧ (HdK K dr nd (B 9) sz d0)) ∧ (OKP G h0 a (upd F 2 (nI sz)) R Z B J u.2 u.1)) (fun u => u.1)) ([.ref pq, .ref d0] : List Value).toArray s ({ frames := 5, cells := 0, slots := 0, locals := 126 } : Room).cells ({ frames := 5, cells := 0, slots := 0, locals := 126 } : Room).slots A) (F0 m 45 ls []) := by
            intro n_3
            induction n_3 with
            | zero => intro i3 K3 tk3 H locs ls w hk_3 hn_3; omega
            | succ n_3 ih_3 =>
              intro i3 K3 tk3 H locs ls w hk_3 hn_3 hlg3 hcl3 hP hD hS hO hl
              refine lv_iload hx hb dX9_judgeHead_45 (lv_at hl 0 rfl) ?_
              refine lv_iload_n hx hb dX9_judgeHead_47 rfl (lv_at hl 2 rfl) ?_
              refine lv_icmp_ge (tgt := 90) hx hb dX9_judgeHead_48 (by decide) (fun c76 => ?_) (fun c76 => ?_)
              · have n77 : i2 ≤ i3 := (nI_leI (a := i2) (b := i3) (by omega) (by omega)).mp c76
                refine lv_iinc (v := (nI (i2 + 1))) (lv' := [(2, .int (nI (i2 + 1))), (4, .int (nI i3)), (3, .int tk3), (1, .ref d0), (0, .ref pq)]) hx hb dX9_judgeHead_90 hl (k := 2) rfl (nI_1 i2) (by decide) rfl (fun ls hl => ?_)
                refine lv_goto (tgt := 19) hx hb dX9_judgeHead_93 (by decide) ?_
                have hO : OKP G h0 a (upd F 2 (nI sz)) R Z B J K3 w := hO.to rfl
                exact ih_2 (i2 + 1) K3 _ _ _ _ (by omega) (by omega) hlg3 (fun z => ⟨(hcl3 z).1, (hcl3 z).2⟩) hP hD hS hO (lv_sub hl [0, 3, 4] rfl)
              · have n78 : ¬ (i2 ≤ i3) := fun h9 => c76 ((nI_leI (a := i2) (b := i3) (by omega) (by omega)).mpr h9)
                refine lv_aload_n hx hb dX9_judgeHead_51 rfl (lv_at hl 4 rfl) ?_
                refine p_get (v := .ref (a 1)) (C := RX9) (Tc := TX9) (N := 5) (ci := 6) hx hb hq pin_wsX90 hown hE hP hO (by rw [((LgK.T hlg3 pq).trans hp1)]; decide) (rep_7 ((LgK.T hlg3 pq).trans hp1)) rfl 0 (by decide) (hq _ pw_784) (fun _ h9 => h9) (congrArg (fun z => some (va_rf z)) ((LgK.C hlg3 18 pq).trans hp2)) dX9_judgeHead_52 ?_
                refine lv_aload_n hx hb dX9_judgeHead_55 rfl (lv_at hl 3 rfl) ?_
                refine p_get (v := .int (K3.2.1 20 d0)) (C := RX2) (Tc := TX2) (N := 13) (ci := 2) hx hb hq pin_wsX20 hown hE hP hO (by rw [((LgK.T hlg3 d0).trans hd0)]; decide) (rep_4 ((LgK.T hlg3 d0).trans hd0)) rfl 5 (by decide) (hq _ pw_1107) (fun _ h9 => h9) rfl dX9_judgeHead_56 ?_
                refine lv_iconst (v := 2) hx hb dX9_judgeHead_59 (by decide) ?_
                refine lv_iload hx hb dX9_judgeHead_60 (lv_at hl 0 rfl) ?_
                refine lv_imul hx hb dX9_judgeHead_62 ?_
                refine lv_topi (fun x79 e80 => ?_)
                obtain rfl : x79 = nI (2 * i3) := e80.trans (nI_mulN (2) (i3))
                refine lv_iadd hx hb dX9_judgeHead_63 ?_
                refine lv_topi (fun x81 e82 => ?_)
                have hO : OKW G h0 a (upd (upd F 2 (nI sz)) 2 (nI sz)) R Z B J K3.1 (fun q99 x99 => x99 = rep G a K3 q99) w := hO.to rfl
                obtain ⟨_, qr86, hqr87⟩ := hO.2.1 2 _ (sg_2 G h0 a _ _ _ _ _)
                refine pc_V0 (G := G) (As := [.int x81]) (rest := []) hx hb hml hown hq hE hX pX0_al hP hD hS hA hl.1 (K_valueAt l G h0 a (upd F 2 (nI sz)) R Z B J K3.1 (fun q99 x99 => x99 = rep G a K3 q99) w x81 sz (by omega) hO) (gV pw_785 pw_57 pw_58 pw_59 pw_39) hV_X10_valueAt qr86 7 hqr87 rfl rfl rfl (Nat.le_of_ble_eq_true rfl) dX9_judgeHead_64 ⟨Nat.le_of_ble_eq_true rfl, Nat.le_of_ble_eq_true rfl⟩ ⟨Nat.le_of_ble_eq_true rfl, Nat.le_of_ble_eq_true rfl⟩ (fun v85 u83 H locs hw84 hP hD hS => ?_)
                obtain ⟨w, r88⟩ := u83
                obtain ⟨hw84, hO⟩ := hw84
                obtain rfl : v85 = some (.int r88) := hw84
                have hO : OKP G h0 a (upd F 2 (nI sz)) R Z B J K3 w := hO.to rfl
                refine W.widen (k := 0) (n := 0) (Nat.le_of_ble_eq_true rfl) (Nat.le_of_ble_eq_true rfl) ?_
                refine W.eq (g2 := F0 m 67 ls [.int r88]) rfl ?_
                refine lv_aload_n hx hb dX9_judgeHead_67 rfl (lv_at hl 4 rfl) ?_
                refine p_get (v := .ref (a 1)) (C := RX9) (Tc := TX9) (N := 5) (ci := 6) hx hb hq pin_wsX90 hown hE hP hO (by rw [((LgK.T hlg3 pq).trans hp1)]; decide) (rep_7 ((LgK.T hlg3 pq).trans hp1)) rfl 0 (by decide) (hq _ pw_784) (fun _ h9 => h9) (congrArg (fun z => some (va_rf z)) ((LgK.C hlg3 18 pq).trans hp2)) dX9_judgeHead_68 ?_
                refine lv_iload_n hx hb dX9_judgeHead_71 rfl (lv_at hl 1 rfl) ?_
                have hO : OKW G h0 a (upd (upd F 2 (nI sz)) 2 (nI sz)) R Z B J K3.1 (fun q99 x99 => x99 = rep G a K3 q99) w := hO.to rfl
                obtain ⟨_, qr92, hqr93⟩ := hO.2.1 2 _ (sg_2 G h0 a _ _ _ _ _)
                refine pc_V0 (G := G) (As := [.int tk3]) (rest := [.int r88]) hx hb hml hown hq hE hX pX0_al hP hD hS hA hl.1 (K_valueAt l G h0 a (upd F 2 (nI sz)) R Z B J K3.1 (fun q99 x99 => x99 = rep G a K3 q99) w tk3 sz (by omega) hO) (gV pw_785 pw_57 pw_58 pw_59 pw_39) hV_X10_valueAt qr92 7 hqr93 rfl rfl rfl (Nat.le_of_ble_eq_true rfl) dX9_judgeHead_72 ⟨Nat.le_of_ble_eq_true rfl, Nat.le_of_ble_eq_true rfl⟩ ⟨Nat.le_of_ble_eq_true rfl, Nat.le_of_ble_eq_true rfl⟩ (fun v91 u89 H locs hw90 hP hD hS => ?_)
                obtain ⟨w, r94⟩ := u89
                obtain ⟨hw90, hO⟩ := hw90
                obtain rfl : v91 = some (.int r94) := hw90
                have hO : OKP G h0 a (upd F 2 (nI sz)) R Z B J K3 w := hO.to rfl
                refine W.widen (k := 0) (n := 0) (Nat.le_of_ble_eq_true rfl) (Nat.le_of_ble_eq_true rfl) ?_
                refine W.eq (g2 := F0 m 75 ls [.int r94, .int r88]) rfl ?_
                refine lv_icmp_ne (tgt := 84) hx hb dX9_judgeHead_75 (by decide) (fun c95 => ?_) (fun c95 => ?_)
                · refine lv_iinc (v := (nI (i3 + 1))) (lv' := [(4, .int (nI (i3 + 1))), (3, .int tk3), (2, .int (nI i2)), (1, .ref d0), (0, .ref pq)]) hx hb dX9_judgeHead_84 hl (k := 0) rfl (nI_1 i3) (by decide) rfl (fun ls hl => ?_)
                  refine lv_goto (tgt := 45) hx hb dX9_judgeHead_87 (by decide) ?_
                  have hO : OKP G h0 a (upd F 2 (nI sz)) R Z B J K3 w := hO.to rfl
                  exact ih_3 (i3 + 1) K3 tk3 _ _ _ _ (by omega) (by omega) hlg3 (fun z => ⟨(hcl3 z).1, (hcl3 z).2⟩) hP hD hS hO (lv_sub hl [0, 1, 2, 3, 4] rfl)
                · refine lv_aload_n hx hb dX9_judgeHead_78 rfl (lv_at hl 4 rfl) ?_
                  refine lv_iconst (v := 5) hx hb dX9_judgeHead_79 (by decide) ?_
                  refine lv_iload_n hx hb dX9_judgeHead_80 rfl (lv_at hl 1 rfl) ?_
                  have hO : OKP G h0 a (upd (upd F 2 (nI sz)) 2 (nI sz)) R Z B J K3 w := hO.to rfl
                  obtain ⟨qr99, hqr100⟩ := p_recv hO (by rw [((LgK.T hlg3 pq).trans hp1)]; decide) (rep_7 ((LgK.T hlg3 pq).trans hp1))
                  refine pc_V0 (G := G) (As := [.int 5, .int tk3]) (rest := []) hx hb hml hown hq hE hX pX0_al hP hD hS hA hl.1 (N_report l G h0 a (upd F 2 (nI sz)) R Z B J K3 w pq dr ml nd nm cp it s9 5 tk3 sz g (by omega) (LgK.wp hlg3 hwp) (LgK.ps hlg3 hps) hO) (gV pw_1096 pw_1097 pw_1098 pw_106 pw_1084) hV_X9_report qr99 6 hqr100 rfl rfl rfl (Nat.le_of_ble_eq_true rfl) dX9_judgeHead_81 ⟨Nat.le_of_ble_eq_true rfl, Nat.le_of_ble_eq_true rfl⟩ ⟨Nat.le_of_ble_eq_true rfl, Nat.le_of_ble_eq_true rfl⟩ (fun v98 u96 H locs hw97 hP hD hS => ?_)
                  obtain ⟨w, K101⟩ := u96
                  obtain ⟨hw97, h102, h103, hO⟩ := hw97
                  have h102 : LgK K3 K101 pq := h102
                  have h103 : RpX 5 K101 pq := h103
                  obtain rfl : v98 = none := hw97
                  have hO : OKP G h0 a (upd F 2 (nI sz)) R Z B J K101 w := hO.to rfl
                  refine W.widen (k := 0) (n := 0) (Nat.le_of_ble_eq_true rfl) (Nat.le_of_ble_eq_true rfl) ?_
                  refine W.eq (g2 := F0 m 84 ls []) rfl ?_
                  have hlg104 : LgK K K101 pq := LgK.trans hlg3 h102
                  have hm105 : Cln K101 pq → Cln K3 pq := fun z => absurd z (h103 (by decide))
                  refine lv_iinc (v := (nI (i3 + 1))) (lv' := [(4, .int (nI (i3 + 1))), (3, .int tk3), (2, .int (nI i2)), (1, .ref d0), (0, .ref pq)]) hx hb dX9_judgeHead_84 hl (k := 0) rfl (nI_1 i3) (by decide) rfl (fun ls hl => ?_)
                  refine lv_goto (tgt := 45) hx hb dX9_judgeHead_87 (by decide) ?_
                  have hO : OKP G h0 a (upd F 2 (nI sz)) R Z B J K101 w := hO.to rfl
                  exact ih_3 (i3 + 1) K101 tk3 _ _ _ _ (by omega) (by omega) hlg104 (fun z => absurd z (h103 (by decide))) hP hD hS hO (lv_sub hl [0, 1, 2, 3, 4] rfl)
          have hO : OKP G h0 a (upd F 2 (nI sz)) R Z B J K71 w := hO.to rfl
          exact loop_3 (i2 + 1) 0 K71 x64 _ _ _ _ (by omega) (by omega) hlg74 (fun z => ⟨(hcl2 (hm75 z)).1, ⟨(hcl2 (hm75 z)).2.1, alS (hcl2 (hm75 z)).2.2 (by have z8 := (LgK.nmi hlg2 (h73 z).2); rw [e65, LgK.I hlg2 20 d0 (by decide)] at z8; exact z8)⟩⟩) hP hD hS hO (lv_sub hl [0, 1, 2, 3, 4] rfl)
    have hO : OKP G h0 a (upd F 2 (nI sz)) R Z B J K54 w := hO.to rfl
    exact loop_2 (b9 + 1) 0 K54 _ _ _ _ (by omega) (by omega) hlg57 (fun z => ⟨(hm58 z), ⟨(fun _ => (LgK.nmi (LgK.rfl (pq := pq)) (h56 z).2)), fun i h => absurd h (by omega)⟩⟩) hP hD hS hO (lv_sub hl [0, 2, 1] rfl)
set_option maxHeartbeats 16000000 in
set_option maxRecDepth 100000 in
theorem N_firstRound (l : Launch) (G : pT) (h0 : Nat) (a : Nat → Nat) (F : Nat → Int32) (R : Nat → Value) (Z : Int64) (B : Nat → Nat → Int32) (J : Nat → Nat → Int64) (K : PK) (w : va_W) (pq : Nat) (dr : Nat) (ml : Nat) (nd : Nat) (nm : Nat) (cp : Nat) (it : Nat → Nat) (s9 : Nat) (sz : Nat) (g : Nat → Nat → Nat) (hsz : sz ≤ 5000) (hwp : WPr G K g) (hps : PgT G K g (a 1) pq dr ml nd nm cp it s9) (hO : OKP G h0 a (upd F 2 (nI sz)) R Z B J K w) : PM l G pX0 yX9_firstRound cX9_firstRound 3 none ({ frames := 7, cells := 0, slots := 0, locals := 169 }) [.ref pq] w (fun (v : Option Value) (u : va_W × (PK)) => v = none ∧ (LgK K u.2 pq) ∧ (Cln u.2 pq → Cln K pq ∧ (Rd1 G K dr nd (B 9) (B 10) sz)) ∧ (OKP G h0 a (upd F 2 (nI sz)) R Z B J u.2 u.1)) (fun u => u.1) := by
  intro sz
  refine Met.ofW (cc := cX9_firstRound) (maxL := 3) (ret := none) (by decide) rfl ?_
  intro p e s m args below meth c s₁ B9 hml hv
  obtain ⟨rfl, hsz, hP, hD0, hE, hX⟩ := hv
  have hx := B9.exec
  have hb := B9.bytes
  have hr := B9.returns
  have hts := atoms_spec (ws := Cond.code yX9_firstRound cX9_firstRound 3 none :: pw) B9.pre
  have hq : ∀ w ∈ pw, w.before _ s = true := fun w h => hts w (List.mem_cons_of_mem _ h)
  have hown : s.vm.findClass RX9 = some m.cls := findClass_of_methodNamed B9.named
  have hlocks := B9.notSynchronized
  subst hsz
  have hD := hD0.self (sz := s.heap.size)
  have hA : ∀ q : Nat, s.heap.size ≤ q → va_A w s.heap.size q := fun q h => Or.inr h
  generalize va_A w s.heap.size = A at hD hE hA ⊢
  have hS : va_S A s.heap s.heap [] := va_S.rf
  have hl := lv_entry ([.ref pq]) (n := 3) (Nat.le_of_ble_eq_true rfl)
  rw [lg_entry_eq]
  generalize (lg_sl ([.ref pq]) ++ List.replicate (3 - (lg_sl ([.ref pq])).length) Slot.unset).toArray = ls at hl ⊢
  have hl : lv_has ls 3 [(0, .ref pq)] := hl
  have hp1 := hps.1.1
  have hp2 := hps.1.2.1
  have hp3 := hps.1.2.2.1
  have hp4 := hps.1.2.2.2.1
  have hp5 := hps.1.2.2.2.2.1
  have hp6 := hps.1.2.2.2.2.2.1
  have hp8 := hps.1.2.2.2.2.2.2.2.1
  have hp9 := hps.1.2.2.2.2.2.2.2.2
  refine lv_bipush (v := 7) hx hb dX9_firstRound_0 (by decide) ?_
  refine lv_istore_n (lv' := [(1, .int 7), (0, .ref pq)]) hx hb dX9_firstRound_2 rfl hl (by decide) rfl (fun ls hl => ?_)
  have loop_2 : ∀ (n_2 : Nat) (i2 : Nat) (K2 : PK) (H : Heap) (locs : List Loc) (ls : Array Slot) (w : va_W), i2 ≤ nd → nd + 1 ≤ i2 + n_2 → (LgK K K2 pq) → (Cln K2 pq → Cln K pq ∧ (∀ k : Nat, 7 ≤ k → k < i2 → ∀ d : Nat, K.2.2.2.2.1 dr k = some d → OwS G K d ∧ HdK K dr nd (B 9) sz d)) → va_P G.1 pCl w H → va_D A w → va_S A s.heap H locs → OKP G h0 a (upd F 2 (nI sz)) R Z B J K2 w → lv_has ls 3 [(1, .int (nI i2)), (0, .ref pq)] → W p l e (headSpec (Cond.code yX9_firstRound cX9_firstRound 3 none :: pw) ({ frames := 7, cells := 0, slots := 0, locals := 169 } : Room)).room s m ([.ref pq] : List Value).toArray below meth c H locs 0 0 (MQ below (pQ G A (fun (v : Option Value) (u : va_W × (PK)) => v = none ∧ (LgK K u.2 pq) ∧ (Cln u.2 pq → Cln K pq ∧ (Rd1 G K dr nd (B 9) (B 10) sz)) ∧ (OKP G h0 a (upd F 2 (nI sz)) R Z B J u.2 u.1)) (fun u => u.1)) ([.ref pq] : List Value).toArray s ({ frames := 7, cells := 0, slots := 0, locals := 169 } : Room).cells ({ frames := 7, cells := 0, slots := 0, locals := 169 } : Room).slots A) (F0 m 3 ls []) := by
    intro n_2
    induction n_2 with
    | zero => intro i2 K2 H locs ls w hk_2 hn_2; omega
    | succ n_2 ih_2 =>
      intro i2 K2 H locs ls w hk_2 hn_2 hlg2 hcl2 hP hD hS hO hl
      refine lv_iload_n hx hb dX9_firstRound_3 rfl (lv_at hl 0 rfl) ?_
      refine lv_aload_n hx hb dX9_firstRound_4 rfl (lv_at hl 1 rfl) ?_
      refine p_get (v := .int (nI nd)) (C := RX9) (Tc := TX9) (N := 5) (ci := 6) hx hb hq pin_wsX90 hown hE hP hO (by rw [((LgK.T hlg2 pq).trans hp1)]; decide) (rep_7 ((LgK.T hlg2 pq).trans hp1)) rfl 2 (by decide) (hq _ pw_14) (fun _ h9 => h9) (congrArg (fun z => some (Value.int z)) ((LgK.I hlg2 24 pq (by decide)).trans hp8)) dX9_firstRound_5 ?_
      refine lv_icmp_ge (tgt := 55) hx hb dX9_firstRound_8 (by decide) (fun c1 => ?_) (fun c1 => ?_)
      · have n2 : nd ≤ i2 := (nI_leI (a := nd) (b := i2) (by omega) (by omega)).mp c1
        refine lv_iconst (v := 0) hx hb dX9_firstRound_55 (by decide) ?_
        refine lv_istore_n (lv' := [(1, .int 0), (0, .ref pq)]) hx hb dX9_firstRound_56 rfl hl (by decide) rfl (fun ls hl => ?_)
        have loop_3 : ∀ (n_3 : Nat) (i3 : Nat) (K3 : PK) (H : Heap) (locs : List Loc) (ls : Array Slot) (w : va_W), i3 ≤ sz → sz + 1 ≤ i3 + n_3 → (LgK K K3 pq) → (Cln K3 pq → Cln K pq ∧ ((∀ k : Nat, 7 ≤ k → k < nd → ∀ d : Nat, K.2.2.2.2.1 dr k = some d → OwS G K d ∧ HdK K dr nd (B 9) sz d) ∧ ∀ t : Nat, t < i3 → ¬ B 10 t = 0 → NmT K dr nd (B 9) sz (nI t) (if B 10 t = 1 then 1 else 0))) → va_P G.1 pCl w H → va_D A w → va_S A s.heap H locs → OKP G h0 a (upd F 2 (nI sz)) R Z B J K3 w → lv_has ls 3 [(1, .int (nI i3)), (0, .ref pq)] → W p l e (headSpec (Cond.code yX9_firstRound cX9_firstRound 3 none :: pw) ({ frames := 7, cells := 0, slots := 0, locals := 169 } : Room)).room s m ([.ref pq] : List Value).toArray below meth c H locs 0 0 (MQ below (pQ G A (fun (v : Option Value) (u : va_W × (PK)) => v = none ∧ (LgK K u.2 pq) ∧ (Cln u.2 pq → Cln K pq ∧ (Rd1 G K dr nd (B 9) (B 10) sz)) ∧ (OKP G h0 a (upd F 2 (nI sz)) R Z B J u.2 u.1)) (fun u => u.1)) ([.ref pq] : List Value).toArray s ({ frames := 7, cells := 0, slots := 0, locals := 169 } : Room).cells ({ frames := 7, cells := 0, slots := 0, locals := 169 } : Room).slots A) (F0 m 57 ls []) := by
          intro n_3
          induction n_3 with
          | zero => intro i3 K3 H locs ls w hk_3 hn_3; omega
          | succ n_3 ih_3 =>
            intro i3 K3 H locs ls w hk_3 hn_3 hlg3 hcl3 hP hD hS hO hl
            refine lv_iload_n hx hb dX9_firstRound_57 rfl (lv_at hl 0 rfl) ?_
            refine lv_aload_n hx hb dX9_firstRound_58 rfl (lv_at hl 1 rfl) ?_
            refine p_get (v := .ref (a 1)) (C := RX9) (Tc := TX9) (N := 5) (ci := 6) hx hb hq pin_wsX90 hown hE hP hO (by rw [((LgK.T hlg3 pq).trans hp1)]; decide) (rep_7 ((LgK.T hlg3 pq).trans hp1)) rfl 0 (by decide) (hq _ pw_784) (fun _ h9 => h9) (congrArg (fun z => some (va_rf z)) ((LgK.C hlg3 18 pq).trans hp2)) dX9_firstRound_59 ?_
            refine c_get (v := .int (nI sz)) (C := RX10) (Tc := TX10) (N := 15) (ci := 7) hx hb hq pin_wsX100 hown hE hP hO 2 (sg_2 G h0 a _ _ _ _ _) rfl 8 (by decide) (hq _ pw_1115) (fun _ h9 => h9) rfl dX9_firstRound_62 ?_
            refine lv_icmp_ge (tgt := 102) hx hb dX9_firstRound_65 (by decide) (fun c3 => ?_) (fun c3 => ?_)
            · have n4 : sz ≤ i3 := (nI_leI (a := sz) (b := i3) (by omega) (by omega)).mp c3
              have hz5 : LgK K K3 pq := hlg3
              have hz6 : Cln K3 pq → Cln K pq ∧ (Rd1 G K dr nd (B 9) (B 10) sz) := (fun z => ⟨(hcl3 z).1, (hcl3 z).2.1, fun t ht => (hcl3 z).2.2 t (by omega)⟩)
              have hO : OKP G h0 a (upd F 2 (nI sz)) R Z B J K3 w := hO.to rfl
              exact W.vret hx hb hr (fun t99 ht99 hW99 => ⟨⟨_, (w, K3), rfl, ⟨rfl, hz5, hz6, hO⟩, by rw [ht99]; exact hP, hD⟩, hS.F ht99⟩) hS.2.2 dX9_firstRound_102
            · have n7 : ¬ (sz ≤ i3) := fun h9 => c3 ((nI_leI (a := sz) (b := i3) (by omega) (by omega)).mpr h9)
              refine lv_aload_n hx hb dX9_firstRound_68 rfl (lv_at hl 1 rfl) ?_
              refine p_get (v := .ref (a 1)) (C := RX9) (Tc := TX9) (N := 5) (ci := 6) hx hb hq pin_wsX90 hown hE hP hO (by rw [((LgK.T hlg3 pq).trans hp1)]; decide) (rep_7 ((LgK.T hlg3 pq).trans hp1)) rfl 0 (by decide) (hq _ pw_784) (fun _ h9 => h9) (congrArg (fun z => some (va_rf z)) ((LgK.C hlg3 18 pq).trans hp2)) dX9_firstRound_69 ?_
              refine lv_iload_n hx hb dX9_firstRound_72 rfl (lv_at hl 0 rfl) ?_
              have hO : OKW G h0 a (upd (upd F 2 (nI sz)) 2 (nI sz)) R Z B J K3.1 (fun q99 x99 => x99 = rep G a K3 q99) w := hO.to rfl
              obtain ⟨_, qr11, hqr12⟩ := hO.2.1 2 _ (sg_2 G h0 a _ _ _ _ _)
              refine pc_V0 (G := G) (As := [.int (nI i3)]) (rest := []) hx hb hml hown hq hE hX pX0_al hP hD hS hA hl.1 (N_roleAt l G h0 a (upd F 2 (nI sz)) R Z B J K3.1 (fun q99 x99 => x99 = rep G a K3 q99) w (nI i3) sz (by omega) hO) (gV pw_1122 pw_1123 pw_1124 pw_59 pw_1112) hV_X10_roleAt qr11 7 hqr12 rfl rfl rfl (Nat.le_of_ble_eq_true rfl) dX9_firstRound_73 ⟨Nat.le_of_ble_eq_true rfl, Nat.le_of_ble_eq_true rfl⟩ ⟨Nat.le_of_ble_eq_true rfl, Nat.le_of_ble_eq_true rfl⟩ (fun v10 u8 H locs hw9 hP hD hS => ?_)
              obtain ⟨w, _⟩ := u8
              obtain ⟨hw9, hO⟩ := hw9
              obtain rfl : v10 = some (.int (tkN ((B 10)) sz 0 (nI i3))) := hw9
              have hO : OKP G h0 a (upd F 2 (nI sz)) R Z B J K3 w := hO.to rfl
              refine W.widen (k := 0) (n := 0) (Nat.le_of_ble_eq_true rfl) (Nat.le_of_ble_eq_true rfl) ?_
              refine W.eq (g2 := F0 m 76 ls [.int (tkN ((B 10)) sz 0 (nI i3))]) rfl ?_
              rw [show tkN (B 10) sz 0 (nI i3) = B 10 i3 from tkN_in (by omega) (by omega)]
              refine lv_istore_n (lv' := [(2, .int (B 10 i3)), (1, .int (nI i3)), (0, .ref pq)]) hx hb dX9_firstRound_76 rfl hl (by decide) rfl (fun ls hl => ?_)
              refine lv_iload_n hx hb dX9_firstRound_77 rfl (lv_at hl 0 rfl) ?_
              refine lv_if_eq (tgt := 96) hx hb dX9_firstRound_78 (by decide) (fun c13 => ?_) (fun c13 => ?_)
              · refine lv_iinc (v := (nI (i3 + 1))) (lv' := [(1, .int (nI (i3 + 1))), (2, .int (B 10 i3)), (0, .ref pq)]) hx hb dX9_firstRound_96 hl (k := 1) rfl (nI_1 i3) (by decide) rfl (fun ls hl => ?_)
                refine lv_goto (tgt := 57) hx hb dX9_firstRound_99 (by decide) ?_
                have hO : OKP G h0 a (upd F 2 (nI sz)) R Z B J K3 w := hO.to rfl
                exact ih_3 (i3 + 1) K3 _ _ _ _ (by omega) (by omega) hlg3 (fun z => ⟨(hcl3 z).1, ⟨(hcl3 z).2.1, alS (hcl3 z).2.2 (fun y => absurd c13 y)⟩⟩) hP hD hS hO (lv_sub hl [0, 2] rfl)
              · refine lv_aload_n hx hb dX9_firstRound_81 rfl (lv_at hl 2 rfl) ?_
                refine lv_iload_n hx hb dX9_firstRound_82 rfl (lv_at hl 1 rfl) ?_
                refine lv_iload_n hx hb dX9_firstRound_83 rfl (lv_at hl 0 rfl) ?_
                refine lv_iconst (v := 1) hx hb dX9_firstRound_84 (by decide) ?_
                refine lv_icmp_ne (tgt := 92) hx hb dX9_firstRound_85 (by decide) (fun c14 => ?_) (fun c14 => ?_)
                · refine lv_iconst (v := 0) hx hb dX9_firstRound_92 (by decide) ?_
                  have hO : OKP G h0 a (upd (upd F 2 (nI sz)) 2 (nI sz)) R Z B J K3 w := hO.to rfl
                  obtain ⟨qr18, hqr19⟩ := p_recv hO (by rw [((LgK.T hlg3 pq).trans hp1)]; decide) (rep_7 ((LgK.T hlg3 pq).trans hp1))
                  refine pc_V0 (G := G) (As := [.int (nI i3), .int 0]) (rest := []) hx hb hml hown hq hE hX pX0_al hP hD hS hA hl.1 (N_judgeTypeName l G h0 a (upd F 2 (nI sz)) R Z B J K3 w pq dr ml nd nm cp it s9 (nI i3) 0 sz g (by omega) (LgK.wp hlg3 hwp) (LgK.ps hlg3 hps) hO) (gV pw_1125 pw_1126 pw_1127 pw_106 pw_1113) hV_X9_judgeTypeName qr18 6 hqr19 rfl rfl rfl (Nat.le_of_ble_eq_true rfl) dX9_firstRound_93 ⟨Nat.le_of_ble_eq_true rfl, Nat.le_of_ble_eq_true rfl⟩ ⟨Nat.le_of_ble_eq_true rfl, Nat.le_of_ble_eq_true rfl⟩ (fun v17 u15 H locs hw16 hP hD hS => ?_)
                  obtain ⟨w, K20⟩ := u15
                  obtain ⟨hw16, h21, h22, hO⟩ := hw16
                  have h21 : LgK K3 K20 pq := h21
                  have h22 : Cln K20 pq → Cln K3 pq ∧ (NmT K3 dr nd ((B 9)) sz (nI i3) 0) := h22
                  obtain rfl : v17 = none := hw16
                  have hO : OKP G h0 a (upd F 2 (nI sz)) R Z B J K20 w := hO.to rfl
                  refine W.widen (k := 0) (n := 0) (Nat.le_of_ble_eq_true rfl) (Nat.le_of_ble_eq_true rfl) ?_
                  refine W.eq (g2 := F0 m 96 ls []) rfl ?_
                  have hlg23 : LgK K K20 pq := LgK.trans hlg3 h21
                  have hm24 : Cln K20 pq → Cln K3 pq := fun z => (h22 z).1
                  refine lv_iinc (v := (nI (i3 + 1))) (lv' := [(1, .int (nI (i3 + 1))), (2, .int (B 10 i3)), (0, .ref pq)]) hx hb dX9_firstRound_96 hl (k := 1) rfl (nI_1 i3) (by decide) rfl (fun ls hl => ?_)
                  refine lv_goto (tgt := 57) hx hb dX9_firstRound_99 (by decide) ?_
                  have hO : OKP G h0 a (upd F 2 (nI sz)) R Z B J K20 w := hO.to rfl
                  exact ih_3 (i3 + 1) K20 _ _ _ _ (by omega) (by omega) hlg23 (fun z => ⟨(hcl3 (hm24 z)).1, ⟨(hcl3 (hm24 z)).2.1, alS (hcl3 (hm24 z)).2.2 (fun _ => by rw [if_neg c14]; exact (LgK.nmt hlg3 (h22 z).2))⟩⟩) hP hD hS hO (lv_sub hl [0, 2] rfl)
                · refine lv_iconst (v := 1) hx hb dX9_firstRound_88 (by decide) ?_
                  refine lv_goto (tgt := 93) hx hb dX9_firstRound_89 (by decide) ?_
                  have hO : OKP G h0 a (upd (upd F 2 (nI sz)) 2 (nI sz)) R Z B J K3 w := hO.to rfl
                  obtain ⟨qr28, hqr29⟩ := p_recv hO (by rw [((LgK.T hlg3 pq).trans hp1)]; decide) (rep_7 ((LgK.T hlg3 pq).trans hp1))
                  refine pc_V0 (G := G) (As := [.int (nI i3), .int 1]) (rest := []) hx hb hml hown hq hE hX pX0_al hP hD hS hA hl.1 (N_judgeTypeName l G h0 a (upd F 2 (nI sz)) R Z B J K3 w pq dr ml nd nm cp it s9 (nI i3) 1 sz g (by omega) (LgK.wp hlg3 hwp) (LgK.ps hlg3 hps) hO) (gV pw_1125 pw_1126 pw_1127 pw_106 pw_1113) hV_X9_judgeTypeName qr28 6 hqr29 rfl rfl rfl (Nat.le_of_ble_eq_true rfl) dX9_firstRound_93 ⟨Nat.le_of_ble_eq_true rfl, Nat.le_of_ble_eq_true rfl⟩ ⟨Nat.le_of_ble_eq_true rfl, Nat.le_of_ble_eq_true rfl⟩ (fun v27 u25 H locs hw26 hP hD hS => ?_)
                  obtain ⟨w, K30⟩ := u25
                  obtain ⟨hw26, h31, h32, hO⟩ := hw26
                  have h31 : LgK K3 K30 pq := h31
                  have h32 : Cln K30 pq → Cln K3 pq ∧ (NmT K3 dr nd ((B 9)) sz (nI i3) 1) := h32
                  obtain rfl : v27 = none := hw26
                  have hO : OKP G h0 a (upd F 2 (nI sz)) R Z B J K30 w := hO.to rfl
                  refine W.widen (k := 0) (n := 0) (Nat.le_of_ble_eq_true rfl) (Nat.le_of_ble_eq_true rfl) ?_
                  refine W.eq (g2 := F0 m 96 ls []) rfl ?_
                  have hlg33 : LgK K K30 pq := LgK.trans hlg3 h31
                  have hm34 : Cln K30 pq → Cln K3 pq := fun z => (h32 z).1
                  refine lv_iinc (v := (nI (i3 + 1))) (lv' := [(1, .int (nI (i3 + 1))), (2, .int (B 10 i3)), (0, .ref pq)]) hx hb dX9_firstRound_96 hl (k := 1) rfl (nI_1 i3) (by decide) rfl (fun ls hl => ?_)
                  refine lv_goto (tgt := 57) hx hb dX9_firstRound_99 (by decide) ?_
                  have hO : OKP G h0 a (upd F 2 (nI sz)) R Z B J K30 w := hO.to rfl
                  exact ih_3 (i3 + 1) K30 _ _ _ _ (by omega) (by omega) hlg33 (fun z => ⟨(hcl3 (hm34 z)).1, ⟨(hcl3 (hm34 z)).2.1, alS (hcl3 (hm34 z)).2.2 (fun _ => by rw [if_pos c14]; exact (LgK.nmt hlg3 (h32 z).2))⟩⟩) hP hD hS hO (lv_sub hl [0, 2] rfl)
        have hO : OKP G h0 a (upd F 2 (nI sz)) R Z B J K2 w := hO.to rfl
        exact loop_3 (sz + 1) 0 K2 _ _ _ _ (by omega) (by omega) hlg2 (fun z => ⟨(hcl2 z).1, ⟨fun k h1 h2 => (hcl2 z).2 k h1 (by omega), fun t h => absurd h (by omega)⟩⟩) hP hD hS hO (lv_sub hl [0, 1] rfl)
      · have n35 : ¬ (nd ≤ i2) := fun h9 => c1 ((nI_leI (a := nd) (b := i2) (by omega) (by omega)).mpr h9)
        refine lv_aload_n hx hb dX9_firstRound_11 rfl (lv_at hl 1 rfl) ?_
        refine p_get (v := .ref dr) (C := RX9) (Tc := TX9) (N := 5) (ci := 6) hx hb hq pin_wsX90 hown hE hP hO (by rw [((LgK.T hlg2 pq).trans hp1)]; decide) (rep_7 ((LgK.T hlg2 pq).trans hp1)) rfl 1 (by decide) (hq _ pw_15) (fun _ h9 => h9) (congrArg (fun z => some (va_rf z)) ((LgK.C hlg2 14 pq).trans hp3)) dX9_firstRound_12 ?_
        refine lv_iload_n hx hb dX9_firstRound_15 rfl (lv_at hl 0 rfl) ?_
        refine p_ald8 hx hb hE hP hO ((LgK.T hlg2 dr).trans hp4) (vp_in_nI (by omega) (by omega)) dX9_firstRound_16 ?_
        rw [nI_clamp (show i2 < 2 ^ 31 by omega)]
        obtain ⟨d36, hd37, hd38, hd39, hd40⟩ := hps.2.1 i2 (by omega)
        have hd41 : K2.2.2.2.2.1 dr i2 = some d36 := by rw [LgK.E hlg2]; exact hd37
        rw [hd41]
        refine W.eq (g2 := F0 m 17 ls [.ref d36]) rfl ?_
        refine lv_astore_n (lv' := [(2, .ref d36), (1, .int (nI i2)), (0, .ref pq)]) hx hb dX9_firstRound_17 rfl hl (by decide) rfl (fun ls hl => ?_)
        refine lv_aload_n hx hb dX9_firstRound_18 rfl (lv_at hl 2 rfl) ?_
        refine lv_aload_n hx hb dX9_firstRound_19 rfl (lv_at hl 0 rfl) ?_
        refine p_get (v := .int (K2.2.1 16 d36)) (C := RX2) (Tc := TX2) (N := 13) (ci := 2) hx hb hq pin_wsX20 hown hE hP hO (by rw [((LgK.T hlg2 d36).trans hd38)]; decide) (rep_4 ((LgK.T hlg2 d36).trans hd38)) rfl 1 (by decide) (hq _ pw_510) (fun _ h9 => h9) rfl dX9_firstRound_20 ?_
        have hO : OKP G h0 a (upd F 2 (nI sz)) R Z B J K2 w := hO.to rfl
        obtain ⟨qr45, hqr46⟩ := p_recv hO (by rw [((LgK.T hlg2 pq).trans hp1)]; decide) (rep_7 ((LgK.T hlg2 pq).trans hp1))
        refine pc_V0 (G := G) (As := [.int (K2.2.1 16 d36)]) (rest := []) hx hb hml hown hq hE hX pX0_al hP hD hS hA hl.1 (G_find l G h0 a (upd F 2 (nI sz)) R Z B J K2 w pq dr ml nd (K2.2.1 16 d36) g (LgK.ps hlg2 hps).1 (LgK.ps hlg2 hps).2.1 hO) (gV pw_1102 pw_585 pw_586 pw_106 pw_509) hV_X9_find qr45 6 hqr46 rfl rfl rfl (Nat.le_of_ble_eq_true rfl) dX9_firstRound_23 ⟨Nat.le_of_ble_eq_true rfl, Nat.le_of_ble_eq_true rfl⟩ ⟨Nat.le_of_ble_eq_true rfl, Nat.le_of_ble_eq_true rfl⟩ (fun v44 u42 H locs hw43 hP hD hS => ?_)
        obtain ⟨w, r47⟩ := u42
        obtain ⟨hw43, h48, hO⟩ := hw43
        have h48 : FnQ r47 nd := h48
        obtain rfl : v44 = some (.int r47) := hw43
        have hO : OKP G h0 a (upd F 2 (nI sz)) R Z B J K2 w := hO.to rfl
        refine W.widen (k := 0) (n := 0) (Nat.le_of_ble_eq_true rfl) (Nat.le_of_ble_eq_true rfl) ?_
        refine W.eq (g2 := F0 m 26 ls [.int r47]) rfl ?_
        refine lv_iload_n hx hb dX9_firstRound_26 rfl (lv_at hl 1 rfl) ?_
        refine lv_icmp_ge (tgt := 39) hx hb dX9_firstRound_27 (by decide) (fun c49 => ?_) (fun c49 => ?_)
        · refine lv_aload_n hx hb dX9_firstRound_39 rfl (lv_at hl 2 rfl) ?_
          refine lv_aload_n hx hb dX9_firstRound_40 rfl (lv_at hl 0 rfl) ?_
          have hO : OKP G h0 a (upd (upd F 2 (nI sz)) 2 (nI sz)) R Z B J K2 w := hO.to rfl
          obtain ⟨qr53, hqr54⟩ := p_recv hO (by rw [((LgK.T hlg2 pq).trans hp1)]; decide) (rep_7 ((LgK.T hlg2 pq).trans hp1))
          refine pc_V0 (G := G) (As := [.ref d36]) (rest := []) hx hb hml hown hq hE hX pX0_al hP hD hS hA hl.1 (N_judgeMembers l G h0 a (upd F 2 (nI sz)) R Z B J K2 w pq dr ml nd nm cp it s9 d36 sz g (by omega) (LgK.wp hlg2 hwp) (LgK.ps hlg2 hps) ((LgK.T hlg2 d36).trans hd38) hO) (gV pw_1116 pw_1117 pw_1118 pw_106 pw_1100) hV_X9_judgeMembers qr53 6 hqr54 rfl rfl rfl (Nat.le_of_ble_eq_true rfl) dX9_firstRound_41 ⟨Nat.le_of_ble_eq_true rfl, Nat.le_of_ble_eq_true rfl⟩ ⟨Nat.le_of_ble_eq_true rfl, Nat.le_of_ble_eq_true rfl⟩ (fun v52 u50 H locs hw51 hP hD hS => ?_)
          obtain ⟨w, K55⟩ := u50
          obtain ⟨hw51, h56, h57, hO⟩ := hw51
          have h56 : LgK K2 K55 pq := h56
          have h57 : Cln K55 pq → Cln K2 pq ∧ (OwS G K2 d36) := h57
          obtain rfl : v52 = none := hw51
          have hO : OKP G h0 a (upd F 2 (nI sz)) R Z B J K55 w := hO.to rfl
          refine W.widen (k := 0) (n := 0) (Nat.le_of_ble_eq_true rfl) (Nat.le_of_ble_eq_true rfl) ?_
          refine W.eq (g2 := F0 m 44 ls []) rfl ?_
          have hlg58 : LgK K K55 pq := LgK.trans hlg2 h56
          have hm59 : Cln K55 pq → Cln K2 pq := fun z => (h57 z).1
          refine lv_aload_n hx hb dX9_firstRound_44 rfl (lv_at hl 2 rfl) ?_
          refine lv_aload_n hx hb dX9_firstRound_45 rfl (lv_at hl 0 rfl) ?_
          have hO : OKP G h0 a (upd (upd F 2 (nI sz)) 2 (nI sz)) R Z B J K55 w := hO.to rfl
          obtain ⟨qr63, hqr64⟩ := p_recv hO (by rw [((LgK.T hlg58 pq).trans hp1)]; decide) (rep_7 ((LgK.T hlg58 pq).trans hp1))
          refine pc_V0 (G := G) (As := [.ref d36]) (rest := []) hx hb hml hown hq hE hX pX0_al hP hD hS hA hl.1 (N_judgeHead l G h0 a (upd F 2 (nI sz)) R Z B J K55 w pq dr ml nd nm cp it s9 d36 sz g (by omega) (LgK.wp hlg58 hwp) (LgK.ps hlg58 hps) ((LgK.T hlg58 d36).trans hd38) hO) (gV pw_1119 pw_1120 pw_1121 pw_106 pw_1111) hV_X9_judgeHead qr63 6 hqr64 rfl rfl rfl (Nat.le_of_ble_eq_true rfl) dX9_firstRound_46 ⟨Nat.le_of_ble_eq_true rfl, Nat.le_of_ble_eq_true rfl⟩ ⟨Nat.le_of_ble_eq_true rfl, Nat.le_of_ble_eq_true rfl⟩ (fun v62 u60 H locs hw61 hP hD hS => ?_)
          obtain ⟨w, K65⟩ := u60
          obtain ⟨hw61, h66, h67, hO⟩ := hw61
          have h66 : LgK K55 K65 pq := h66
          have h67 : Cln K65 pq → Cln K55 pq ∧ (HdK K55 dr nd ((B 9)) sz d36) := h67
          obtain rfl : v62 = none := hw61
          have hO : OKP G h0 a (upd F 2 (nI sz)) R Z B J K65 w := hO.to rfl
          refine W.widen (k := 0) (n := 0) (Nat.le_of_ble_eq_true rfl) (Nat.le_of_ble_eq_true rfl) ?_
          refine W.eq (g2 := F0 m 49 ls []) rfl ?_
          have hlg68 : LgK K K65 pq := LgK.trans hlg58 h66
          have hm69 : Cln K65 pq → Cln K55 pq := fun z => (h67 z).1
          refine lv_iinc (v := (nI (i2 + 1))) (lv' := [(1, .int (nI (i2 + 1))), (2, .ref d36), (0, .ref pq)]) hx hb dX9_firstRound_49 hl (k := 1) rfl (nI_1 i2) (by decide) rfl (fun ls hl => ?_)
          refine lv_goto (tgt := 3) hx hb dX9_firstRound_52 (by decide) ?_
          have hO : OKP G h0 a (upd F 2 (nI sz)) R Z B J K65 w := hO.to rfl
          exact ih_2 (i2 + 1) K65 _ _ _ _ (by omega) (by omega) hlg68 (fun z => ⟨(hcl2 (hm59 (hm69 z))).1, (alS7 (hcl2 (hm59 (hm69 z))).2 (fun d hd => by cases hd37.symm.trans hd; exact ⟨(LgK.ows hlg2 (h57 (hm69 z)).2), (LgK.hdk hlg58 (h67 z).2)⟩))⟩) hP hD hS hO (lv_sub hl [0, 2] rfl)
        · refine lv_aload_n hx hb dX9_firstRound_30 rfl (lv_at hl 2 rfl) ?_
          refine lv_iconst (v := 3) hx hb dX9_firstRound_31 (by decide) ?_
          refine lv_aload_n hx hb dX9_firstRound_32 rfl (lv_at hl 0 rfl) ?_
          refine p_get (v := .int (K2.2.1 17 d36)) (C := RX2) (Tc := TX2) (N := 13) (ci := 2) hx hb hq pin_wsX20 hown hE hP hO (by rw [((LgK.T hlg2 d36).trans hd38)]; decide) (rep_4 ((LgK.T hlg2 d36).trans hd38)) rfl 2 (by decide) (hq _ pw_1114) (fun _ h9 => h9) rfl dX9_firstRound_33 ?_
          have hO : OKP G h0 a (upd (upd F 2 (nI sz)) 2 (nI sz)) R Z B J K2 w := hO.to rfl
          obtain ⟨qr73, hqr74⟩ := p_recv hO (by rw [((LgK.T hlg2 pq).trans hp1)]; decide) (rep_7 ((LgK.T hlg2 pq).trans hp1))
          refine pc_V0 (G := G) (As := [.int 3, .int (K2.2.1 17 d36)]) (rest := []) hx hb hml hown hq hE hX pX0_al hP hD hS hA hl.1 (N_report l G h0 a (upd F 2 (nI sz)) R Z B J K2 w pq dr ml nd nm cp it s9 3 (K2.2.1 17 d36) sz g (by omega) (LgK.wp hlg2 hwp) (LgK.ps hlg2 hps) hO) (gV pw_1096 pw_1097 pw_1098 pw_106 pw_1084) hV_X9_report qr73 6 hqr74 rfl rfl rfl (Nat.le_of_ble_eq_true rfl) dX9_firstRound_36 ⟨Nat.le_of_ble_eq_true rfl, Nat.le_of_ble_eq_true rfl⟩ ⟨Nat.le_of_ble_eq_true rfl, Nat.le_of_ble_eq_true rfl⟩ (fun v72 u70 H locs hw71 hP hD hS => ?_)
          obtain ⟨w, K75⟩ := u70
          obtain ⟨hw71, h76, h77, hO⟩ := hw71
          have h76 : LgK K2 K75 pq := h76
          have h77 : RpX 3 K75 pq := h77
          obtain rfl : v72 = none := hw71
          have hO : OKP G h0 a (upd F 2 (nI sz)) R Z B J K75 w := hO.to rfl
          refine W.widen (k := 0) (n := 0) (Nat.le_of_ble_eq_true rfl) (Nat.le_of_ble_eq_true rfl) ?_
          refine W.eq (g2 := F0 m 39 ls []) rfl ?_
          have hlg78 : LgK K K75 pq := LgK.trans hlg2 h76
          have hm79 : Cln K75 pq → Cln K2 pq := fun z => absurd z (h77 (by decide))
          refine lv_aload_n hx hb dX9_firstRound_39 rfl (lv_at hl 2 rfl) ?_
          refine lv_aload_n hx hb dX9_firstRound_40 rfl (lv_at hl 0 rfl) ?_
          have hO : OKP G h0 a (upd (upd F 2 (nI sz)) 2 (nI sz)) R Z B J K75 w := hO.to rfl
          obtain ⟨qr83, hqr84⟩ := p_recv hO (by rw [((LgK.T hlg78 pq).trans hp1)]; decide) (rep_7 ((LgK.T hlg78 pq).trans hp1))
          refine pc_V0 (G := G) (As := [.ref d36]) (rest := []) hx hb hml hown hq hE hX pX0_al hP hD hS hA hl.1 (N_judgeMembers l G h0 a (upd F 2 (nI sz)) R Z B J K75 w pq dr ml nd nm cp it s9 d36 sz g (by omega) (LgK.wp hlg78 hwp) (LgK.ps hlg78 hps) ((LgK.T hlg78 d36).trans hd38) hO) (gV pw_1116 pw_1117 pw_1118 pw_106 pw_1100) hV_X9_judgeMembers qr83 6 hqr84 rfl rfl rfl (Nat.le_of_ble_eq_true rfl) dX9_firstRound_41 ⟨Nat.le_of_ble_eq_true rfl, Nat.le_of_ble_eq_true rfl⟩ ⟨Nat.le_of_ble_eq_true rfl, Nat.le_of_ble_eq_true rfl⟩ (fun v82 u80 H locs hw81 hP hD hS => ?_)
          obtain ⟨w, K85⟩ := u80
          obtain ⟨hw81, h86, h87, hO⟩ := hw81
          have h86 : LgK K75 K85 pq := h86
          have h87 : Cln K85 pq → Cln K75 pq ∧ (OwS G K75 d36) := h87
          obtain rfl : v82 = none := hw81
          have hO : OKP G h0 a (upd F 2 (nI sz)) R Z B J K85 w := hO.to rfl
          refine W.widen (k := 0) (n := 0) (Nat.le_of_ble_eq_true rfl) (Nat.le_of_ble_eq_true rfl) ?_
          refine W.eq (g2 := F0 m 44 ls []) rfl ?_
          have hlg88 : LgK K K85 pq := LgK.trans hlg78 h86
          have hm89 : Cln K85 pq → Cln K75 pq := fun z => (h87 z).1
          refine lv_aload_n hx hb dX9_firstRound_44 rfl (lv_at hl 2 rfl) ?_
          refine lv_aload_n hx hb dX9_firstRound_45 rfl (lv_at hl 0 rfl) ?_
          have hO : OKP G h0 a (upd (upd F 2 (nI sz)) 2 (nI sz)) R Z B J K85 w := hO.to rfl
          obtain ⟨qr93, hqr94⟩ := p_recv hO (by rw [((LgK.T hlg88 pq).trans hp1)]; decide) (rep_7 ((LgK.T hlg88 pq).trans hp1))
          refine pc_V0 (G := G) (As := [.ref d36]) (rest := []) hx hb hml hown hq hE hX pX0_al hP hD hS hA hl.1 (N_judgeHead l G h0 a (upd F 2 (nI sz)) R Z B J K85 w pq dr ml nd nm cp it s9 d36 sz g (by omega) (LgK.wp hlg88 hwp) (LgK.ps hlg88 hps) ((LgK.T hlg88 d36).trans hd38) hO) (gV pw_1119 pw_1120 pw_1121 pw_106 pw_1111) hV_X9_judgeHead qr93 6 hqr94 rfl rfl rfl (Nat.le_of_ble_eq_true rfl) dX9_firstRound_46 ⟨Nat.le_of_ble_eq_true rfl, Nat.le_of_ble_eq_true rfl⟩ ⟨Nat.le_of_ble_eq_true rfl, Nat.le_of_ble_eq_true rfl⟩ (fun v92 u90 H locs hw91 hP hD hS => ?_)
          obtain ⟨w, K95⟩ := u90
          obtain ⟨hw91, h96, h97, hO⟩ := hw91
          have h96 : LgK K85 K95 pq := h96
          have h97 : Cln K95 pq → Cln K85 pq ∧ (HdK K85 dr nd ((B 9)) sz d36) := h97
          obtain rfl : v92 = none := hw91
          have hO : OKP G h0 a (upd F 2 (nI sz)) R Z B J K95 w := hO.to rfl
          refine W.widen (k := 0) (n := 0) (Nat.le_of_ble_eq_true rfl) (Nat.le_of_ble_eq_true rfl) ?_
          refine W.eq (g2 := F0 m 49 ls []) rfl ?_
          have hlg98 : LgK K K95 pq := LgK.trans hlg88 h96
          have hm99 : Cln K95 pq → Cln K85 pq := fun z => (h97 z).1
          refine lv_iinc (v := (nI (i2 + 1))) (lv' := [(1, .int (nI (i2 + 1))), (2, .ref d36), (0, .ref pq)]) hx hb dX9_firstRound_49 hl (k := 1) rfl (nI_1 i2) (by decide) rfl (fun ls hl => ?_)
          refine lv_goto (tgt := 3) hx hb dX9_firstRound_52 (by decide) ?_
          have hO : OKP G h0 a (upd F 2 (nI sz)) R Z B J K95 w := hO.to rfl
          exact ih_2 (i2 + 1) K95 _ _ _ _ (by omega) (by omega) hlg98 (fun z => absurd (hm89 (hm99 z)) (h77 (by decide))) hP hD hS hO (lv_sub hl [0, 2] rfl)
  have hO : OKP G h0 a (upd F 2 (nI sz)) R Z B J K w := hO.to rfl
  exact loop_2 (nd + 1) 7 K _ _ _ _ (by omega) (by omega) LgK.rfl (fun z => ⟨z, (fun k h1 h2 => absurd h2 (by omega))⟩) hP hD hS hO (lv_sub hl [0, 1] rfl)
