set_option maxHeartbeats 60000000 in
set_option maxRecDepth 100000 in
theorem Y_goOutward (l : Launch) (G : pT) (h0 : Nat) (a : Nat → Nat) (F : Nat → Int32) (R : Nat → Value) (Z : Int64) (B : Nat → Nat → Int32) (J : Nat → Nat → Int64) (K : PK) (w : va_W) (y : TY) (Sh : Nat → Nat) (nn : Nat → Nat) (on : Nat) (j9 : Nat) (ba : Nat) (pc : Nat) (tp : Nat) (sp : Nat) (op : Nat) (ht : Nat) (fl : Nat) (pq : Nat) (dr : Nat) (ml : Nat) (nd : Nat) (nm : Nat) (cp : Nat) (it : Nat → Nat) (s9 : Nat) (g : Nat → Nat → Nat) (rk : Nat → Nat) (cs : Nat) (rg : Nat) (m0 : Nat) (hsp : (sp = 34 ∧ op = 35) ∨ (sp = 35 ∧ op = 34)) (hmw : MWy y (B 19) Sh nn (J sp) ht (B 30) (J 29) on j9 ba pc) (hra : RaO Sh Z) (hle : LoE J sp op) (htp : tp ≤ 32000) (hmg : mG (B 30) fl on pc ≤ m0) (hrg : rg ≤ 625) (hwp : WPr G K g) (hps : PgT G K g (a 1) pq dr ml nd nm cp it s9) (hrk : RkO K rk) (hpy : PrY y K B dr nd nm it cs rg) (hcs9 : cs ≤ 10000) (hO : OKP G h0 a (upd (upd (upd (upd (upd (upd (upd (upd F 5 (nI cs)) 6 (nI rg)) 18 (nI ba)) 19 (nI tp)) 20 (nI pc)) 22 (nI on)) 23 5) 26 (nI ht)) (updR (updR (updR (updR R 5 (.ref pq)) 6 (.ref (it j9))) 7 (.ref (a sp))) 8 (.ref (a op))) Z B J K w) : PM l G pX0 yX5_goOutward cX5_goOutward 3 none ({ frames := 7, cells := 0, slots := 0, locals := 165 }) [.ref (a 5)] w (fun (v : Option Value) (u : va_W × (Nat × Int32 × Int32 × Int32 × Int64 × (Nat → Nat → Int64) × Nat × Nat × Nat)) => v = none ∧ (OuG y it (B 16) (B 19) (B 30) Sh nn u.2.2.2.2.2.2.1 sp ht fl m0 u.2.1 u.2.2.1 u.2.2.2.1 u.2.2.2.2.2.1 u.2.2.2.2.2.2.2.1 u.2.2.2.2.2.2.2.2.1 u.2.2.2.2.2.2.2.2.2) ∧ (LoE u.2.2.2.2.2.2.1 sp op) ∧ (u.2.1 ≤ 32000 ∧ u.2.2.2.2.2.2.2.1 ≤ 32000 ∧ u.2.2.2.2.2.2.2.2.1 ≤ 100) ∧ (OKP G h0 a (upd (upd (upd (upd (upd (upd (upd (upd (upd F 5 (nI cs)) 6 (nI rg)) 18 (nI u.2.2.2.2.2.2.2.1)) 19 (nI u.2.1)) 20 u.2.2.2.2.1) 21 u.2.2.2.1) 22 (nI u.2.2.2.2.2.2.2.2.1)) 23 u.2.2.1) 26 (nI ht)) (updR (updR (updR (updR R 5 (.ref pq)) 6 (.ref u.2.2.2.2.2.2.2.2.2)) 7 (.ref (a sp))) 8 (.ref (a op))) u.2.2.2.2.2.1 B u.2.2.2.2.2.2.1 K u.1)) (fun u => u.1) := by
  intro sz
  refine Met.ofW (cc := cX5_goOutward) (maxL := 3) (ret := none) (by decide) rfl ?_
  intro p e s m args below meth c s₁ B9 hml hv
  obtain ⟨rfl, hsz, hP, hD0, hE, hX⟩ := hv
  have hx := B9.exec
  have hb := B9.bytes
  have hr := B9.returns
  have hts := atoms_spec (ws := Cond.code yX5_goOutward cX5_goOutward 3 none :: pw) B9.pre
  have hq : ∀ w ∈ pw, w.before _ s = true := fun w h => hts w (List.mem_cons_of_mem _ h)
  have hown : s.vm.findClass RX5 = some m.cls := findClass_of_methodNamed B9.named
  have hlocks := B9.notSynchronized
  subst hsz
  have hD := hD0.self (sz := s.heap.size)
  have hA : ∀ q : Nat, s.heap.size ≤ q → va_A w s.heap.size q := fun q h => Or.inr h
  generalize va_A w s.heap.size = A at hD hE hA ⊢
  have hS : va_S A s.heap s.heap [] := va_S.rf
  have hl := lv_entry ([.ref (a 5)]) (n := 3) (Nat.le_of_ble_eq_true rfl)
  rw [lg_entry_eq]
  generalize (lg_sl ([.ref (a 5)]) ++ List.replicate (3 - (lg_sl ([.ref (a 5)])).length) Slot.unset).toArray = ls at hl ⊢
  have hl : lv_has ls 3 [(0, .ref (a 5))] := hl
  have hpg := hps.1
  have hp1 := hpg.1
  have hp2 := hpg.2.1
  have hp3 := hpg.2.2.1
  have hp4 := hpg.2.2.2.1
  have hp5 := hpg.2.2.2.2.1
  have hp6 := hpg.2.2.2.2.2.1
  have hp8 := hpg.2.2.2.2.2.2.2.1
  have hp9 := hpg.2.2.2.2.2.2.2.2
  have h29 : ¬ sp = 29 ∧ ¬ op = 29 := by omega
  have hnmE := hpy.1.1
  have hht := hmw.1.2.2.2
  have hh9 := hht.1
  obtain ⟨p9, d9, hp9, hq9, hS9, hd9⟩ := hra
  obtain ⟨n9, hh19, hh29, hh39, hh49, hh59, hh69, hh79⟩ := HT.hd hht hS9
  have hX9 := hmw.2.1.2 p9 d9 hS9 hd9
  have hbb := hmw.1.1
  refine lv_iconst (v := 0) hx hb dX5_goOutward_0 (by decide) ?_
  refine lv_istore_n (lv' := [(1, .int 0), (0, .ref (a 5))]) hx hb dX5_goOutward_1 rfl hl (by decide) rfl (fun ls hl => ?_)
  have loop_o : ∀ (n_o : Nat) (i2 : Nat) (on2 : Nat) (ba2 : Nat) (tp2 : Nat) (p2 : Nat) (j2 : Nat) (H : Heap) (locs : List Loc) (ls : Array Slot) (w : va_W), i2 ≤ 100 → 100 + 1 ≤ i2 + n_o → (on2 + i2 = on ∧ 1 ≤ on2 ∧ on2 ≤ 100 ∧ ba2 ≤ 32000 ∧ tp2 ≤ 32000) → (MWy y (B 19) Sh nn (J sp) ht (B 30) (J 29) on2 j2 ba2 p2) → (mG (B 30) fl on2 p2 ≤ m0) → va_P G.1 pCl w H → va_D A w → va_S A s.heap H locs → OKP G h0 a (upd (upd (upd (upd (upd (upd (upd (upd F 5 (nI cs)) 6 (nI rg)) 18 (nI ba2)) 19 (nI tp2)) 20 (nI p2)) 22 (nI on2)) 23 5) 26 (nI ht)) (updR (updR (updR (updR R 5 (.ref pq)) 6 (.ref (it j2))) 7 (.ref (a sp))) 8 (.ref (a op))) Z B J K w → lv_has ls 3 [(1, .int (nI i2)), (0, .ref (a 5))] → W p l e (headSpec (Cond.code yX5_goOutward cX5_goOutward 3 none :: pw) ({ frames := 7, cells := 0, slots := 0, locals := 165 } : Room)).room s m ([.ref (a 5)] : List Value).toArray below meth c H locs 0 0 (MQ below (pQ G A (fun (v : Option Value) (u : va_W × (Nat × Int32 × Int32 × Int32 × Int64 × (Nat → Nat → Int64) × Nat × Nat × Nat)) => v = none ∧ (OuG y it (B 16) (B 19) (B 30) Sh nn u.2.2.2.2.2.2.1 sp ht fl m0 u.2.1 u.2.2.1 u.2.2.2.1 u.2.2.2.2.2.1 u.2.2.2.2.2.2.2.1 u.2.2.2.2.2.2.2.2.1 u.2.2.2.2.2.2.2.2.2) ∧ (LoE u.2.2.2.2.2.2.1 sp op) ∧ (u.2.1 ≤ 32000 ∧ u.2.2.2.2.2.2.2.1 ≤ 32000 ∧ u.2.2.2.2.2.2.2.2.1 ≤ 100) ∧ (OKP G h0 a (upd (upd (upd (upd (upd (upd (upd (upd (upd F 5 (nI cs)) 6 (nI rg)) 18 (nI u.2.2.2.2.2.2.2.1)) 19 (nI u.2.1)) 20 u.2.2.2.2.1) 21 u.2.2.2.1) 22 (nI u.2.2.2.2.2.2.2.2.1)) 23 u.2.2.1) 26 (nI ht)) (updR (updR (updR (updR R 5 (.ref pq)) 6 (.ref u.2.2.2.2.2.2.2.2.2)) 7 (.ref (a sp))) 8 (.ref (a op))) u.2.2.2.2.2.1 B u.2.2.2.2.2.2.1 K u.1)) (fun u => u.1)) ([.ref (a 5)] : List Value).toArray s ({ frames := 7, cells := 0, slots := 0, locals := 165 } : Room).cells ({ frames := 7, cells := 0, slots := 0, locals := 165 } : Room).slots A) (F0 m 2 ls []) := by
    intro n_o
    induction n_o with
    | zero => intro i2 on2 ba2 tp2 p2 j2 H locs ls w hk_o hn_o; omega
    | succ n_o ih_o =>
      intro i2 on2 ba2 tp2 p2 j2 H locs ls w hk_o hn_o hb2 hmw2 hmg2 hP hD hS hO hl
      obtain ⟨hc1, hc2, hc3, hc4, hc5, hc6⟩ := hmw2.1.1
      have hmj := hpy.2.1 j2 (by omega)
      have hbj : yhi y j2 ≤ 10000 := hmj.1.2.1.2
      have hc5y : p2 < yhi y j2 := hc5
      have hrj := hmj.2.2.2.2.2.2.2.2.1
      have hsj : ysl y j2 ≤ 319 := by have z9 := (hmj.1.2.2.2.1 p2 hc4 hc5 hmw2.1.2.1.1.1).2.2.1; have e9 : ysl y j2 = (yM y).2.1 j2 := rfl; omega
      refine lv_iload_n hx hb dX5_goOutward_2 rfl (lv_at hl 0 rfl) ?_
      refine lv_bipush (v := 100) hx hb dX5_goOutward_3 (by decide) ?_
      refine lv_icmp_ge (tgt := 77) hx hb dX5_goOutward_5 (by decide) (fun c1 => (by have n2 : 100 ≤ i2 := (nI_leI (a := 100) (b := i2) (by omega) (by omega)).mp c1; omega)) (fun c1 => ?_)
      refine lv_aload_n hx hb dX5_goOutward_8 rfl (lv_at hl 1 rfl) ?_
      refine c_get (v := .ref (it j2)) (C := RX5) (Tc := TX5) (N := 19) (ci := 4) hx hb hq pin_wsX50 hown hE hP hO 28 (sg_28 G h0 a _ _ _ _ _) rfl 9 (by decide) (hq _ pw_503) (fun _ h9 => h9) rfl dX5_goOutward_9 ?_
      refine lv_ifnull hx hb dX5_goOutward_12 ?_
      refine lv_aload_n hx hb dX5_goOutward_15 rfl (lv_at hl 1 rfl) ?_
      refine lv_aload_n hx hb dX5_goOutward_16 rfl (lv_at hl 1 rfl) ?_
      refine c_get (v := .ref (a 28)) (C := RX5) (Tc := TX5) (N := 19) (ci := 4) hx hb hq pin_wsX50 hown hE hP hO 28 (sg_28 G h0 a _ _ _ _ _) rfl 1 (by decide) (hq _ pw_473) (fun _ h9 => h9) rfl dX5_goOutward_17 ?_
      refine lv_aload_n hx hb dX5_goOutward_20 rfl (lv_at hl 1 rfl) ?_
      refine c_get (v := .long Z) (C := RX5) (Tc := TX5) (N := 19) (ci := 4) hx hb hq pin_wsX50 hown hE hP hO 28 (sg_28 G h0 a _ _ _ _ _) rfl 14 (by decide) (hq _ pw_485) (fun _ h9 => h9) rfl dX5_goOutward_21 ?_
      rw [show Z = rfV p9 from hq9]
      have hO : OKW G h0 a (upd (upd (upd (upd (upd (upd (upd (upd (upd F 5 (nI cs)) 6 (nI rg)) 18 (nI ba2)) 19 (nI tp2)) 20 (nI p2)) 22 (nI on2)) 23 5) 26 (nI ht)) 26 (nI ht)) (updR (updR (updR (updR (updR (updR R 5 (.ref pq)) 6 (.ref (it j2))) 7 (.ref (a sp))) 8 (.ref (a op))) 7 (.ref (a sp))) 8 (.ref (a op))) Z B J K.1 (fun q99 x99 => x99 = rep G a K q99) w := hO.to rfl
      obtain ⟨_, qr6, hqr7⟩ := hO.2.1 29 _ (sg_29 G h0 a _ _ _ _ _)
      refine pc_V0 (G := G) (As := [.long (rfV p9)]) (rest := [.ref (a 5)]) hx hb hml hown hq hE hX pX0_al hP hD hS hA hl.1 (Y_typeOf l G h0 a (upd (upd (upd (upd (upd (upd (upd (upd F 5 (nI cs)) 6 (nI rg)) 18 (nI ba2)) 19 (nI tp2)) 20 (nI p2)) 22 (nI on2)) 23 5) 26 (nI ht)) (updR (updR (updR (updR R 5 (.ref pq)) 6 (.ref (it j2))) 7 (.ref (a sp))) 8 (.ref (a op))) Z B J K.1 (fun q99 x99 => x99 = rep G a K q99) w p9 n9 d9 sp op ht hsp (by omega) (by omega) hh59 hO) (gV pw_489 pw_490 pw_491 pw_440 pw_441) hV_X3_typeOf qr6 3 hqr7 rfl rfl rfl (Nat.le_of_ble_eq_true rfl) dX5_goOutward_24 ⟨Nat.le_of_ble_eq_true rfl, Nat.le_of_ble_eq_true rfl⟩ ⟨Nat.le_of_ble_eq_true rfl, Nat.le_of_ble_eq_true rfl⟩ (fun v5 u3 H locs hw4 hP hD hS => ?_)
      obtain ⟨w, _⟩ := u3
      obtain ⟨hw4, hO⟩ := hw4
      obtain rfl : v5 = some (.int (nI d9)) := hw4
      have hO : OKP G h0 a (upd (upd (upd (upd (upd (upd (upd (upd F 5 (nI cs)) 6 (nI rg)) 18 (nI ba2)) 19 (nI tp2)) 20 (nI p2)) 22 (nI on2)) 23 5) 26 (nI ht)) (updR (updR (updR (updR R 5 (.ref pq)) 6 (.ref (it j2))) 7 (.ref (a sp))) 8 (.ref (a op))) Z B J K w := hO.to rfl
      refine W.widen (k := 0) (n := 0) (Nat.le_of_ble_eq_true rfl) (Nat.le_of_ble_eq_true rfl) ?_
      refine W.eq (g2 := F0 m 27 ls [.int (nI d9), .ref (a 5)]) rfl ?_
      have hO : OKP G h0 a (upd (upd (upd (upd (upd (upd (upd (upd (upd (upd (upd F 5 (nI cs)) 6 (nI rg)) 18 (nI ba2)) 19 (nI tp2)) 20 (nI p2)) 22 (nI on2)) 23 5) 26 (nI ht)) 5 (nI cs)) 6 (nI rg)) 20 (nI p2)) (updR (updR (updR (updR (updR (updR R 5 (.ref pq)) 6 (.ref (it j2))) 7 (.ref (a sp))) 8 (.ref (a op))) 5 (.ref pq)) 6 (.ref (it j2))) Z B J K w := hO.to rfl
      obtain ⟨_, qr11, hqr12⟩ := hO.2.1 28 _ (sg_28 G h0 a _ _ _ _ _)
      refine pc_V0 (G := G) (As := [.int (nI d9)]) (rest := []) hx hb hml hown hq hE hX pX0_al hP hD hS hA hl.1 (Y_handlerOf l G h0 a (upd (upd (upd (upd (upd (upd (upd (upd F 5 (nI cs)) 6 (nI rg)) 18 (nI ba2)) 19 (nI tp2)) 20 (nI p2)) 22 (nI on2)) 23 5) 26 (nI ht)) (updR (updR (updR (updR R 5 (.ref pq)) 6 (.ref (it j2))) 7 (.ref (a sp))) 8 (.ref (a op))) Z B J K w y j2 p2 d9 pq dr ml nd nm cp it s9 g rk cs rg hwp hps hrk hpy (by omega) (by omega) hO) (gV pw_728 pw_729 pw_730 pw_539 pw_727) hV_X5_handlerOf qr11 4 hqr12 rfl rfl rfl (Nat.le_of_ble_eq_true rfl) dX5_goOutward_27 ⟨Nat.le_of_ble_eq_true rfl, Nat.le_of_ble_eq_true rfl⟩ ⟨Nat.le_of_ble_eq_true rfl, Nat.le_of_ble_eq_true rfl⟩ (fun v10 u8 H locs hw9 hP hD hS => ?_)
      obtain ⟨w, r13⟩ := u8
      obtain ⟨hw9, h14, hO⟩ := hw9
      have h14 : HoQ y K dr nd j2 p2 d9 r13 := h14
      obtain rfl : v10 = some (.int r13) := hw9
      have hO : OKP G h0 a (upd (upd (upd (upd (upd (upd (upd (upd F 5 (nI cs)) 6 (nI rg)) 18 (nI ba2)) 19 (nI tp2)) 20 (nI p2)) 22 (nI on2)) 23 5) 26 (nI ht)) (updR (updR (updR (updR R 5 (.ref pq)) 6 (.ref (it j2))) 7 (.ref (a sp))) 8 (.ref (a op))) Z B J K w := hO.to rfl
      refine W.widen (k := 0) (n := 0) (Nat.le_of_ble_eq_true rfl) (Nat.le_of_ble_eq_true rfl) ?_
      refine W.eq (g2 := F0 m 30 ls [.int r13]) rfl ?_
      rcases h14 with hho | hho
      · skip
        rw [show r13 = (-1) from hho]
        refine lv_istore_n (lv' := [(2, .int (-1)), (1, .int (nI i2)), (0, .ref (a 5))]) hx hb dX5_goOutward_30 rfl hl (by decide) rfl (fun ls hl => ?_)
        refine lv_iload_n hx hb dX5_goOutward_31 rfl (lv_at hl 0 rfl) ?_
        refine lv_iconst (v := (-1)) hx hb dX5_goOutward_32 (by decide) ?_
        refine lv_icmp_eq (tgt := 53) hx hb dX5_goOutward_33 (by decide) (fun c15 => ?_) (fun c15 => absurd c15 (by decide))
        refine lv_aload_n hx hb dX5_goOutward_53 rfl (lv_at hl 2 rfl) ?_
        refine c_get (v := .int (nI on2)) (C := RX5) (Tc := TX5) (N := 19) (ci := 4) hx hb hq pin_wsX50 hown hE hP hO 28 (sg_28 G h0 a _ _ _ _ _) rfl 15 (by decide) (hq _ pw_502) (fun _ h9 => h9) rfl dX5_goOutward_54 ?_
        refine lv_iconst (v := 1) hx hb dX5_goOutward_57 (by decide) ?_
        refine lv_icmp_gt (tgt := 67) hx hb dX5_goOutward_58 (by decide) (fun c16 => ?_) (fun c16 => ?_)
        · have n17 : 1 < on2 := (nI_ltI (a := 1) (b := on2) (by omega) (by omega)).mp c16
          obtain ⟨n8, hn8⟩ : ∃ n8, on2 = n8 + 2 := ⟨on2 - 2, by omega⟩
          obtain ⟨i8, p8, b8, hg1, hg2, hg3, hg4, hg5, hg6, hg7⟩ := MWy.out (hn8 ▸ hmw2)
          have hg10 : yhi y i8 ≤ 10000 := (hpy.2.1 i8 (by omega)).1.2.1.2
          refine lv_aload_n hx hb dX5_goOutward_67 rfl (lv_at hl 2 rfl) ?_
          have hO : OKP G h0 a (upd (upd (upd (upd (upd (upd (upd (upd (upd (upd F 5 (nI cs)) 6 (nI rg)) 18 (nI ba2)) 19 (nI tp2)) 20 (nI p2)) 22 (nI on2)) 23 5) 26 (nI ht)) 18 (nI ba2)) 22 (nI on2)) (updR (updR (updR (updR (updR R 5 (.ref pq)) 6 (.ref (it j2))) 7 (.ref (a sp))) 8 (.ref (a op))) 5 (.ref pq)) Z B J K w := hO.to rfl
          obtain ⟨_, qr21, hqr22⟩ := hO.2.1 28 _ (sg_28 G h0 a _ _ _ _ _)
          refine pc_V0 (G := G) (As := []) (rest := []) hx hb hml hown hq hE hX pX0_al hP hD hS hA hl.1 (Y_close l G h0 a (upd (upd (upd (upd (upd (upd (upd (upd F 5 (nI cs)) 6 (nI rg)) 18 (nI ba2)) 19 (nI tp2)) 20 (nI p2)) 22 (nI on2)) 23 5) 26 (nI ht)) (updR (updR (updR (updR R 5 (.ref pq)) 6 (.ref (it j2))) 7 (.ref (a sp))) 8 (.ref (a op))) Z B J K w on2 ba2 p8 b8 i8 pq dr ml nd nm cp it s9 g rk cs rg hwp hps (by omega) (by rw [show on2 - 1 = n8 + 1 by omega]; exact hg1) (by rw [show on2 - 1 = n8 + 1 by omega]; exact hg2) (by rw [show on2 - 1 = n8 + 1 by omega]; exact hg3) (by omega) hO) (gV pw_703 pw_704 pw_705 pw_539 pw_701) hV_X5_close qr21 4 hqr22 rfl rfl rfl (Nat.le_of_ble_eq_true rfl) dX5_goOutward_68 ⟨Nat.le_of_ble_eq_true rfl, Nat.le_of_ble_eq_true rfl⟩ ⟨Nat.le_of_ble_eq_true rfl, Nat.le_of_ble_eq_true rfl⟩ (fun v20 u18 H locs hw19 hP hD hS => ?_)
          obtain ⟨w, _⟩ := u18
          obtain ⟨hw19, hO⟩ := hw19
          obtain rfl : v20 = none := hw19
          have hO : OKP G h0 a (upd (upd (upd (upd (upd (upd (upd (upd F 5 (nI cs)) 6 (nI rg)) 18 (nI b8)) 19 (nI ba2)) 20 (nI p8)) 22 (nI (on2 - 1))) 23 5) 26 (nI ht)) (updR (updR (updR (updR R 5 (.ref pq)) 6 (.ref (it i8))) 7 (.ref (a sp))) 8 (.ref (a op))) Z B J K w := hO.to rfl
          refine W.widen (k := 0) (n := 0) (Nat.le_of_ble_eq_true rfl) (Nat.le_of_ble_eq_true rfl) ?_
          refine W.eq (g2 := F0 m 71 ls []) rfl ?_
          refine lv_iinc (v := (nI (i2 + 1))) (lv' := [(1, .int (nI (i2 + 1))), (2, .int (-1)), (0, .ref (a 5))]) hx hb dX5_goOutward_71 hl (k := 1) rfl (nI_1 i2) (by decide) rfl (fun ls hl => ?_)
          refine lv_goto (tgt := 2) hx hb dX5_goOutward_74 (by decide) ?_
          have hO : OKP G h0 a (upd (upd (upd (upd (upd (upd (upd (upd F 5 (nI cs)) 6 (nI rg)) 18 (nI b8)) 19 (nI ba2)) 20 (nI p8)) 22 (nI (on2 - 1))) 23 5) 26 (nI ht)) (updR (updR (updR (updR R 5 (.ref pq)) 6 (.ref (it i8))) 7 (.ref (a sp))) 8 (.ref (a op))) Z B J K w := hO.to rfl
          exact ih_o (i2 + 1) (on2 - 1) b8 ba2 p8 i8 _ _ _ _ (by omega) (by omega) (by omega) (by rw [show on2 - 1 = n8 + 1 by omega]; exact hg7) (by rw [show on2 - 1 = n8 + 1 by omega]; rw [hn8] at hmg2; exact Nat.le_trans (mG_out hg1 (by omega)) hmg2) hP hD hS hO (lv_sub hl [0, 2] rfl)
        · have n23 : ¬ (1 < on2) := fun h9 => c16 ((nI_ltI (a := 1) (b := on2) (by omega) (by omega)).mpr h9)
          refine lv_aload_n hx hb dX5_goOutward_61 rfl (lv_at hl 2 rfl) ?_
          refine lv_iconst (v := 1) hx hb dX5_goOutward_62 (by decide) ?_
          refine c_put (v := .int 1) (ty := .int) (C := RX5) (Tc := TX5) (N := 19) (ci := 4) hx hb hq pin_wsX50 tyX5 tyX5_ok nmX5 hown hE hP hD hS hO 28 (sg_28 G h0 a _ _ _ _ _) rfl 16 (by decide) (hq _ pw_513) (fun _ h9 => h9) rfl (by decide +kernel) rfl rfl (Nat.le_of_ble_eq_true rfl) (sf_23 G h0 a _ _ _ _ _ 1) dX5_goOutward_63 (fun H locs w hP hD hS hO => ?_)
          have hz24 : OuG y it (B 16) (B 19) (B 30) Sh nn J sp ht fl m0 tp2 (1 : Int32) (F 21) Z ba2 on2 (it j2) := (Or.inl rfl)
          have hz25 : LoE J sp op := hle
          have hz26 : tp2 ≤ 32000 ∧ ba2 ≤ 32000 ∧ on2 ≤ 100 := (by omega)
          have hO : OKP G h0 a (upd (upd (upd (upd (upd (upd (upd (upd (upd F 5 (nI cs)) 6 (nI rg)) 18 (nI ba2)) 19 (nI tp2)) 20 (nI p2)) 21 (F 21)) 22 (nI on2)) 23 (1 : Int32)) 26 (nI ht)) (updR (updR (updR (updR R 5 (.ref pq)) 6 (.ref (it j2))) 7 (.ref (a sp))) 8 (.ref (a op))) Z B J K w := hO.to rfl
          exact W.vret hx hb hr (fun t99 ht99 hW99 => ⟨⟨_, (w, (tp2, (1 : Int32), (F 21), (nI p2), Z, J, ba2, on2, (it j2))), rfl, ⟨rfl, hz24, hz25, hz26, hO⟩, by rw [ht99]; exact hP, hD⟩, hS.F ht99⟩) hS.2.2 dX5_goOutward_66
      · skip
        obtain ⟨k7, hk7, hho, hk8, hin, hcc⟩ := hho
        rw [show r13 = nI k7 from hho]
        refine lv_istore_n (lv' := [(2, .int (nI k7)), (1, .int (nI i2)), (0, .ref (a 5))]) hx hb dX5_goOutward_30 rfl hl (by decide) rfl (fun ls hl => ?_)
        refine lv_iload_n hx hb dX5_goOutward_31 rfl (lv_at hl 0 rfl) ?_
        refine lv_iconst (v := (-1)) hx hb dX5_goOutward_32 (by decide) ?_
        refine lv_icmp_eq (tgt := 53) hx hb dX5_goOutward_33 (by decide) (fun c27 => ((nI_ne k7 (by omega)).2.1 c27).elim) (fun c27 => ?_)
        refine lv_aload_n hx hb dX5_goOutward_36 rfl (lv_at hl 2 rfl) ?_
        refine lv_iload_n hx hb dX5_goOutward_37 rfl (lv_at hl 0 rfl) ?_
        refine lv_bipush (v := (-2)) hx hb dX5_goOutward_38 (by decide) ?_
        refine lv_aload_n hx hb dX5_goOutward_40 rfl (lv_at hl 2 rfl) ?_
        refine c_get (v := .long Z) (C := RX5) (Tc := TX5) (N := 19) (ci := 4) hx hb hq pin_wsX50 hown hE hP hO 28 (sg_28 G h0 a _ _ _ _ _) rfl 14 (by decide) (hq _ pw_485) (fun _ h9 => h9) rfl dX5_goOutward_41 ?_
        have hsw := MWy.slot hmw2 hmj.1 hk8 hin
        rcases hcc with hcl | ⟨c7, hc7, hcl, hft⟩
        · have hnd9 := hpy.1.2.2.2.2
          have hsw2 := hsw.2.1 hcl
          have hO : OKP G h0 a (upd (upd (upd (upd (upd (upd (upd (upd (upd (upd F 5 (nI cs)) 6 (nI rg)) 18 (nI ba2)) 19 (nI tp2)) 20 (nI p2)) 22 (nI on2)) 23 5) 26 (nI ht)) 6 (nI rg)) 18 (nI ba2)) (updR (updR (updR (updR (updR (updR R 5 (.ref pq)) 6 (.ref (it j2))) 7 (.ref (a sp))) 8 (.ref (a op))) 5 (.ref pq)) 6 (.ref (it j2))) Z B J K w := hO.to rfl
          obtain ⟨_, qr31, hqr32⟩ := hO.2.1 28 _ (sg_28 G h0 a _ _ _ _ _)
          refine pc_V0 (G := G) (As := [.int (nI k7), .int (-2), .long Z]) (rest := []) hx hb hml hown hq hE hX pX0_al hP hD hS hA hl.1 (Y_landL l G h0 a (upd (upd (upd (upd (upd (upd (upd (upd F 5 (nI cs)) 6 (nI rg)) 18 (nI ba2)) 19 (nI tp2)) 20 (nI p2)) 22 (nI on2)) 23 5) 26 (nI ht)) (updR (updR (updR (updR R 5 (.ref pq)) 6 (.ref (it j2))) 7 (.ref (a sp))) 8 (.ref (a op))) Z B J K w y j2 ba2 k7 0 (-2) Z pq dr ml nd nm cp it s9 g rk cs rg hwp hps hrk hpy (by omega) (by omega) (by omega) hcl (by omega) hsj hO) (gV pw_712 pw_713 pw_714 pw_539 pw_700) hV_X5_land qr31 4 hqr32 rfl rfl rfl (Nat.le_of_ble_eq_true rfl) dX5_goOutward_44 ⟨Nat.le_of_ble_eq_true rfl, Nat.le_of_ble_eq_true rfl⟩ ⟨Nat.le_of_ble_eq_true rfl, Nat.le_of_ble_eq_true rfl⟩ (fun v30 u28 H locs hw29 hP hD hS => ?_)
          obtain ⟨w, _⟩ := u28
          obtain ⟨hw29, hO⟩ := hw29
          obtain rfl : v30 = none := hw29
          have hO : OKP G h0 a (upd (upd (upd (upd (upd (upd (upd (upd (upd F 5 (nI cs)) 6 (nI rg)) 18 (nI ba2)) 19 (nI (ba2 + ysl y j2))) 20 (nI p2)) 21 (nI ((yQ y).2.2.1 k7))) 22 (nI on2)) 23 5) 26 (nI ht)) (updR (updR (updR (updR R 5 (.ref pq)) 6 (.ref (it j2))) 7 (.ref (a sp))) 8 (.ref (a op))) Z B (updJ J 29 (vp_updL (vp_updL ((J 29)) (ba2 + ((yQ y).2.2.2.1 k7)) (nmV (-2))) (ba2 + (((yQ y).2.2.2.1 k7) + 1)) Z)) K w := hO.to rfl
          refine W.widen (k := 0) (n := 0) (Nat.le_of_ble_eq_true rfl) (Nat.le_of_ble_eq_true rfl) ?_
          refine W.eq (g2 := F0 m 47 ls []) rfl ?_
          refine lv_aload_n hx hb dX5_goOutward_47 rfl (lv_at hl 2 rfl) ?_
          refine lv_lconst (v := 0) hx hb dX5_goOutward_48 (by decide) ?_
          refine c_put (v := .long 0) (ty := .long) (C := RX5) (Tc := TX5) (N := 19) (ci := 4) hx hb hq pin_wsX50 tyX5 tyX5_ok nmX5 hown hE hP hD hS hO 28 (sg_28 G h0 a _ _ _ _ _) rfl 14 (by decide) (hq _ pw_485) (fun _ h9 => h9) rfl (by decide +kernel) rfl rfl (Nat.le_of_ble_eq_true rfl) (sz G h0 a _ _ _ _ _ 0) dX5_goOutward_49 (fun H locs w hP hD hS hO => ?_)
          have hz33 : OuG y it (B 16) (B 19) (B 30) Sh nn (updJ J 29 (vp_updL (vp_updL ((J 29)) (ba2 + ((yQ y).2.2.2.1 k7)) (nmV (-2))) (ba2 + (((yQ y).2.2.2.1 k7) + 1)) Z)) sp ht fl m0 (ba2 + ysl y j2) (5 : Int32) (nI ((yQ y).2.2.1 k7)) (0 : Int64) ba2 on2 (it j2) := (OuG.last hmw2 hmj.1 hk8 hin hcl ⟨p9, d9, hp9, hq9, hS9, hd9⟩ h29.1 hmg2)
          have hz34 : LoE (updJ J 29 (vp_updL (vp_updL ((J 29)) (ba2 + ((yQ y).2.2.2.1 k7)) (nmV (-2))) (ba2 + (((yQ y).2.2.2.1 k7) + 1)) Z)) sp op := (LoE.up hle h29.1 h29.2)
          have hz35 : (ba2 + ysl y j2) ≤ 32000 ∧ ba2 ≤ 32000 ∧ on2 ≤ 100 := (by omega)
          have hO : OKP G h0 a (upd (upd (upd (upd (upd (upd (upd (upd (upd F 5 (nI cs)) 6 (nI rg)) 18 (nI ba2)) 19 (nI (ba2 + ysl y j2))) 20 (nI p2)) 21 (nI ((yQ y).2.2.1 k7))) 22 (nI on2)) 23 (5 : Int32)) 26 (nI ht)) (updR (updR (updR (updR R 5 (.ref pq)) 6 (.ref (it j2))) 7 (.ref (a sp))) 8 (.ref (a op))) (0 : Int64) B (updJ J 29 (vp_updL (vp_updL ((J 29)) (ba2 + ((yQ y).2.2.2.1 k7)) (nmV (-2))) (ba2 + (((yQ y).2.2.2.1 k7) + 1)) Z)) K w := hO.to rfl
          exact W.vret hx hb hr (fun t99 ht99 hW99 => ⟨⟨_, (w, ((ba2 + ysl y j2), (5 : Int32), (nI ((yQ y).2.2.1 k7)), (nI p2), (0 : Int64), (updJ J 29 (vp_updL (vp_updL ((J 29)) (ba2 + ((yQ y).2.2.2.1 k7)) (nmV (-2))) (ba2 + (((yQ y).2.2.2.1 k7) + 1)) Z)), ba2, on2, (it j2))), rfl, ⟨rfl, hz33, hz34, hz35, hO⟩, by rw [ht99]; exact hP, hD⟩, hS.F ht99⟩) hS.2.2 dX5_goOutward_52
        · have hnd9 := hpy.1.2.2.2.2
          have hO : OKP G h0 a (upd (upd (upd (upd (upd (upd (upd (upd (upd (upd F 5 (nI cs)) 6 (nI rg)) 18 (nI ba2)) 19 (nI tp2)) 20 (nI p2)) 22 (nI on2)) 23 5) 26 (nI ht)) 6 (nI rg)) 18 (nI ba2)) (updR (updR (updR (updR (updR (updR R 5 (.ref pq)) 6 (.ref (it j2))) 7 (.ref (a sp))) 8 (.ref (a op))) 5 (.ref pq)) 6 (.ref (it j2))) Z B J K w := hO.to rfl
          obtain ⟨_, qr39, hqr40⟩ := hO.2.1 28 _ (sg_28 G h0 a _ _ _ _ _)
          refine pc_V0 (G := G) (As := [.int (nI k7), .int (-2), .long Z]) (rest := []) hx hb hml hown hq hE hX pX0_al hP hD hS hA hl.1 (Y_landC l G h0 a (upd (upd (upd (upd (upd (upd (upd (upd F 5 (nI cs)) 6 (nI rg)) 18 (nI ba2)) 19 (nI tp2)) 20 (nI p2)) 22 (nI on2)) 23 5) 26 (nI ht)) (updR (updR (updR (updR R 5 (.ref pq)) 6 (.ref (it j2))) 7 (.ref (a sp))) 8 (.ref (a op))) Z B J K w y j2 ba2 k7 c7 (-2) Z pq dr ml nd nm cp it s9 g rk cs rg hwp hps hrk hpy (by omega) (by omega) (by omega) hcl (by omega) hsj hO) (gV pw_712 pw_713 pw_714 pw_539 pw_700) hV_X5_land qr39 4 hqr40 rfl rfl rfl (Nat.le_of_ble_eq_true rfl) dX5_goOutward_44 ⟨Nat.le_of_ble_eq_true rfl, Nat.le_of_ble_eq_true rfl⟩ ⟨Nat.le_of_ble_eq_true rfl, Nat.le_of_ble_eq_true rfl⟩ (fun v38 u36 H locs hw37 hP hD hS => ?_)
          obtain ⟨w, _⟩ := u36
          obtain ⟨hw37, hO⟩ := hw37
          obtain rfl : v38 = none := hw37
          have hO : OKP G h0 a (upd (upd (upd (upd (upd (upd (upd (upd (upd F 5 (nI cs)) 6 (nI rg)) 18 (nI ba2)) 19 (nI (ba2 + ysl y j2))) 20 (nI p2)) 21 (nI ((yQ y).2.2.1 k7))) 22 (nI on2)) 23 5) 26 (nI ht)) (updR (updR (updR (updR R 5 (.ref pq)) 6 (.ref (it j2))) 7 (.ref (a sp))) 8 (.ref (a op))) Z B (updJ J 29 (vp_updL ((J 29)) (ba2 + ((yQ y).2.2.2.1 k7)) Z)) K w := hO.to rfl
          refine W.widen (k := 0) (n := 0) (Nat.le_of_ble_eq_true rfl) (Nat.le_of_ble_eq_true rfl) ?_
          refine W.eq (g2 := F0 m 47 ls []) rfl ?_
          refine lv_aload_n hx hb dX5_goOutward_47 rfl (lv_at hl 2 rfl) ?_
          refine lv_lconst (v := 0) hx hb dX5_goOutward_48 (by decide) ?_
          refine c_put (v := .long 0) (ty := .long) (C := RX5) (Tc := TX5) (N := 19) (ci := 4) hx hb hq pin_wsX50 tyX5 tyX5_ok nmX5 hown hE hP hD hS hO 28 (sg_28 G h0 a _ _ _ _ _) rfl 14 (by decide) (hq _ pw_485) (fun _ h9 => h9) rfl (by decide +kernel) rfl rfl (Nat.le_of_ble_eq_true rfl) (sz G h0 a _ _ _ _ _ 0) dX5_goOutward_49 (fun H locs w hP hD hS hO => ?_)
          have hz41 : OuG y it (B 16) (B 19) (B 30) Sh nn (updJ J 29 (vp_updL ((J 29)) (ba2 + ((yQ y).2.2.2.1 k7)) Z)) sp ht fl m0 (ba2 + ysl y j2) (5 : Int32) (nI ((yQ y).2.2.1 k7)) (0 : Int64) ba2 on2 (it j2) := (OuG.catch hmw2 hmj.1 hk8 hin (by omega) hcl (Or.inr (Or.inr (Or.inr (Or.inr ⟨Or.inl (by omega), Or.inr ⟨p9, d9, hp9, hq9, hS9, PrY.fitX hpy hX9 hft⟩⟩)))) h29.1 hmg2)
          have hz42 : LoE (updJ J 29 (vp_updL ((J 29)) (ba2 + ((yQ y).2.2.2.1 k7)) Z)) sp op := (LoE.up hle h29.1 h29.2)
          have hz43 : (ba2 + ysl y j2) ≤ 32000 ∧ ba2 ≤ 32000 ∧ on2 ≤ 100 := (by omega)
          have hO : OKP G h0 a (upd (upd (upd (upd (upd (upd (upd (upd (upd F 5 (nI cs)) 6 (nI rg)) 18 (nI ba2)) 19 (nI (ba2 + ysl y j2))) 20 (nI p2)) 21 (nI ((yQ y).2.2.1 k7))) 22 (nI on2)) 23 (5 : Int32)) 26 (nI ht)) (updR (updR (updR (updR R 5 (.ref pq)) 6 (.ref (it j2))) 7 (.ref (a sp))) 8 (.ref (a op))) (0 : Int64) B (updJ J 29 (vp_updL ((J 29)) (ba2 + ((yQ y).2.2.2.1 k7)) Z)) K w := hO.to rfl
          exact W.vret hx hb hr (fun t99 ht99 hW99 => ⟨⟨_, (w, ((ba2 + ysl y j2), (5 : Int32), (nI ((yQ y).2.2.1 k7)), (nI p2), (0 : Int64), (updJ J 29 (vp_updL ((J 29)) (ba2 + ((yQ y).2.2.2.1 k7)) Z)), ba2, on2, (it j2))), rfl, ⟨rfl, hz41, hz42, hz43, hO⟩, by rw [ht99]; exact hP, hD⟩, hS.F ht99⟩) hS.2.2 dX5_goOutward_52
  have hO : OKP G h0 a (upd (upd (upd (upd (upd (upd (upd (upd F 5 (nI cs)) 6 (nI rg)) 18 (nI ba)) 19 (nI tp)) 20 (nI pc)) 22 (nI on)) 23 5) 26 (nI ht)) (updR (updR (updR (updR R 5 (.ref pq)) 6 (.ref (it j9))) 7 (.ref (a sp))) 8 (.ref (a op))) Z B J K w := hO.to rfl
  exact loop_o (100 + 1) 0 on ba tp pc j9 _ _ _ _ (by omega) (by omega) (by omega) hmw hmg hP hD hS hO (lv_sub hl [0, 1] rfl)
