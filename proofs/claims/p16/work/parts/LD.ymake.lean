theorem LoE.mk {J J1 : Nat → Nat → Int64} {s o h : Nat} {g : Nat → Int64} (hl : LoE J s o) (h1 : ∀ i : Nat, i < h → J1 s i = J s i) (h2 : J1 o = J o) (h29 : True) (hs : ¬ s = 29 ∧ ¬ o = 29) (hh : 8 ≤ h) : LoE (updJ J1 29 g) s o := fun p hp9 => by
  rw [updJ_ne hs.1, updJ_ne hs.2, h2, h1 p (by omega)]
  exact hl p hp9
set_option maxHeartbeats 60000000 in
set_option maxRecDepth 100000 in
theorem Y_make (l : Launch) (G : pT) (h0 : Nat) (a : Nat → Nat) (F : Nat → Int32) (R : Nat → Value) (Z : Int64) (B : Nat → Nat → Int32) (J : Nat → Nat → Int64) (K : PK) (w : va_W) (y : TY) (Sh : Nat → Nat) (nn : Nat → Nat) (on : Nat) (j9 : Nat) (ba : Nat) (pc : Nat) (tp : Nat) (sp : Nat) (op : Nat) (ht : Nat) (os : List Nat) (pq : Nat) (dr : Nat) (ml : Nat) (nd : Nat) (nm : Nat) (cp : Nat) (it : Nat → Nat) (s9 : Nat) (g : Nat → Nat → Nat) (rk : Nat → Nat) (cs : Nat) (rg : Nat) (fl : Nat) (lm : Nat) (d9 : Nat) (c9 : Nat) (hsp : (sp = 34 ∧ op = 35) ∨ (sp = 35 ∧ op = 34)) (hma : MIa y (B 19) Sh nn (J sp) ht (B 30) (J 29) on j9 ba pc os tp) (hle : LoE J sp op) (hhe : B 19 pc = nI (yA y j9 pc).2.1) (hwp : WPr G K g) (hps : PgT G K g (a 1) pq dr ml nd nm cp it s9) (hrk : RkO K rk) (hpy : PrY y K B dr nd nm it cs rg) (hcs9 : cs ≤ 10000) (hfl : B 33 5 = nI fl) (hlm : lm ≤ 3008) (hdk : d9 < 60 ∧ c9 = 1 + yfd y d9 ∧ (∀ i : Nat, i < yfd y d9 → yft y d9 i = 60 ∨ yft y d9 i = 61 ∨ RfT (yft y d9 i)) ∨ 64 ≤ d9 ∧ d9 < 128 ∧ 2 ≤ c9 ∧ (d9 - 64 = 60 ∨ d9 - 64 = 61 ∨ RfT (d9 - 64))) (hxc : d9 < 60 → (yX y).1 d9) (hsf : yfi y d9 d9) (hrm : tp + 2 ≤ 320 * on) (hc9 : 1 ≤ c9 ∧ c9 ≤ 3000000000) (hO : OKP G h0 a (upd (upd (upd (upd (upd (upd (upd (upd (upd F 5 (nI cs)) 6 (nI rg)) 18 (nI ba)) 19 (nI tp)) 20 (nI pc)) 22 (nI on)) 23 5) 26 (nI ht)) 28 (nI lm)) (updR (updR (updR (updR R 5 (.ref pq)) 6 (.ref (it j9))) 7 (.ref (a sp))) 8 (.ref (a op))) Z B J K w) : PM l G pX0 yX5_make cX5_make 4 none ({ frames := 7, cells := 0, slots := 0, locals := 173 }) [.ref (a 5), .int (nI d9), .long (lN c9)] w (fun (v : Option Value) (u : va_W × (Nat × Int32 × (Nat → Nat → Int64) × (Nat → Int32) × Nat × Nat × Nat × Int32 × (Nat → Nat) × (Nat → Nat))) => v = none ∧ ((u.2.2.1 = 3 ∧ u.2.1 = tp) ∨ (u.2.2.1 = 5 ∧ u.2.1 = tp + 1 ∧ LoE u.2.2.2.1 u.2.2.2.2.2.1 u.2.2.2.2.2.2.1 ∧ MIa y (B 19) u.2.2.2.2.2.2.2.2.2.1 u.2.2.2.2.2.2.2.2.2.2 (u.2.2.2.1 u.2.2.2.2.2.1) u.2.2.2.2.2.2.2.1 (B 30) (u.2.2.2.1 29) on j9 ba pc (d9 :: os) (tp + 1))) ∧ (u.2.2.2.2.1 5 = nI fl) ∧ ((u.2.2.2.2.2.1 = 34 ∧ u.2.2.2.2.2.2.1 = 35) ∨ (u.2.2.2.2.2.1 = 35 ∧ u.2.2.2.2.2.2.1 = 34)) ∧ ((8 ≤ u.2.2.2.2.2.2.2.1 ∧ u.2.2.2.2.2.2.2.1 ≤ 3008) ∧ u.2.1 ≤ 32000) ∧ (LoE u.2.2.2.1 u.2.2.2.2.2.1 u.2.2.2.2.2.2.1) ∧ (OKP G h0 a (upd (upd (upd (upd (upd (upd (upd (upd (upd (upd F 5 (nI cs)) 6 (nI rg)) 18 (nI ba)) 19 (nI u.2.1)) 20 (nI pc)) 22 (nI on)) 23 u.2.2.1) 26 (nI u.2.2.2.2.2.2.2.1)) 27 u.2.2.2.2.2.2.2.2.1) 28 (nI lm)) (updR (updR (updR (updR R 5 (.ref pq)) 6 (.ref (it j9))) 7 (.ref (a u.2.2.2.2.2.1))) 8 (.ref (a u.2.2.2.2.2.2.1))) Z (updA B 33 u.2.2.2.2.1) u.2.2.2.1 K u.1)) (fun u => u.1) := by
  intro sz
  refine Met.ofW (cc := cX5_make) (maxL := 4) (ret := none) (by decide) rfl ?_
  intro p e s m args below meth c s₁ B9 hml hv
  obtain ⟨rfl, hsz, hP, hD0, hE, hX⟩ := hv
  have hx := B9.exec
  have hb := B9.bytes
  have hr := B9.returns
  have hts := atoms_spec (ws := Cond.code yX5_make cX5_make 4 none :: pw) B9.pre
  have hq : ∀ w ∈ pw, w.before _ s = true := fun w h => hts w (List.mem_cons_of_mem _ h)
  have hown : s.vm.findClass RX5 = some m.cls := findClass_of_methodNamed B9.named
  have hlocks := B9.notSynchronized
  subst hsz
  have hD := hD0.self (sz := s.heap.size)
  have hA : ∀ q : Nat, s.heap.size ≤ q → va_A w s.heap.size q := fun q h => Or.inr h
  generalize va_A w s.heap.size = A at hD hE hA ⊢
  have hS : va_S A s.heap s.heap [] := va_S.rf
  have hl := lv_entry ([.ref (a 5), .int (nI d9), .long (lN c9)]) (n := 4) (Nat.le_of_ble_eq_true rfl)
  rw [lg_entry_eq]
  generalize (lg_sl ([.ref (a 5), .int (nI d9), .long (lN c9)]) ++ List.replicate (4 - (lg_sl ([.ref (a 5), .int (nI d9), .long (lN c9)])).length) Slot.unset).toArray = ls at hl ⊢
  have hl : lv_has ls 4 [(0, .ref (a 5)), (1, .int (nI d9)), (2, .long (lN c9))] := hl
  have hpg := hps.1
  have hp1 := hpg.1
  have hp2 := hpg.2.1
  have hp3 := hpg.2.2.1
  have hp4 := hpg.2.2.2.1
  have hp5 := hpg.2.2.2.2.1
  have hp6 := hpg.2.2.2.2.2.1
  have hp8 := hpg.2.2.2.2.2.2.2.1
  have hp9 := hpg.2.2.2.2.2.2.2.2
  obtain ⟨hb1, hb2, hb3, hb4, hb5, hb6, hb7⟩ := hma.1
  have hh9 := hma.2.2.2.1.1
  have h29 : ¬ sp = 29 ∧ ¬ op = 29 := by omega
  have hd128 : d9 < 128 := by rcases hdk with z | z <;> omega
  refine lv_aload_n hx hb dX5_make_0 rfl (lv_at hl 0 rfl) ?_
  refine c_get (v := .ref (a 28)) (C := RX5) (Tc := TX5) (N := 19) (ci := 4) hx hb hq pin_wsX50 hown hE hP hO 28 (sg_28 G h0 a _ _ _ _ _) rfl 1 (by decide) (hq _ pw_473) (fun _ h9 => h9) rfl dX5_make_1 ?_
  refine lv_lload_n hx hb dX5_make_4 rfl (lv_at hl 2 rfl) ?_
  have hO : OKW G h0 a (upd (upd (upd (upd (upd (upd (upd (upd (upd (upd (upd F 5 (nI cs)) 6 (nI rg)) 18 (nI ba)) 19 (nI tp)) 20 (nI pc)) 22 (nI on)) 23 5) 26 (nI ht)) 28 (nI lm)) 26 (nI ht)) 28 (nI lm)) (updR (updR (updR (updR R 5 (.ref pq)) 6 (.ref (it j9))) 7 (.ref (a sp))) 8 (.ref (a op))) Z B J K.1 (fun q99 x99 => x99 = rep G a K q99) w := hO.to rfl
  obtain ⟨_, qr4, hqr5⟩ := hO.2.1 29 _ (sg_29 G h0 a _ _ _ _ _)
  refine pc_V0 (G := G) (As := [.long (lN c9)]) (rest := []) hx hb hml hown hq hE hX pX0_al hP hD hS hA hl.1 (Y_hasRoom l G h0 a (upd (upd (upd (upd (upd (upd (upd (upd (upd F 5 (nI cs)) 6 (nI rg)) 18 (nI ba)) 19 (nI tp)) 20 (nI pc)) 22 (nI on)) 23 5) 26 (nI ht)) 28 (nI lm)) (updR (updR (updR (updR R 5 (.ref pq)) 6 (.ref (it j9))) 7 (.ref (a sp))) 8 (.ref (a op))) Z B J K.1 (fun q99 x99 => x99 = rep G a K q99) w c9 ht lm (by omega) hO) (gV pw_540 pw_541 pw_542 pw_440 pw_425) hV_X3_hasRoom qr4 3 hqr5 rfl rfl rfl (Nat.le_of_ble_eq_true rfl) dX5_make_5 ⟨Nat.le_of_ble_eq_true rfl, Nat.le_of_ble_eq_true rfl⟩ ⟨Nat.le_of_ble_eq_true rfl, Nat.le_of_ble_eq_true rfl⟩ (fun v3 u1 H locs hw2 hP hD hS => ?_)
  obtain ⟨w, r6⟩ := u1
  obtain ⟨hw2, h7, h8, h9, hO⟩ := hw2
  have h7 : r6 ≤ 1 := h7
  have h8 : If (r6 = 1) (ht + c9 ≤ lm) := h8
  have h9 : If (r6 = 0) (¬ ht + c9 ≤ lm) := h9
  obtain rfl : v3 = some (.int (nI r6)) := hw2
  have hO : OKP G h0 a (upd (upd (upd (upd (upd (upd (upd (upd (upd F 5 (nI cs)) 6 (nI rg)) 18 (nI ba)) 19 (nI tp)) 20 (nI pc)) 22 (nI on)) 23 5) 26 (nI ht)) 28 (nI lm)) (updR (updR (updR (updR R 5 (.ref pq)) 6 (.ref (it j9))) 7 (.ref (a sp))) 8 (.ref (a op))) Z B J K w := hO.to rfl
  refine W.widen (k := 0) (n := 0) (Nat.le_of_ble_eq_true rfl) (Nat.le_of_ble_eq_true rfl) ?_
  refine W.eq (g2 := F0 m 8 ls [.int (nI r6)]) rfl ?_
  refine lv_if_ne (tgt := 15) hx hb dX5_make_8 (by decide) (fun c10 => ?_) (fun c10 => ?_)
  · have n11 : ¬ (r6 = 0) := fun h9 => c10 ((nI_eq (a := r6) (b := 0) (by omega) (by omega)).mpr h9)
    refine lv_aload_n hx hb dX5_make_15 rfl (lv_at hl 0 rfl) ?_
    refine c_get (v := .ref (a 28)) (C := RX5) (Tc := TX5) (N := 19) (ci := 4) hx hb hq pin_wsX50 hown hE hP hO 28 (sg_28 G h0 a _ _ _ _ _) rfl 1 (by decide) (hq _ pw_473) (fun _ h9 => h9) rfl dX5_make_16 ?_
    refine lv_lload_n hx hb dX5_make_19 rfl (lv_at hl 2 rfl) ?_
    have hO : OKW G h0 a (upd (upd (upd (upd (upd (upd (upd (upd (upd (upd (upd F 5 (nI cs)) 6 (nI rg)) 18 (nI ba)) 19 (nI tp)) 20 (nI pc)) 22 (nI on)) 23 5) 26 (nI ht)) 28 (nI lm)) 26 (nI ht)) 28 (nI lm)) (updR (updR (updR (updR R 5 (.ref pq)) 6 (.ref (it j9))) 7 (.ref (a sp))) 8 (.ref (a op))) Z B J K.1 (fun q99 x99 => x99 = rep G a K q99) w := hO.to rfl
    obtain ⟨_, qr15, hqr16⟩ := hO.2.1 29 _ (sg_29 G h0 a _ _ _ _ _)
    refine pc_V0 (G := G) (As := [.long (lN c9)]) (rest := []) hx hb hml hown hq hE hX pX0_al hP hD hS hA hl.1 (Y_hasRoom l G h0 a (upd (upd (upd (upd (upd (upd (upd (upd (upd F 5 (nI cs)) 6 (nI rg)) 18 (nI ba)) 19 (nI tp)) 20 (nI pc)) 22 (nI on)) 23 5) 26 (nI ht)) 28 (nI lm)) (updR (updR (updR (updR R 5 (.ref pq)) 6 (.ref (it j9))) 7 (.ref (a sp))) 8 (.ref (a op))) Z B J K.1 (fun q99 x99 => x99 = rep G a K q99) w c9 ht lm (by omega) hO) (gV pw_540 pw_541 pw_542 pw_440 pw_425) hV_X3_hasRoom qr15 3 hqr16 rfl rfl rfl (Nat.le_of_ble_eq_true rfl) dX5_make_20 ⟨Nat.le_of_ble_eq_true rfl, Nat.le_of_ble_eq_true rfl⟩ ⟨Nat.le_of_ble_eq_true rfl, Nat.le_of_ble_eq_true rfl⟩ (fun v14 u12 H locs hw13 hP hD hS => ?_)
    obtain ⟨w, r17⟩ := u12
    obtain ⟨hw13, h18, h19, h20, hO⟩ := hw13
    have h18 : r17 ≤ 1 := h18
    have h19 : If (r17 = 1) (ht + c9 ≤ lm) := h19
    have h20 : If (r17 = 0) (¬ ht + c9 ≤ lm) := h20
    obtain rfl : v14 = some (.int (nI r17)) := hw13
    have hO : OKP G h0 a (upd (upd (upd (upd (upd (upd (upd (upd (upd F 5 (nI cs)) 6 (nI rg)) 18 (nI ba)) 19 (nI tp)) 20 (nI pc)) 22 (nI on)) 23 5) 26 (nI ht)) 28 (nI lm)) (updR (updR (updR (updR R 5 (.ref pq)) 6 (.ref (it j9))) 7 (.ref (a sp))) 8 (.ref (a op))) Z B J K w := hO.to rfl
    refine W.widen (k := 0) (n := 0) (Nat.le_of_ble_eq_true rfl) (Nat.le_of_ble_eq_true rfl) ?_
    refine W.eq (g2 := F0 m 23 ls [.int (nI r17)]) rfl ?_
    refine lv_if_ne (tgt := 32) hx hb dX5_make_23 (by decide) (fun c21 => ?_) (fun c21 => ?_)
    · have n22 : ¬ (r17 = 0) := fun h9 => c21 ((nI_eq (a := r17) (b := 0) (by omega) (by omega)).mpr h9)
      have hroom := h19 (by omega)
      refine lv_aload_n hx hb dX5_make_32 rfl (lv_at hl 0 rfl) ?_
      refine lv_aload_n hx hb dX5_make_33 rfl (lv_at hl 0 rfl) ?_
      refine c_get (v := .ref (a 28)) (C := RX5) (Tc := TX5) (N := 19) (ci := 4) hx hb hq pin_wsX50 hown hE hP hO 28 (sg_28 G h0 a _ _ _ _ _) rfl 1 (by decide) (hq _ pw_473) (fun _ h9 => h9) rfl dX5_make_34 ?_
      refine lv_iload_n hx hb dX5_make_37 rfl (lv_at hl 1 rfl) ?_
      refine lv_lload_n hx hb dX5_make_38 rfl (lv_at hl 2 rfl) ?_
      refine lv_l2i hx hb dX5_make_39 rfl ?_
      refine lv_topi (fun x23 e24 => ?_)
      rw [show x23 = nI c9 from e24.trans (lN_i _)]
      have hO : OKW G h0 a (upd (upd (upd (upd (upd (upd (upd (upd (upd (upd F 5 (nI cs)) 6 (nI rg)) 18 (nI ba)) 19 (nI tp)) 20 (nI pc)) 22 (nI on)) 23 5) 26 (nI ht)) 28 (nI lm)) 26 (nI ht)) (updR (updR (updR (updR (updR (updR R 5 (.ref pq)) 6 (.ref (it j9))) 7 (.ref (a sp))) 8 (.ref (a op))) 7 (.ref (a sp))) 8 (.ref (a op))) Z B J K.1 (fun q99 x99 => x99 = rep G a K q99) w := hO.to rfl
      obtain ⟨_, qr28, hqr29⟩ := hO.2.1 29 _ (sg_29 G h0 a _ _ _ _ _)
      refine pc_V0 (G := G) (As := [.int (nI d9), .int (nI c9)]) (rest := [.ref (a 5)]) hx hb hml hown hq hE hX pX0_al hP hD hS hA hl.1 (Y_hmake l G h0 a (upd (upd (upd (upd (upd (upd (upd (upd (upd F 5 (nI cs)) 6 (nI rg)) 18 (nI ba)) 19 (nI tp)) 20 (nI pc)) 22 (nI on)) 23 5) 26 (nI ht)) 28 (nI lm)) (updR (updR (updR (updR R 5 (.ref pq)) 6 (.ref (it j9))) 7 (.ref (a sp))) 8 (.ref (a op))) Z B J K.1 (fun q99 x99 => x99 = rep G a K q99) w d9 c9 sp op ht hsp (by omega) (by omega) hO) (gV pw_546 pw_547 pw_548 pw_440 pw_434) hV_X3_make qr28 3 hqr29 rfl rfl rfl (Nat.le_of_ble_eq_true rfl) dX5_make_40 ⟨Nat.le_of_ble_eq_true rfl, Nat.le_of_ble_eq_true rfl⟩ ⟨Nat.le_of_ble_eq_true rfl, Nat.le_of_ble_eq_true rfl⟩ (fun v27 u25 H locs hw26 hP hD hS => ?_)
      obtain ⟨w, J30⟩ := u25
      obtain ⟨hw26, h31, h32, h33, h34, h35, hO⟩ := hw26
      have h31 : J30 sp ht = hdV c9 d9 := h31
      have h32 : ∀ i : Nat, 1 ≤ i → i < c9 → J30 sp (ht + i) = 0 := h32
      have h33 : ∀ i : Nat, i < ht → J30 sp i = J sp i := h33
      have h34 : J30 29 = (J 29) := h34
      have h35 : J30 op = J op := h35
      obtain rfl : v27 = some (.long (rfV ht)) := hw26
      have hO : OKP G h0 a (upd (upd (upd (upd (upd (upd (upd (upd (upd F 5 (nI cs)) 6 (nI rg)) 18 (nI ba)) 19 (nI tp)) 20 (nI pc)) 22 (nI on)) 23 5) 26 (nI (ht + c9))) 28 (nI lm)) (updR (updR (updR (updR R 5 (.ref pq)) 6 (.ref (it j9))) 7 (.ref (a sp))) 8 (.ref (a op))) Z B J30 K w := hO.to rfl
      refine W.widen (k := 0) (n := 0) (Nat.le_of_ble_eq_true rfl) (Nat.le_of_ble_eq_true rfl) ?_
      refine W.eq (g2 := F0 m 43 ls [.long (rfV ht), .ref (a 5)]) rfl ?_
      have hO : OKW G h0 a (upd (upd (upd (upd (upd (upd (upd (upd (upd (upd F 5 (nI cs)) 6 (nI rg)) 18 (nI ba)) 19 (nI tp)) 20 (nI pc)) 22 (nI on)) 23 5) 26 (nI (ht + c9))) 28 (nI lm)) 19 (nI tp)) (updR (updR (updR (updR R 5 (.ref pq)) 6 (.ref (it j9))) 7 (.ref (a sp))) 8 (.ref (a op))) Z B J30 K.1 (fun q99 x99 => x99 = rep G a K q99) w := hO.to rfl
      obtain ⟨_, qr39, hqr40⟩ := hO.2.1 28 _ (sg_28 G h0 a _ _ _ _ _)
      refine pc_V0 (G := G) (As := [.long (rfV ht)]) (rest := []) hx hb hml hown hq hE hX pX0_al hP hD hS hA hl.1 (Y_push l G h0 a (upd (upd (upd (upd (upd (upd (upd (upd (upd F 5 (nI cs)) 6 (nI rg)) 18 (nI ba)) 19 (nI tp)) 20 (nI pc)) 22 (nI on)) 23 5) 26 (nI (ht + c9))) 28 (nI lm)) (updR (updR (updR (updR R 5 (.ref pq)) 6 (.ref (it j9))) 7 (.ref (a sp))) 8 (.ref (a op))) Z B J30 K.1 (fun q99 x99 => x99 = rep G a K q99) w (rfV ht) tp (by omega) hO) (gV pw_549 pw_550 pw_551 pw_539 pw_535) hV_X5_push qr39 4 hqr40 rfl rfl rfl (Nat.le_of_ble_eq_true rfl) dX5_make_43 ⟨Nat.le_of_ble_eq_true rfl, Nat.le_of_ble_eq_true rfl⟩ ⟨Nat.le_of_ble_eq_true rfl, Nat.le_of_ble_eq_true rfl⟩ (fun v38 u36 H locs hw37 hP hD hS => ?_)
      obtain ⟨w, _⟩ := u36
      obtain ⟨hw37, hO⟩ := hw37
      obtain rfl : v38 = none := hw37
      have hO : OKP G h0 a (upd (upd (upd (upd (upd (upd (upd (upd (upd F 5 (nI cs)) 6 (nI rg)) 18 (nI ba)) 19 (nI (tp + 1))) 20 (nI pc)) 22 (nI on)) 23 5) 26 (nI (ht + c9))) 28 (nI lm)) (updR (updR (updR (updR R 5 (.ref pq)) 6 (.ref (it j9))) 7 (.ref (a sp))) 8 (.ref (a op))) Z B (updJ J30 29 (vp_updL ((J30 29)) tp (rfV ht))) K w := hO.to rfl
      refine W.widen (k := 0) (n := 0) (Nat.le_of_ble_eq_true rfl) (Nat.le_of_ble_eq_true rfl) ?_
      refine W.eq (g2 := F0 m 46 ls []) rfl ?_
      refine lv_aload_n hx hb dX5_make_46 rfl (lv_at hl 0 rfl) ?_
      refine c_get (v := .ref (a 33)) (C := RX5) (Tc := TX5) (N := 19) (ci := 4) hx hb hq pin_wsX50 hown hE hP hO 28 (sg_28 G h0 a _ _ _ _ _) rfl 7 (by decide) (hq _ pw_478) (fun _ h9 => h9) rfl dX5_make_47 ?_
      refine lv_bipush (v := 8) hx hb dX5_make_50 (by decide) ?_
      refine lv_dup2_11 hx hb dX5_make_52 rfl rfl ?_
      refine c_ldi (f := (B 33)) (n := 12) (t0 := 0) hx hb hE hP hO 36 (sg_36 G h0 a _ _ _ _ _) rfl (by unfold vp_in; decide) dX5_make_53 ?_
      refine W.eq (g2 := F0 m 54 ls [.int ((B 33) 8), .int 8, .ref (a 33)]) rfl ?_
      refine lv_topi (fun x41 e42 => ?_)
      refine lv_iconst (v := 1) hx hb dX5_make_54 (by decide) ?_
      refine lv_iadd hx hb dX5_make_55 ?_
      refine lv_topi (fun x43 e44 => ?_)
      refine c_sti (f := (B 33)) (n := 12) (t0 := 0) hx hb hE hP hD hS hO 36 (sg_36 G h0 a _ _ _ _ _) rfl (by unfold vp_in; decide) (sb_33 G h0 a _ _ _ _ _ _) dX5_make_56 (fun H locs w hP hD hS hO => ?_)
      refine lv_aload_n hx hb dX5_make_57 rfl (lv_at hl 0 rfl) ?_
      refine c_get (v := .ref (a 33)) (C := RX5) (Tc := TX5) (N := 19) (ci := 4) hx hb hq pin_wsX50 hown hE hP hO 28 (sg_28 G h0 a _ _ _ _ _) rfl 7 (by decide) (hq _ pw_478) (fun _ h9 => h9) rfl dX5_make_58 ?_
      refine lv_bipush (v := 9) hx hb dX5_make_61 (by decide) ?_
      refine lv_dup2_11 hx hb dX5_make_63 rfl rfl ?_
      refine c_ldi (f := (upd (B 33) 8 x43)) (n := 12) (t0 := 0) hx hb hE hP hO 36 (sg_36 G h0 a _ _ _ _ _) rfl (by unfold vp_in; decide) dX5_make_64 ?_
      refine W.eq (g2 := F0 m 65 ls [.int ((upd (B 33) 8 x43) 9), .int 9, .ref (a 33)]) rfl ?_
      refine lv_topi (fun x45 e46 => ?_)
      refine lv_lload_n hx hb dX5_make_65 rfl (lv_at hl 2 rfl) ?_
      refine lv_l2i hx hb dX5_make_66 rfl ?_
      refine lv_topi (fun x47 e48 => ?_)
      rw [show x47 = nI c9 from e48.trans (lN_i _)]
      refine lv_iadd hx hb dX5_make_67 ?_
      refine lv_topi (fun x49 e50 => ?_)
      refine c_sti (f := (upd (B 33) 8 x43)) (n := 12) (t0 := 0) hx hb hE hP hD hS hO 36 (sg_36 G h0 a _ _ _ _ _) rfl (by unfold vp_in; decide) (sb_33 G h0 a _ _ _ _ _ _) dX5_make_68 (fun H locs w hP hD hS hO => ?_)
      have hmm := MIa.made (sp1 := J30 sp) hma hdk hxc hsf (by omega) (by omega) h31 h32 h33 hrm
      rw [← h34] at hmm
      have hlm9 := LoE.mk (g := vp_updL (J30 29) tp (rfV ht)) hle h33 h35 trivial (by omega) (by omega)
      have hz51 : ((5 : Int32) = 3 ∧ (tp + 1) = tp) ∨ ((5 : Int32) = 5 ∧ (tp + 1) = tp + 1 ∧ LoE (updJ J30 29 (vp_updL ((J30 29)) tp (rfV ht))) sp op ∧ MIa y (B 19) (upM Sh ht (d9 + 1)) (upM nn ht c9) ((updJ J30 29 (vp_updL ((J30 29)) tp (rfV ht))) sp) (ht + c9) (B 30) ((updJ J30 29 (vp_updL ((J30 29)) tp (rfV ht))) 29) on j9 ba pc (d9 :: os) (tp + 1)) := (Or.inr ⟨rfl, rfl, hlm9, by rw [updJ_ne (by omega)]; exact hmm⟩)
      have hz52 : (upd (upd (B 33) 8 x43) 9 x49) 5 = nI fl := ((if_neg (by decide)).trans ((if_neg (by decide)).trans hfl))
      have hz53 : (sp = 34 ∧ op = 35) ∨ (sp = 35 ∧ op = 34) := hsp
      have hz54 : (8 ≤ (ht + c9) ∧ (ht + c9) ≤ 3008) ∧ (tp + 1) ≤ 32000 := (by omega)
      have hz55 : LoE (updJ J30 29 (vp_updL ((J30 29)) tp (rfV ht))) sp op := hlm9
      have hO : OKP G h0 a (upd (upd (upd (upd (upd (upd (upd (upd (upd (upd F 5 (nI cs)) 6 (nI rg)) 18 (nI ba)) 19 (nI (tp + 1))) 20 (nI pc)) 22 (nI on)) 23 (5 : Int32)) 26 (nI (ht + c9))) 27 (F 27)) 28 (nI lm)) (updR (updR (updR (updR R 5 (.ref pq)) 6 (.ref (it j9))) 7 (.ref (a sp))) 8 (.ref (a op))) Z (updA B 33 (upd (upd (B 33) 8 x43) 9 x49)) (updJ J30 29 (vp_updL ((J30 29)) tp (rfV ht))) K w := hO.to rfl
      exact W.vret hx hb hr (fun t99 ht99 hW99 => ⟨⟨_, (w, ((tp + 1), (5 : Int32), (updJ J30 29 (vp_updL ((J30 29)) tp (rfV ht))), (upd (upd (B 33) 8 x43) 9 x49), sp, op, (ht + c9), (F 27), (upM Sh ht (d9 + 1)), (upM nn ht c9))), rfl, ⟨rfl, hz51, hz52, hz53, hz54, hz55, hO⟩, by rw [ht99]; exact hP, hD⟩, hS.F ht99⟩) hS.2.2 dX5_make_69
    · have n56 : r17 = 0 := (nI_eq (a := r17) (b := 0) (by omega) (by omega)).mp c21
      refine lv_aload_n hx hb dX5_make_26 rfl (lv_at hl 0 rfl) ?_
      refine lv_iconst (v := 3) hx hb dX5_make_27 (by decide) ?_
      refine c_put (v := .int 3) (ty := .int) (C := RX5) (Tc := TX5) (N := 19) (ci := 4) hx hb hq pin_wsX50 tyX5 tyX5_ok nmX5 hown hE hP hD hS hO 28 (sg_28 G h0 a _ _ _ _ _) rfl 16 (by decide) (hq _ pw_513) (fun _ h9 => h9) rfl (by decide +kernel) rfl rfl (Nat.le_of_ble_eq_true rfl) (sf_23 G h0 a _ _ _ _ _ 3) dX5_make_28 (fun H locs w hP hD hS hO => ?_)
      have hz57 : ((3 : Int32) = 3 ∧ tp = tp) ∨ ((3 : Int32) = 5 ∧ tp = tp + 1 ∧ LoE J sp op ∧ MIa y (B 19) Sh nn (J sp) ht (B 30) (J 29) on j9 ba pc (d9 :: os) (tp + 1)) := (Or.inl ⟨rfl, rfl⟩)
      have hz58 : (B 33) 5 = nI fl := hfl
      have hz59 : (sp = 34 ∧ op = 35) ∨ (sp = 35 ∧ op = 34) := hsp
      have hz60 : (8 ≤ ht ∧ ht ≤ 3008) ∧ tp ≤ 32000 := (by omega)
      have hz61 : LoE J sp op := hle
      have hO : OKP G h0 a (upd (upd (upd (upd (upd (upd (upd (upd (upd (upd F 5 (nI cs)) 6 (nI rg)) 18 (nI ba)) 19 (nI tp)) 20 (nI pc)) 22 (nI on)) 23 (3 : Int32)) 26 (nI ht)) 27 (F 27)) 28 (nI lm)) (updR (updR (updR (updR R 5 (.ref pq)) 6 (.ref (it j9))) 7 (.ref (a sp))) 8 (.ref (a op))) Z (updA B 33 (B 33)) J K w := hO.to rfl
      exact W.vret hx hb hr (fun t99 ht99 hW99 => ⟨⟨_, (w, (tp, (3 : Int32), J, (B 33), sp, op, ht, (F 27), Sh, nn)), rfl, ⟨rfl, hz57, hz58, hz59, hz60, hz61, hO⟩, by rw [ht99]; exact hP, hD⟩, hS.F ht99⟩) hS.2.2 dX5_make_31
  · have n62 : r6 = 0 := (nI_eq (a := r6) (b := 0) (by omega) (by omega)).mp c10
    refine lv_aload_n hx hb dX5_make_11 rfl (lv_at hl 0 rfl) ?_
    have hO : OKP G h0 a (upd (upd (upd (upd (upd (upd (upd (upd (upd (upd (upd (upd (upd (upd (upd (upd F 5 (nI cs)) 6 (nI rg)) 18 (nI ba)) 19 (nI tp)) 20 (nI pc)) 22 (nI on)) 23 5) 26 (nI ht)) 28 (nI lm)) 5 (nI cs)) 6 (nI rg)) 18 (nI ba)) 19 (nI tp)) 20 (nI pc)) 22 (nI on)) 26 (nI ht)) (updR (updR (updR (updR (updR (updR (updR (updR R 5 (.ref pq)) 6 (.ref (it j9))) 7 (.ref (a sp))) 8 (.ref (a op))) 5 (.ref pq)) 6 (.ref (it j9))) 7 (.ref (a sp))) 8 (.ref (a op))) Z B J K w := hO.to rfl
    obtain ⟨_, qr66, hqr67⟩ := hO.2.1 28 _ (sg_28 G h0 a _ _ _ _ _)
    refine pc_V0 (G := G) (As := []) (rest := []) hx hb hml hown hq hE hX pX0_al hP hD hS hA hl.1 (Y_collect l G h0 a (upd (upd (upd (upd (upd (upd (upd (upd (upd F 5 (nI cs)) 6 (nI rg)) 18 (nI ba)) 19 (nI tp)) 20 (nI pc)) 22 (nI on)) 23 5) 26 (nI ht)) 28 (nI lm)) (updR (updR (updR (updR R 5 (.ref pq)) 6 (.ref (it j9))) 7 (.ref (a sp))) 8 (.ref (a op))) Z B J K w y Sh nn on j9 ba pc tp sp op ht os pq dr ml nd nm cp it s9 g rk cs rg hsp hma hle hhe hwp hps hrk hpy (by omega) hO) (gV pw_543 pw_544 pw_545 pw_539 pw_534) hV_X5_collect qr66 4 hqr67 rfl rfl rfl (Nat.le_of_ble_eq_true rfl) dX5_make_12 ⟨Nat.le_of_ble_eq_true rfl, Nat.le_of_ble_eq_true rfl⟩ ⟨Nat.le_of_ble_eq_true rfl, Nat.le_of_ble_eq_true rfl⟩ (fun v65 u63 H locs hw64 hP hD hS => ?_)
    obtain ⟨w, ht68, J69, S70, n71⟩ := u63
    obtain ⟨hw64, h72, h73, h74, hO⟩ := hw64
    have h72 : MIa y ((B 19)) S70 n71 (J69 op) ht68 ((B 30)) (J69 29) on j9 ba pc os tp := h72
    have h73 : LoE J69 op sp := h73
    have h74 : 8 ≤ ht68 ∧ ht68 ≤ 3008 := h74
    obtain rfl : v65 = none := hw64
    have hO : OKP G h0 a (upd (upd (upd (upd (upd (upd (upd (upd (upd (upd F 5 (nI cs)) 6 (nI rg)) 18 (nI ba)) 19 (nI tp)) 20 (nI pc)) 22 (nI on)) 23 5) 26 (nI ht68)) 27 (nI ht68)) 28 (nI lm)) (updR (updR (updR (updR R 5 (.ref pq)) 6 (.ref (it j9))) 7 (.ref (a op))) 8 (.ref (a sp))) Z B J69 K w := hO.to rfl
    refine W.widen (k := 0) (n := 0) (Nat.le_of_ble_eq_true rfl) (Nat.le_of_ble_eq_true rfl) ?_
    refine W.eq (g2 := F0 m 15 ls []) rfl ?_
    have hspw : (op = 34 ∧ sp = 35) ∨ (op = 35 ∧ sp = 34) := by omega
    refine lv_aload_n hx hb dX5_make_15 rfl (lv_at hl 0 rfl) ?_
    refine c_get (v := .ref (a 28)) (C := RX5) (Tc := TX5) (N := 19) (ci := 4) hx hb hq pin_wsX50 hown hE hP hO 28 (sg_28 G h0 a _ _ _ _ _) rfl 1 (by decide) (hq _ pw_473) (fun _ h9 => h9) rfl dX5_make_16 ?_
    refine lv_lload_n hx hb dX5_make_19 rfl (lv_at hl 2 rfl) ?_
    have hO : OKW G h0 a (upd (upd (upd (upd (upd (upd (upd (upd (upd (upd (upd (upd F 5 (nI cs)) 6 (nI rg)) 18 (nI ba)) 19 (nI tp)) 20 (nI pc)) 22 (nI on)) 23 5) 26 (nI ht68)) 27 (nI ht68)) 28 (nI lm)) 26 (nI ht68)) 28 (nI lm)) (updR (updR (updR (updR R 5 (.ref pq)) 6 (.ref (it j9))) 7 (.ref (a op))) 8 (.ref (a sp))) Z B J69 K.1 (fun q99 x99 => x99 = rep G a K q99) w := hO.to rfl
    obtain ⟨_, qr78, hqr79⟩ := hO.2.1 29 _ (sg_29 G h0 a _ _ _ _ _)
    refine pc_V0 (G := G) (As := [.long (lN c9)]) (rest := []) hx hb hml hown hq hE hX pX0_al hP hD hS hA hl.1 (Y_hasRoom l G h0 a (upd (upd (upd (upd (upd (upd (upd (upd (upd (upd F 5 (nI cs)) 6 (nI rg)) 18 (nI ba)) 19 (nI tp)) 20 (nI pc)) 22 (nI on)) 23 5) 26 (nI ht68)) 27 (nI ht68)) 28 (nI lm)) (updR (updR (updR (updR R 5 (.ref pq)) 6 (.ref (it j9))) 7 (.ref (a op))) 8 (.ref (a sp))) Z B J69 K.1 (fun q99 x99 => x99 = rep G a K q99) w c9 ht68 lm (by omega) hO) (gV pw_540 pw_541 pw_542 pw_440 pw_425) hV_X3_hasRoom qr78 3 hqr79 rfl rfl rfl (Nat.le_of_ble_eq_true rfl) dX5_make_20 ⟨Nat.le_of_ble_eq_true rfl, Nat.le_of_ble_eq_true rfl⟩ ⟨Nat.le_of_ble_eq_true rfl, Nat.le_of_ble_eq_true rfl⟩ (fun v77 u75 H locs hw76 hP hD hS => ?_)
    obtain ⟨w, r80⟩ := u75
    obtain ⟨hw76, h81, h82, h83, hO⟩ := hw76
    have h81 : r80 ≤ 1 := h81
    have h82 : If (r80 = 1) (ht68 + c9 ≤ lm) := h82
    have h83 : If (r80 = 0) (¬ ht68 + c9 ≤ lm) := h83
    obtain rfl : v77 = some (.int (nI r80)) := hw76
    have hO : OKP G h0 a (upd (upd (upd (upd (upd (upd (upd (upd (upd (upd F 5 (nI cs)) 6 (nI rg)) 18 (nI ba)) 19 (nI tp)) 20 (nI pc)) 22 (nI on)) 23 5) 26 (nI ht68)) 27 (nI ht68)) 28 (nI lm)) (updR (updR (updR (updR R 5 (.ref pq)) 6 (.ref (it j9))) 7 (.ref (a op))) 8 (.ref (a sp))) Z B J69 K w := hO.to rfl
    refine W.widen (k := 0) (n := 0) (Nat.le_of_ble_eq_true rfl) (Nat.le_of_ble_eq_true rfl) ?_
    refine W.eq (g2 := F0 m 23 ls [.int (nI r80)]) rfl ?_
    refine lv_if_ne (tgt := 32) hx hb dX5_make_23 (by decide) (fun c84 => ?_) (fun c84 => ?_)
    · have n85 : ¬ (r80 = 0) := fun h9 => c84 ((nI_eq (a := r80) (b := 0) (by omega) (by omega)).mpr h9)
      have hroom := h82 (by omega)
      refine lv_aload_n hx hb dX5_make_32 rfl (lv_at hl 0 rfl) ?_
      refine lv_aload_n hx hb dX5_make_33 rfl (lv_at hl 0 rfl) ?_
      refine c_get (v := .ref (a 28)) (C := RX5) (Tc := TX5) (N := 19) (ci := 4) hx hb hq pin_wsX50 hown hE hP hO 28 (sg_28 G h0 a _ _ _ _ _) rfl 1 (by decide) (hq _ pw_473) (fun _ h9 => h9) rfl dX5_make_34 ?_
      refine lv_iload_n hx hb dX5_make_37 rfl (lv_at hl 1 rfl) ?_
      refine lv_lload_n hx hb dX5_make_38 rfl (lv_at hl 2 rfl) ?_
      refine lv_l2i hx hb dX5_make_39 rfl ?_
      refine lv_topi (fun x86 e87 => ?_)
      rw [show x86 = nI c9 from e87.trans (lN_i _)]
      have hO : OKW G h0 a (upd (upd (upd (upd (upd (upd (upd (upd (upd (upd (upd F 5 (nI cs)) 6 (nI rg)) 18 (nI ba)) 19 (nI tp)) 20 (nI pc)) 22 (nI on)) 23 5) 26 (nI ht68)) 27 (nI ht68)) 28 (nI lm)) 26 (nI ht68)) (updR (updR (updR (updR (updR (updR R 5 (.ref pq)) 6 (.ref (it j9))) 7 (.ref (a op))) 8 (.ref (a sp))) 7 (.ref (a op))) 8 (.ref (a sp))) Z B J69 K.1 (fun q99 x99 => x99 = rep G a K q99) w := hO.to rfl
      obtain ⟨_, qr91, hqr92⟩ := hO.2.1 29 _ (sg_29 G h0 a _ _ _ _ _)
      refine pc_V0 (G := G) (As := [.int (nI d9), .int (nI c9)]) (rest := [.ref (a 5)]) hx hb hml hown hq hE hX pX0_al hP hD hS hA hl.1 (Y_hmake l G h0 a (upd (upd (upd (upd (upd (upd (upd (upd (upd (upd F 5 (nI cs)) 6 (nI rg)) 18 (nI ba)) 19 (nI tp)) 20 (nI pc)) 22 (nI on)) 23 5) 26 (nI ht68)) 27 (nI ht68)) 28 (nI lm)) (updR (updR (updR (updR R 5 (.ref pq)) 6 (.ref (it j9))) 7 (.ref (a op))) 8 (.ref (a sp))) Z B J69 K.1 (fun q99 x99 => x99 = rep G a K q99) w d9 c9 op sp ht68 hspw (by omega) (by omega) hO) (gV pw_546 pw_547 pw_548 pw_440 pw_434) hV_X3_make qr91 3 hqr92 rfl rfl rfl (Nat.le_of_ble_eq_true rfl) dX5_make_40 ⟨Nat.le_of_ble_eq_true rfl, Nat.le_of_ble_eq_true rfl⟩ ⟨Nat.le_of_ble_eq_true rfl, Nat.le_of_ble_eq_true rfl⟩ (fun v90 u88 H locs hw89 hP hD hS => ?_)
      obtain ⟨w, J93⟩ := u88
      obtain ⟨hw89, h94, h95, h96, h97, h98, hO⟩ := hw89
      have h94 : J93 op ht68 = hdV c9 d9 := h94
      have h95 : ∀ i : Nat, 1 ≤ i → i < c9 → J93 op (ht68 + i) = 0 := h95
      have h96 : ∀ i : Nat, i < ht68 → J93 op i = J69 op i := h96
      have h97 : J93 29 = (J69 29) := h97
      have h98 : J93 sp = J69 sp := h98
      obtain rfl : v90 = some (.long (rfV ht68)) := hw89
      have hO : OKP G h0 a (upd (upd (upd (upd (upd (upd (upd (upd (upd (upd F 5 (nI cs)) 6 (nI rg)) 18 (nI ba)) 19 (nI tp)) 20 (nI pc)) 22 (nI on)) 23 5) 26 (nI (ht68 + c9))) 27 (nI ht68)) 28 (nI lm)) (updR (updR (updR (updR R 5 (.ref pq)) 6 (.ref (it j9))) 7 (.ref (a op))) 8 (.ref (a sp))) Z B J93 K w := hO.to rfl
      refine W.widen (k := 0) (n := 0) (Nat.le_of_ble_eq_true rfl) (Nat.le_of_ble_eq_true rfl) ?_
      refine W.eq (g2 := F0 m 43 ls [.long (rfV ht68), .ref (a 5)]) rfl ?_
      have hO : OKW G h0 a (upd (upd (upd (upd (upd (upd (upd (upd (upd (upd (upd F 5 (nI cs)) 6 (nI rg)) 18 (nI ba)) 19 (nI tp)) 20 (nI pc)) 22 (nI on)) 23 5) 26 (nI (ht68 + c9))) 27 (nI ht68)) 28 (nI lm)) 19 (nI tp)) (updR (updR (updR (updR R 5 (.ref pq)) 6 (.ref (it j9))) 7 (.ref (a op))) 8 (.ref (a sp))) Z B J93 K.1 (fun q99 x99 => x99 = rep G a K q99) w := hO.to rfl
      obtain ⟨_, qr102, hqr103⟩ := hO.2.1 28 _ (sg_28 G h0 a _ _ _ _ _)
      refine pc_V0 (G := G) (As := [.long (rfV ht68)]) (rest := []) hx hb hml hown hq hE hX pX0_al hP hD hS hA hl.1 (Y_push l G h0 a (upd (upd (upd (upd (upd (upd (upd (upd (upd (upd F 5 (nI cs)) 6 (nI rg)) 18 (nI ba)) 19 (nI tp)) 20 (nI pc)) 22 (nI on)) 23 5) 26 (nI (ht68 + c9))) 27 (nI ht68)) 28 (nI lm)) (updR (updR (updR (updR R 5 (.ref pq)) 6 (.ref (it j9))) 7 (.ref (a op))) 8 (.ref (a sp))) Z B J93 K.1 (fun q99 x99 => x99 = rep G a K q99) w (rfV ht68) tp (by omega) hO) (gV pw_549 pw_550 pw_551 pw_539 pw_535) hV_X5_push qr102 4 hqr103 rfl rfl rfl (Nat.le_of_ble_eq_true rfl) dX5_make_43 ⟨Nat.le_of_ble_eq_true rfl, Nat.le_of_ble_eq_true rfl⟩ ⟨Nat.le_of_ble_eq_true rfl, Nat.le_of_ble_eq_true rfl⟩ (fun v101 u99 H locs hw100 hP hD hS => ?_)
      obtain ⟨w, _⟩ := u99
      obtain ⟨hw100, hO⟩ := hw100
      obtain rfl : v101 = none := hw100
      have hO : OKP G h0 a (upd (upd (upd (upd (upd (upd (upd (upd (upd (upd F 5 (nI cs)) 6 (nI rg)) 18 (nI ba)) 19 (nI (tp + 1))) 20 (nI pc)) 22 (nI on)) 23 5) 26 (nI (ht68 + c9))) 27 (nI ht68)) 28 (nI lm)) (updR (updR (updR (updR R 5 (.ref pq)) 6 (.ref (it j9))) 7 (.ref (a op))) 8 (.ref (a sp))) Z B (updJ J93 29 (vp_updL ((J93 29)) tp (rfV ht68))) K w := hO.to rfl
      refine W.widen (k := 0) (n := 0) (Nat.le_of_ble_eq_true rfl) (Nat.le_of_ble_eq_true rfl) ?_
      refine W.eq (g2 := F0 m 46 ls []) rfl ?_
      refine lv_aload_n hx hb dX5_make_46 rfl (lv_at hl 0 rfl) ?_
      refine c_get (v := .ref (a 33)) (C := RX5) (Tc := TX5) (N := 19) (ci := 4) hx hb hq pin_wsX50 hown hE hP hO 28 (sg_28 G h0 a _ _ _ _ _) rfl 7 (by decide) (hq _ pw_478) (fun _ h9 => h9) rfl dX5_make_47 ?_
      refine lv_bipush (v := 8) hx hb dX5_make_50 (by decide) ?_
      refine lv_dup2_11 hx hb dX5_make_52 rfl rfl ?_
      refine c_ldi (f := (B 33)) (n := 12) (t0 := 0) hx hb hE hP hO 36 (sg_36 G h0 a _ _ _ _ _) rfl (by unfold vp_in; decide) dX5_make_53 ?_
      refine W.eq (g2 := F0 m 54 ls [.int ((B 33) 8), .int 8, .ref (a 33)]) rfl ?_
      refine lv_topi (fun x104 e105 => ?_)
      refine lv_iconst (v := 1) hx hb dX5_make_54 (by decide) ?_
      refine lv_iadd hx hb dX5_make_55 ?_
      refine lv_topi (fun x106 e107 => ?_)
      refine c_sti (f := (B 33)) (n := 12) (t0 := 0) hx hb hE hP hD hS hO 36 (sg_36 G h0 a _ _ _ _ _) rfl (by unfold vp_in; decide) (sb_33 G h0 a _ _ _ _ _ _) dX5_make_56 (fun H locs w hP hD hS hO => ?_)
      refine lv_aload_n hx hb dX5_make_57 rfl (lv_at hl 0 rfl) ?_
      refine c_get (v := .ref (a 33)) (C := RX5) (Tc := TX5) (N := 19) (ci := 4) hx hb hq pin_wsX50 hown hE hP hO 28 (sg_28 G h0 a _ _ _ _ _) rfl 7 (by decide) (hq _ pw_478) (fun _ h9 => h9) rfl dX5_make_58 ?_
      refine lv_bipush (v := 9) hx hb dX5_make_61 (by decide) ?_
      refine lv_dup2_11 hx hb dX5_make_63 rfl rfl ?_
      refine c_ldi (f := (upd (B 33) 8 x106)) (n := 12) (t0 := 0) hx hb hE hP hO 36 (sg_36 G h0 a _ _ _ _ _) rfl (by unfold vp_in; decide) dX5_make_64 ?_
      refine W.eq (g2 := F0 m 65 ls [.int ((upd (B 33) 8 x106) 9), .int 9, .ref (a 33)]) rfl ?_
      refine lv_topi (fun x108 e109 => ?_)
      refine lv_lload_n hx hb dX5_make_65 rfl (lv_at hl 2 rfl) ?_
      refine lv_l2i hx hb dX5_make_66 rfl ?_
      refine lv_topi (fun x110 e111 => ?_)
      rw [show x110 = nI c9 from e111.trans (lN_i _)]
      refine lv_iadd hx hb dX5_make_67 ?_
      refine lv_topi (fun x112 e113 => ?_)
      refine c_sti (f := (upd (B 33) 8 x106)) (n := 12) (t0 := 0) hx hb hE hP hD hS hO 36 (sg_36 G h0 a _ _ _ _ _) rfl (by unfold vp_in; decide) (sb_33 G h0 a _ _ _ _ _ _) dX5_make_68 (fun H locs w hP hD hS hO => ?_)
      have hmm := MIa.made (sp1 := J93 op) h72 hdk hxc hsf (by omega) (by omega) h94 h95 h96 hrm
      rw [← h97] at hmm
      have hlm9 := LoE.mk (g := vp_updL (J93 29) tp (rfV ht68)) h73 h96 h98 trivial (by omega) (by omega)
      have hz114 : ((5 : Int32) = 3 ∧ (tp + 1) = tp) ∨ ((5 : Int32) = 5 ∧ (tp + 1) = tp + 1 ∧ LoE (updJ J93 29 (vp_updL ((J93 29)) tp (rfV ht68))) op sp ∧ MIa y (B 19) (upM S70 ht68 (d9 + 1)) (upM n71 ht68 c9) ((updJ J93 29 (vp_updL ((J93 29)) tp (rfV ht68))) op) (ht68 + c9) (B 30) ((updJ J93 29 (vp_updL ((J93 29)) tp (rfV ht68))) 29) on j9 ba pc (d9 :: os) (tp + 1)) := (Or.inr ⟨rfl, rfl, hlm9, by rw [updJ_ne (by omega)]; exact hmm⟩)
      have hz115 : (upd (upd (B 33) 8 x106) 9 x112) 5 = nI fl := ((if_neg (by decide)).trans ((if_neg (by decide)).trans hfl))
      have hz116 : (op = 34 ∧ sp = 35) ∨ (op = 35 ∧ sp = 34) := hspw
      have hz117 : (8 ≤ (ht68 + c9) ∧ (ht68 + c9) ≤ 3008) ∧ (tp + 1) ≤ 32000 := (by omega)
      have hz118 : LoE (updJ J93 29 (vp_updL ((J93 29)) tp (rfV ht68))) op sp := hlm9
      have hO : OKP G h0 a (upd (upd (upd (upd (upd (upd (upd (upd (upd (upd F 5 (nI cs)) 6 (nI rg)) 18 (nI ba)) 19 (nI (tp + 1))) 20 (nI pc)) 22 (nI on)) 23 (5 : Int32)) 26 (nI (ht68 + c9))) 27 (nI ht68)) 28 (nI lm)) (updR (updR (updR (updR R 5 (.ref pq)) 6 (.ref (it j9))) 7 (.ref (a op))) 8 (.ref (a sp))) Z (updA B 33 (upd (upd (B 33) 8 x106) 9 x112)) (updJ J93 29 (vp_updL ((J93 29)) tp (rfV ht68))) K w := hO.to rfl
      exact W.vret hx hb hr (fun t99 ht99 hW99 => ⟨⟨_, (w, ((tp + 1), (5 : Int32), (updJ J93 29 (vp_updL ((J93 29)) tp (rfV ht68))), (upd (upd (B 33) 8 x106) 9 x112), op, sp, (ht68 + c9), (nI ht68), (upM S70 ht68 (d9 + 1)), (upM n71 ht68 c9))), rfl, ⟨rfl, hz114, hz115, hz116, hz117, hz118, hO⟩, by rw [ht99]; exact hP, hD⟩, hS.F ht99⟩) hS.2.2 dX5_make_69
    · have n119 : r80 = 0 := (nI_eq (a := r80) (b := 0) (by omega) (by omega)).mp c84
      refine lv_aload_n hx hb dX5_make_26 rfl (lv_at hl 0 rfl) ?_
      refine lv_iconst (v := 3) hx hb dX5_make_27 (by decide) ?_
      refine c_put (v := .int 3) (ty := .int) (C := RX5) (Tc := TX5) (N := 19) (ci := 4) hx hb hq pin_wsX50 tyX5 tyX5_ok nmX5 hown hE hP hD hS hO 28 (sg_28 G h0 a _ _ _ _ _) rfl 16 (by decide) (hq _ pw_513) (fun _ h9 => h9) rfl (by decide +kernel) rfl rfl (Nat.le_of_ble_eq_true rfl) (sf_23 G h0 a _ _ _ _ _ 3) dX5_make_28 (fun H locs w hP hD hS hO => ?_)
      have hz120 : ((3 : Int32) = 3 ∧ tp = tp) ∨ ((3 : Int32) = 5 ∧ tp = tp + 1 ∧ LoE J69 op sp ∧ MIa y (B 19) S70 n71 (J69 op) ht68 (B 30) (J69 29) on j9 ba pc (d9 :: os) (tp + 1)) := (Or.inl ⟨rfl, rfl⟩)
      have hz121 : (B 33) 5 = nI fl := hfl
      have hz122 : (op = 34 ∧ sp = 35) ∨ (op = 35 ∧ sp = 34) := hspw
      have hz123 : (8 ≤ ht68 ∧ ht68 ≤ 3008) ∧ tp ≤ 32000 := (by omega)
      have hz124 : LoE J69 op sp := h73
      have hO : OKP G h0 a (upd (upd (upd (upd (upd (upd (upd (upd (upd (upd F 5 (nI cs)) 6 (nI rg)) 18 (nI ba)) 19 (nI tp)) 20 (nI pc)) 22 (nI on)) 23 (3 : Int32)) 26 (nI ht68)) 27 (nI ht68)) 28 (nI lm)) (updR (updR (updR (updR R 5 (.ref pq)) 6 (.ref (it j9))) 7 (.ref (a op))) 8 (.ref (a sp))) Z (updA B 33 (B 33)) J69 K w := hO.to rfl
      exact W.vret hx hb hr (fun t99 ht99 hW99 => ⟨⟨_, (w, (tp, (3 : Int32), J69, (B 33), op, sp, ht68, (nI ht68), S70, n71)), rfl, ⟨rfl, hz120, hz121, hz122, hz123, hz124, hO⟩, by rw [ht99]; exact hP, hD⟩, hS.F ht99⟩) hS.2.2 dX5_make_31
