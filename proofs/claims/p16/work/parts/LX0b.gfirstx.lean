set_option maxHeartbeats 2000000 in
set_option maxRecDepth 100000 in
theorem N_roleAt (l : Launch) (G : pT) (h0 : Nat) (a : Nat → Nat) (F : Nat → Int32) (R : Nat → Value) (Z : Int64) (B : Nat → Nat → Int32) (J : Nat → Nat → Int64) (T : Nat → Nat) (Pi : Nat → va_E → Prop) (w : va_W) (x : Int32) (sz : Nat) (hsz : sz ≤ 5000) (hO : OKW G h0 a (upd F 2 (nI sz)) R Z B J T Pi w) : PM l G pX0 yX10_roleAt cX10_roleAt 2 (some .int) ({ frames := 2, cells := 0, slots := 0, locals := 60 }) [.ref (a 1), .int x] w (fun (v : Option Value) (u : va_W × (Unit)) => v = some (.int (tkN (B 10) sz 0 x)) ∧ (OKW G h0 a (upd F 2 (nI sz)) R Z B J T Pi u.1)) (fun u => u.1) := by
  intro sz
  refine Met.ofW (cc := cX10_roleAt) (maxL := 2) (ret := (some .int)) (by decide) rfl ?_
  intro p e s m args below meth c s₁ B9 hml hv
  obtain ⟨rfl, hsz, hP, hD0, hE, hX⟩ := hv
  have hx := B9.exec
  have hb := B9.bytes
  have hr := B9.returns
  have hts := atoms_spec (ws := Cond.code yX10_roleAt cX10_roleAt 2 (some .int) :: pw) B9.pre
  have hq : ∀ w ∈ pw, w.before _ s = true := fun w h => hts w (List.mem_cons_of_mem _ h)
  have hown : s.vm.findClass RX10 = some m.cls := findClass_of_methodNamed B9.named
  have hlocks := B9.notSynchronized
  subst hsz
  have hD := hD0.self (sz := s.heap.size)
  have hA : ∀ q : Nat, s.heap.size ≤ q → va_A w s.heap.size q := fun q h => Or.inr h
  generalize va_A w s.heap.size = A at hD hE hA ⊢
  have hS : va_S A s.heap s.heap [] := va_S.rf
  have hl := lv_entry ([.ref (a 1), .int x]) (n := 2) (Nat.le_of_ble_eq_true rfl)
  rw [lg_entry_eq]
  generalize (lg_sl ([.ref (a 1), .int x]) ++ List.replicate (2 - (lg_sl ([.ref (a 1), .int x])).length) Slot.unset).toArray = ls at hl ⊢
  have hl : lv_has ls 2 [(0, .ref (a 1)), (1, .int x)] := hl
  refine lv_iload_n hx hb dX10_roleAt_0 rfl (lv_at hl 1 rfl) ?_
  refine lv_if_lt (tgt := 21) hx hb dX10_roleAt_1 (by decide) (fun c1 => ?_) (fun c1 => ?_)
  · refine lv_iconst (v := 0) hx hb dX10_roleAt_21 (by decide) ?_
    have hO : OKW G h0 a (upd F 2 (nI sz)) R Z B J T Pi w := hO.to rfl
    exact W.iret (v := 0) hx hb hr (fun t99 ht99 hW99 => ⟨⟨_, (w, ()), rfl, ⟨(congrArg (fun z => some (Value.int z)) (tkN_out (Or.inl c1)).symm), hO⟩, by rw [ht99]; exact hP, hD⟩, hS.F ht99⟩) hS.2.2 dX10_roleAt_22
  · obtain ⟨t9, ht_t9, hb_t9⟩ := nI_nn2 c1
    rw [ht_t9] at hl
    refine lv_iload_n hx hb dX10_roleAt_4 rfl (lv_at hl 1 rfl) ?_
    refine lv_aload_n hx hb dX10_roleAt_5 rfl (lv_at hl 0 rfl) ?_
    refine c_get (v := .int (nI sz)) (C := RX10) (Tc := TX10) (N := 15) (ci := 7) hx hb hq pin_wsX100 hown hE hP hO 2 (sg_2 G h0 a _ _ _ _ _) rfl 8 (by decide) (hq _ pw_37) (fun _ h9 => h9) rfl dX10_roleAt_6 ?_
    refine lv_icmp_ge (tgt := 21) hx hb dX10_roleAt_9 (by decide) (fun c2 => ?_) (fun c2 => ?_)
    · have n3 : sz ≤ t9 := (nI_leI (a := sz) (b := t9) (by omega) (by omega)).mp c2
      refine lv_iconst (v := 0) hx hb dX10_roleAt_21 (by decide) ?_
      have hO : OKW G h0 a (upd F 2 (nI sz)) R Z B J T Pi w := hO.to rfl
      exact W.iret (v := 0) hx hb hr (fun t99 ht99 hW99 => ⟨⟨_, (w, ()), rfl, ⟨(congrArg (fun z => some (Value.int z)) (by rw [ht_t9]; exact (tkN_out (Or.inr c2)).symm)), hO⟩, by rw [ht99]; exact hP, hD⟩, hS.F ht99⟩) hS.2.2 dX10_roleAt_22
    · have n4 : ¬ (sz ≤ t9) := fun h9 => c2 ((nI_leI (a := sz) (b := t9) (by omega) (by omega)).mpr h9)
      refine lv_aload_n hx hb dX10_roleAt_12 rfl (lv_at hl 0 rfl) ?_
      refine c_get (v := .ref (a 10)) (C := RX10) (Tc := TX10) (N := 15) (ci := 7) hx hb hq pin_wsX100 hown hE hP hO 2 (sg_2 G h0 a _ _ _ _ _) rfl 6 (by decide) (hq _ pw_820) (fun _ h9 => h9) rfl dX10_roleAt_13 ?_
      refine lv_iload_n hx hb dX10_roleAt_16 rfl (lv_at hl 1 rfl) ?_
      refine c_ldb (f := (B 10)) (n := 5000) (t0 := 1) hx hb hE hP hO 7 (sg_7 G h0 a _ _ _ _ _) rfl (vp_in_nI (by omega) (by decide)) dX10_roleAt_17 ?_
      rw [(nI_clamp (show t9 < 2 ^ 31 by omega))]
      refine lv_goto (tgt := 22) hx hb dX10_roleAt_18 (by decide) ?_
      have hO : OKW G h0 a (upd F 2 (nI sz)) R Z B J T Pi w := hO.to rfl
      exact W.iret (v := ((B 10) t9)) hx hb hr (fun t99 ht99 hW99 => ⟨⟨_, (w, ()), rfl, ⟨(congrArg (fun z => some (Value.int z)) (by rw [ht_t9]; exact (tkN_in (by omega) (by omega)).symm)), hO⟩, by rw [ht99]; exact hP, hD⟩, hS.F ht99⟩) hS.2.2 dX10_roleAt_22
set_option maxHeartbeats 6000000 in
set_option maxRecDepth 100000 in
theorem N_find (l : Launch) (G : pT) (h0 : Nat) (a : Nat → Nat) (F : Nat → Int32) (R : Nat → Value) (Z : Int64) (B : Nat → Nat → Int32) (J : Nat → Nat → Int64) (K : PK) (w : va_W) (pq : Nat) (dr : Nat) (ml : Nat) (nd : Nat) (x : Int32) (g : Nat → Nat → Nat) (hpb : PgB K g (a 1) pq dr ml nd) (hdc : DcR K g dr nd) (hO : OKP G h0 a F R Z B J K w) : PM l G pX0 yX9_find cX9_find 3 (some .int) ({ frames := 2, cells := 0, slots := 0, locals := 60 }) [.ref pq, .int x] w (fun (v : Option Value) (u : va_W × (Int32)) => v = some (.int u.2) ∧ (FdX K dr nd x u.2) ∧ (OKP G h0 a F R Z B J K u.1)) (fun u => u.1) := by
  intro sz
  refine Met.ofW (cc := cX9_find) (maxL := 3) (ret := (some .int)) (by decide) rfl ?_
  intro p e s m args below meth c s₁ B9 hml hv
  obtain ⟨rfl, hsz, hP, hD0, hE, hX⟩ := hv
  have hx := B9.exec
  have hb := B9.bytes
  have hr := B9.returns
  have hts := atoms_spec (ws := Cond.code yX9_find cX9_find 3 (some .int) :: pw) B9.pre
  have hq : ∀ w ∈ pw, w.before _ s = true := fun w h => hts w (List.mem_cons_of_mem _ h)
  have hown : s.vm.findClass RX9 = some m.cls := findClass_of_methodNamed B9.named
  have hlocks := B9.notSynchronized
  subst hsz
  have hD := hD0.self (sz := s.heap.size)
  have hA : ∀ q : Nat, s.heap.size ≤ q → va_A w s.heap.size q := fun q h => Or.inr h
  generalize va_A w s.heap.size = A at hD hE hA ⊢
  have hS : va_S A s.heap s.heap [] := va_S.rf
  have hl := lv_entry ([.ref pq, .int x]) (n := 3) (Nat.le_of_ble_eq_true rfl)
  rw [lg_entry_eq]
  generalize (lg_sl ([.ref pq, .int x]) ++ List.replicate (3 - (lg_sl ([.ref pq, .int x])).length) Slot.unset).toArray = ls at hl ⊢
  have hl : lv_has ls 3 [(0, .ref pq), (1, .int x)] := hl
  have hp1 := hpb.1
  have hp2 := hpb.2.1
  have hp3 := hpb.2.2.1
  have hp4 := hpb.2.2.2.1
  have hp5 := hpb.2.2.2.2.1
  have hp6 := hpb.2.2.2.2.2.1
  have hp8 := hpb.2.2.2.2.2.2.2.1
  have hp9 := hpb.2.2.2.2.2.2.2.2
  refine lv_iconst (v := 0) hx hb dX9_find_0 (by decide) ?_
  refine lv_istore_n (lv' := [(2, .int 0), (0, .ref pq), (1, .int x)]) hx hb dX9_find_1 rfl hl (by decide) rfl (fun ls hl => ?_)
  have loop_i : ∀ (n_i : Nat) (i2 : Nat) (H : Heap) (locs : List Loc) (ls : Array Slot) (w : va_W), i2 ≤ nd → nd + 1 ≤ i2 + n_i → (∀ j e : Nat, j < i2 → K.2.2.2.2.1 dr j = some e → ¬ K.2.1 16 e = x) → va_P G.1 pCl w H → va_D A w → va_S A s.heap H locs → OKP G h0 a F R Z B J K w → lv_has ls 3 [(2, .int (nI i2)), (1, .int x), (0, .ref pq)] → W p l e (headSpec (Cond.code yX9_find cX9_find 3 (some .int) :: pw) ({ frames := 2, cells := 0, slots := 0, locals := 60 } : Room)).room s m ([.ref pq, .int x] : List Value).toArray below meth c H locs 0 0 (MQ below (pQ G A (fun (v : Option Value) (u : va_W × (Int32)) => v = some (.int u.2) ∧ (FdX K dr nd x u.2) ∧ (OKP G h0 a F R Z B J K u.1)) (fun u => u.1)) ([.ref pq, .int x] : List Value).toArray s ({ frames := 2, cells := 0, slots := 0, locals := 60 } : Room).cells ({ frames := 2, cells := 0, slots := 0, locals := 60 } : Room).slots A) (F0 m 2 ls []) := by
    intro n_i
    induction n_i with
    | zero => intro i2 H locs ls w hk_i hn_i; omega
    | succ n_i ih_i =>
      intro i2 H locs ls w hk_i hn_i hal hP hD hS hO hl
      have hp1 := hpb.1
      have hp2 := hpb.2.1
      have hp3 := hpb.2.2.1
      have hp4 := hpb.2.2.2.1
      have hp5 := hpb.2.2.2.2.1
      have hp6 := hpb.2.2.2.2.2.1
      have hp8 := hpb.2.2.2.2.2.2.2.1
      have hp9 := hpb.2.2.2.2.2.2.2.2
      refine lv_iload_n hx hb dX9_find_2 rfl (lv_at hl 0 rfl) ?_
      refine lv_aload_n hx hb dX9_find_3 rfl (lv_at hl 2 rfl) ?_
      refine p_get (v := .int (nI nd)) (C := RX9) (Tc := TX9) (N := 5) (ci := 6) hx hb hq pin_wsX90 hown hE hP hO (by rw [hp1]; decide) (rep_7 hp1) rfl 2 (by decide) (hq _ pw_14) (fun _ h9 => h9) (congrArg (fun z => some (Value.int z)) hp8) dX9_find_4 ?_
      refine lv_icmp_ge (tgt := 31) hx hb dX9_find_7 (by decide) (fun c1 => ?_) (fun c1 => ?_)
      · have n2 : nd ≤ i2 := (nI_leI (a := nd) (b := i2) (by omega) (by omega)).mp c1
        refine lv_iconst (v := (-1)) hx hb dX9_find_31 (by decide) ?_
        have hz3 : FdX K dr nd x ((-1) : Int32) := (Or.inl ⟨rfl, fun k d hk => hal k d (by omega)⟩)
        have hO : OKP G h0 a F R Z B J K w := hO.to rfl
        exact W.iret (v := (-1)) hx hb hr (fun t99 ht99 hW99 => ⟨⟨_, (w, ((-1) : Int32)), rfl, ⟨rfl, hz3, hO⟩, by rw [ht99]; exact hP, hD⟩, hS.F ht99⟩) hS.2.2 dX9_find_32
      · have n4 : ¬ (nd ≤ i2) := fun h9 => c1 ((nI_leI (a := nd) (b := i2) (by omega) (by omega)).mpr h9)
        refine lv_aload_n hx hb dX9_find_10 rfl (lv_at hl 2 rfl) ?_
        refine p_get (v := .ref dr) (C := RX9) (Tc := TX9) (N := 5) (ci := 6) hx hb hq pin_wsX90 hown hE hP hO (by rw [hp1]; decide) (rep_7 hp1) rfl 1 (by decide) (hq _ pw_15) (fun _ h9 => h9) (congrArg (fun z => some (va_rf z)) hp3) dX9_find_11 ?_
        refine lv_iload_n hx hb dX9_find_14 rfl (lv_at hl 0 rfl) ?_
        refine p_ald8 hx hb hE hP hO hp4 (vp_in_nI (by omega) (by omega)) dX9_find_15 ?_
        rw [nI_clamp (show i2 < 2 ^ 31 by omega)]
        obtain ⟨d5, hd6, hd7, hd8, hd9⟩ := hdc i2 (by omega)
        rw [hd6]
        refine W.eq (g2 := F0 m 16 ls [.ref d5]) rfl ?_
        refine p_get (v := .int (K.2.1 16 d5)) (C := RX2) (Tc := TX2) (N := 13) (ci := 2) hx hb hq pin_wsX20 hown hE hP hO (by rw [hd7]; decide) (rep_4 hd7) rfl 1 (by decide) (hq _ pw_510) (fun _ h9 => h9) rfl dX9_find_16 ?_
        refine lv_iload_n hx hb dX9_find_19 rfl (lv_at hl 1 rfl) ?_
        refine lv_icmp_ne (tgt := 25) hx hb dX9_find_20 (by decide) (fun c10 => ?_) (fun c10 => ?_)
        · refine lv_iinc (v := (nI (i2 + 1))) (lv' := [(2, .int (nI (i2 + 1))), (1, .int x), (0, .ref pq)]) hx hb dX9_find_25 hl (k := 0) rfl (nI_1 i2) (by decide) rfl (fun ls hl => ?_)
          refine lv_goto (tgt := 2) hx hb dX9_find_28 (by decide) ?_
          have hO : OKP G h0 a F R Z B J K w := hO.to rfl
          exact ih_i (i2 + 1) _ _ _ _ (by omega) (by omega) (alJ hal (fun e h2 => by cases hd6.symm.trans h2; exact c10)) hP hD hS hO (lv_sub hl [0, 1, 2] rfl)
        · refine lv_iload_n hx hb dX9_find_23 rfl (lv_at hl 0 rfl) ?_
          have hz11 : FdX K dr nd x (nI i2) := (Or.inr ⟨i2, d5, by omega, rfl, hd6, c10, hal⟩)
          have hO : OKP G h0 a F R Z B J K w := hO.to rfl
          exact W.iret (v := (nI i2)) hx hb hr (fun t99 ht99 hW99 => ⟨⟨_, (w, (nI i2)), rfl, ⟨rfl, hz11, hO⟩, by rw [ht99]; exact hP, hD⟩, hS.F ht99⟩) hS.2.2 dX9_find_24
  have hO : OKP G h0 a F R Z B J K w := hO.to rfl
  exact loop_i (nd + 1) 0 _ _ _ _ (by omega) (by omega) (fun j e h => absurd h (by omega)) hP hD hS hO (lv_sub hl [0, 2, 1] rfl)
set_option maxHeartbeats 16000000 in
set_option maxRecDepth 100000 in
theorem N_report (l : Launch) (G : pT) (h0 : Nat) (a : Nat → Nat) (F : Nat → Int32) (R : Nat → Value) (Z : Int64) (B : Nat → Nat → Int32) (J : Nat → Nat → Int64) (K : PK) (w : va_W) (pq : Nat) (dr : Nat) (ml : Nat) (nd : Nat) (nm : Nat) (cp : Nat) (it : Nat → Nat) (s9 : Nat) (x1 : Int32) (x2 : Int32) (sz : Nat) (g : Nat → Nat → Nat) (hsz : sz ≤ 5000) (hwp : WPr G K g) (hps : PgT G K g (a 1) pq dr ml nd nm cp it s9) (hO : OKP G h0 a (upd F 2 (nI sz)) R Z B J K w) : PM l G pX0 yX9_report cX9_report 3 none ({ frames := 3, cells := 0, slots := 0, locals := 81 }) [.ref pq, .int x1, .int x2] w (fun (v : Option Value) (u : va_W × (PK)) => v = none ∧ (LgK K u.2 pq) ∧ (RpX x1 u.2 pq) ∧ (OKP G h0 a (upd F 2 (nI sz)) R Z B J u.2 u.1)) (fun u => u.1) := by
  intro sz
  refine Met.ofW (cc := cX9_report) (maxL := 3) (ret := none) (by decide) rfl ?_
  intro p e s m args below meth c s₁ B9 hml hv
  obtain ⟨rfl, hsz, hP, hD0, hE, hX⟩ := hv
  have hx := B9.exec
  have hb := B9.bytes
  have hr := B9.returns
  have hts := atoms_spec (ws := Cond.code yX9_report cX9_report 3 none :: pw) B9.pre
  have hq : ∀ w ∈ pw, w.before _ s = true := fun w h => hts w (List.mem_cons_of_mem _ h)
  have hown : s.vm.findClass RX9 = some m.cls := findClass_of_methodNamed B9.named
  have hlocks := B9.notSynchronized
  subst hsz
  have hD := hD0.self (sz := s.heap.size)
  have hA : ∀ q : Nat, s.heap.size ≤ q → va_A w s.heap.size q := fun q h => Or.inr h
  generalize va_A w s.heap.size = A at hD hE hA ⊢
  have hS : va_S A s.heap s.heap [] := va_S.rf
  have hl := lv_entry ([.ref pq, .int x1, .int x2]) (n := 3) (Nat.le_of_ble_eq_true rfl)
  rw [lg_entry_eq]
  generalize (lg_sl ([.ref pq, .int x1, .int x2]) ++ List.replicate (3 - (lg_sl ([.ref pq, .int x1, .int x2])).length) Slot.unset).toArray = ls at hl ⊢
  have hl : lv_has ls 3 [(0, .ref pq), (1, .int x1), (2, .int x2)] := hl
  have hp1 := hps.1.1
  have hp2 := hps.1.2.1
  have hp3 := hps.1.2.2.1
  have hp4 := hps.1.2.2.2.1
  have hp5 := hps.1.2.2.2.2.1
  have hp6 := hps.1.2.2.2.2.2.1
  have hp8 := hps.1.2.2.2.2.2.2.2.1
  have hp9 := hps.1.2.2.2.2.2.2.2.2
  refine lv_aload_n hx hb dX9_report_0 rfl (lv_at hl 0 rfl) ?_
  refine lv_aload_n hx hb dX9_report_1 rfl (lv_at hl 0 rfl) ?_
  refine p_get (v := .int (K.2.1 25 pq)) (C := RX9) (Tc := TX9) (N := 5) (ci := 6) hx hb hq pin_wsX90 hown hE hP hO (by rw [hp1]; decide) (rep_7 hp1) rfl 4 (by decide) (hq _ pw_1080) (fun _ h9 => h9) rfl dX9_report_2 ?_
  refine lv_iload_n hx hb dX9_report_5 rfl (lv_at hl 1 rfl) ?_
  refine lv_bipush (v := 16) hx hb dX9_report_6 (by decide) ?_
  refine lv_aload_n hx hb dX9_report_8 rfl (lv_at hl 0 rfl) ?_
  refine p_get (v := .ref (a 1)) (C := RX9) (Tc := TX9) (N := 5) (ci := 6) hx hb hq pin_wsX90 hown hE hP hO (by rw [hp1]; decide) (rep_7 hp1) rfl 0 (by decide) (hq _ pw_784) (fun _ h9 => h9) (congrArg (fun z => some (va_rf z)) hp2) dX9_report_9 ?_
  refine lv_iload_n hx hb dX9_report_12 rfl (lv_at hl 2 rfl) ?_
  have hO : OKW G h0 a (upd (upd F 2 (nI sz)) 2 (nI sz)) R Z B J K.1 (fun q99 x99 => x99 = rep G a K q99) w := hO.to rfl
  obtain ⟨_, qr4, hqr5⟩ := hO.2.1 2 _ (sg_2 G h0 a _ _ _ _ _)
  refine pc_V0 (G := G) (As := [.int x2]) (rest := [.int 16, .int x1, .int (K.2.1 25 pq), .ref pq]) hx hb hml hown hq hE hX pX0_al hP hD hS hA hl.1 (K_placeAt l G h0 a (upd F 2 (nI sz)) R Z B J K.1 (fun q99 x99 => x99 = rep G a K q99) w x2 sz (by omega) hO) (gV pw_1086 pw_1087 pw_1088 pw_59 pw_1083) hV_X10_placeAt qr4 7 hqr5 rfl rfl rfl (Nat.le_of_ble_eq_true rfl) dX9_report_13 ⟨Nat.le_of_ble_eq_true rfl, Nat.le_of_ble_eq_true rfl⟩ ⟨Nat.le_of_ble_eq_true rfl, Nat.le_of_ble_eq_true rfl⟩ (fun v3 u1 H locs hw2 hP hD hS => ?_)
  obtain ⟨w, r6⟩ := u1
  obtain ⟨hw2, hO⟩ := hw2
  obtain rfl : v3 = some (.int r6) := hw2
  have hO : OKP G h0 a (upd F 2 (nI sz)) R Z B J K w := hO.to rfl
  refine W.widen (k := 0) (n := 0) (Nat.le_of_ble_eq_true rfl) (Nat.le_of_ble_eq_true rfl) ?_
  refine W.eq (g2 := F0 m 16 ls [.int r6, .int 16, .int x1, .int (K.2.1 25 pq), .ref pq]) rfl ?_
  refine lv_imul hx hb dX9_report_16 ?_
  refine lv_topi (fun x7 e8 => ?_)
  refine lv_iadd hx hb dX9_report_17 ?_
  refine lv_topi (fun x9 e10 => ?_)
  refine va_mmin (own := RX9) hx hb (by rw [hml]; exact hl.1.symm) hown (hq _ pw_1085) (hq _ pw_420) (hq _ pw_52) (hq _ pw_421) (Nat.le_of_ble_eq_true rfl) (Nat.le_of_ble_eq_true rfl) (Nat.le_of_ble_eq_true rfl) (Nat.le_of_ble_eq_true rfl) dX9_report_18 ?_
  refine lv_topi (fun x11 e12 => ?_)
  refine p_put (v := .int x11) (ty := .int) (C := RX9) (Tc := TX9) (N := 5) (ci := 6) (K' := (kI K 25 pq x11)) hx hb hq pin_wsX90 tyX9 tyX9_ok nmX9 hown hE hP hD hS hO (by rw [hp1]; decide) (rep_7 hp1) rfl 4 (by decide) (hq _ pw_1080) (fun _ h9 => h9) rfl (by decide +kernel) rfl rfl (Nat.le_of_ble_eq_true rfl) rfl (by rw [rep_7 (show (kI K 25 pq x11).1 pq = 7 from hp1), pi_25] <;> rfl) (fun p9 hp9 => rep_kI hp9) dX9_report_21 (fun H locs w hP hD hS hO => ?_)
  obtain ⟨K13, hK14⟩ : ∃ z : PK, z = (kI K 25 pq x11) := ⟨_, rfl⟩
  rw [← hK14] at hO
  have hf15 : K13.1 pq = 7 := (by rw [hK14]; exact hp1)
  have hf16 : K13.2.2.1 18 pq = some (a 1) := (by rw [hK14]; exact hp2)
  have hf17 : K13.2.2.1 14 pq = some dr := (by rw [hK14]; exact hp3)
  have hf18 : K13.1 dr = 8 := (by rw [hK14]; exact hp4)
  have hf19 : K13.2.2.1 15 pq = some ml := (by rw [hK14]; exact hp5)
  have hf20 : K13.1 ml = 5 := (by rw [hK14]; exact hp6)
  have hf21 : K13.2.1 24 pq = (nI nd) := (by rw [hK14]; exact (kI_of (by decide)).trans hp8)
  have hf22 : K13.2.1 25 pq = x11 := by rw [hK14]; exact kI_eq
  have hz23 : LgK K K13 pq := ⟨_, hK14⟩
  have hz24 : RpX x1 K13 pq := (fun h6 => by show ¬ K13.2.1 25 pq = 2147483647; rw [hK14, kI_eq]; exact min_rep h6 e8 e10 e12)
  have hO : OKP G h0 a (upd F 2 (nI sz)) R Z B J K13 w := hO.to rfl
  exact W.vret hx hb hr (fun t99 ht99 hW99 => ⟨⟨_, (w, K13), rfl, ⟨rfl, hz23, hz24, hO⟩, by rw [ht99]; exact hP, hD⟩, hS.F ht99⟩) hS.2.2 dX9_report_24
set_option maxHeartbeats 16000000 in
set_option maxRecDepth 100000 in
theorem N_judgeAboveName (l : Launch) (G : pT) (h0 : Nat) (a : Nat → Nat) (F : Nat → Int32) (R : Nat → Value) (Z : Int64) (B : Nat → Nat → Int32) (J : Nat → Nat → Int64) (K : PK) (w : va_W) (pq : Nat) (dr : Nat) (ml : Nat) (nd : Nat) (nm : Nat) (cp : Nat) (it : Nat → Nat) (s9 : Nat) (x1 : Int32) (x2 : Int32) (sz : Nat) (g : Nat → Nat → Nat) (hsz : sz ≤ 5000) (hwp : WPr G K g) (hps : PgT G K g (a 1) pq dr ml nd nm cp it s9) (hO : OKP G h0 a (upd F 2 (nI sz)) R Z B J K w) : PM l G pX0 yX9_judgeAboveName cX9_judgeAboveName 4 none ({ frames := 4, cells := 0, slots := 0, locals := 103 }) [.ref pq, .int x1, .int x2] w (fun (v : Option Value) (u : va_W × (PK)) => v = none ∧ (LgK K u.2 pq) ∧ (Cln u.2 pq → Cln K pq ∧ (NmI K dr nd (B 9) sz x1 x2)) ∧ (OKP G h0 a (upd F 2 (nI sz)) R Z B J u.2 u.1)) (fun u => u.1) := by
  intro sz
  refine Met.ofW (cc := cX9_judgeAboveName) (maxL := 4) (ret := none) (by decide) rfl ?_
  intro p e s m args below meth c s₁ B9 hml hv
  obtain ⟨rfl, hsz, hP, hD0, hE, hX⟩ := hv
  have hx := B9.exec
  have hb := B9.bytes
  have hr := B9.returns
  have hts := atoms_spec (ws := Cond.code yX9_judgeAboveName cX9_judgeAboveName 4 none :: pw) B9.pre
  have hq : ∀ w ∈ pw, w.before _ s = true := fun w h => hts w (List.mem_cons_of_mem _ h)
  have hown : s.vm.findClass RX9 = some m.cls := findClass_of_methodNamed B9.named
  have hlocks := B9.notSynchronized
  subst hsz
  have hD := hD0.self (sz := s.heap.size)
  have hA : ∀ q : Nat, s.heap.size ≤ q → va_A w s.heap.size q := fun q h => Or.inr h
  generalize va_A w s.heap.size = A at hD hE hA ⊢
  have hS : va_S A s.heap s.heap [] := va_S.rf
  have hl := lv_entry ([.ref pq, .int x1, .int x2]) (n := 4) (Nat.le_of_ble_eq_true rfl)
  rw [lg_entry_eq]
  generalize (lg_sl ([.ref pq, .int x1, .int x2]) ++ List.replicate (4 - (lg_sl ([.ref pq, .int x1, .int x2])).length) Slot.unset).toArray = ls at hl ⊢
  have hl : lv_has ls 4 [(0, .ref pq), (1, .int x1), (2, .int x2)] := hl
  have hp1 := hps.1.1
  have hp2 := hps.1.2.1
  have hp3 := hps.1.2.2.1
  have hp4 := hps.1.2.2.2.1
  have hp5 := hps.1.2.2.2.2.1
  have hp6 := hps.1.2.2.2.2.2.1
  have hp8 := hps.1.2.2.2.2.2.2.2.1
  have hp9 := hps.1.2.2.2.2.2.2.2.2
  refine lv_aload_n hx hb dX9_judgeAboveName_0 rfl (lv_at hl 0 rfl) ?_
  refine lv_aload_n hx hb dX9_judgeAboveName_1 rfl (lv_at hl 0 rfl) ?_
  refine lv_aload_n hx hb dX9_judgeAboveName_2 rfl (lv_at hl 0 rfl) ?_
  refine p_get (v := .ref (a 1)) (C := RX9) (Tc := TX9) (N := 5) (ci := 6) hx hb hq pin_wsX90 hown hE hP hO (by rw [hp1]; decide) (rep_7 hp1) rfl 0 (by decide) (hq _ pw_784) (fun _ h9 => h9) (congrArg (fun z => some (va_rf z)) hp2) dX9_judgeAboveName_3 ?_
  refine lv_iload_n hx hb dX9_judgeAboveName_6 rfl (lv_at hl 1 rfl) ?_
  have hO : OKW G h0 a (upd (upd F 2 (nI sz)) 2 (nI sz)) R Z B J K.1 (fun q99 x99 => x99 = rep G a K q99) w := hO.to rfl
  obtain ⟨_, qr4, hqr5⟩ := hO.2.1 2 _ (sg_2 G h0 a _ _ _ _ _)
  refine pc_V0 (G := G) (As := [.int x1]) (rest := [.ref pq, .ref pq]) hx hb hml hown hq hE hX pX0_al hP hD hS hA hl.1 (Y_valueAt l G h0 a (upd F 2 (nI sz)) R Z B J K.1 (fun q99 x99 => x99 = rep G a K q99) w x1 sz (by omega) hO) (gV pw_785 pw_57 pw_58 pw_59 pw_39) hV_X10_valueAt qr4 7 hqr5 rfl rfl rfl (Nat.le_of_ble_eq_true rfl) dX9_judgeAboveName_7 ⟨Nat.le_of_ble_eq_true rfl, Nat.le_of_ble_eq_true rfl⟩ ⟨Nat.le_of_ble_eq_true rfl, Nat.le_of_ble_eq_true rfl⟩ (fun v3 u1 H locs hw2 hP hD hS => ?_)
  obtain ⟨w, _⟩ := u1
  obtain ⟨hw2, hO⟩ := hw2
  obtain rfl : v3 = some (.int (tkN ((B 9)) sz (-1) x1)) := hw2
  have hO : OKP G h0 a (upd F 2 (nI sz)) R Z B J K w := hO.to rfl
  refine W.widen (k := 0) (n := 0) (Nat.le_of_ble_eq_true rfl) (Nat.le_of_ble_eq_true rfl) ?_
  refine W.eq (g2 := F0 m 10 ls [.int (tkN ((B 9)) sz (-1) x1), .ref pq, .ref pq]) rfl ?_
  have hO : OKP G h0 a (upd F 2 (nI sz)) R Z B J K w := hO.to rfl
  obtain ⟨qr9, hqr10⟩ := p_recv hO (by rw [hp1]; decide) (rep_7 hp1)
  refine pc_V0 (G := G) (As := [.int (tkN ((B 9)) sz (-1) x1)]) (rest := [.ref pq]) hx hb hml hown hq hE hX pX0_al hP hD hS hA hl.1 (N_find l G h0 a (upd F 2 (nI sz)) R Z B J K w pq dr ml nd (tkN ((B 9)) sz (-1) x1) g hps.1 hps.2.1 hO) (gV pw_1102 pw_585 pw_586 pw_106 pw_509) hV_X9_find qr9 6 hqr10 rfl rfl rfl (Nat.le_of_ble_eq_true rfl) dX9_judgeAboveName_10 ⟨Nat.le_of_ble_eq_true rfl, Nat.le_of_ble_eq_true rfl⟩ ⟨Nat.le_of_ble_eq_true rfl, Nat.le_of_ble_eq_true rfl⟩ (fun v8 u6 H locs hw7 hP hD hS => ?_)
  obtain ⟨w, r11⟩ := u6
  obtain ⟨hw7, h12, hO⟩ := hw7
  have h12 : FdX K dr nd (tkN ((B 9)) sz (-1) x1) r11 := h12
  obtain rfl : v8 = some (.int r11) := hw7
  have hO : OKP G h0 a (upd F 2 (nI sz)) R Z B J K w := hO.to rfl
  refine W.widen (k := 0) (n := 0) (Nat.le_of_ble_eq_true rfl) (Nat.le_of_ble_eq_true rfl) ?_
  refine W.eq (g2 := F0 m 13 ls [.int r11, .ref pq]) rfl ?_
  have hO : OKP G h0 a (upd F 2 (nI sz)) R Z B J K w := hO.to rfl
  obtain ⟨qr16, hqr17⟩ := p_recv hO (by rw [hp1]; decide) (rep_7 hp1)
  refine pc_V0 (G := G) (As := [.int r11]) (rest := []) hx hb hml hown hq hE hX pX0_al hP hD hS hA hl.1 (G_decl l G h0 a (upd F 2 (nI sz)) R Z B J K w pq dr ml nd r11 g hps.1 hps.2.1 hO) (gV pw_1103 pw_182 pw_183 pw_106 pw_13) hV_X9_decl qr16 6 hqr17 rfl rfl rfl (Nat.le_of_ble_eq_true rfl) dX9_judgeAboveName_13 ⟨Nat.le_of_ble_eq_true rfl, Nat.le_of_ble_eq_true rfl⟩ ⟨Nat.le_of_ble_eq_true rfl, Nat.le_of_ble_eq_true rfl⟩ (fun v15 u13 H locs hw14 hP hD hS => ?_)
  obtain ⟨w, o18⟩ := u13
  obtain ⟨hw14, h19, h20, hO⟩ := hw14
  have h19 : DoN K o18 := h19
  have h20 : DoK K dr nd r11 o18 := h20
  obtain rfl : v15 = some ((va_rf o18)) := hw14
  have hO : OKP G h0 a (upd F 2 (nI sz)) R Z B J K w := hO.to rfl
  refine W.widen (k := 0) (n := 0) (Nat.le_of_ble_eq_true rfl) (Nat.le_of_ble_eq_true rfl) ?_
  refine W.eq (g2 := F0 m 16 ls [(va_rf o18)]) rfl ?_
  rcases o18 with _ | d21
  · have hl : lv_has ls 4 [(0, .ref pq), (1, .int x1), (2, .int x2)] := hl
    refine W.eq (g2 := F0 m 16 ls [.null]) rfl ?_
    refine lv_astore_nN (lv' := [(3, .null), (0, .ref pq), (1, .int x1), (2, .int x2)]) hx hb dX9_judgeAboveName_16 rfl hl (by decide) rfl (fun ls hl => ?_)
    refine lv_aload_nN hx hb dX9_judgeAboveName_17 rfl (lv_at hl 0 rfl) ?_
    refine lv_ifnonnullN hx hb dX9_judgeAboveName_18 ?_
    refine lv_aload_n hx hb dX9_judgeAboveName_21 rfl (lv_at hl 1 rfl) ?_
    refine lv_iconst (v := 4) hx hb dX9_judgeAboveName_22 (by decide) ?_
    refine lv_iload_n hx hb dX9_judgeAboveName_23 rfl (lv_at hl 2 rfl) ?_
    have hO : OKP G h0 a (upd (upd F 2 (nI sz)) 2 (nI sz)) R Z B J K w := hO.to rfl
    obtain ⟨qr25, hqr26⟩ := p_recv hO (by rw [hp1]; decide) (rep_7 hp1)
    refine pc_V0 (G := G) (As := [.int 4, .int x1]) (rest := []) hx hb hml hown hq hE hX pX0_al hP hD hS hA hl.1 (N_report l G h0 a (upd F 2 (nI sz)) R Z B J K w pq dr ml nd nm cp it s9 4 x1 sz g (by omega) hwp hps hO) (gV pw_1096 pw_1097 pw_1098 pw_106 pw_1084) hV_X9_report qr25 6 hqr26 rfl rfl rfl (Nat.le_of_ble_eq_true rfl) dX9_judgeAboveName_24 ⟨Nat.le_of_ble_eq_true rfl, Nat.le_of_ble_eq_true rfl⟩ ⟨Nat.le_of_ble_eq_true rfl, Nat.le_of_ble_eq_true rfl⟩ (fun v24 u22 H locs hw23 hP hD hS => ?_)
    obtain ⟨w, K27⟩ := u22
    obtain ⟨hw23, h28, h29, hO⟩ := hw23
    have h28 : LgK K K27 pq := h28
    have h29 : RpX 4 K27 pq := h29
    obtain rfl : v24 = none := hw23
    have hO : OKP G h0 a (upd F 2 (nI sz)) R Z B J K27 w := hO.to rfl
    refine W.widen (k := 0) (n := 0) (Nat.le_of_ble_eq_true rfl) (Nat.le_of_ble_eq_true rfl) ?_
    refine W.eq (g2 := F0 m 27 ls []) rfl ?_
    have hlg30 : LgK K K27 pq := LgK.trans LgK.rfl h28
    have hm31 : Cln K27 pq → Cln K pq := fun z => absurd z (h29 (by decide))
    refine lv_goto (tgt := 44) hx hb dX9_judgeAboveName_27 (by decide) ?_
    have hz32 : LgK K K27 pq := hlg30
    have hz33 : Cln K27 pq → Cln K pq ∧ (NmI K dr nd (B 9) sz x1 x2) := (fun z => absurd z (h29 (by decide)))
    have hO : OKP G h0 a (upd F 2 (nI sz)) R Z B J K27 w := hO.to rfl
    exact W.vret hx hb hr (fun t99 ht99 hW99 => ⟨⟨_, (w, K27), rfl, ⟨rfl, hz32, hz33, hO⟩, by rw [ht99]; exact hP, hD⟩, hS.F ht99⟩) hS.2.2 dX9_judgeAboveName_44
  · have hl : lv_has ls 4 [(0, .ref pq), (1, .int x1), (2, .int x2)] := hl
    refine W.eq (g2 := F0 m 16 ls [.ref d21]) rfl ?_
    have hf34 : K.1 d21 = 4 := h19 d21 rfl
    obtain ⟨kF, hkF, hxF, heF⟩ := h20 d21 rfl
    refine lv_astore_n (lv' := [(3, .ref d21), (0, .ref pq), (1, .int x1), (2, .int x2)]) hx hb dX9_judgeAboveName_16 rfl hl (by decide) rfl (fun ls hl => ?_)
    refine lv_aload_n hx hb dX9_judgeAboveName_17 rfl (lv_at hl 0 rfl) ?_
    refine lv_ifnonnull (tgt := 30) hx hb dX9_judgeAboveName_18 (by decide) ?_
    refine lv_aload_n hx hb dX9_judgeAboveName_30 rfl (lv_at hl 0 rfl) ?_
    refine p_get (v := .int (K.2.1 18 d21)) (C := RX2) (Tc := TX2) (N := 13) (ci := 2) hx hb hq pin_wsX20 hown hE hP hO (by rw [hf34]; decide) (rep_4 hf34) rfl 3 (by decide) (hq _ pw_1101) (fun _ h9 => h9) rfl dX9_judgeAboveName_31 ?_
    refine lv_iload_n hx hb dX9_judgeAboveName_34 rfl (lv_at hl 3 rfl) ?_
    refine lv_icmp_eq (tgt := 44) hx hb dX9_judgeAboveName_35 (by decide) (fun c35 => ?_) (fun c35 => ?_)
    · have hz36 : LgK K K pq := LgK.rfl
      have hz37 : Cln K pq → Cln K pq ∧ (NmI K dr nd (B 9) sz x1 x2) := (fun z => ⟨z, ⟨kF, d21, hkF, hxF ▸ h12, heF, c35⟩⟩)
      have hO : OKP G h0 a (upd F 2 (nI sz)) R Z B J K w := hO.to rfl
      exact W.vret hx hb hr (fun t99 ht99 hW99 => ⟨⟨_, (w, K), rfl, ⟨rfl, hz36, hz37, hO⟩, by rw [ht99]; exact hP, hD⟩, hS.F ht99⟩) hS.2.2 dX9_judgeAboveName_44
    · refine lv_aload_n hx hb dX9_judgeAboveName_38 rfl (lv_at hl 1 rfl) ?_
      refine lv_iconst (v := 5) hx hb dX9_judgeAboveName_39 (by decide) ?_
      refine lv_iload_n hx hb dX9_judgeAboveName_40 rfl (lv_at hl 2 rfl) ?_
      have hO : OKP G h0 a (upd (upd F 2 (nI sz)) 2 (nI sz)) R Z B J K w := hO.to rfl
      obtain ⟨qr41, hqr42⟩ := p_recv hO (by rw [hp1]; decide) (rep_7 hp1)
      refine pc_V0 (G := G) (As := [.int 5, .int x1]) (rest := []) hx hb hml hown hq hE hX pX0_al hP hD hS hA hl.1 (N_report l G h0 a (upd F 2 (nI sz)) R Z B J K w pq dr ml nd nm cp it s9 5 x1 sz g (by omega) hwp hps hO) (gV pw_1096 pw_1097 pw_1098 pw_106 pw_1084) hV_X9_report qr41 6 hqr42 rfl rfl rfl (Nat.le_of_ble_eq_true rfl) dX9_judgeAboveName_41 ⟨Nat.le_of_ble_eq_true rfl, Nat.le_of_ble_eq_true rfl⟩ ⟨Nat.le_of_ble_eq_true rfl, Nat.le_of_ble_eq_true rfl⟩ (fun v40 u38 H locs hw39 hP hD hS => ?_)
      obtain ⟨w, K43⟩ := u38
      obtain ⟨hw39, h44, h45, hO⟩ := hw39
      have h44 : LgK K K43 pq := h44
      have h45 : RpX 5 K43 pq := h45
      obtain rfl : v40 = none := hw39
      have hO : OKP G h0 a (upd F 2 (nI sz)) R Z B J K43 w := hO.to rfl
      refine W.widen (k := 0) (n := 0) (Nat.le_of_ble_eq_true rfl) (Nat.le_of_ble_eq_true rfl) ?_
      refine W.eq (g2 := F0 m 44 ls []) rfl ?_
      have hlg46 : LgK K K43 pq := LgK.trans LgK.rfl h44
      have hm47 : Cln K43 pq → Cln K pq := fun z => absurd z (h45 (by decide))
      have hz48 : LgK K K43 pq := hlg46
      have hz49 : Cln K43 pq → Cln K pq ∧ (NmI K dr nd (B 9) sz x1 x2) := (fun z => absurd z (h45 (by decide)))
      have hO : OKP G h0 a (upd F 2 (nI sz)) R Z B J K43 w := hO.to rfl
      exact W.vret hx hb hr (fun t99 ht99 hW99 => ⟨⟨_, (w, K43), rfl, ⟨rfl, hz48, hz49, hO⟩, by rw [ht99]; exact hP, hD⟩, hS.F ht99⟩) hS.2.2 dX9_judgeAboveName_44
set_option maxHeartbeats 16000000 in
set_option maxRecDepth 100000 in
theorem N_judgeTypeName (l : Launch) (G : pT) (h0 : Nat) (a : Nat → Nat) (F : Nat → Int32) (R : Nat → Value) (Z : Int64) (B : Nat → Nat → Int32) (J : Nat → Nat → Int64) (K : PK) (w : va_W) (pq : Nat) (dr : Nat) (ml : Nat) (nd : Nat) (nm : Nat) (cp : Nat) (it : Nat → Nat) (s9 : Nat) (x1 : Int32) (x2 : Int32) (sz : Nat) (g : Nat → Nat → Nat) (hsz : sz ≤ 5000) (hwp : WPr G K g) (hps : PgT G K g (a 1) pq dr ml nd nm cp it s9) (hO : OKP G h0 a (upd F 2 (nI sz)) R Z B J K w) : PM l G pX0 yX9_judgeTypeName cX9_judgeTypeName 4 none ({ frames := 4, cells := 0, slots := 0, locals := 103 }) [.ref pq, .int x1, .int x2] w (fun (v : Option Value) (u : va_W × (PK)) => v = none ∧ (LgK K u.2 pq) ∧ (Cln u.2 pq → Cln K pq ∧ (NmT K dr nd (B 9) sz x1 x2)) ∧ (OKP G h0 a (upd F 2 (nI sz)) R Z B J u.2 u.1)) (fun u => u.1) := by
  intro sz
  refine Met.ofW (cc := cX9_judgeTypeName) (maxL := 4) (ret := none) (by decide) rfl ?_
  intro p e s m args below meth c s₁ B9 hml hv
  obtain ⟨rfl, hsz, hP, hD0, hE, hX⟩ := hv
  have hx := B9.exec
  have hb := B9.bytes
  have hr := B9.returns
  have hts := atoms_spec (ws := Cond.code yX9_judgeTypeName cX9_judgeTypeName 4 none :: pw) B9.pre
  have hq : ∀ w ∈ pw, w.before _ s = true := fun w h => hts w (List.mem_cons_of_mem _ h)
  have hown : s.vm.findClass RX9 = some m.cls := findClass_of_methodNamed B9.named
  have hlocks := B9.notSynchronized
  subst hsz
  have hD := hD0.self (sz := s.heap.size)
  have hA : ∀ q : Nat, s.heap.size ≤ q → va_A w s.heap.size q := fun q h => Or.inr h
  generalize va_A w s.heap.size = A at hD hE hA ⊢
  have hS : va_S A s.heap s.heap [] := va_S.rf
  have hl := lv_entry ([.ref pq, .int x1, .int x2]) (n := 4) (Nat.le_of_ble_eq_true rfl)
  rw [lg_entry_eq]
  generalize (lg_sl ([.ref pq, .int x1, .int x2]) ++ List.replicate (4 - (lg_sl ([.ref pq, .int x1, .int x2])).length) Slot.unset).toArray = ls at hl ⊢
  have hl : lv_has ls 4 [(0, .ref pq), (1, .int x1), (2, .int x2)] := hl
  have hp1 := hps.1.1
  have hp2 := hps.1.2.1
  have hp3 := hps.1.2.2.1
  have hp4 := hps.1.2.2.2.1
  have hp5 := hps.1.2.2.2.2.1
  have hp6 := hps.1.2.2.2.2.2.1
  have hp8 := hps.1.2.2.2.2.2.2.2.1
  have hp9 := hps.1.2.2.2.2.2.2.2.2
  refine lv_aload_n hx hb dX9_judgeTypeName_0 rfl (lv_at hl 0 rfl) ?_
  refine lv_aload_n hx hb dX9_judgeTypeName_1 rfl (lv_at hl 0 rfl) ?_
  refine lv_aload_n hx hb dX9_judgeTypeName_2 rfl (lv_at hl 0 rfl) ?_
  refine p_get (v := .ref (a 1)) (C := RX9) (Tc := TX9) (N := 5) (ci := 6) hx hb hq pin_wsX90 hown hE hP hO (by rw [hp1]; decide) (rep_7 hp1) rfl 0 (by decide) (hq _ pw_784) (fun _ h9 => h9) (congrArg (fun z => some (va_rf z)) hp2) dX9_judgeTypeName_3 ?_
  refine lv_iload_n hx hb dX9_judgeTypeName_6 rfl (lv_at hl 1 rfl) ?_
  have hO : OKW G h0 a (upd (upd F 2 (nI sz)) 2 (nI sz)) R Z B J K.1 (fun q99 x99 => x99 = rep G a K q99) w := hO.to rfl
  obtain ⟨_, qr4, hqr5⟩ := hO.2.1 2 _ (sg_2 G h0 a _ _ _ _ _)
  refine pc_V0 (G := G) (As := [.int x1]) (rest := [.ref pq, .ref pq]) hx hb hml hown hq hE hX pX0_al hP hD hS hA hl.1 (Y_valueAt l G h0 a (upd F 2 (nI sz)) R Z B J K.1 (fun q99 x99 => x99 = rep G a K q99) w x1 sz (by omega) hO) (gV pw_785 pw_57 pw_58 pw_59 pw_39) hV_X10_valueAt qr4 7 hqr5 rfl rfl rfl (Nat.le_of_ble_eq_true rfl) dX9_judgeTypeName_7 ⟨Nat.le_of_ble_eq_true rfl, Nat.le_of_ble_eq_true rfl⟩ ⟨Nat.le_of_ble_eq_true rfl, Nat.le_of_ble_eq_true rfl⟩ (fun v3 u1 H locs hw2 hP hD hS => ?_)
  obtain ⟨w, _⟩ := u1
  obtain ⟨hw2, hO⟩ := hw2
  obtain rfl : v3 = some (.int (tkN ((B 9)) sz (-1) x1)) := hw2
  have hO : OKP G h0 a (upd F 2 (nI sz)) R Z B J K w := hO.to rfl
  refine W.widen (k := 0) (n := 0) (Nat.le_of_ble_eq_true rfl) (Nat.le_of_ble_eq_true rfl) ?_
  refine W.eq (g2 := F0 m 10 ls [.int (tkN ((B 9)) sz (-1) x1), .ref pq, .ref pq]) rfl ?_
  have hO : OKP G h0 a (upd F 2 (nI sz)) R Z B J K w := hO.to rfl
  obtain ⟨qr9, hqr10⟩ := p_recv hO (by rw [hp1]; decide) (rep_7 hp1)
  refine pc_V0 (G := G) (As := [.int (tkN ((B 9)) sz (-1) x1)]) (rest := [.ref pq]) hx hb hml hown hq hE hX pX0_al hP hD hS hA hl.1 (N_find l G h0 a (upd F 2 (nI sz)) R Z B J K w pq dr ml nd (tkN ((B 9)) sz (-1) x1) g hps.1 hps.2.1 hO) (gV pw_1102 pw_585 pw_586 pw_106 pw_509) hV_X9_find qr9 6 hqr10 rfl rfl rfl (Nat.le_of_ble_eq_true rfl) dX9_judgeTypeName_10 ⟨Nat.le_of_ble_eq_true rfl, Nat.le_of_ble_eq_true rfl⟩ ⟨Nat.le_of_ble_eq_true rfl, Nat.le_of_ble_eq_true rfl⟩ (fun v8 u6 H locs hw7 hP hD hS => ?_)
  obtain ⟨w, r11⟩ := u6
  obtain ⟨hw7, h12, hO⟩ := hw7
  have h12 : FdX K dr nd (tkN ((B 9)) sz (-1) x1) r11 := h12
  obtain rfl : v8 = some (.int r11) := hw7
  have hO : OKP G h0 a (upd F 2 (nI sz)) R Z B J K w := hO.to rfl
  refine W.widen (k := 0) (n := 0) (Nat.le_of_ble_eq_true rfl) (Nat.le_of_ble_eq_true rfl) ?_
  refine W.eq (g2 := F0 m 13 ls [.int r11, .ref pq]) rfl ?_
  have hO : OKP G h0 a (upd F 2 (nI sz)) R Z B J K w := hO.to rfl
  obtain ⟨qr16, hqr17⟩ := p_recv hO (by rw [hp1]; decide) (rep_7 hp1)
  refine pc_V0 (G := G) (As := [.int r11]) (rest := []) hx hb hml hown hq hE hX pX0_al hP hD hS hA hl.1 (G_decl l G h0 a (upd F 2 (nI sz)) R Z B J K w pq dr ml nd r11 g hps.1 hps.2.1 hO) (gV pw_1103 pw_182 pw_183 pw_106 pw_13) hV_X9_decl qr16 6 hqr17 rfl rfl rfl (Nat.le_of_ble_eq_true rfl) dX9_judgeTypeName_13 ⟨Nat.le_of_ble_eq_true rfl, Nat.le_of_ble_eq_true rfl⟩ ⟨Nat.le_of_ble_eq_true rfl, Nat.le_of_ble_eq_true rfl⟩ (fun v15 u13 H locs hw14 hP hD hS => ?_)
  obtain ⟨w, o18⟩ := u13
  obtain ⟨hw14, h19, h20, hO⟩ := hw14
  have h19 : DoN K o18 := h19
  have h20 : DoK K dr nd r11 o18 := h20
  obtain rfl : v15 = some ((va_rf o18)) := hw14
  have hO : OKP G h0 a (upd F 2 (nI sz)) R Z B J K w := hO.to rfl
  refine W.widen (k := 0) (n := 0) (Nat.le_of_ble_eq_true rfl) (Nat.le_of_ble_eq_true rfl) ?_
  refine W.eq (g2 := F0 m 16 ls [(va_rf o18)]) rfl ?_
  rcases o18 with _ | d21
  · have hl : lv_has ls 4 [(0, .ref pq), (1, .int x1), (2, .int x2)] := hl
    refine W.eq (g2 := F0 m 16 ls [.null]) rfl ?_
    refine lv_astore_nN (lv' := [(3, .null), (0, .ref pq), (1, .int x1), (2, .int x2)]) hx hb dX9_judgeTypeName_16 rfl hl (by decide) rfl (fun ls hl => ?_)
    refine lv_aload_nN hx hb dX9_judgeTypeName_17 rfl (lv_at hl 0 rfl) ?_
    refine lv_ifnonnullN hx hb dX9_judgeTypeName_18 ?_
    refine lv_aload_n hx hb dX9_judgeTypeName_21 rfl (lv_at hl 1 rfl) ?_
    refine lv_iconst (v := 4) hx hb dX9_judgeTypeName_22 (by decide) ?_
    refine lv_iload_n hx hb dX9_judgeTypeName_23 rfl (lv_at hl 2 rfl) ?_
    have hO : OKP G h0 a (upd (upd F 2 (nI sz)) 2 (nI sz)) R Z B J K w := hO.to rfl
    obtain ⟨qr25, hqr26⟩ := p_recv hO (by rw [hp1]; decide) (rep_7 hp1)
    refine pc_V0 (G := G) (As := [.int 4, .int x1]) (rest := []) hx hb hml hown hq hE hX pX0_al hP hD hS hA hl.1 (N_report l G h0 a (upd F 2 (nI sz)) R Z B J K w pq dr ml nd nm cp it s9 4 x1 sz g (by omega) hwp hps hO) (gV pw_1096 pw_1097 pw_1098 pw_106 pw_1084) hV_X9_report qr25 6 hqr26 rfl rfl rfl (Nat.le_of_ble_eq_true rfl) dX9_judgeTypeName_24 ⟨Nat.le_of_ble_eq_true rfl, Nat.le_of_ble_eq_true rfl⟩ ⟨Nat.le_of_ble_eq_true rfl, Nat.le_of_ble_eq_true rfl⟩ (fun v24 u22 H locs hw23 hP hD hS => ?_)
    obtain ⟨w, K27⟩ := u22
    obtain ⟨hw23, h28, h29, hO⟩ := hw23
    have h28 : LgK K K27 pq := h28
    have h29 : RpX 4 K27 pq := h29
    obtain rfl : v24 = none := hw23
    have hO : OKP G h0 a (upd F 2 (nI sz)) R Z B J K27 w := hO.to rfl
    refine W.widen (k := 0) (n := 0) (Nat.le_of_ble_eq_true rfl) (Nat.le_of_ble_eq_true rfl) ?_
    refine W.eq (g2 := F0 m 27 ls []) rfl ?_
    have hlg30 : LgK K K27 pq := LgK.trans LgK.rfl h28
    have hm31 : Cln K27 pq → Cln K pq := fun z => absurd z (h29 (by decide))
    refine lv_goto (tgt := 47) hx hb dX9_judgeTypeName_27 (by decide) ?_
    have hz32 : LgK K K27 pq := hlg30
    have hz33 : Cln K27 pq → Cln K pq ∧ (NmT K dr nd (B 9) sz x1 x2) := (fun z => absurd z (h29 (by decide)))
    have hO : OKP G h0 a (upd F 2 (nI sz)) R Z B J K27 w := hO.to rfl
    exact W.vret hx hb hr (fun t99 ht99 hW99 => ⟨⟨_, (w, K27), rfl, ⟨rfl, hz32, hz33, hO⟩, by rw [ht99]; exact hP, hD⟩, hS.F ht99⟩) hS.2.2 dX9_judgeTypeName_47
  · have hl : lv_has ls 4 [(0, .ref pq), (1, .int x1), (2, .int x2)] := hl
    refine W.eq (g2 := F0 m 16 ls [.ref d21]) rfl ?_
    have hf34 : K.1 d21 = 4 := h19 d21 rfl
    obtain ⟨kF, hkF, hxF, heF⟩ := h20 d21 rfl
    refine lv_astore_n (lv' := [(3, .ref d21), (0, .ref pq), (1, .int x1), (2, .int x2)]) hx hb dX9_judgeTypeName_16 rfl hl (by decide) rfl (fun ls hl => ?_)
    refine lv_aload_n hx hb dX9_judgeTypeName_17 rfl (lv_at hl 0 rfl) ?_
    refine lv_ifnonnull (tgt := 30) hx hb dX9_judgeTypeName_18 (by decide) ?_
    refine lv_aload_n hx hb dX9_judgeTypeName_30 rfl (lv_at hl 0 rfl) ?_
    refine p_get (v := .int (K.2.1 18 d21)) (C := RX2) (Tc := TX2) (N := 13) (ci := 2) hx hb hq pin_wsX20 hown hE hP hO (by rw [hf34]; decide) (rep_4 hf34) rfl 3 (by decide) (hq _ pw_1101) (fun _ h9 => h9) rfl dX9_judgeTypeName_31 ?_
    refine lv_if_eq (tgt := 47) hx hb dX9_judgeTypeName_34 (by decide) (fun c35 => ?_) (fun c35 => ?_)
    · have hz36 : LgK K K pq := LgK.rfl
      have hz37 : Cln K pq → Cln K pq ∧ (NmT K dr nd (B 9) sz x1 x2) := (fun z => ⟨z, ⟨kF, d21, hkF, hxF ▸ h12, heF, (Or.inl c35)⟩⟩)
      have hO : OKP G h0 a (upd F 2 (nI sz)) R Z B J K w := hO.to rfl
      exact W.vret hx hb hr (fun t99 ht99 hW99 => ⟨⟨_, (w, K), rfl, ⟨rfl, hz36, hz37, hO⟩, by rw [ht99]; exact hP, hD⟩, hS.F ht99⟩) hS.2.2 dX9_judgeTypeName_47
    · refine lv_iload_n hx hb dX9_judgeTypeName_37 rfl (lv_at hl 3 rfl) ?_
      refine lv_if_ne (tgt := 47) hx hb dX9_judgeTypeName_38 (by decide) (fun c38 => ?_) (fun c38 => ?_)
      · have hz39 : LgK K K pq := LgK.rfl
        have hz40 : Cln K pq → Cln K pq ∧ (NmT K dr nd (B 9) sz x1 x2) := (fun z => ⟨z, ⟨kF, d21, hkF, hxF ▸ h12, heF, (Or.inr c38)⟩⟩)
        have hO : OKP G h0 a (upd F 2 (nI sz)) R Z B J K w := hO.to rfl
        exact W.vret hx hb hr (fun t99 ht99 hW99 => ⟨⟨_, (w, K), rfl, ⟨rfl, hz39, hz40, hO⟩, by rw [ht99]; exact hP, hD⟩, hS.F ht99⟩) hS.2.2 dX9_judgeTypeName_47
      · refine lv_aload_n hx hb dX9_judgeTypeName_41 rfl (lv_at hl 1 rfl) ?_
        refine lv_iconst (v := 5) hx hb dX9_judgeTypeName_42 (by decide) ?_
        refine lv_iload_n hx hb dX9_judgeTypeName_43 rfl (lv_at hl 2 rfl) ?_
        have hO : OKP G h0 a (upd (upd F 2 (nI sz)) 2 (nI sz)) R Z B J K w := hO.to rfl
        obtain ⟨qr44, hqr45⟩ := p_recv hO (by rw [hp1]; decide) (rep_7 hp1)
        refine pc_V0 (G := G) (As := [.int 5, .int x1]) (rest := []) hx hb hml hown hq hE hX pX0_al hP hD hS hA hl.1 (N_report l G h0 a (upd F 2 (nI sz)) R Z B J K w pq dr ml nd nm cp it s9 5 x1 sz g (by omega) hwp hps hO) (gV pw_1096 pw_1097 pw_1098 pw_106 pw_1084) hV_X9_report qr44 6 hqr45 rfl rfl rfl (Nat.le_of_ble_eq_true rfl) dX9_judgeTypeName_44 ⟨Nat.le_of_ble_eq_true rfl, Nat.le_of_ble_eq_true rfl⟩ ⟨Nat.le_of_ble_eq_true rfl, Nat.le_of_ble_eq_true rfl⟩ (fun v43 u41 H locs hw42 hP hD hS => ?_)
        obtain ⟨w, K46⟩ := u41
        obtain ⟨hw42, h47, h48, hO⟩ := hw42
        have h47 : LgK K K46 pq := h47
        have h48 : RpX 5 K46 pq := h48
        obtain rfl : v43 = none := hw42
        have hO : OKP G h0 a (upd F 2 (nI sz)) R Z B J K46 w := hO.to rfl
        refine W.widen (k := 0) (n := 0) (Nat.le_of_ble_eq_true rfl) (Nat.le_of_ble_eq_true rfl) ?_
        refine W.eq (g2 := F0 m 47 ls []) rfl ?_
        have hlg49 : LgK K K46 pq := LgK.trans LgK.rfl h47
        have hm50 : Cln K46 pq → Cln K pq := fun z => absurd z (h48 (by decide))
        have hz51 : LgK K K46 pq := hlg49
        have hz52 : Cln K46 pq → Cln K pq ∧ (NmT K dr nd (B 9) sz x1 x2) := (fun z => absurd z (h48 (by decide)))
        have hO : OKP G h0 a (upd F 2 (nI sz)) R Z B J K46 w := hO.to rfl
        exact W.vret hx hb hr (fun t99 ht99 hW99 => ⟨⟨_, (w, K46), rfl, ⟨rfl, hz51, hz52, hO⟩, by rw [ht99]; exact hP, hD⟩, hS.F ht99⟩) hS.2.2 dX9_judgeTypeName_47
set_option maxHeartbeats 16000000 in
set_option maxRecDepth 100000 in
theorem N_judgeMembers (l : Launch) (G : pT) (h0 : Nat) (a : Nat → Nat) (F : Nat → Int32) (R : Nat → Value) (Z : Int64) (B : Nat → Nat → Int32) (J : Nat → Nat → Int64) (K : PK) (w : va_W) (pq : Nat) (dr : Nat) (ml : Nat) (nd : Nat) (nm : Nat) (cp : Nat) (it : Nat → Nat) (s9 : Nat) (d0 : Nat) (sz : Nat) (g : Nat → Nat → Nat) (hsz : sz ≤ 5000) (hwp : WPr G K g) (hps : PgT G K g (a 1) pq dr ml nd nm cp it s9) (hd0 : K.1 d0 = 4) (hO : OKP G h0 a (upd F 2 (nI sz)) R Z B J K w) : PM l G pX0 yX9_judgeMembers cX9_judgeMembers 4 none ({ frames := 6, cells := 0, slots := 0, locals := 146 }) [.ref pq, .ref d0] w (fun (v : Option Value) (u : va_W × (PK)) => v = none ∧ (LgK K u.2 pq) ∧ (Cln u.2 pq → Cln K pq ∧ (OwS G K d0)) ∧ (OKP G h0 a (upd F 2 (nI sz)) R Z B J u.2 u.1)) (fun u => u.1) := by
  intro sz
  refine Met.ofW (cc := cX9_judgeMembers) (maxL := 4) (ret := none) (by decide) rfl ?_
  intro p e s m args below meth c s₁ B9 hml hv
  obtain ⟨rfl, hsz, hP, hD0, hE, hX⟩ := hv
  have hx := B9.exec
  have hb := B9.bytes
  have hr := B9.returns
  have hts := atoms_spec (ws := Cond.code yX9_judgeMembers cX9_judgeMembers 4 none :: pw) B9.pre
  have hq : ∀ w ∈ pw, w.before _ s = true := fun w h => hts w (List.mem_cons_of_mem _ h)
  have hown : s.vm.findClass RX9 = some m.cls := findClass_of_methodNamed B9.named
  have hlocks := B9.notSynchronized
  subst hsz
  have hD := hD0.self (sz := s.heap.size)
  have hA : ∀ q : Nat, s.heap.size ≤ q → va_A w s.heap.size q := fun q h => Or.inr h
  generalize va_A w s.heap.size = A at hD hE hA ⊢
  have hS : va_S A s.heap s.heap [] := va_S.rf
  have hl := lv_entry ([.ref pq, .ref d0]) (n := 4) (Nat.le_of_ble_eq_true rfl)
  rw [lg_entry_eq]
  generalize (lg_sl ([.ref pq, .ref d0]) ++ List.replicate (4 - (lg_sl ([.ref pq, .ref d0])).length) Slot.unset).toArray = ls at hl ⊢
  have hl : lv_has ls 4 [(0, .ref pq), (1, .ref d0)] := hl
  have hp1 := hps.1.1
  have hp2 := hps.1.2.1
  have hp3 := hps.1.2.2.1
  have hp4 := hps.1.2.2.2.1
  have hp5 := hps.1.2.2.2.2.1
  have hp6 := hps.1.2.2.2.2.2.1
  have hp8 := hps.1.2.2.2.2.2.2.2.1
  have hp9 := hps.1.2.2.2.2.2.2.2.2
  obtain ⟨lf, hflf, htlf, hrlf, holf⟩ := (hwp.2.2.1 d0 hd0).1
  obtain ⟨nlf, itlf, cplf, hlclf, hnblf, hcblf⟩ := hwp.2.1 lf htlf
  rw [hrlf] at hlclf hnblf
  have hnclf := hlclf.2.2.1
  have hnblf : nlf ≤ 20 := hnblf
  have hlclf : LsC G K lf 1 nlf itlf cplf := hlclf
  obtain ⟨lm, hflm, htlm, hrlm, holm⟩ := (hwp.2.2.1 d0 hd0).2.1
  obtain ⟨nlm, itlm, cplm, hlclm, hnblm, hcblm⟩ := hwp.2.1 lm htlm
  rw [hrlm] at hlclm hnblm
  have hnclm := hlclm.2.2.1
  have hnblm : nlm ≤ 30 := hnblm
  have hlclm : LsC G K lm 3 nlm itlm cplm := hlclm
  refine lv_iconst (v := 0) hx hb dX9_judgeMembers_0 (by decide) ?_
  refine lv_istore_n (lv' := [(2, .int 0), (0, .ref pq), (1, .ref d0)]) hx hb dX9_judgeMembers_1 rfl hl (by decide) rfl (fun ls hl => ?_)
  have loop_2 : ∀ (n_2 : Nat) (i2 : Nat) (K2 : PK) (H : Heap) (locs : List Loc) (ls : Array Slot) (w : va_W), i2 ≤ nlf → nlf + 1 ≤ i2 + n_2 → (LgK K K2 pq) → (Cln K2 pq → Cln K pq ∧ (True)) → va_P G.1 pCl w H → va_D A w → va_S A s.heap H locs → OKP G h0 a (upd F 2 (nI sz)) R Z B J K2 w → lv_has ls 4 [(2, .int (nI i2)), (1, .ref d0), (0, .ref pq)] → W p l e (headSpec (Cond.code yX9_judgeMembers cX9_judgeMembers 4 none :: pw) ({ frames := 6, cells := 0, slots := 0, locals := 146 } : Room)).room s m ([.ref pq, .ref d0] : List Value).toArray below meth c H locs 0 0 (MQ below (pQ G A (fun (v : Option Value) (u : va_W × (PK)) => v = none ∧ (LgK K u.2 pq) ∧ (Cln u.2 pq → Cln K pq ∧ (OwS G K d0)) ∧ (OKP G h0 a (upd F 2 (nI sz)) R Z B J u.2 u.1)) (fun u => u.1)) ([.ref pq, .ref d0] : List Value).toArray s ({ frames := 6, cells := 0, slots := 0, locals := 146 } : Room).cells ({ frames := 6, cells := 0, slots := 0, locals := 146 } : Room).slots A) (F0 m 2 ls []) := by
    intro n_2
    induction n_2 with
    | zero => intro i2 K2 H locs ls w hk_2 hn_2; omega
    | succ n_2 ih_2 =>
      intro i2 K2 H locs ls w hk_2 hn_2 hlg2 hcl2 hP hD hS hO hl
      refine lv_iload_n hx hb dX9_judgeMembers_2 rfl (lv_at hl 0 rfl) ?_
      refine lv_aload_n hx hb dX9_judgeMembers_3 rfl (lv_at hl 1 rfl) ?_
      refine p_get (v := .ref lf) (C := RX2) (Tc := TX2) (N := 13) (ci := 2) hx hb hq pin_wsX20 hown hE hP hO (by rw [((LgK.T hlg2 d0).trans hd0)]; decide) (rep_4 ((LgK.T hlg2 d0).trans hd0)) rfl 7 (by decide) (hq _ pw_1089) (fun _ h9 => h9) (congrArg (fun z => some (va_rf z)) ((LgK.C hlg2 8 d0).trans hflf)) dX9_judgeMembers_4 ?_
      have hO : OKP G h0 a (upd F 2 (nI sz)) R Z B J K2 w := hO.to rfl
      obtain ⟨qr4, hqr5⟩ := p_recv hO (by rw [((LgK.T hlg2 lf).trans htlf)]; decide) (rep_5 ((LgK.T hlg2 lf).trans htlf))
      refine pc_V0 (G := G) (As := []) (rest := [.int (nI i2)]) hx hb hml hown hq hE hX pX0_al hP hD hS hA hl.1 (L_size l G h0 a (upd F 2 (nI sz)) R Z B J K2 w lf 1 nlf itlf (LgK.ls hlg2 hlclf).ls hO) (gV pw_516 pw_87 pw_88 pw_32 pw_16) hV_Jx4a65c_size_8abf5 qr4 10 hqr5 rfl rfl rfl (Nat.le_of_ble_eq_true rfl) dX9_judgeMembers_7 ⟨Nat.le_of_ble_eq_true rfl, Nat.le_of_ble_eq_true rfl⟩ ⟨Nat.le_of_ble_eq_true rfl, Nat.le_of_ble_eq_true rfl⟩ (fun v3 u1 H locs hw2 hP hD hS => ?_)
      obtain ⟨w, _⟩ := u1
      obtain ⟨hw2, hO⟩ := hw2
      obtain rfl : v3 = some (.int (nI nlf)) := hw2
      have hO : OKP G h0 a (upd F 2 (nI sz)) R Z B J K2 w := hO.to rfl
      refine W.widen (k := 0) (n := 0) (Nat.le_of_ble_eq_true rfl) (Nat.le_of_ble_eq_true rfl) ?_
      refine W.eq (g2 := F0 m 10 ls [.int (nI nlf), .int (nI i2)]) rfl ?_
      refine lv_icmp_ge (tgt := 82) hx hb dX9_judgeMembers_10 (by decide) (fun c6 => ?_) (fun c6 => ?_)
      · have n7 : nlf ≤ i2 := (nI_leI (a := nlf) (b := i2) (by omega) (by omega)).mp c6
        refine lv_iconst (v := 0) hx hb dX9_judgeMembers_82 (by decide) ?_
        refine lv_istore_n (lv' := [(2, .int 0), (1, .ref d0), (0, .ref pq)]) hx hb dX9_judgeMembers_83 rfl hl (by decide) rfl (fun ls hl => ?_)
        have loop_4 : ∀ (n_4 : Nat) (i4 : Nat) (K4 : PK) (H : Heap) (locs : List Loc) (ls : Array Slot) (w : va_W), i4 ≤ nlm → nlm + 1 ≤ i4 + n_4 → (LgK K K4 pq) → (Cln K4 pq → Cln K pq ∧ (∀ i : Nat, i < i4 → OwP K d0 (K.2.1 6 (itlm i)) (some (itlm i)))) → va_P G.1 pCl w H → va_D A w → va_S A s.heap H locs → OKP G h0 a (upd F 2 (nI sz)) R Z B J K4 w → lv_has ls 4 [(2, .int (nI i4)), (1, .ref d0), (0, .ref pq)] → W p l e (headSpec (Cond.code yX9_judgeMembers cX9_judgeMembers 4 none :: pw) ({ frames := 6, cells := 0, slots := 0, locals := 146 } : Room)).room s m ([.ref pq, .ref d0] : List Value).toArray below meth c H locs 0 0 (MQ below (pQ G A (fun (v : Option Value) (u : va_W × (PK)) => v = none ∧ (LgK K u.2 pq) ∧ (Cln u.2 pq → Cln K pq ∧ (OwS G K d0)) ∧ (OKP G h0 a (upd F 2 (nI sz)) R Z B J u.2 u.1)) (fun u => u.1)) ([.ref pq, .ref d0] : List Value).toArray s ({ frames := 6, cells := 0, slots := 0, locals := 146 } : Room).cells ({ frames := 6, cells := 0, slots := 0, locals := 146 } : Room).slots A) (F0 m 84 ls []) := by
          intro n_4
          induction n_4 with
          | zero => intro i4 K4 H locs ls w hk_4 hn_4; omega
          | succ n_4 ih_4 =>
            intro i4 K4 H locs ls w hk_4 hn_4 hlg4 hcl4 hP hD hS hO hl
            refine lv_iload_n hx hb dX9_judgeMembers_84 rfl (lv_at hl 0 rfl) ?_
            refine lv_aload_n hx hb dX9_judgeMembers_85 rfl (lv_at hl 1 rfl) ?_
            refine p_get (v := .ref lm) (C := RX2) (Tc := TX2) (N := 13) (ci := 2) hx hb hq pin_wsX20 hown hE hP hO (by rw [((LgK.T hlg4 d0).trans hd0)]; decide) (rep_4 ((LgK.T hlg4 d0).trans hd0)) rfl 8 (by decide) (hq _ pw_1093) (fun _ h9 => h9) (congrArg (fun z => some (va_rf z)) ((LgK.C hlg4 9 d0).trans hflm)) dX9_judgeMembers_86 ?_
            have hO : OKP G h0 a (upd F 2 (nI sz)) R Z B J K4 w := hO.to rfl
            obtain ⟨qr11, hqr12⟩ := p_recv hO (by rw [((LgK.T hlg4 lm).trans htlm)]; decide) (rep_5 ((LgK.T hlg4 lm).trans htlm))
            refine pc_V0 (G := G) (As := []) (rest := [.int (nI i4)]) hx hb hml hown hq hE hX pX0_al hP hD hS hA hl.1 (L_size l G h0 a (upd F 2 (nI sz)) R Z B J K4 w lm 3 nlm itlm (LgK.ls hlg4 hlclm).ls hO) (gV pw_516 pw_87 pw_88 pw_32 pw_16) hV_Jx4a65c_size_8abf5 qr11 10 hqr12 rfl rfl rfl (Nat.le_of_ble_eq_true rfl) dX9_judgeMembers_89 ⟨Nat.le_of_ble_eq_true rfl, Nat.le_of_ble_eq_true rfl⟩ ⟨Nat.le_of_ble_eq_true rfl, Nat.le_of_ble_eq_true rfl⟩ (fun v10 u8 H locs hw9 hP hD hS => ?_)
            obtain ⟨w, _⟩ := u8
            obtain ⟨hw9, hO⟩ := hw9
            obtain rfl : v10 = some (.int (nI nlm)) := hw9
            have hO : OKP G h0 a (upd F 2 (nI sz)) R Z B J K4 w := hO.to rfl
            refine W.widen (k := 0) (n := 0) (Nat.le_of_ble_eq_true rfl) (Nat.le_of_ble_eq_true rfl) ?_
            refine W.eq (g2 := F0 m 92 ls [.int (nI nlm), .int (nI i4)]) rfl ?_
            refine lv_icmp_ge (tgt := 134) hx hb dX9_judgeMembers_92 (by decide) (fun c13 => ?_) (fun c13 => ?_)
            · have n14 : nlm ≤ i4 := (nI_leI (a := nlm) (b := i4) (by omega) (by omega)).mp c13
              have hz15 : LgK K K4 pq := hlg4
              have hz16 : Cln K4 pq → Cln K pq ∧ (OwS G K d0) := (fun z => ⟨(hcl4 z).1, OwS.mk hflm hlclm (fun i hi => (hcl4 z).2 i (by omega))⟩)
              have hO : OKP G h0 a (upd F 2 (nI sz)) R Z B J K4 w := hO.to rfl
              exact W.vret hx hb hr (fun t99 ht99 hW99 => ⟨⟨_, (w, K4), rfl, ⟨rfl, hz15, hz16, hO⟩, by rw [ht99]; exact hP, hD⟩, hS.F ht99⟩) hS.2.2 dX9_judgeMembers_134
            · have n17 : ¬ (nlm ≤ i4) := fun h9 => c13 ((nI_leI (a := nlm) (b := i4) (by omega) (by omega)).mpr h9)
              refine lv_aload_n hx hb dX9_judgeMembers_95 rfl (lv_at hl 1 rfl) ?_
              refine p_get (v := .ref lm) (C := RX2) (Tc := TX2) (N := 13) (ci := 2) hx hb hq pin_wsX20 hown hE hP hO (by rw [((LgK.T hlg4 d0).trans hd0)]; decide) (rep_4 ((LgK.T hlg4 d0).trans hd0)) rfl 8 (by decide) (hq _ pw_1093) (fun _ h9 => h9) (congrArg (fun z => some (va_rf z)) ((LgK.C hlg4 9 d0).trans hflm)) dX9_judgeMembers_96 ?_
              refine lv_iload_n hx hb dX9_judgeMembers_99 rfl (lv_at hl 0 rfl) ?_
              have hO : OKP G h0 a (upd F 2 (nI sz)) R Z B J K4 w := hO.to rfl
              obtain ⟨qr21, hqr22⟩ := p_recv hO (by rw [((LgK.T hlg4 lm).trans htlm)]; decide) (rep_5 ((LgK.T hlg4 lm).trans htlm))
              refine pc_V0 (G := G) (As := [.int (nI i4)]) (rest := []) hx hb hml hown hq hE hX pX0_al hP hD hS hA hl.1 (L_get l G h0 a (upd F 2 (nI sz)) R Z B J K4 w lm 3 nlm itlm i4 (LgK.ls hlg4 hlclm).ls (by omega) hO) (gV pw_517 pw_90 pw_91 pw_32 pw_25) hV_Jx4a65c_get_915e3 qr21 10 hqr22 rfl rfl rfl (Nat.le_of_ble_eq_true rfl) dX9_judgeMembers_100 ⟨Nat.le_of_ble_eq_true rfl, Nat.le_of_ble_eq_true rfl⟩ ⟨Nat.le_of_ble_eq_true rfl, Nat.le_of_ble_eq_true rfl⟩ (fun v20 u18 H locs hw19 hP hD hS => ?_)
              obtain ⟨w, _⟩ := u18
              obtain ⟨hw19, hO⟩ := hw19
              obtain rfl : v20 = some (.ref (itlm i4)) := hw19
              have hO : OKP G h0 a (upd F 2 (nI sz)) R Z B J K4 w := hO.to rfl
              refine W.widen (k := 0) (n := 0) (Nat.le_of_ble_eq_true rfl) (Nat.le_of_ble_eq_true rfl) ?_
              refine W.eq (g2 := F0 m 103 ls [.ref (itlm i4)]) rfl ?_
              have hf23 : K.1 (itlm i4) = 3 := hlclm.T (by omega)
              refine p_cast (C := RX6) (Tc := TX6) (N := 12) (ci := 12) hx hb hown (hq _ pw_515) hE hP hO (by rw [((LgK.T hlg4 (itlm i4)).trans hf23)]; decide) (rep_3 ((LgK.T hlg4 (itlm i4)).trans hf23)) rfl dX9_judgeMembers_103 ?_
              refine lv_astore_n (lv' := [(3, .ref (itlm i4)), (2, .int (nI i4)), (1, .ref d0), (0, .ref pq)]) hx hb dX9_judgeMembers_106 rfl hl (by decide) rfl (fun ls hl => ?_)
              refine lv_aload_n hx hb dX9_judgeMembers_107 rfl (lv_at hl 2 rfl) ?_
              refine lv_aload_n hx hb dX9_judgeMembers_108 rfl (lv_at hl 0 rfl) ?_
              refine p_get (v := .int (K4.2.1 6 (itlm i4))) (C := RX6) (Tc := TX6) (N := 12) (ci := 12) hx hb hq pin_wsX60 hown hE hP hO (by rw [((LgK.T hlg4 (itlm i4)).trans hf23)]; decide) (rep_3 ((LgK.T hlg4 (itlm i4)).trans hf23)) rfl 1 (by decide) (hq _ pw_1094) (fun _ h9 => h9) rfl dX9_judgeMembers_109 ?_
              have hO : OKP G h0 a (upd F 2 (nI sz)) R Z B J K4 w := hO.to rfl
              obtain ⟨qr27, hqr28⟩ := p_recv hO (by rw [((LgK.T hlg4 d0).trans hd0)]; decide) (rep_4 ((LgK.T hlg4 d0).trans hd0))
              refine pc_V0 (G := G) (As := [.int (K4.2.1 6 (itlm i4))]) (rest := []) hx hb hml hown hq hE hX pX0_al hP hD hS hA hl.1 (Y_own l G h0 a (upd F 2 (nI sz)) R Z B J K4 w d0 (K4.2.1 6 (itlm i4)) g ((LgK.T hlg4 d0).trans hd0) (LgK.wp hlg4 hwp) hO) (gV pw_1099 pw_152 pw_153 pw_146 pw_149) hV_X2_own qr27 2 hqr28 rfl rfl rfl (Nat.le_of_ble_eq_true rfl) dX9_judgeMembers_112 ⟨Nat.le_of_ble_eq_true rfl, Nat.le_of_ble_eq_true rfl⟩ ⟨Nat.le_of_ble_eq_true rfl, Nat.le_of_ble_eq_true rfl⟩ (fun v26 u24 H locs hw25 hP hD hS => ?_)
              obtain ⟨w, o29⟩ := u24
              obtain ⟨hw25, h30, hO⟩ := hw25
              have h30 : OwP K4 d0 (K4.2.1 6 (itlm i4)) o29 := h30
              obtain rfl : v26 = some ((va_rf o29)) := hw25
              have hO : OKP G h0 a (upd F 2 (nI sz)) R Z B J K4 w := hO.to rfl
              refine W.widen (k := 0) (n := 0) (Nat.le_of_ble_eq_true rfl) (Nat.le_of_ble_eq_true rfl) ?_
              refine W.eq (g2 := F0 m 115 ls [(va_rf o29)]) rfl ?_
              rcases o29 with _ | d31
              · have hl : lv_has ls 4 [(3, .ref (itlm i4)), (2, .int (nI i4)), (1, .ref d0), (0, .ref pq)] := hl
                refine W.eq (g2 := F0 m 115 ls [.null]) rfl ?_
                refine lv_aload_n hx hb dX9_judgeMembers_115 rfl (lv_at hl 0 rfl) ?_
                refine lv_acmp_eq (rx := none) (ry := (some (itlm i4))) (tgt := 128) hx hb dX9_judgeMembers_116 (by decide) (fun c32 => ?_) (fun c32 => ?_)
                · skip
                  have hox : OwP K d0 (K.2.1 6 (itlm i4)) (some (itlm i4)) := by
                    have z9 := LgK.owp hlg4 h30
                    rw [c32] at z9
                    rw [LgK.I hlg4 6 _ (by decide)] at z9; exact z9
                  refine lv_iinc (v := (nI (i4 + 1))) (lv' := [(2, .int (nI (i4 + 1))), (3, .ref (itlm i4)), (1, .ref d0), (0, .ref pq)]) hx hb dX9_judgeMembers_128 hl (k := 1) rfl (nI_1 i4) (by decide) rfl (fun ls hl => ?_)
                  refine lv_goto (tgt := 84) hx hb dX9_judgeMembers_131 (by decide) ?_
                  have hO : OKP G h0 a (upd F 2 (nI sz)) R Z B J K4 w := hO.to rfl
                  exact ih_4 (i4 + 1) K4 _ _ _ _ (by omega) (by omega) hlg4 (fun z => ⟨(hcl4 z).1, (alS (hcl4 z).2 hox)⟩) hP hD hS hO (lv_sub hl [0, 2, 3] rfl)
                · skip
                  refine lv_aload_n hx hb dX9_judgeMembers_119 rfl (lv_at hl 3 rfl) ?_
                  refine lv_iconst (v := 3) hx hb dX9_judgeMembers_120 (by decide) ?_
                  refine lv_aload_n hx hb dX9_judgeMembers_121 rfl (lv_at hl 0 rfl) ?_
                  refine p_get (v := .int (K4.2.1 7 (itlm i4))) (C := RX6) (Tc := TX6) (N := 12) (ci := 12) hx hb hq pin_wsX60 hown hE hP hO (by rw [((LgK.T hlg4 (itlm i4)).trans hf23)]; decide) (rep_3 ((LgK.T hlg4 (itlm i4)).trans hf23)) rfl 2 (by decide) (hq _ pw_1095) (fun _ h9 => h9) rfl dX9_judgeMembers_122 ?_
                  have hO : OKP G h0 a (upd (upd F 2 (nI sz)) 2 (nI sz)) R Z B J K4 w := hO.to rfl
                  obtain ⟨qr36, hqr37⟩ := p_recv hO (by rw [((LgK.T hlg4 pq).trans hp1)]; decide) (rep_7 ((LgK.T hlg4 pq).trans hp1))
                  refine pc_V0 (G := G) (As := [.int 3, .int (K4.2.1 7 (itlm i4))]) (rest := []) hx hb hml hown hq hE hX pX0_al hP hD hS hA hl.1 (N_report l G h0 a (upd F 2 (nI sz)) R Z B J K4 w pq dr ml nd nm cp it s9 3 (K4.2.1 7 (itlm i4)) sz g (by omega) (LgK.wp hlg4 hwp) (LgK.ps hlg4 hps) hO) (gV pw_1096 pw_1097 pw_1098 pw_106 pw_1084) hV_X9_report qr36 6 hqr37 rfl rfl rfl (Nat.le_of_ble_eq_true rfl) dX9_judgeMembers_125 ⟨Nat.le_of_ble_eq_true rfl, Nat.le_of_ble_eq_true rfl⟩ ⟨Nat.le_of_ble_eq_true rfl, Nat.le_of_ble_eq_true rfl⟩ (fun v35 u33 H locs hw34 hP hD hS => ?_)
                  obtain ⟨w, K38⟩ := u33
                  obtain ⟨hw34, h39, h40, hO⟩ := hw34
                  have h39 : LgK K4 K38 pq := h39
                  have h40 : RpX 3 K38 pq := h40
                  obtain rfl : v35 = none := hw34
                  have hO : OKP G h0 a (upd F 2 (nI sz)) R Z B J K38 w := hO.to rfl
                  refine W.widen (k := 0) (n := 0) (Nat.le_of_ble_eq_true rfl) (Nat.le_of_ble_eq_true rfl) ?_
                  refine W.eq (g2 := F0 m 128 ls []) rfl ?_
                  have hlg41 : LgK K K38 pq := LgK.trans hlg4 h39
                  have hm42 : Cln K38 pq → Cln K4 pq := fun z => absurd z (h40 (by decide))
                  refine lv_iinc (v := (nI (i4 + 1))) (lv' := [(2, .int (nI (i4 + 1))), (3, .ref (itlm i4)), (1, .ref d0), (0, .ref pq)]) hx hb dX9_judgeMembers_128 hl (k := 1) rfl (nI_1 i4) (by decide) rfl (fun ls hl => ?_)
                  refine lv_goto (tgt := 84) hx hb dX9_judgeMembers_131 (by decide) ?_
                  have hO : OKP G h0 a (upd F 2 (nI sz)) R Z B J K38 w := hO.to rfl
                  exact ih_4 (i4 + 1) K38 _ _ _ _ (by omega) (by omega) hlg41 (fun z => absurd z (h40 (by decide))) hP hD hS hO (lv_sub hl [0, 2, 3] rfl)
              · have hl : lv_has ls 4 [(3, .ref (itlm i4)), (2, .int (nI i4)), (1, .ref d0), (0, .ref pq)] := hl
                refine W.eq (g2 := F0 m 115 ls [.ref d31]) rfl ?_
                have hf43 : K.1 d31 = 3 := hlclm.own hflm (LgK.owp hlg4 h30)
                refine lv_aload_n hx hb dX9_judgeMembers_115 rfl (lv_at hl 0 rfl) ?_
                refine lv_acmp_eq (rx := (some d31)) (ry := (some (itlm i4))) (tgt := 128) hx hb dX9_judgeMembers_116 (by decide) (fun c44 => ?_) (fun c44 => ?_)
                · skip
                  have hox : OwP K d0 (K.2.1 6 (itlm i4)) (some (itlm i4)) := by
                    have z9 := LgK.owp hlg4 h30
                    rw [c44] at z9
                    rw [LgK.I hlg4 6 _ (by decide)] at z9; exact z9
                  refine lv_iinc (v := (nI (i4 + 1))) (lv' := [(2, .int (nI (i4 + 1))), (3, .ref (itlm i4)), (1, .ref d0), (0, .ref pq)]) hx hb dX9_judgeMembers_128 hl (k := 1) rfl (nI_1 i4) (by decide) rfl (fun ls hl => ?_)
                  refine lv_goto (tgt := 84) hx hb dX9_judgeMembers_131 (by decide) ?_
                  have hO : OKP G h0 a (upd F 2 (nI sz)) R Z B J K4 w := hO.to rfl
                  exact ih_4 (i4 + 1) K4 _ _ _ _ (by omega) (by omega) hlg4 (fun z => ⟨(hcl4 z).1, (alS (hcl4 z).2 hox)⟩) hP hD hS hO (lv_sub hl [0, 2, 3] rfl)
                · skip
                  refine lv_aload_n hx hb dX9_judgeMembers_119 rfl (lv_at hl 3 rfl) ?_
                  refine lv_iconst (v := 3) hx hb dX9_judgeMembers_120 (by decide) ?_
                  refine lv_aload_n hx hb dX9_judgeMembers_121 rfl (lv_at hl 0 rfl) ?_
                  refine p_get (v := .int (K4.2.1 7 (itlm i4))) (C := RX6) (Tc := TX6) (N := 12) (ci := 12) hx hb hq pin_wsX60 hown hE hP hO (by rw [((LgK.T hlg4 (itlm i4)).trans hf23)]; decide) (rep_3 ((LgK.T hlg4 (itlm i4)).trans hf23)) rfl 2 (by decide) (hq _ pw_1095) (fun _ h9 => h9) rfl dX9_judgeMembers_122 ?_
                  have hO : OKP G h0 a (upd (upd F 2 (nI sz)) 2 (nI sz)) R Z B J K4 w := hO.to rfl
                  obtain ⟨qr48, hqr49⟩ := p_recv hO (by rw [((LgK.T hlg4 pq).trans hp1)]; decide) (rep_7 ((LgK.T hlg4 pq).trans hp1))
                  refine pc_V0 (G := G) (As := [.int 3, .int (K4.2.1 7 (itlm i4))]) (rest := []) hx hb hml hown hq hE hX pX0_al hP hD hS hA hl.1 (N_report l G h0 a (upd F 2 (nI sz)) R Z B J K4 w pq dr ml nd nm cp it s9 3 (K4.2.1 7 (itlm i4)) sz g (by omega) (LgK.wp hlg4 hwp) (LgK.ps hlg4 hps) hO) (gV pw_1096 pw_1097 pw_1098 pw_106 pw_1084) hV_X9_report qr48 6 hqr49 rfl rfl rfl (Nat.le_of_ble_eq_true rfl) dX9_judgeMembers_125 ⟨Nat.le_of_ble_eq_true rfl, Nat.le_of_ble_eq_true rfl⟩ ⟨Nat.le_of_ble_eq_true rfl, Nat.le_of_ble_eq_true rfl⟩ (fun v47 u45 H locs hw46 hP hD hS => ?_)
                  obtain ⟨w, K50⟩ := u45
                  obtain ⟨hw46, h51, h52, hO⟩ := hw46
                  have h51 : LgK K4 K50 pq := h51
                  have h52 : RpX 3 K50 pq := h52
                  obtain rfl : v47 = none := hw46
                  have hO : OKP G h0 a (upd F 2 (nI sz)) R Z B J K50 w := hO.to rfl
                  refine W.widen (k := 0) (n := 0) (Nat.le_of_ble_eq_true rfl) (Nat.le_of_ble_eq_true rfl) ?_
                  refine W.eq (g2 := F0 m 128 ls []) rfl ?_
                  have hlg53 : LgK K K50 pq := LgK.trans hlg4 h51
                  have hm54 : Cln K50 pq → Cln K4 pq := fun z => absurd z (h52 (by decide))
                  refine lv_iinc (v := (nI (i4 + 1))) (lv' := [(2, .int (nI (i4 + 1))), (3, .ref (itlm i4)), (1, .ref d0), (0, .ref pq)]) hx hb dX9_judgeMembers_128 hl (k := 1) rfl (nI_1 i4) (by decide) rfl (fun ls hl => ?_)
                  refine lv_goto (tgt := 84) hx hb dX9_judgeMembers_131 (by decide) ?_
                  have hO : OKP G h0 a (upd F 2 (nI sz)) R Z B J K50 w := hO.to rfl
                  exact ih_4 (i4 + 1) K50 _ _ _ _ (by omega) (by omega) hlg53 (fun z => absurd z (h52 (by decide))) hP hD hS hO (lv_sub hl [0, 2, 3] rfl)
        have hO : OKP G h0 a (upd F 2 (nI sz)) R Z B J K2 w := hO.to rfl
        exact loop_4 (nlm + 1) 0 K2 _ _ _ _ (by omega) (by omega) hlg2 (fun z => ⟨(hcl2 z).1, (fun i h => absurd h (by omega))⟩) hP hD hS hO (lv_sub hl [0, 1, 2] rfl)
      · have n55 : ¬ (nlf ≤ i2) := fun h9 => c6 ((nI_leI (a := nlf) (b := i2) (by omega) (by omega)).mpr h9)
        refine lv_iconst (v := 0) hx hb dX9_judgeMembers_13 (by decide) ?_
        refine lv_istore_n (lv' := [(3, .int 0), (2, .int (nI i2)), (1, .ref d0), (0, .ref pq)]) hx hb dX9_judgeMembers_14 rfl hl (by decide) rfl (fun ls hl => ?_)
        have loop_3 : ∀ (n_3 : Nat) (i3 : Nat) (K3 : PK) (H : Heap) (locs : List Loc) (ls : Array Slot) (w : va_W), i3 ≤ i2 → i2 + 1 ≤ i3 + n_3 → (LgK K K3 pq) → (Cln K3 pq → Cln K pq ∧ (True)) → va_P G.1 pCl w H → va_D A w → va_S A s.heap H locs → OKP G h0 a (upd F 2 (nI sz)) R Z B J K3 w → lv_has ls 4 [(3, .int (nI i3)), (2, .int (nI i2)), (1, .ref d0), (0, .ref pq)] → W p l e (headSpec (Cond.code yX9_judgeMembers cX9_judgeMembers 4 none :: pw) ({ frames := 6, cells := 0, slots := 0, locals := 146 } : Room)).room s m ([.ref pq, .ref d0] : List Value).toArray below meth c H locs 0 0 (MQ below (pQ G A (fun (v : Option Value) (u : va_W × (PK)) => v = none ∧ (LgK K u.2 pq) ∧ (Cln u.2 pq → Cln K pq ∧ (OwS G K d0)) ∧ (OKP G h0 a (upd F 2 (nI sz)) R Z B J u.2 u.1)) (fun u => u.1)) ([.ref pq, .ref d0] : List Value).toArray s ({ frames := 6, cells := 0, slots := 0, locals := 146 } : Room).cells ({ frames := 6, cells := 0, slots := 0, locals := 146 } : Room).slots A) (F0 m 15 ls []) := by
          intro n_3
          induction n_3 with
          | zero => intro i3 K3 H locs ls w hk_3 hn_3; omega
          | succ n_3 ih_3 =>
            intro i3 K3 H locs ls w hk_3 hn_3 hlg3 hcl3 hP hD hS hO hl
            refine lv_iload_n hx hb dX9_judgeMembers_15 rfl (lv_at hl 0 rfl) ?_
            refine lv_iload_n hx hb dX9_judgeMembers_16 rfl (lv_at hl 1 rfl) ?_
            refine lv_icmp_ge (tgt := 76) hx hb dX9_judgeMembers_17 (by decide) (fun c56 => ?_) (fun c56 => ?_)
            · have n57 : i2 ≤ i3 := (nI_leI (a := i2) (b := i3) (by omega) (by omega)).mp c56
              refine lv_iinc (v := (nI (i2 + 1))) (lv' := [(2, .int (nI (i2 + 1))), (3, .int (nI i3)), (1, .ref d0), (0, .ref pq)]) hx hb dX9_judgeMembers_76 hl (k := 1) rfl (nI_1 i2) (by decide) rfl (fun ls hl => ?_)
              refine lv_goto (tgt := 2) hx hb dX9_judgeMembers_79 (by decide) ?_
              have hO : OKP G h0 a (upd F 2 (nI sz)) R Z B J K3 w := hO.to rfl
              exact ih_2 (i2 + 1) K3 _ _ _ _ (by omega) (by omega) hlg3 (fun z => ⟨(hcl3 z).1, trivial⟩) hP hD hS hO (lv_sub hl [0, 2, 3] rfl)
            · have n58 : ¬ (i2 ≤ i3) := fun h9 => c56 ((nI_leI (a := i2) (b := i3) (by omega) (by omega)).mpr h9)
              refine lv_aload_n hx hb dX9_judgeMembers_20 rfl (lv_at hl 2 rfl) ?_
              refine p_get (v := .ref lf) (C := RX2) (Tc := TX2) (N := 13) (ci := 2) hx hb hq pin_wsX20 hown hE hP hO (by rw [((LgK.T hlg3 d0).trans hd0)]; decide) (rep_4 ((LgK.T hlg3 d0).trans hd0)) rfl 7 (by decide) (hq _ pw_1089) (fun _ h9 => h9) (congrArg (fun z => some (va_rf z)) ((LgK.C hlg3 8 d0).trans hflf)) dX9_judgeMembers_21 ?_
              refine lv_iload_n hx hb dX9_judgeMembers_24 rfl (lv_at hl 1 rfl) ?_
              have hO : OKP G h0 a (upd F 2 (nI sz)) R Z B J K3 w := hO.to rfl
              obtain ⟨qr62, hqr63⟩ := p_recv hO (by rw [((LgK.T hlg3 lf).trans htlf)]; decide) (rep_5 ((LgK.T hlg3 lf).trans htlf))
              refine pc_V0 (G := G) (As := [.int (nI i2)]) (rest := []) hx hb hml hown hq hE hX pX0_al hP hD hS hA hl.1 (L_get l G h0 a (upd F 2 (nI sz)) R Z B J K3 w lf 1 nlf itlf i2 (LgK.ls hlg3 hlclf).ls (by omega) hO) (gV pw_517 pw_90 pw_91 pw_32 pw_25) hV_Jx4a65c_get_915e3 qr62 10 hqr63 rfl rfl rfl (Nat.le_of_ble_eq_true rfl) dX9_judgeMembers_25 ⟨Nat.le_of_ble_eq_true rfl, Nat.le_of_ble_eq_true rfl⟩ ⟨Nat.le_of_ble_eq_true rfl, Nat.le_of_ble_eq_true rfl⟩ (fun v61 u59 H locs hw60 hP hD hS => ?_)
              obtain ⟨w, _⟩ := u59
              obtain ⟨hw60, hO⟩ := hw60
              obtain rfl : v61 = some (.ref (itlf i2)) := hw60
              have hO : OKP G h0 a (upd F 2 (nI sz)) R Z B J K3 w := hO.to rfl
              refine W.widen (k := 0) (n := 0) (Nat.le_of_ble_eq_true rfl) (Nat.le_of_ble_eq_true rfl) ?_
              refine W.eq (g2 := F0 m 28 ls [.ref (itlf i2)]) rfl ?_
              have hf64 : K.1 (itlf i2) = 1 := hlclf.T (by omega)
              refine p_cast (C := RX7) (Tc := TX7) (N := 11) (ci := 13) hx hb hown (hq _ pw_1090) hE hP hO (by rw [((LgK.T hlg3 (itlf i2)).trans hf64)]; decide) (rep_1 ((LgK.T hlg3 (itlf i2)).trans hf64)) rfl dX9_judgeMembers_28 ?_
              refine p_get (v := .int (K3.2.1 3 (itlf i2))) (C := RX7) (Tc := TX7) (N := 11) (ci := 13) hx hb hq pin_wsX70 hown hE hP hO (by rw [((LgK.T hlg3 (itlf i2)).trans hf64)]; decide) (rep_1 ((LgK.T hlg3 (itlf i2)).trans hf64)) rfl 3 (by decide) (hq _ pw_1091) (fun _ h9 => h9) rfl dX9_judgeMembers_31 ?_
              refine lv_aload_n hx hb dX9_judgeMembers_34 rfl (lv_at hl 2 rfl) ?_
              refine p_get (v := .ref lf) (C := RX2) (Tc := TX2) (N := 13) (ci := 2) hx hb hq pin_wsX20 hown hE hP hO (by rw [((LgK.T hlg3 d0).trans hd0)]; decide) (rep_4 ((LgK.T hlg3 d0).trans hd0)) rfl 7 (by decide) (hq _ pw_1089) (fun _ h9 => h9) (congrArg (fun z => some (va_rf z)) ((LgK.C hlg3 8 d0).trans hflf)) dX9_judgeMembers_35 ?_
              refine lv_iload_n hx hb dX9_judgeMembers_38 rfl (lv_at hl 0 rfl) ?_
              have hO : OKP G h0 a (upd F 2 (nI sz)) R Z B J K3 w := hO.to rfl
              obtain ⟨qr68, hqr69⟩ := p_recv hO (by rw [((LgK.T hlg3 lf).trans htlf)]; decide) (rep_5 ((LgK.T hlg3 lf).trans htlf))
              refine pc_V0 (G := G) (As := [.int (nI i3)]) (rest := [.int (K3.2.1 3 (itlf i2))]) hx hb hml hown hq hE hX pX0_al hP hD hS hA hl.1 (L_get l G h0 a (upd F 2 (nI sz)) R Z B J K3 w lf 1 nlf itlf i3 (LgK.ls hlg3 hlclf).ls (by omega) hO) (gV pw_517 pw_90 pw_91 pw_32 pw_25) hV_Jx4a65c_get_915e3 qr68 10 hqr69 rfl rfl rfl (Nat.le_of_ble_eq_true rfl) dX9_judgeMembers_39 ⟨Nat.le_of_ble_eq_true rfl, Nat.le_of_ble_eq_true rfl⟩ ⟨Nat.le_of_ble_eq_true rfl, Nat.le_of_ble_eq_true rfl⟩ (fun v67 u65 H locs hw66 hP hD hS => ?_)
              obtain ⟨w, _⟩ := u65
              obtain ⟨hw66, hO⟩ := hw66
              obtain rfl : v67 = some (.ref (itlf i3)) := hw66
              have hO : OKP G h0 a (upd F 2 (nI sz)) R Z B J K3 w := hO.to rfl
              refine W.widen (k := 0) (n := 0) (Nat.le_of_ble_eq_true rfl) (Nat.le_of_ble_eq_true rfl) ?_
              refine W.eq (g2 := F0 m 42 ls [.ref (itlf i3), .int (K3.2.1 3 (itlf i2))]) rfl ?_
              have hf70 : K.1 (itlf i3) = 1 := hlclf.T (by omega)
              refine p_cast (C := RX7) (Tc := TX7) (N := 11) (ci := 13) hx hb hown (hq _ pw_1090) hE hP hO (by rw [((LgK.T hlg3 (itlf i3)).trans hf70)]; decide) (rep_1 ((LgK.T hlg3 (itlf i3)).trans hf70)) rfl dX9_judgeMembers_42 ?_
              refine p_get (v := .int (K3.2.1 3 (itlf i3))) (C := RX7) (Tc := TX7) (N := 11) (ci := 13) hx hb hq pin_wsX70 hown hE hP hO (by rw [((LgK.T hlg3 (itlf i3)).trans hf70)]; decide) (rep_1 ((LgK.T hlg3 (itlf i3)).trans hf70)) rfl 3 (by decide) (hq _ pw_1091) (fun _ h9 => h9) rfl dX9_judgeMembers_45 ?_
              refine lv_icmp_ne (tgt := 70) hx hb dX9_judgeMembers_48 (by decide) (fun c71 => ?_) (fun c71 => ?_)
              · refine lv_iinc (v := (nI (i3 + 1))) (lv' := [(3, .int (nI (i3 + 1))), (2, .int (nI i2)), (1, .ref d0), (0, .ref pq)]) hx hb dX9_judgeMembers_70 hl (k := 0) rfl (nI_1 i3) (by decide) rfl (fun ls hl => ?_)
                refine lv_goto (tgt := 15) hx hb dX9_judgeMembers_73 (by decide) ?_
                have hO : OKP G h0 a (upd F 2 (nI sz)) R Z B J K3 w := hO.to rfl
                exact ih_3 (i3 + 1) K3 _ _ _ _ (by omega) (by omega) hlg3 (fun z => ⟨(hcl3 z).1, trivial⟩) hP hD hS hO (lv_sub hl [0, 1, 2, 3] rfl)
              · refine lv_aload_n hx hb dX9_judgeMembers_51 rfl (lv_at hl 3 rfl) ?_
                refine lv_iconst (v := 3) hx hb dX9_judgeMembers_52 (by decide) ?_
                refine lv_aload_n hx hb dX9_judgeMembers_53 rfl (lv_at hl 2 rfl) ?_
                refine p_get (v := .ref lf) (C := RX2) (Tc := TX2) (N := 13) (ci := 2) hx hb hq pin_wsX20 hown hE hP hO (by rw [((LgK.T hlg3 d0).trans hd0)]; decide) (rep_4 ((LgK.T hlg3 d0).trans hd0)) rfl 7 (by decide) (hq _ pw_1089) (fun _ h9 => h9) (congrArg (fun z => some (va_rf z)) ((LgK.C hlg3 8 d0).trans hflf)) dX9_judgeMembers_54 ?_
                refine lv_iload_n hx hb dX9_judgeMembers_57 rfl (lv_at hl 1 rfl) ?_
                have hO : OKP G h0 a (upd F 2 (nI sz)) R Z B J K3 w := hO.to rfl
                obtain ⟨qr75, hqr76⟩ := p_recv hO (by rw [((LgK.T hlg3 lf).trans htlf)]; decide) (rep_5 ((LgK.T hlg3 lf).trans htlf))
                refine pc_V0 (G := G) (As := [.int (nI i2)]) (rest := [.int 3, .ref pq]) hx hb hml hown hq hE hX pX0_al hP hD hS hA hl.1 (L_get l G h0 a (upd F 2 (nI sz)) R Z B J K3 w lf 1 nlf itlf i2 (LgK.ls hlg3 hlclf).ls (by omega) hO) (gV pw_517 pw_90 pw_91 pw_32 pw_25) hV_Jx4a65c_get_915e3 qr75 10 hqr76 rfl rfl rfl (Nat.le_of_ble_eq_true rfl) dX9_judgeMembers_58 ⟨Nat.le_of_ble_eq_true rfl, Nat.le_of_ble_eq_true rfl⟩ ⟨Nat.le_of_ble_eq_true rfl, Nat.le_of_ble_eq_true rfl⟩ (fun v74 u72 H locs hw73 hP hD hS => ?_)
                obtain ⟨w, _⟩ := u72
                obtain ⟨hw73, hO⟩ := hw73
                obtain rfl : v74 = some (.ref (itlf i2)) := hw73
                have hO : OKP G h0 a (upd F 2 (nI sz)) R Z B J K3 w := hO.to rfl
                refine W.widen (k := 0) (n := 0) (Nat.le_of_ble_eq_true rfl) (Nat.le_of_ble_eq_true rfl) ?_
                refine W.eq (g2 := F0 m 61 ls [.ref (itlf i2), .int 3, .ref pq]) rfl ?_
                have hf77 : K.1 (itlf i2) = 1 := hlclf.T (by omega)
                refine p_cast (C := RX7) (Tc := TX7) (N := 11) (ci := 13) hx hb hown (hq _ pw_1090) hE hP hO (by rw [((LgK.T hlg3 (itlf i2)).trans hf77)]; decide) (rep_1 ((LgK.T hlg3 (itlf i2)).trans hf77)) rfl dX9_judgeMembers_61 ?_
                refine p_get (v := .int (K3.2.1 1 (itlf i2))) (C := RX7) (Tc := TX7) (N := 11) (ci := 13) hx hb hq pin_wsX70 hown hE hP hO (by rw [((LgK.T hlg3 (itlf i2)).trans hf77)]; decide) (rep_1 ((LgK.T hlg3 (itlf i2)).trans hf77)) rfl 1 (by decide) (hq _ pw_1092) (fun _ h9 => h9) rfl dX9_judgeMembers_64 ?_
                have hO : OKP G h0 a (upd (upd F 2 (nI sz)) 2 (nI sz)) R Z B J K3 w := hO.to rfl
                obtain ⟨qr81, hqr82⟩ := p_recv hO (by rw [((LgK.T hlg3 pq).trans hp1)]; decide) (rep_7 ((LgK.T hlg3 pq).trans hp1))
                refine pc_V0 (G := G) (As := [.int 3, .int (K3.2.1 1 (itlf i2))]) (rest := []) hx hb hml hown hq hE hX pX0_al hP hD hS hA hl.1 (N_report l G h0 a (upd F 2 (nI sz)) R Z B J K3 w pq dr ml nd nm cp it s9 3 (K3.2.1 1 (itlf i2)) sz g (by omega) (LgK.wp hlg3 hwp) (LgK.ps hlg3 hps) hO) (gV pw_1096 pw_1097 pw_1098 pw_106 pw_1084) hV_X9_report qr81 6 hqr82 rfl rfl rfl (Nat.le_of_ble_eq_true rfl) dX9_judgeMembers_67 ⟨Nat.le_of_ble_eq_true rfl, Nat.le_of_ble_eq_true rfl⟩ ⟨Nat.le_of_ble_eq_true rfl, Nat.le_of_ble_eq_true rfl⟩ (fun v80 u78 H locs hw79 hP hD hS => ?_)
                obtain ⟨w, K83⟩ := u78
                obtain ⟨hw79, h84, h85, hO⟩ := hw79
                have h84 : LgK K3 K83 pq := h84
                have h85 : RpX 3 K83 pq := h85
                obtain rfl : v80 = none := hw79
                have hO : OKP G h0 a (upd F 2 (nI sz)) R Z B J K83 w := hO.to rfl
                refine W.widen (k := 0) (n := 0) (Nat.le_of_ble_eq_true rfl) (Nat.le_of_ble_eq_true rfl) ?_
                refine W.eq (g2 := F0 m 70 ls []) rfl ?_
                have hlg86 : LgK K K83 pq := LgK.trans hlg3 h84
                have hm87 : Cln K83 pq → Cln K3 pq := fun z => absurd z (h85 (by decide))
                refine lv_iinc (v := (nI (i3 + 1))) (lv' := [(3, .int (nI (i3 + 1))), (2, .int (nI i2)), (1, .ref d0), (0, .ref pq)]) hx hb dX9_judgeMembers_70 hl (k := 0) rfl (nI_1 i3) (by decide) rfl (fun ls hl => ?_)
                refine lv_goto (tgt := 15) hx hb dX9_judgeMembers_73 (by decide) ?_
                have hO : OKP G h0 a (upd F 2 (nI sz)) R Z B J K83 w := hO.to rfl
                exact ih_3 (i3 + 1) K83 _ _ _ _ (by omega) (by omega) hlg86 (fun z => absurd z (h85 (by decide))) hP hD hS hO (lv_sub hl [0, 1, 2, 3] rfl)
        have hO : OKP G h0 a (upd F 2 (nI sz)) R Z B J K2 w := hO.to rfl
        exact loop_3 (i2 + 1) 0 K2 _ _ _ _ (by omega) (by omega) hlg2 (fun z => ⟨(hcl2 z).1, trivial⟩) hP hD hS hO (lv_sub hl [0, 1, 2, 3] rfl)
  have hO : OKP G h0 a (upd F 2 (nI sz)) R Z B J K w := hO.to rfl
  exact loop_2 (nlf + 1) 0 K _ _ _ _ (by omega) (by omega) LgK.rfl (fun z => ⟨z, trivial⟩) hP hD hS hO (lv_sub hl [0, 2, 1] rfl)
