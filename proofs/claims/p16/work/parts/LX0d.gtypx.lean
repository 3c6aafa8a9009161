set_option maxHeartbeats 2000000 in
set_option maxRecDepth 100000 in
theorem N_typeAt (l : Launch) (G : pT) (h0 : Nat) (a : Nat → Nat) (F : Nat → Int32) (R : Nat → Value) (Z : Int64) (B : Nat → Nat → Int32) (J : Nat → Nat → Int64) (T : Nat → Nat) (Pi : Nat → va_E → Prop) (w : va_W) (x : Int32) (sz : Nat) (hsz : sz ≤ 5000) (hO : OKW G h0 a (upd F 2 (nI sz)) R Z B J T Pi w) : PM l G pX0 yX10_typeAt cX10_typeAt 2 (some .int) ({ frames := 2, cells := 0, slots := 0, locals := 60 }) [.ref (a 1), .int x] w (fun (v : Option Value) (u : va_W × (Unit)) => v = some (.int (tkN (B 11) sz 63 x)) ∧ (OKW G h0 a (upd F 2 (nI sz)) R Z B J T Pi u.1)) (fun u => u.1) := by
  intro sz
  refine Met.ofW (cc := cX10_typeAt) (maxL := 2) (ret := (some .int)) (by decide) rfl ?_
  intro p e s m args below meth c s₁ B9 hml hv
  obtain ⟨rfl, hsz, hP, hD0, hE, hX⟩ := hv
  have hx := B9.exec
  have hb := B9.bytes
  have hr := B9.returns
  have hts := atoms_spec (ws := Cond.code yX10_typeAt cX10_typeAt 2 (some .int) :: pw) B9.pre
  have hq : ∀ w ∈ pw, w.before _ s = true := fun w h => hts w (List.mem_cons_of_mem _ h)
  have hown : s.vm.findClass RX10 = some m.cls := findClass_of_methodNamed B9.named
  have hlocks := B9.notSynchronized
  subst hsz
  have hD := hD0.self (sz := s.heap.size)
  have hA : ∀ q : Nat, s.heap.size ≤ q → va_A w s.heap.size q := fun q h => Or.inr h
  generalize va_A w s.heap.size = A at hD hE hA ⊢
  have hS : va_S A s.heap s.heap [] := va_S.rf
  have hl := lv_entry ([.ref (a 1), .int x]) (n := 2) (Nat.le_of_ble_eq_true rfl)
  rw [lg_entry_eq]
  generalize (lg_sl ([.ref (a 1), .int x]) ++ List.replicate (2 - (lg_sl ([.ref (a 1), .int x])).length) Slot.unset).toArray = ls at hl ⊢
  have hl : lv_has ls 2 [(0, .ref (a 1)), (1, .int x)] := hl
  refine lv_iload_n hx hb dX10_typeAt_0 rfl (lv_at hl 1 rfl) ?_
  refine lv_if_lt (tgt := 21) hx hb dX10_typeAt_1 (by decide) (fun c1 => ?_) (fun c1 => ?_)
  · refine lv_bipush (v := 63) hx hb dX10_typeAt_21 (by decide) ?_
    have hO : OKW G h0 a (upd F 2 (nI sz)) R Z B J T Pi w := hO.to rfl
    exact W.iret (v := 63) hx hb hr (fun t99 ht99 hW99 => ⟨⟨_, (w, ()), rfl, ⟨(congrArg (fun z => some (Value.int z)) (tkN_out (Or.inl c1)).symm), hO⟩, by rw [ht99]; exact hP, hD⟩, hS.F ht99⟩) hS.2.2 dX10_typeAt_23
  · obtain ⟨t9, ht_t9, hb_t9⟩ := nI_nn2 c1
    rw [ht_t9] at hl
    refine lv_iload_n hx hb dX10_typeAt_4 rfl (lv_at hl 1 rfl) ?_
    refine lv_aload_n hx hb dX10_typeAt_5 rfl (lv_at hl 0 rfl) ?_
    refine c_get (v := .int (nI sz)) (C := RX10) (Tc := TX10) (N := 15) (ci := 7) hx hb hq pin_wsX100 hown hE hP hO 2 (sg_2 G h0 a _ _ _ _ _) rfl 8 (by decide) (hq _ pw_37) (fun _ h9 => h9) rfl dX10_typeAt_6 ?_
    refine lv_icmp_ge (tgt := 21) hx hb dX10_typeAt_9 (by decide) (fun c2 => ?_) (fun c2 => ?_)
    · have n3 : sz ≤ t9 := (nI_leI (a := sz) (b := t9) (by omega) (by omega)).mp c2
      refine lv_bipush (v := 63) hx hb dX10_typeAt_21 (by decide) ?_
      have hO : OKW G h0 a (upd F 2 (nI sz)) R Z B J T Pi w := hO.to rfl
      exact W.iret (v := 63) hx hb hr (fun t99 ht99 hW99 => ⟨⟨_, (w, ()), rfl, ⟨(congrArg (fun z => some (Value.int z)) (by rw [ht_t9]; exact (tkN_out (Or.inr c2)).symm)), hO⟩, by rw [ht99]; exact hP, hD⟩, hS.F ht99⟩) hS.2.2 dX10_typeAt_23
    · have n4 : ¬ (sz ≤ t9) := fun h9 => c2 ((nI_leI (a := sz) (b := t9) (by omega) (by omega)).mpr h9)
      refine lv_aload_n hx hb dX10_typeAt_12 rfl (lv_at hl 0 rfl) ?_
      refine c_get (v := .ref (a 11)) (C := RX10) (Tc := TX10) (N := 15) (ci := 7) hx hb hq pin_wsX100 hown hE hP hO 2 (sg_2 G h0 a _ _ _ _ _) rfl 7 (by decide) (hq _ pw_38) (fun _ h9 => h9) rfl dX10_typeAt_13 ?_
      refine lv_iload_n hx hb dX10_typeAt_16 rfl (lv_at hl 1 rfl) ?_
      refine c_ldi (f := (B 11)) (n := 5000) (t0 := 0) hx hb hE hP hO 8 (sg_8 G h0 a _ _ _ _ _) rfl (vp_in_nI (by omega) (by decide)) dX10_typeAt_17 ?_
      rw [(nI_clamp (show t9 < 2 ^ 31 by omega))]
      refine lv_goto (tgt := 23) hx hb dX10_typeAt_18 (by decide) ?_
      have hO : OKW G h0 a (upd F 2 (nI sz)) R Z B J T Pi w := hO.to rfl
      exact W.iret (v := ((B 11) t9)) hx hb hr (fun t99 ht99 hW99 => ⟨⟨_, (w, ()), rfl, ⟨(congrArg (fun z => some (Value.int z)) (by rw [ht_t9]; exact (tkN_in (by omega) (by omega)).symm)), hO⟩, by rw [ht99]; exact hP, hD⟩, hS.F ht99⟩) hS.2.2 dX10_typeAt_23
set_option maxHeartbeats 2000000 in
set_option maxRecDepth 100000 in
theorem N_giveType (l : Launch) (G : pT) (h0 : Nat) (a : Nat → Nat) (F : Nat → Int32) (R : Nat → Value) (Z : Int64) (B : Nat → Nat → Int32) (J : Nat → Nat → Int64) (T : Nat → Nat) (Pi : Nat → va_E → Prop) (w : va_W) (t9 : Nat) (y : Int32) (sz : Nat) (hsz : sz ≤ 5000) (ht9 : t9 < sz) (hO : OKW G h0 a (upd F 2 (nI sz)) R Z B J T Pi w) : PM l G pX0 yX10_giveType cX10_giveType 3 none ({ frames := 2, cells := 0, slots := 0, locals := 60 }) [.ref (a 1), .int (nI t9), .int y] w (fun (v : Option Value) (u : va_W × (Unit)) => v = none ∧ (OKW G h0 a (upd F 2 (nI sz)) R Z (updA B 11 (upd (B 11) t9 y)) J T Pi u.1)) (fun u => u.1) := by
  intro sz
  refine Met.ofW (cc := cX10_giveType) (maxL := 3) (ret := none) (by decide) rfl ?_
  intro p e s m args below meth c s₁ B9 hml hv
  obtain ⟨rfl, hsz, hP, hD0, hE, hX⟩ := hv
  have hx := B9.exec
  have hb := B9.bytes
  have hr := B9.returns
  have hts := atoms_spec (ws := Cond.code yX10_giveType cX10_giveType 3 none :: pw) B9.pre
  have hq : ∀ w ∈ pw, w.before _ s = true := fun w h => hts w (List.mem_cons_of_mem _ h)
  have hown : s.vm.findClass RX10 = some m.cls := findClass_of_methodNamed B9.named
  have hlocks := B9.notSynchronized
  subst hsz
  have hD := hD0.self (sz := s.heap.size)
  have hA : ∀ q : Nat, s.heap.size ≤ q → va_A w s.heap.size q := fun q h => Or.inr h
  generalize va_A w s.heap.size = A at hD hE hA ⊢
  have hS : va_S A s.heap s.heap [] := va_S.rf
  have hl := lv_entry ([.ref (a 1), .int (nI t9), .int y]) (n := 3) (Nat.le_of_ble_eq_true rfl)
  rw [lg_entry_eq]
  generalize (lg_sl ([.ref (a 1), .int (nI t9), .int y]) ++ List.replicate (3 - (lg_sl ([.ref (a 1), .int (nI t9), .int y])).length) Slot.unset).toArray = ls at hl ⊢
  have hl : lv_has ls 3 [(0, .ref (a 1)), (1, .int (nI t9)), (2, .int y)] := hl
  refine lv_iload_n hx hb dX10_giveType_0 rfl (lv_at hl 1 rfl) ?_
  refine lv_if_lt (tgt := 19) hx hb dX10_giveType_1 (by decide) (fun c1 => (absurd c1 (nI_pos (by omega)))) (fun c1 => ?_)
  refine lv_iload_n hx hb dX10_giveType_4 rfl (lv_at hl 1 rfl) ?_
  refine lv_aload_n hx hb dX10_giveType_5 rfl (lv_at hl 0 rfl) ?_
  refine c_get (v := .int (nI sz)) (C := RX10) (Tc := TX10) (N := 15) (ci := 7) hx hb hq pin_wsX100 hown hE hP hO 2 (sg_2 G h0 a _ _ _ _ _) rfl 8 (by decide) (hq _ pw_37) (fun _ h9 => h9) rfl dX10_giveType_6 ?_
  refine lv_icmp_ge (tgt := 19) hx hb dX10_giveType_9 (by decide) (fun c2 => (by have n3 : sz ≤ t9 := (nI_leI (a := sz) (b := t9) (by omega) (by omega)).mp c2; omega)) (fun c2 => ?_)
  refine lv_aload_n hx hb dX10_giveType_12 rfl (lv_at hl 0 rfl) ?_
  refine c_get (v := .ref (a 11)) (C := RX10) (Tc := TX10) (N := 15) (ci := 7) hx hb hq pin_wsX100 hown hE hP hO 2 (sg_2 G h0 a _ _ _ _ _) rfl 7 (by decide) (hq _ pw_38) (fun _ h9 => h9) rfl dX10_giveType_13 ?_
  refine lv_iload_n hx hb dX10_giveType_16 rfl (lv_at hl 1 rfl) ?_
  refine lv_iload_n hx hb dX10_giveType_17 rfl (lv_at hl 2 rfl) ?_
  refine c_sti (f := (B 11)) (n := 5000) (t0 := 0) hx hb hE hP hD hS hO 8 (sg_8 G h0 a _ _ _ _ _) rfl (vp_in_nI (by omega) (by decide)) (sb_11 G h0 a _ _ _ _ _ _) dX10_giveType_18 (fun H locs w hP hD hS hO => ?_)
  rw [(nI_clamp (show t9 < 2 ^ 31 by omega))] at hO
  have hO : OKW G h0 a (upd F 2 (nI sz)) R Z (updA B 11 (upd (B 11) t9 y)) J T Pi w := hO.to rfl
  exact W.vret hx hb hr (fun t99 ht99 hW99 => ⟨⟨_, (w, ()), rfl, ⟨rfl, hO⟩, by rw [ht99]; exact hP, hD⟩, hS.F ht99⟩) hS.2.2 dX10_giveType_19
set_option maxHeartbeats 60000000 in
set_option maxRecDepth 100000 in
theorem N_resolveTypes (l : Launch) (G : pT) (h0 : Nat) (a : Nat → Nat) (F : Nat → Int32) (R : Nat → Value) (Z : Int64) (B : Nat → Nat → Int32) (J : Nat → Nat → Int64) (K : PK) (w : va_W) (pq : Nat) (dr : Nat) (ml : Nat) (nd : Nat) (sz : Nat) (g : Nat → Nat → Nat) (hpb : PgB K g (a 1) pq dr ml nd) (hsz : sz ≤ 5000) (hdc : DcR K g dr nd) (hO : OKP G h0 a (upd F 2 (nI sz)) R Z B J K w) : PM l G pX0 yX9_resolveTypes cX9_resolveTypes 4 none ({ frames := 3, cells := 0, slots := 0, locals := 82 }) [.ref pq] w (fun (v : Option Value) (u : va_W × ((Nat → Int32))) => v = none ∧ (TyX K dr nd (B 9) (B 10) (B 7) sz u.2) ∧ (OKP G h0 a (upd F 2 (nI sz)) R Z (updA B 11 u.2) J K u.1)) (fun u => u.1) := by
  intro sz
  refine Met.ofW (cc := cX9_resolveTypes) (maxL := 4) (ret := none) (by decide) rfl ?_
  intro p e s m args below meth c s₁ B9 hml hv
  obtain ⟨rfl, hsz, hP, hD0, hE, hX⟩ := hv
  have hx := B9.exec
  have hb := B9.bytes
  have hr := B9.returns
  have hts := atoms_spec (ws := Cond.code yX9_resolveTypes cX9_resolveTypes 4 none :: pw) B9.pre
  have hq : ∀ w ∈ pw, w.before _ s = true := fun w h => hts w (List.mem_cons_of_mem _ h)
  have hown : s.vm.findClass RX9 = some m.cls := findClass_of_methodNamed B9.named
  have hlocks := B9.notSynchronized
  subst hsz
  have hD := hD0.self (sz := s.heap.size)
  have hA : ∀ q : Nat, s.heap.size ≤ q → va_A w s.heap.size q := fun q h => Or.inr h
  generalize va_A w s.heap.size = A at hD hE hA ⊢
  have hS : va_S A s.heap s.heap [] := va_S.rf
  have hl := lv_entry ([.ref pq]) (n := 4) (Nat.le_of_ble_eq_true rfl)
  rw [lg_entry_eq]
  generalize (lg_sl ([.ref pq]) ++ List.replicate (4 - (lg_sl ([.ref pq])).length) Slot.unset).toArray = ls at hl ⊢
  have hl : lv_has ls 4 [(0, .ref pq)] := hl
  have hp1 := hpb.1
  have hp2 := hpb.2.1
  have hp3 := hpb.2.2.1
  have hp4 := hpb.2.2.2.1
  have hp5 := hpb.2.2.2.2.1
  have hp6 := hpb.2.2.2.2.2.1
  have hp8 := hpb.2.2.2.2.2.2.2.1
  have hp9 := hpb.2.2.2.2.2.2.2.2
  refine lv_iconst (v := 0) hx hb dX9_resolveTypes_0 (by decide) ?_
  refine lv_istore_n (lv' := [(1, .int 0), (0, .ref pq)]) hx hb dX9_resolveTypes_1 rfl hl (by decide) rfl (fun ls hl => ?_)
  have loop_i : ∀ (n_i : Nat) (i2 : Nat) (f2 : Nat → Int32) (H : Heap) (locs : List Loc) (ls : Array Slot) (w : va_W), i2 ≤ sz → sz + 1 ≤ i2 + n_i → (∀ t : Nat, t < i2 → TyO K dr nd (B 9) (B 10) (B 7) sz f2 t) → va_P G.1 pCl w H → va_D A w → va_S A s.heap H locs → OKP G h0 a (upd F 2 (nI sz)) R Z (updA B 11 f2) J K w → lv_has ls 4 [(1, .int (nI i2)), (0, .ref pq)] → W p l e (headSpec (Cond.code yX9_resolveTypes cX9_resolveTypes 4 none :: pw) ({ frames := 3, cells := 0, slots := 0, locals := 82 } : Room)).room s m ([.ref pq] : List Value).toArray below meth c H locs 0 0 (MQ below (pQ G A (fun (v : Option Value) (u : va_W × ((Nat → Int32))) => v = none ∧ (TyX K dr nd (B 9) (B 10) (B 7) sz u.2) ∧ (OKP G h0 a (upd F 2 (nI sz)) R Z (updA B 11 u.2) J K u.1)) (fun u => u.1)) ([.ref pq] : List Value).toArray s ({ frames := 3, cells := 0, slots := 0, locals := 82 } : Room).cells ({ frames := 3, cells := 0, slots := 0, locals := 82 } : Room).slots A) (F0 m 2 ls []) := by
    intro n_i
    induction n_i with
    | zero => intro i2 f2 H locs ls w hk_i hn_i; omega
    | succ n_i ih_i =>
      intro i2 f2 H locs ls w hk_i hn_i hty hP hD hS hO hl
      refine lv_iload_n hx hb dX9_resolveTypes_2 rfl (lv_at hl 0 rfl) ?_
      refine lv_aload_n hx hb dX9_resolveTypes_3 rfl (lv_at hl 1 rfl) ?_
      refine p_get (v := .ref (a 1)) (C := RX9) (Tc := TX9) (N := 5) (ci := 6) hx hb hq pin_wsX90 hown hE hP hO (by rw [hp1]; decide) (rep_7 hp1) rfl 0 (by decide) (hq _ pw_784) (fun _ h9 => h9) (congrArg (fun z => some (va_rf z)) hp2) dX9_resolveTypes_4 ?_
      refine c_get (v := .int (nI sz)) (C := RX10) (Tc := TX10) (N := 15) (ci := 7) hx hb hq pin_wsX100 hown hE hP hO 2 (sg_2 G h0 a _ _ _ _ _) rfl 8 (by decide) (hq _ pw_1115) (fun _ h9 => h9) rfl dX9_resolveTypes_7 ?_
      refine lv_icmp_ge (tgt := 157) hx hb dX9_resolveTypes_10 (by decide) (fun c1 => ?_) (fun c1 => ?_)
      · have n2 : sz ≤ i2 := (nI_leI (a := sz) (b := i2) (by omega) (by omega)).mp c1
        have hz3 : TyX K dr nd (B 9) (B 10) (B 7) sz f2 := (fun t ht => hty t (by omega))
        have hO : OKP G h0 a (upd F 2 (nI sz)) R Z (updA B 11 f2) J K w := hO.to rfl
        exact W.vret hx hb hr (fun t99 ht99 hW99 => ⟨⟨_, (w, f2), rfl, ⟨rfl, hz3, hO⟩, by rw [ht99]; exact hP, hD⟩, hS.F ht99⟩) hS.2.2 dX9_resolveTypes_157
      · have n4 : ¬ (sz ≤ i2) := fun h9 => c1 ((nI_leI (a := sz) (b := i2) (by omega) (by omega)).mpr h9)
        refine lv_bipush (v := 63) hx hb dX9_resolveTypes_13 (by decide) ?_
        refine lv_istore_n (lv' := [(2, .int 63), (1, .int (nI i2)), (0, .ref pq)]) hx hb dX9_resolveTypes_15 rfl hl (by decide) rfl (fun ls hl => ?_)
        refine lv_aload_n hx hb dX9_resolveTypes_16 rfl (lv_at hl 2 rfl) ?_
        refine p_get (v := .ref (a 1)) (C := RX9) (Tc := TX9) (N := 5) (ci := 6) hx hb hq pin_wsX90 hown hE hP hO (by rw [hp1]; decide) (rep_7 hp1) rfl 0 (by decide) (hq _ pw_784) (fun _ h9 => h9) (congrArg (fun z => some (va_rf z)) hp2) dX9_resolveTypes_17 ?_
        refine lv_iload_n hx hb dX9_resolveTypes_20 rfl (lv_at hl 1 rfl) ?_
        have hO : OKW G h0 a (upd (upd F 2 (nI sz)) 2 (nI sz)) R Z (updA B 11 f2) J K.1 (fun q99 x99 => x99 = rep G a K q99) w := hO.to rfl
        obtain ⟨_, qr8, hqr9⟩ := hO.2.1 2 _ (sg_2 G h0 a _ _ _ _ _)
        refine pc_V0 (G := G) (As := [.int (nI i2)]) (rest := []) hx hb hml hown hq hE hX pX0_al hP hD hS hA hl.1 (N_roleAt l G h0 a (upd F 2 (nI sz)) R Z (updA B 11 f2) J K.1 (fun q99 x99 => x99 = rep G a K q99) w (nI i2) sz (by omega) hO) (gV pw_1122 pw_1123 pw_1124 pw_59 pw_1112) hV_X10_roleAt qr8 7 hqr9 rfl rfl rfl (Nat.le_of_ble_eq_true rfl) dX9_resolveTypes_21 ⟨Nat.le_of_ble_eq_true rfl, Nat.le_of_ble_eq_true rfl⟩ ⟨Nat.le_of_ble_eq_true rfl, Nat.le_of_ble_eq_true rfl⟩ (fun v7 u5 H locs hw6 hP hD hS => ?_)
        obtain ⟨w, _⟩ := u5
        obtain ⟨hw6, hO⟩ := hw6
        obtain rfl : v7 = some (.int (tkN ((B 10)) sz 0 (nI i2))) := hw6
        have hO : OKP G h0 a (upd F 2 (nI sz)) R Z (updA B 11 f2) J K w := hO.to rfl
        refine W.widen (k := 0) (n := 0) (Nat.le_of_ble_eq_true rfl) (Nat.le_of_ble_eq_true rfl) ?_
        refine W.eq (g2 := F0 m 24 ls [.int (tkN ((B 10)) sz 0 (nI i2))]) rfl ?_
        rw [show tkN (B 10) sz 0 (nI i2) = B 10 i2 from tkN_in (by omega) (by omega)]
        refine lv_if_eq (tgt := 43) hx hb dX9_resolveTypes_24 (by decide) (fun c10 => ?_) (fun c10 => ?_)
        · refine lv_aload_n hx hb dX9_resolveTypes_43 rfl (lv_at hl 2 rfl) ?_
          refine p_get (v := .ref (a 1)) (C := RX9) (Tc := TX9) (N := 5) (ci := 6) hx hb hq pin_wsX90 hown hE hP hO (by rw [hp1]; decide) (rep_7 hp1) rfl 0 (by decide) (hq _ pw_784) (fun _ h9 => h9) (congrArg (fun z => some (va_rf z)) hp2) dX9_resolveTypes_44 ?_
          refine lv_iload_n hx hb dX9_resolveTypes_47 rfl (lv_at hl 1 rfl) ?_
          have hO : OKW G h0 a (upd (upd F 2 (nI sz)) 2 (nI sz)) R Z (updA B 11 f2) J K.1 (fun q99 x99 => x99 = rep G a K q99) w := hO.to rfl
          obtain ⟨_, qr14, hqr15⟩ := hO.2.1 2 _ (sg_2 G h0 a _ _ _ _ _)
          refine pc_V0 (G := G) (As := [.int (nI i2)]) (rest := []) hx hb hml hown hq hE hX pX0_al hP hD hS hA hl.1 (Y_kindAt l G h0 a (upd F 2 (nI sz)) R Z (updA B 11 f2) J K.1 (fun q99 x99 => x99 = rep G a K q99) w (nI i2) sz (by omega) hO) (gV pw_1133 pw_193 pw_194 pw_59 pw_126) hV_X10_kindAt qr14 7 hqr15 rfl rfl rfl (Nat.le_of_ble_eq_true rfl) dX9_resolveTypes_48 ⟨Nat.le_of_ble_eq_true rfl, Nat.le_of_ble_eq_true rfl⟩ ⟨Nat.le_of_ble_eq_true rfl, Nat.le_of_ble_eq_true rfl⟩ (fun v13 u11 H locs hw12 hP hD hS => ?_)
          obtain ⟨w, _⟩ := u11
          obtain ⟨hw12, hO⟩ := hw12
          obtain rfl : v13 = some (.int (tkN ((B 7)) sz 67 (nI i2))) := hw12
          have hO : OKP G h0 a (upd F 2 (nI sz)) R Z (updA B 11 f2) J K w := hO.to rfl
          refine W.widen (k := 0) (n := 0) (Nat.le_of_ble_eq_true rfl) (Nat.le_of_ble_eq_true rfl) ?_
          refine W.eq (g2 := F0 m 51 ls [.int (tkN ((B 7)) sz 67 (nI i2))]) rfl ?_
          rw [show tkN (B 7) sz 67 (nI i2) = B 7 i2 from tkN_in (by omega) (by omega)]
          refine lv_bipush (v := 13) hx hb dX9_resolveTypes_51 (by decide) ?_
          refine lv_icmp_eq (tgt := 68) hx hb dX9_resolveTypes_53 (by decide) (fun c16 => ?_) (fun c16 => ?_)
          · refine lv_aload_n hx hb dX9_resolveTypes_68 rfl (lv_at hl 2 rfl) ?_
            refine p_get (v := .ref (a 1)) (C := RX9) (Tc := TX9) (N := 5) (ci := 6) hx hb hq pin_wsX90 hown hE hP hO (by rw [hp1]; decide) (rep_7 hp1) rfl 0 (by decide) (hq _ pw_784) (fun _ h9 => h9) (congrArg (fun z => some (va_rf z)) hp2) dX9_resolveTypes_69 ?_
            refine lv_iload_n hx hb dX9_resolveTypes_72 rfl (lv_at hl 1 rfl) ?_
            have hO : OKW G h0 a (upd (upd F 2 (nI sz)) 2 (nI sz)) R Z (updA B 11 f2) J K.1 (fun q99 x99 => x99 = rep G a K q99) w := hO.to rfl
            obtain ⟨_, qr20, hqr21⟩ := hO.2.1 2 _ (sg_2 G h0 a _ _ _ _ _)
            refine pc_V0 (G := G) (As := [.int (nI i2)]) (rest := []) hx hb hml hown hq hE hX pX0_al hP hD hS hA hl.1 (Y_kindAt l G h0 a (upd F 2 (nI sz)) R Z (updA B 11 f2) J K.1 (fun q99 x99 => x99 = rep G a K q99) w (nI i2) sz (by omega) hO) (gV pw_1133 pw_193 pw_194 pw_59 pw_126) hV_X10_kindAt qr20 7 hqr21 rfl rfl rfl (Nat.le_of_ble_eq_true rfl) dX9_resolveTypes_73 ⟨Nat.le_of_ble_eq_true rfl, Nat.le_of_ble_eq_true rfl⟩ ⟨Nat.le_of_ble_eq_true rfl, Nat.le_of_ble_eq_true rfl⟩ (fun v19 u17 H locs hw18 hP hD hS => ?_)
            obtain ⟨w, _⟩ := u17
            obtain ⟨hw18, hO⟩ := hw18
            obtain rfl : v19 = some (.int (tkN ((B 7)) sz 67 (nI i2))) := hw18
            have hO : OKP G h0 a (upd F 2 (nI sz)) R Z (updA B 11 f2) J K w := hO.to rfl
            refine W.widen (k := 0) (n := 0) (Nat.le_of_ble_eq_true rfl) (Nat.le_of_ble_eq_true rfl) ?_
            refine W.eq (g2 := F0 m 76 ls [.int (tkN ((B 7)) sz 67 (nI i2))]) rfl ?_
            rw [show tkN (B 7) sz 67 (nI i2) = B 7 i2 from tkN_in (by omega) (by omega)]
            refine lv_bipush (v := 13) hx hb dX9_resolveTypes_76 (by decide) ?_
            refine lv_icmp_ne (tgt := 86) hx hb dX9_resolveTypes_78 (by decide) (fun c22 => ?_) (fun c22 => ?_)
            · refine lv_bipush (v := 61) hx hb dX9_resolveTypes_86 (by decide) ?_
              refine lv_istore_n (lv' := [(2, .int 61), (1, .int (nI i2)), (0, .ref pq)]) hx hb dX9_resolveTypes_88 rfl hl (by decide) rfl (fun ls hl => ?_)
              refine lv_aload_n hx hb dX9_resolveTypes_89 rfl (lv_at hl 2 rfl) ?_
              refine p_get (v := .ref (a 1)) (C := RX9) (Tc := TX9) (N := 5) (ci := 6) hx hb hq pin_wsX90 hown hE hP hO (by rw [hp1]; decide) (rep_7 hp1) rfl 0 (by decide) (hq _ pw_784) (fun _ h9 => h9) (congrArg (fun z => some (va_rf z)) hp2) dX9_resolveTypes_90 ?_
              refine lv_iload_n hx hb dX9_resolveTypes_93 rfl (lv_at hl 1 rfl) ?_
              refine lv_iconst (v := 1) hx hb dX9_resolveTypes_94 (by decide) ?_
              refine lv_iadd hx hb dX9_resolveTypes_95 ?_
              refine lv_topi (fun x23 e24 => ?_)
              obtain rfl : x23 = nI (i2 + 1) := e24.trans (nI_add (i2) (1))
              have hO : OKW G h0 a (upd (upd F 2 (nI sz)) 2 (nI sz)) R Z (updA B 11 f2) J K.1 (fun q99 x99 => x99 = rep G a K q99) w := hO.to rfl
              obtain ⟨_, qr28, hqr29⟩ := hO.2.1 2 _ (sg_2 G h0 a _ _ _ _ _)
              refine pc_V0 (G := G) (As := [.int (nI (i2 + 1))]) (rest := []) hx hb hml hown hq hE hX pX0_al hP hD hS hA hl.1 (Y_kindAt l G h0 a (upd F 2 (nI sz)) R Z (updA B 11 f2) J K.1 (fun q99 x99 => x99 = rep G a K q99) w (nI (i2 + 1)) sz (by omega) hO) (gV pw_1133 pw_193 pw_194 pw_59 pw_126) hV_X10_kindAt qr28 7 hqr29 rfl rfl rfl (Nat.le_of_ble_eq_true rfl) dX9_resolveTypes_96 ⟨Nat.le_of_ble_eq_true rfl, Nat.le_of_ble_eq_true rfl⟩ ⟨Nat.le_of_ble_eq_true rfl, Nat.le_of_ble_eq_true rfl⟩ (fun v27 u25 H locs hw26 hP hD hS => ?_)
              obtain ⟨w, _⟩ := u25
              obtain ⟨hw26, hO⟩ := hw26
              obtain rfl : v27 = some (.int (tkN ((B 7)) sz 67 (nI (i2 + 1)))) := hw26
              have hO : OKP G h0 a (upd F 2 (nI sz)) R Z (updA B 11 f2) J K w := hO.to rfl
              refine W.widen (k := 0) (n := 0) (Nat.le_of_ble_eq_true rfl) (Nat.le_of_ble_eq_true rfl) ?_
              refine W.eq (g2 := F0 m 99 ls [.int (tkN ((B 7)) sz 67 (nI (i2 + 1)))]) rfl ?_
              refine lv_bipush (v := 36) hx hb dX9_resolveTypes_99 (by decide) ?_
              refine lv_icmp_ne (tgt := 123) hx hb dX9_resolveTypes_101 (by decide) (fun c30 => ?_) (fun c30 => ?_)
              · refine lv_iconst (v := 0) hx hb dX9_resolveTypes_123 (by decide) ?_
                refine lv_istore_n (lv' := [(3, .int 0), (2, .int 61), (1, .int (nI i2)), (0, .ref pq)]) hx hb dX9_resolveTypes_124 rfl hl (by decide) rfl (fun ls hl => ?_)
                refine lv_aload_n hx hb dX9_resolveTypes_125 rfl (lv_at hl 3 rfl) ?_
                refine p_get (v := .ref (a 1)) (C := RX9) (Tc := TX9) (N := 5) (ci := 6) hx hb hq pin_wsX90 hown hE hP hO (by rw [hp1]; decide) (rep_7 hp1) rfl 0 (by decide) (hq _ pw_784) (fun _ h9 => h9) (congrArg (fun z => some (va_rf z)) hp2) dX9_resolveTypes_126 ?_
                refine lv_iload_n hx hb dX9_resolveTypes_129 rfl (lv_at hl 2 rfl) ?_
                refine lv_iload_n hx hb dX9_resolveTypes_130 rfl (lv_at hl 0 rfl) ?_
                refine lv_if_eq (tgt := 147) hx hb dX9_resolveTypes_131 (by decide) (fun c31 => ?_) (fun c31 => absurd c31 (by decide))
                refine lv_iload_n hx hb dX9_resolveTypes_147 rfl (lv_at hl 1 rfl) ?_
                have hO : OKW G h0 a (upd (upd F 2 (nI sz)) 2 (nI sz)) R Z (updA B 11 f2) J K.1 (fun q99 x99 => x99 = rep G a K q99) w := hO.to rfl
                obtain ⟨_, qr35, hqr36⟩ := hO.2.1 2 _ (sg_2 G h0 a _ _ _ _ _)
                refine pc_V0 (G := G) (As := [.int (nI i2), .int 61]) (rest := []) hx hb hml hown hq hE hX pX0_al hP hD hS hA hl.1 (N_giveType l G h0 a (upd F 2 (nI sz)) R Z (updA B 11 f2) J K.1 (fun q99 x99 => x99 = rep G a K q99) w i2 61 sz (by omega) (by omega) hO) (gV pw_1134 pw_1135 pw_1136 pw_59 pw_1132) hV_X10_giveType qr35 7 hqr36 rfl rfl rfl (Nat.le_of_ble_eq_true rfl) dX9_resolveTypes_148 ⟨Nat.le_of_ble_eq_true rfl, Nat.le_of_ble_eq_true rfl⟩ ⟨Nat.le_of_ble_eq_true rfl, Nat.le_of_ble_eq_true rfl⟩ (fun v34 u32 H locs hw33 hP hD hS => ?_)
                obtain ⟨w, _⟩ := u32
                obtain ⟨hw33, hO⟩ := hw33
                obtain rfl : v34 = none := hw33
                have hO : OKP G h0 a (upd F 2 (nI sz)) R Z (updA B 11 (upd (f2) i2 61)) J K w := hO.to rfl
                refine W.widen (k := 0) (n := 0) (Nat.le_of_ble_eq_true rfl) (Nat.le_of_ble_eq_true rfl) ?_
                refine W.eq (g2 := F0 m 151 ls []) rfl ?_
                have htx37 : ∀ t : Nat, t < i2 + 1 → TyO K dr nd (B 9) (B 10) (B 7) sz (upd f2 i2 (61 : Int32)) t := TyX.up (r := (61 : Int32)) (v := (61 : Int32)) hty (fun y => absurd c10 y) (fun _ => Or.inr (Or.inl ⟨rfl, (absurd c16 c22)⟩)) (Or.inl rfl)
                refine lv_iinc (v := (nI (i2 + 1))) (lv' := [(1, .int (nI (i2 + 1))), (3, .int 0), (2, .int 61), (0, .ref pq)]) hx hb dX9_resolveTypes_151 hl (k := 2) rfl (nI_1 i2) (by decide) rfl (fun ls hl => ?_)
                refine lv_goto (tgt := 2) hx hb dX9_resolveTypes_154 (by decide) ?_
                have hO : OKP G h0 a (upd F 2 (nI sz)) R Z (updA B 11 (upd (f2) i2 61)) J K w := hO.to rfl
                exact ih_i (i2 + 1) (upd (f2) i2 61) _ _ _ _ (by omega) (by omega) htx37 hP hD hS hO (lv_sub hl [0, 3] rfl)
              · refine lv_aload_n hx hb dX9_resolveTypes_104 rfl (lv_at hl 2 rfl) ?_
                refine p_get (v := .ref (a 1)) (C := RX9) (Tc := TX9) (N := 5) (ci := 6) hx hb hq pin_wsX90 hown hE hP hO (by rw [hp1]; decide) (rep_7 hp1) rfl 0 (by decide) (hq _ pw_784) (fun _ h9 => h9) (congrArg (fun z => some (va_rf z)) hp2) dX9_resolveTypes_105 ?_
                refine lv_iload_n hx hb dX9_resolveTypes_108 rfl (lv_at hl 1 rfl) ?_
                refine lv_iconst (v := 2) hx hb dX9_resolveTypes_109 (by decide) ?_
                refine lv_iadd hx hb dX9_resolveTypes_110 ?_
                refine lv_topi (fun x38 e39 => ?_)
                obtain rfl : x38 = nI (i2 + 2) := e39.trans (nI_add (i2) (2))
                have hO : OKW G h0 a (upd (upd F 2 (nI sz)) 2 (nI sz)) R Z (updA B 11 f2) J K.1 (fun q99 x99 => x99 = rep G a K q99) w := hO.to rfl
                obtain ⟨_, qr43, hqr44⟩ := hO.2.1 2 _ (sg_2 G h0 a _ _ _ _ _)
                refine pc_V0 (G := G) (As := [.int (nI (i2 + 2))]) (rest := []) hx hb hml hown hq hE hX pX0_al hP hD hS hA hl.1 (Y_kindAt l G h0 a (upd F 2 (nI sz)) R Z (updA B 11 f2) J K.1 (fun q99 x99 => x99 = rep G a K q99) w (nI (i2 + 2)) sz (by omega) hO) (gV pw_1133 pw_193 pw_194 pw_59 pw_126) hV_X10_kindAt qr43 7 hqr44 rfl rfl rfl (Nat.le_of_ble_eq_true rfl) dX9_resolveTypes_111 ⟨Nat.le_of_ble_eq_true rfl, Nat.le_of_ble_eq_true rfl⟩ ⟨Nat.le_of_ble_eq_true rfl, Nat.le_of_ble_eq_true rfl⟩ (fun v42 u40 H locs hw41 hP hD hS => ?_)
                obtain ⟨w, _⟩ := u40
                obtain ⟨hw41, hO⟩ := hw41
                obtain rfl : v42 = some (.int (tkN ((B 7)) sz 67 (nI (i2 + 2)))) := hw41
                have hO : OKP G h0 a (upd F 2 (nI sz)) R Z (updA B 11 f2) J K w := hO.to rfl
                refine W.widen (k := 0) (n := 0) (Nat.le_of_ble_eq_true rfl) (Nat.le_of_ble_eq_true rfl) ?_
                refine W.eq (g2 := F0 m 114 ls [.int (tkN ((B 7)) sz 67 (nI (i2 + 2)))]) rfl ?_
                refine lv_bipush (v := 37) hx hb dX9_resolveTypes_114 (by decide) ?_
                refine lv_icmp_ne (tgt := 123) hx hb dX9_resolveTypes_116 (by decide) (fun c45 => ?_) (fun c45 => ?_)
                · refine lv_iconst (v := 0) hx hb dX9_resolveTypes_123 (by decide) ?_
                  refine lv_istore_n (lv' := [(3, .int 0), (2, .int 61), (1, .int (nI i2)), (0, .ref pq)]) hx hb dX9_resolveTypes_124 rfl hl (by decide) rfl (fun ls hl => ?_)
                  refine lv_aload_n hx hb dX9_resolveTypes_125 rfl (lv_at hl 3 rfl) ?_
                  refine p_get (v := .ref (a 1)) (C := RX9) (Tc := TX9) (N := 5) (ci := 6) hx hb hq pin_wsX90 hown hE hP hO (by rw [hp1]; decide) (rep_7 hp1) rfl 0 (by decide) (hq _ pw_784) (fun _ h9 => h9) (congrArg (fun z => some (va_rf z)) hp2) dX9_resolveTypes_126 ?_
                  refine lv_iload_n hx hb dX9_resolveTypes_129 rfl (lv_at hl 2 rfl) ?_
                  refine lv_iload_n hx hb dX9_resolveTypes_130 rfl (lv_at hl 0 rfl) ?_
                  refine lv_if_eq (tgt := 147) hx hb dX9_resolveTypes_131 (by decide) (fun c46 => ?_) (fun c46 => absurd c46 (by decide))
                  refine lv_iload_n hx hb dX9_resolveTypes_147 rfl (lv_at hl 1 rfl) ?_
                  have hO : OKW G h0 a (upd (upd F 2 (nI sz)) 2 (nI sz)) R Z (updA B 11 f2) J K.1 (fun q99 x99 => x99 = rep G a K q99) w := hO.to rfl
                  obtain ⟨_, qr50, hqr51⟩ := hO.2.1 2 _ (sg_2 G h0 a _ _ _ _ _)
                  refine pc_V0 (G := G) (As := [.int (nI i2), .int 61]) (rest := []) hx hb hml hown hq hE hX pX0_al hP hD hS hA hl.1 (N_giveType l G h0 a (upd F 2 (nI sz)) R Z (updA B 11 f2) J K.1 (fun q99 x99 => x99 = rep G a K q99) w i2 61 sz (by omega) (by omega) hO) (gV pw_1134 pw_1135 pw_1136 pw_59 pw_1132) hV_X10_giveType qr50 7 hqr51 rfl rfl rfl (Nat.le_of_ble_eq_true rfl) dX9_resolveTypes_148 ⟨Nat.le_of_ble_eq_true rfl, Nat.le_of_ble_eq_true rfl⟩ ⟨Nat.le_of_ble_eq_true rfl, Nat.le_of_ble_eq_true rfl⟩ (fun v49 u47 H locs hw48 hP hD hS => ?_)
                  obtain ⟨w, _⟩ := u47
                  obtain ⟨hw48, hO⟩ := hw48
                  obtain rfl : v49 = none := hw48
                  have hO : OKP G h0 a (upd F 2 (nI sz)) R Z (updA B 11 (upd (f2) i2 61)) J K w := hO.to rfl
                  refine W.widen (k := 0) (n := 0) (Nat.le_of_ble_eq_true rfl) (Nat.le_of_ble_eq_true rfl) ?_
                  refine W.eq (g2 := F0 m 151 ls []) rfl ?_
                  have htx52 : ∀ t : Nat, t < i2 + 1 → TyO K dr nd (B 9) (B 10) (B 7) sz (upd f2 i2 (61 : Int32)) t := TyX.up (r := (61 : Int32)) (v := (61 : Int32)) hty (fun y => absurd c10 y) (fun _ => Or.inr (Or.inl ⟨rfl, (absurd c16 c22)⟩)) (Or.inl rfl)
                  refine lv_iinc (v := (nI (i2 + 1))) (lv' := [(1, .int (nI (i2 + 1))), (3, .int 0), (2, .int 61), (0, .ref pq)]) hx hb dX9_resolveTypes_151 hl (k := 2) rfl (nI_1 i2) (by decide) rfl (fun ls hl => ?_)
                  refine lv_goto (tgt := 2) hx hb dX9_resolveTypes_154 (by decide) ?_
                  have hO : OKP G h0 a (upd F 2 (nI sz)) R Z (updA B 11 (upd (f2) i2 61)) J K w := hO.to rfl
                  exact ih_i (i2 + 1) (upd (f2) i2 61) _ _ _ _ (by omega) (by omega) htx52 hP hD hS hO (lv_sub hl [0, 3] rfl)
                · refine lv_iconst (v := 1) hx hb dX9_resolveTypes_119 (by decide) ?_
                  refine lv_goto (tgt := 124) hx hb dX9_resolveTypes_120 (by decide) ?_
                  refine lv_istore_n (lv' := [(3, .int 1), (2, .int 61), (1, .int (nI i2)), (0, .ref pq)]) hx hb dX9_resolveTypes_124 rfl hl (by decide) rfl (fun ls hl => ?_)
                  refine lv_aload_n hx hb dX9_resolveTypes_125 rfl (lv_at hl 3 rfl) ?_
                  refine p_get (v := .ref (a 1)) (C := RX9) (Tc := TX9) (N := 5) (ci := 6) hx hb hq pin_wsX90 hown hE hP hO (by rw [hp1]; decide) (rep_7 hp1) rfl 0 (by decide) (hq _ pw_784) (fun _ h9 => h9) (congrArg (fun z => some (va_rf z)) hp2) dX9_resolveTypes_126 ?_
                  refine lv_iload_n hx hb dX9_resolveTypes_129 rfl (lv_at hl 2 rfl) ?_
                  refine lv_iload_n hx hb dX9_resolveTypes_130 rfl (lv_at hl 0 rfl) ?_
                  refine lv_if_eq (tgt := 147) hx hb dX9_resolveTypes_131 (by decide) (fun c53 => absurd c53 (by decide)) (fun c53 => ?_)
                  refine lv_iload_n hx hb dX9_resolveTypes_134 rfl (lv_at hl 1 rfl) ?_
                  refine lv_bipush (v := 63) hx hb dX9_resolveTypes_135 (by decide) ?_
                  refine lv_icmp_eq (tgt := 147) hx hb dX9_resolveTypes_137 (by decide) (fun c54 => absurd c54 (by decide)) (fun c54 => ?_)
                  refine lv_bipush (v := 64) hx hb dX9_resolveTypes_140 (by decide) ?_
                  refine lv_iload_n hx hb dX9_resolveTypes_142 rfl (lv_at hl 1 rfl) ?_
                  refine lv_iadd hx hb dX9_resolveTypes_143 ?_
                  refine lv_topi (fun x55 e56 => ?_)
                  obtain rfl : x55 = 125 := e56.trans (by decide)
                  refine lv_goto (tgt := 148) hx hb dX9_resolveTypes_144 (by decide) ?_
                  have hO : OKW G h0 a (upd (upd F 2 (nI sz)) 2 (nI sz)) R Z (updA B 11 f2) J K.1 (fun q99 x99 => x99 = rep G a K q99) w := hO.to rfl
                  obtain ⟨_, qr60, hqr61⟩ := hO.2.1 2 _ (sg_2 G h0 a _ _ _ _ _)
                  refine pc_V0 (G := G) (As := [.int (nI i2), .int 125]) (rest := []) hx hb hml hown hq hE hX pX0_al hP hD hS hA hl.1 (N_giveType l G h0 a (upd F 2 (nI sz)) R Z (updA B 11 f2) J K.1 (fun q99 x99 => x99 = rep G a K q99) w i2 125 sz (by omega) (by omega) hO) (gV pw_1134 pw_1135 pw_1136 pw_59 pw_1132) hV_X10_giveType qr60 7 hqr61 rfl rfl rfl (Nat.le_of_ble_eq_true rfl) dX9_resolveTypes_148 ⟨Nat.le_of_ble_eq_true rfl, Nat.le_of_ble_eq_true rfl⟩ ⟨Nat.le_of_ble_eq_true rfl, Nat.le_of_ble_eq_true rfl⟩ (fun v59 u57 H locs hw58 hP hD hS => ?_)
                  obtain ⟨w, _⟩ := u57
                  obtain ⟨hw58, hO⟩ := hw58
                  obtain rfl : v59 = none := hw58
                  have hO : OKP G h0 a (upd F 2 (nI sz)) R Z (updA B 11 (upd (f2) i2 125)) J K w := hO.to rfl
                  refine W.widen (k := 0) (n := 0) (Nat.le_of_ble_eq_true rfl) (Nat.le_of_ble_eq_true rfl) ?_
                  refine W.eq (g2 := F0 m 151 ls []) rfl ?_
                  have htx62 : ∀ t : Nat, t < i2 + 1 → TyO K dr nd (B 9) (B 10) (B 7) sz (upd f2 i2 (125 : Int32)) t := TyX.up (r := (61 : Int32)) (v := (125 : Int32)) hty (fun y => absurd c10 y) (fun _ => Or.inr (Or.inl ⟨rfl, (absurd c16 c22)⟩)) (Or.inr ⟨(by decide), (by decide), c30, c45⟩)
                  refine lv_iinc (v := (nI (i2 + 1))) (lv' := [(1, .int (nI (i2 + 1))), (3, .int 1), (2, .int 61), (0, .ref pq)]) hx hb dX9_resolveTypes_151 hl (k := 2) rfl (nI_1 i2) (by decide) rfl (fun ls hl => ?_)
                  refine lv_goto (tgt := 2) hx hb dX9_resolveTypes_154 (by decide) ?_
                  have hO : OKP G h0 a (upd F 2 (nI sz)) R Z (updA B 11 (upd (f2) i2 125)) J K w := hO.to rfl
                  exact ih_i (i2 + 1) (upd (f2) i2 125) _ _ _ _ (by omega) (by omega) htx62 hP hD hS hO (lv_sub hl [0, 3] rfl)
            · refine lv_bipush (v := 60) hx hb dX9_resolveTypes_81 (by decide) ?_
              refine lv_goto (tgt := 88) hx hb dX9_resolveTypes_83 (by decide) ?_
              refine lv_istore_n (lv' := [(2, .int 60), (1, .int (nI i2)), (0, .ref pq)]) hx hb dX9_resolveTypes_88 rfl hl (by decide) rfl (fun ls hl => ?_)
              refine lv_aload_n hx hb dX9_resolveTypes_89 rfl (lv_at hl 2 rfl) ?_
              refine p_get (v := .ref (a 1)) (C := RX9) (Tc := TX9) (N := 5) (ci := 6) hx hb hq pin_wsX90 hown hE hP hO (by rw [hp1]; decide) (rep_7 hp1) rfl 0 (by decide) (hq _ pw_784) (fun _ h9 => h9) (congrArg (fun z => some (va_rf z)) hp2) dX9_resolveTypes_90 ?_
              refine lv_iload_n hx hb dX9_resolveTypes_93 rfl (lv_at hl 1 rfl) ?_
              refine lv_iconst (v := 1) hx hb dX9_resolveTypes_94 (by decide) ?_
              refine lv_iadd hx hb dX9_resolveTypes_95 ?_
              refine lv_topi (fun x63 e64 => ?_)
              obtain rfl : x63 = nI (i2 + 1) := e64.trans (nI_add (i2) (1))
              have hO : OKW G h0 a (upd (upd F 2 (nI sz)) 2 (nI sz)) R Z (updA B 11 f2) J K.1 (fun q99 x99 => x99 = rep G a K q99) w := hO.to rfl
              obtain ⟨_, qr68, hqr69⟩ := hO.2.1 2 _ (sg_2 G h0 a _ _ _ _ _)
              refine pc_V0 (G := G) (As := [.int (nI (i2 + 1))]) (rest := []) hx hb hml hown hq hE hX pX0_al hP hD hS hA hl.1 (Y_kindAt l G h0 a (upd F 2 (nI sz)) R Z (updA B 11 f2) J K.1 (fun q99 x99 => x99 = rep G a K q99) w (nI (i2 + 1)) sz (by omega) hO) (gV pw_1133 pw_193 pw_194 pw_59 pw_126) hV_X10_kindAt qr68 7 hqr69 rfl rfl rfl (Nat.le_of_ble_eq_true rfl) dX9_resolveTypes_96 ⟨Nat.le_of_ble_eq_true rfl, Nat.le_of_ble_eq_true rfl⟩ ⟨Nat.le_of_ble_eq_true rfl, Nat.le_of_ble_eq_true rfl⟩ (fun v67 u65 H locs hw66 hP hD hS => ?_)
              obtain ⟨w, _⟩ := u65
              obtain ⟨hw66, hO⟩ := hw66
              obtain rfl : v67 = some (.int (tkN ((B 7)) sz 67 (nI (i2 + 1)))) := hw66
              have hO : OKP G h0 a (upd F 2 (nI sz)) R Z (updA B 11 f2) J K w := hO.to rfl
              refine W.widen (k := 0) (n := 0) (Nat.le_of_ble_eq_true rfl) (Nat.le_of_ble_eq_true rfl) ?_
              refine W.eq (g2 := F0 m 99 ls [.int (tkN ((B 7)) sz 67 (nI (i2 + 1)))]) rfl ?_
              refine lv_bipush (v := 36) hx hb dX9_resolveTypes_99 (by decide) ?_
              refine lv_icmp_ne (tgt := 123) hx hb dX9_resolveTypes_101 (by decide) (fun c70 => ?_) (fun c70 => ?_)
              · refine lv_iconst (v := 0) hx hb dX9_resolveTypes_123 (by decide) ?_
                refine lv_istore_n (lv' := [(3, .int 0), (2, .int 60), (1, .int (nI i2)), (0, .ref pq)]) hx hb dX9_resolveTypes_124 rfl hl (by decide) rfl (fun ls hl => ?_)
                refine lv_aload_n hx hb dX9_resolveTypes_125 rfl (lv_at hl 3 rfl) ?_
                refine p_get (v := .ref (a 1)) (C := RX9) (Tc := TX9) (N := 5) (ci := 6) hx hb hq pin_wsX90 hown hE hP hO (by rw [hp1]; decide) (rep_7 hp1) rfl 0 (by decide) (hq _ pw_784) (fun _ h9 => h9) (congrArg (fun z => some (va_rf z)) hp2) dX9_resolveTypes_126 ?_
                refine lv_iload_n hx hb dX9_resolveTypes_129 rfl (lv_at hl 2 rfl) ?_
                refine lv_iload_n hx hb dX9_resolveTypes_130 rfl (lv_at hl 0 rfl) ?_
                refine lv_if_eq (tgt := 147) hx hb dX9_resolveTypes_131 (by decide) (fun c71 => ?_) (fun c71 => absurd c71 (by decide))
                refine lv_iload_n hx hb dX9_resolveTypes_147 rfl (lv_at hl 1 rfl) ?_
                have hO : OKW G h0 a (upd (upd F 2 (nI sz)) 2 (nI sz)) R Z (updA B 11 f2) J K.1 (fun q99 x99 => x99 = rep G a K q99) w := hO.to rfl
                obtain ⟨_, qr75, hqr76⟩ := hO.2.1 2 _ (sg_2 G h0 a _ _ _ _ _)
                refine pc_V0 (G := G) (As := [.int (nI i2), .int 60]) (rest := []) hx hb hml hown hq hE hX pX0_al hP hD hS hA hl.1 (N_giveType l G h0 a (upd F 2 (nI sz)) R Z (updA B 11 f2) J K.1 (fun q99 x99 => x99 = rep G a K q99) w i2 60 sz (by omega) (by omega) hO) (gV pw_1134 pw_1135 pw_1136 pw_59 pw_1132) hV_X10_giveType qr75 7 hqr76 rfl rfl rfl (Nat.le_of_ble_eq_true rfl) dX9_resolveTypes_148 ⟨Nat.le_of_ble_eq_true rfl, Nat.le_of_ble_eq_true rfl⟩ ⟨Nat.le_of_ble_eq_true rfl, Nat.le_of_ble_eq_true rfl⟩ (fun v74 u72 H locs hw73 hP hD hS => ?_)
                obtain ⟨w, _⟩ := u72
                obtain ⟨hw73, hO⟩ := hw73
                obtain rfl : v74 = none := hw73
                have hO : OKP G h0 a (upd F 2 (nI sz)) R Z (updA B 11 (upd (f2) i2 60)) J K w := hO.to rfl
                refine W.widen (k := 0) (n := 0) (Nat.le_of_ble_eq_true rfl) (Nat.le_of_ble_eq_true rfl) ?_
                refine W.eq (g2 := F0 m 151 ls []) rfl ?_
                have htx77 : ∀ t : Nat, t < i2 + 1 → TyO K dr nd (B 9) (B 10) (B 7) sz (upd f2 i2 (60 : Int32)) t := TyX.up (r := (60 : Int32)) (v := (60 : Int32)) hty (fun y => absurd c10 y) (fun _ => Or.inl ⟨rfl, c22⟩) (Or.inl rfl)
                refine lv_iinc (v := (nI (i2 + 1))) (lv' := [(1, .int (nI (i2 + 1))), (3, .int 0), (2, .int 60), (0, .ref pq)]) hx hb dX9_resolveTypes_151 hl (k := 2) rfl (nI_1 i2) (by decide) rfl (fun ls hl => ?_)
                refine lv_goto (tgt := 2) hx hb dX9_resolveTypes_154 (by decide) ?_
                have hO : OKP G h0 a (upd F 2 (nI sz)) R Z (updA B 11 (upd (f2) i2 60)) J K w := hO.to rfl
                exact ih_i (i2 + 1) (upd (f2) i2 60) _ _ _ _ (by omega) (by omega) htx77 hP hD hS hO (lv_sub hl [0, 3] rfl)
              · refine lv_aload_n hx hb dX9_resolveTypes_104 rfl (lv_at hl 2 rfl) ?_
                refine p_get (v := .ref (a 1)) (C := RX9) (Tc := TX9) (N := 5) (ci := 6) hx hb hq pin_wsX90 hown hE hP hO (by rw [hp1]; decide) (rep_7 hp1) rfl 0 (by decide) (hq _ pw_784) (fun _ h9 => h9) (congrArg (fun z => some (va_rf z)) hp2) dX9_resolveTypes_105 ?_
                refine lv_iload_n hx hb dX9_resolveTypes_108 rfl (lv_at hl 1 rfl) ?_
                refine lv_iconst (v := 2) hx hb dX9_resolveTypes_109 (by decide) ?_
                refine lv_iadd hx hb dX9_resolveTypes_110 ?_
                refine lv_topi (fun x78 e79 => ?_)
                obtain rfl : x78 = nI (i2 + 2) := e79.trans (nI_add (i2) (2))
                have hO : OKW G h0 a (upd (upd F 2 (nI sz)) 2 (nI sz)) R Z (updA B 11 f2) J K.1 (fun q99 x99 => x99 = rep G a K q99) w := hO.to rfl
                obtain ⟨_, qr83, hqr84⟩ := hO.2.1 2 _ (sg_2 G h0 a _ _ _ _ _)
                refine pc_V0 (G := G) (As := [.int (nI (i2 + 2))]) (rest := []) hx hb hml hown hq hE hX pX0_al hP hD hS hA hl.1 (Y_kindAt l G h0 a (upd F 2 (nI sz)) R Z (updA B 11 f2) J K.1 (fun q99 x99 => x99 = rep G a K q99) w (nI (i2 + 2)) sz (by omega) hO) (gV pw_1133 pw_193 pw_194 pw_59 pw_126) hV_X10_kindAt qr83 7 hqr84 rfl rfl rfl (Nat.le_of_ble_eq_true rfl) dX9_resolveTypes_111 ⟨Nat.le_of_ble_eq_true rfl, Nat.le_of_ble_eq_true rfl⟩ ⟨Nat.le_of_ble_eq_true rfl, Nat.le_of_ble_eq_true rfl⟩ (fun v82 u80 H locs hw81 hP hD hS => ?_)
                obtain ⟨w, _⟩ := u80
                obtain ⟨hw81, hO⟩ := hw81
                obtain rfl : v82 = some (.int (tkN ((B 7)) sz 67 (nI (i2 + 2)))) := hw81
                have hO : OKP G h0 a (upd F 2 (nI sz)) R Z (updA B 11 f2) J K w := hO.to rfl
                refine W.widen (k := 0) (n := 0) (Nat.le_of_ble_eq_true rfl) (Nat.le_of_ble_eq_true rfl) ?_
                refine W.eq (g2 := F0 m 114 ls [.int (tkN ((B 7)) sz 67 (nI (i2 + 2)))]) rfl ?_
                refine lv_bipush (v := 37) hx hb dX9_resolveTypes_114 (by decide) ?_
                refine lv_icmp_ne (tgt := 123) hx hb dX9_resolveTypes_116 (by decide) (fun c85 => ?_) (fun c85 => ?_)
                · refine lv_iconst (v := 0) hx hb dX9_resolveTypes_123 (by decide) ?_
                  refine lv_istore_n (lv' := [(3, .int 0), (2, .int 60), (1, .int (nI i2)), (0, .ref pq)]) hx hb dX9_resolveTypes_124 rfl hl (by decide) rfl (fun ls hl => ?_)
                  refine lv_aload_n hx hb dX9_resolveTypes_125 rfl (lv_at hl 3 rfl) ?_
                  refine p_get (v := .ref (a 1)) (C := RX9) (Tc := TX9) (N := 5) (ci := 6) hx hb hq pin_wsX90 hown hE hP hO (by rw [hp1]; decide) (rep_7 hp1) rfl 0 (by decide) (hq _ pw_784) (fun _ h9 => h9) (congrArg (fun z => some (va_rf z)) hp2) dX9_resolveTypes_126 ?_
                  refine lv_iload_n hx hb dX9_resolveTypes_129 rfl (lv_at hl 2 rfl) ?_
                  refine lv_iload_n hx hb dX9_resolveTypes_130 rfl (lv_at hl 0 rfl) ?_
                  refine lv_if_eq (tgt := 147) hx hb dX9_resolveTypes_131 (by decide) (fun c86 => ?_) (fun c86 => absurd c86 (by decide))
                  refine lv_iload_n hx hb dX9_resolveTypes_147 rfl (lv_at hl 1 rfl) ?_
                  have hO : OKW G h0 a (upd (upd F 2 (nI sz)) 2 (nI sz)) R Z (updA B 11 f2) J K.1 (fun q99 x99 => x99 = rep G a K q99) w := hO.to rfl
                  obtain ⟨_, qr90, hqr91⟩ := hO.2.1 2 _ (sg_2 G h0 a _ _ _ _ _)
                  refine pc_V0 (G := G) (As := [.int (nI i2), .int 60]) (rest := []) hx hb hml hown hq hE hX pX0_al hP hD hS hA hl.1 (N_giveType l G h0 a (upd F 2 (nI sz)) R Z (updA B 11 f2) J K.1 (fun q99 x99 => x99 = rep G a K q99) w i2 60 sz (by omega) (by omega) hO) (gV pw_1134 pw_1135 pw_1136 pw_59 pw_1132) hV_X10_giveType qr90 7 hqr91 rfl rfl rfl (Nat.le_of_ble_eq_true rfl) dX9_resolveTypes_148 ⟨Nat.le_of_ble_eq_true rfl, Nat.le_of_ble_eq_true rfl⟩ ⟨Nat.le_of_ble_eq_true rfl, Nat.le_of_ble_eq_true rfl⟩ (fun v89 u87 H locs hw88 hP hD hS => ?_)
                  obtain ⟨w, _⟩ := u87
                  obtain ⟨hw88, hO⟩ := hw88
                  obtain rfl : v89 = none := hw88
                  have hO : OKP G h0 a (upd F 2 (nI sz)) R Z (updA B 11 (upd (f2) i2 60)) J K w := hO.to rfl
                  refine W.widen (k := 0) (n := 0) (Nat.le_of_ble_eq_true rfl) (Nat.le_of_ble_eq_true rfl) ?_
                  refine W.eq (g2 := F0 m 151 ls []) rfl ?_
                  have htx92 : ∀ t : Nat, t < i2 + 1 → TyO K dr nd (B 9) (B 10) (B 7) sz (upd f2 i2 (60 : Int32)) t := TyX.up (r := (60 : Int32)) (v := (60 : Int32)) hty (fun y => absurd c10 y) (fun _ => Or.inl ⟨rfl, c22⟩) (Or.inl rfl)
                  refine lv_iinc (v := (nI (i2 + 1))) (lv' := [(1, .int (nI (i2 + 1))), (3, .int 0), (2, .int 60), (0, .ref pq)]) hx hb dX9_resolveTypes_151 hl (k := 2) rfl (nI_1 i2) (by decide) rfl (fun ls hl => ?_)
                  refine lv_goto (tgt := 2) hx hb dX9_resolveTypes_154 (by decide) ?_
                  have hO : OKP G h0 a (upd F 2 (nI sz)) R Z (updA B 11 (upd (f2) i2 60)) J K w := hO.to rfl
                  exact ih_i (i2 + 1) (upd (f2) i2 60) _ _ _ _ (by omega) (by omega) htx92 hP hD hS hO (lv_sub hl [0, 3] rfl)
                · refine lv_iconst (v := 1) hx hb dX9_resolveTypes_119 (by decide) ?_
                  refine lv_goto (tgt := 124) hx hb dX9_resolveTypes_120 (by decide) ?_
                  refine lv_istore_n (lv' := [(3, .int 1), (2, .int 60), (1, .int (nI i2)), (0, .ref pq)]) hx hb dX9_resolveTypes_124 rfl hl (by decide) rfl (fun ls hl => ?_)
                  refine lv_aload_n hx hb dX9_resolveTypes_125 rfl (lv_at hl 3 rfl) ?_
                  refine p_get (v := .ref (a 1)) (C := RX9) (Tc := TX9) (N := 5) (ci := 6) hx hb hq pin_wsX90 hown hE hP hO (by rw [hp1]; decide) (rep_7 hp1) rfl 0 (by decide) (hq _ pw_784) (fun _ h9 => h9) (congrArg (fun z => some (va_rf z)) hp2) dX9_resolveTypes_126 ?_
                  refine lv_iload_n hx hb dX9_resolveTypes_129 rfl (lv_at hl 2 rfl) ?_
                  refine lv_iload_n hx hb dX9_resolveTypes_130 rfl (lv_at hl 0 rfl) ?_
                  refine lv_if_eq (tgt := 147) hx hb dX9_resolveTypes_131 (by decide) (fun c93 => absurd c93 (by decide)) (fun c93 => ?_)
                  refine lv_iload_n hx hb dX9_resolveTypes_134 rfl (lv_at hl 1 rfl) ?_
                  refine lv_bipush (v := 63) hx hb dX9_resolveTypes_135 (by decide) ?_
                  refine lv_icmp_eq (tgt := 147) hx hb dX9_resolveTypes_137 (by decide) (fun c94 => absurd c94 (by decide)) (fun c94 => ?_)
                  refine lv_bipush (v := 64) hx hb dX9_resolveTypes_140 (by decide) ?_
                  refine lv_iload_n hx hb dX9_resolveTypes_142 rfl (lv_at hl 1 rfl) ?_
                  refine lv_iadd hx hb dX9_resolveTypes_143 ?_
                  refine lv_topi (fun x95 e96 => ?_)
                  obtain rfl : x95 = 124 := e96.trans (by decide)
                  refine lv_goto (tgt := 148) hx hb dX9_resolveTypes_144 (by decide) ?_
                  have hO : OKW G h0 a (upd (upd F 2 (nI sz)) 2 (nI sz)) R Z (updA B 11 f2) J K.1 (fun q99 x99 => x99 = rep G a K q99) w := hO.to rfl
                  obtain ⟨_, qr100, hqr101⟩ := hO.2.1 2 _ (sg_2 G h0 a _ _ _ _ _)
                  refine pc_V0 (G := G) (As := [.int (nI i2), .int 124]) (rest := []) hx hb hml hown hq hE hX pX0_al hP hD hS hA hl.1 (N_giveType l G h0 a (upd F 2 (nI sz)) R Z (updA B 11 f2) J K.1 (fun q99 x99 => x99 = rep G a K q99) w i2 124 sz (by omega) (by omega) hO) (gV pw_1134 pw_1135 pw_1136 pw_59 pw_1132) hV_X10_giveType qr100 7 hqr101 rfl rfl rfl (Nat.le_of_ble_eq_true rfl) dX9_resolveTypes_148 ⟨Nat.le_of_ble_eq_true rfl, Nat.le_of_ble_eq_true rfl⟩ ⟨Nat.le_of_ble_eq_true rfl, Nat.le_of_ble_eq_true rfl⟩ (fun v99 u97 H locs hw98 hP hD hS => ?_)
                  obtain ⟨w, _⟩ := u97
                  obtain ⟨hw98, hO⟩ := hw98
                  obtain rfl : v99 = none := hw98
                  have hO : OKP G h0 a (upd F 2 (nI sz)) R Z (updA B 11 (upd (f2) i2 124)) J K w := hO.to rfl
                  refine W.widen (k := 0) (n := 0) (Nat.le_of_ble_eq_true rfl) (Nat.le_of_ble_eq_true rfl) ?_
                  refine W.eq (g2 := F0 m 151 ls []) rfl ?_
                  have htx102 : ∀ t : Nat, t < i2 + 1 → TyO K dr nd (B 9) (B 10) (B 7) sz (upd f2 i2 (124 : Int32)) t := TyX.up (r := (60 : Int32)) (v := (124 : Int32)) hty (fun y => absurd c10 y) (fun _ => Or.inl ⟨rfl, c22⟩) (Or.inr ⟨(by decide), (by decide), c70, c85⟩)
                  refine lv_iinc (v := (nI (i2 + 1))) (lv' := [(1, .int (nI (i2 + 1))), (3, .int 1), (2, .int 60), (0, .ref pq)]) hx hb dX9_resolveTypes_151 hl (k := 2) rfl (nI_1 i2) (by decide) rfl (fun ls hl => ?_)
                  refine lv_goto (tgt := 2) hx hb dX9_resolveTypes_154 (by decide) ?_
                  have hO : OKP G h0 a (upd F 2 (nI sz)) R Z (updA B 11 (upd (f2) i2 124)) J K w := hO.to rfl
                  exact ih_i (i2 + 1) (upd (f2) i2 124) _ _ _ _ (by omega) (by omega) htx102 hP hD hS hO (lv_sub hl [0, 3] rfl)
          · refine lv_aload_n hx hb dX9_resolveTypes_56 rfl (lv_at hl 2 rfl) ?_
            refine p_get (v := .ref (a 1)) (C := RX9) (Tc := TX9) (N := 5) (ci := 6) hx hb hq pin_wsX90 hown hE hP hO (by rw [hp1]; decide) (rep_7 hp1) rfl 0 (by decide) (hq _ pw_784) (fun _ h9 => h9) (congrArg (fun z => some (va_rf z)) hp2) dX9_resolveTypes_57 ?_
            refine lv_iload_n hx hb dX9_resolveTypes_60 rfl (lv_at hl 1 rfl) ?_
            have hO : OKW G h0 a (upd (upd F 2 (nI sz)) 2 (nI sz)) R Z (updA B 11 f2) J K.1 (fun q99 x99 => x99 = rep G a K q99) w := hO.to rfl
            obtain ⟨_, qr106, hqr107⟩ := hO.2.1 2 _ (sg_2 G h0 a _ _ _ _ _)
            refine pc_V0 (G := G) (As := [.int (nI i2)]) (rest := []) hx hb hml hown hq hE hX pX0_al hP hD hS hA hl.1 (Y_kindAt l G h0 a (upd F 2 (nI sz)) R Z (updA B 11 f2) J K.1 (fun q99 x99 => x99 = rep G a K q99) w (nI i2) sz (by omega) hO) (gV pw_1133 pw_193 pw_194 pw_59 pw_126) hV_X10_kindAt qr106 7 hqr107 rfl rfl rfl (Nat.le_of_ble_eq_true rfl) dX9_resolveTypes_61 ⟨Nat.le_of_ble_eq_true rfl, Nat.le_of_ble_eq_true rfl⟩ ⟨Nat.le_of_ble_eq_true rfl, Nat.le_of_ble_eq_true rfl⟩ (fun v105 u103 H locs hw104 hP hD hS => ?_)
            obtain ⟨w, _⟩ := u103
            obtain ⟨hw104, hO⟩ := hw104
            obtain rfl : v105 = some (.int (tkN ((B 7)) sz 67 (nI i2))) := hw104
            have hO : OKP G h0 a (upd F 2 (nI sz)) R Z (updA B 11 f2) J K w := hO.to rfl
            refine W.widen (k := 0) (n := 0) (Nat.le_of_ble_eq_true rfl) (Nat.le_of_ble_eq_true rfl) ?_
            refine W.eq (g2 := F0 m 64 ls [.int (tkN ((B 7)) sz 67 (nI i2))]) rfl ?_
            rw [show tkN (B 7) sz 67 (nI i2) = B 7 i2 from tkN_in (by omega) (by omega)]
            refine lv_iconst (v := 1) hx hb dX9_resolveTypes_64 (by decide) ?_
            refine lv_icmp_ne (tgt := 89) hx hb dX9_resolveTypes_65 (by decide) (fun c108 => ?_) (fun c108 => ?_)
            · refine lv_aload_n hx hb dX9_resolveTypes_89 rfl (lv_at hl 2 rfl) ?_
              refine p_get (v := .ref (a 1)) (C := RX9) (Tc := TX9) (N := 5) (ci := 6) hx hb hq pin_wsX90 hown hE hP hO (by rw [hp1]; decide) (rep_7 hp1) rfl 0 (by decide) (hq _ pw_784) (fun _ h9 => h9) (congrArg (fun z => some (va_rf z)) hp2) dX9_resolveTypes_90 ?_
              refine lv_iload_n hx hb dX9_resolveTypes_93 rfl (lv_at hl 1 rfl) ?_
              refine lv_iconst (v := 1) hx hb dX9_resolveTypes_94 (by decide) ?_
              refine lv_iadd hx hb dX9_resolveTypes_95 ?_
              refine lv_topi (fun x109 e110 => ?_)
              obtain rfl : x109 = nI (i2 + 1) := e110.trans (nI_add (i2) (1))
              have hO : OKW G h0 a (upd (upd F 2 (nI sz)) 2 (nI sz)) R Z (updA B 11 f2) J K.1 (fun q99 x99 => x99 = rep G a K q99) w := hO.to rfl
              obtain ⟨_, qr114, hqr115⟩ := hO.2.1 2 _ (sg_2 G h0 a _ _ _ _ _)
              refine pc_V0 (G := G) (As := [.int (nI (i2 + 1))]) (rest := []) hx hb hml hown hq hE hX pX0_al hP hD hS hA hl.1 (Y_kindAt l G h0 a (upd F 2 (nI sz)) R Z (updA B 11 f2) J K.1 (fun q99 x99 => x99 = rep G a K q99) w (nI (i2 + 1)) sz (by omega) hO) (gV pw_1133 pw_193 pw_194 pw_59 pw_126) hV_X10_kindAt qr114 7 hqr115 rfl rfl rfl (Nat.le_of_ble_eq_true rfl) dX9_resolveTypes_96 ⟨Nat.le_of_ble_eq_true rfl, Nat.le_of_ble_eq_true rfl⟩ ⟨Nat.le_of_ble_eq_true rfl, Nat.le_of_ble_eq_true rfl⟩ (fun v113 u111 H locs hw112 hP hD hS => ?_)
              obtain ⟨w, _⟩ := u111
              obtain ⟨hw112, hO⟩ := hw112
              obtain rfl : v113 = some (.int (tkN ((B 7)) sz 67 (nI (i2 + 1)))) := hw112
              have hO : OKP G h0 a (upd F 2 (nI sz)) R Z (updA B 11 f2) J K w := hO.to rfl
              refine W.widen (k := 0) (n := 0) (Nat.le_of_ble_eq_true rfl) (Nat.le_of_ble_eq_true rfl) ?_
              refine W.eq (g2 := F0 m 99 ls [.int (tkN ((B 7)) sz 67 (nI (i2 + 1)))]) rfl ?_
              refine lv_bipush (v := 36) hx hb dX9_resolveTypes_99 (by decide) ?_
              refine lv_icmp_ne (tgt := 123) hx hb dX9_resolveTypes_101 (by decide) (fun c116 => ?_) (fun c116 => ?_)
              · refine lv_iconst (v := 0) hx hb dX9_resolveTypes_123 (by decide) ?_
                refine lv_istore_n (lv' := [(3, .int 0), (2, .int 63), (1, .int (nI i2)), (0, .ref pq)]) hx hb dX9_resolveTypes_124 rfl hl (by decide) rfl (fun ls hl => ?_)
                refine lv_aload_n hx hb dX9_resolveTypes_125 rfl (lv_at hl 3 rfl) ?_
                refine p_get (v := .ref (a 1)) (C := RX9) (Tc := TX9) (N := 5) (ci := 6) hx hb hq pin_wsX90 hown hE hP hO (by rw [hp1]; decide) (rep_7 hp1) rfl 0 (by decide) (hq _ pw_784) (fun _ h9 => h9) (congrArg (fun z => some (va_rf z)) hp2) dX9_resolveTypes_126 ?_
                refine lv_iload_n hx hb dX9_resolveTypes_129 rfl (lv_at hl 2 rfl) ?_
                refine lv_iload_n hx hb dX9_resolveTypes_130 rfl (lv_at hl 0 rfl) ?_
                refine lv_if_eq (tgt := 147) hx hb dX9_resolveTypes_131 (by decide) (fun c117 => ?_) (fun c117 => absurd c117 (by decide))
                refine lv_iload_n hx hb dX9_resolveTypes_147 rfl (lv_at hl 1 rfl) ?_
                have hO : OKW G h0 a (upd (upd F 2 (nI sz)) 2 (nI sz)) R Z (updA B 11 f2) J K.1 (fun q99 x99 => x99 = rep G a K q99) w := hO.to rfl
                obtain ⟨_, qr121, hqr122⟩ := hO.2.1 2 _ (sg_2 G h0 a _ _ _ _ _)
                refine pc_V0 (G := G) (As := [.int (nI i2), .int 63]) (rest := []) hx hb hml hown hq hE hX pX0_al hP hD hS hA hl.1 (N_giveType l G h0 a (upd F 2 (nI sz)) R Z (updA B 11 f2) J K.1 (fun q99 x99 => x99 = rep G a K q99) w i2 63 sz (by omega) (by omega) hO) (gV pw_1134 pw_1135 pw_1136 pw_59 pw_1132) hV_X10_giveType qr121 7 hqr122 rfl rfl rfl (Nat.le_of_ble_eq_true rfl) dX9_resolveTypes_148 ⟨Nat.le_of_ble_eq_true rfl, Nat.le_of_ble_eq_true rfl⟩ ⟨Nat.le_of_ble_eq_true rfl, Nat.le_of_ble_eq_true rfl⟩ (fun v120 u118 H locs hw119 hP hD hS => ?_)
                obtain ⟨w, _⟩ := u118
                obtain ⟨hw119, hO⟩ := hw119
                obtain rfl : v120 = none := hw119
                have hO : OKP G h0 a (upd F 2 (nI sz)) R Z (updA B 11 (upd (f2) i2 63)) J K w := hO.to rfl
                refine W.widen (k := 0) (n := 0) (Nat.le_of_ble_eq_true rfl) (Nat.le_of_ble_eq_true rfl) ?_
                refine W.eq (g2 := F0 m 151 ls []) rfl ?_
                have htx123 : ∀ t : Nat, t < i2 + 1 → TyO K dr nd (B 9) (B 10) (B 7) sz (upd f2 i2 (63 : Int32)) t := TyX.up (r := (63 : Int32)) (v := (63 : Int32)) hty (fun y => absurd c10 y) (fun _ => Or.inr (Or.inr ⟨rfl, c16, c108⟩)) (Or.inl rfl)
                refine lv_iinc (v := (nI (i2 + 1))) (lv' := [(1, .int (nI (i2 + 1))), (3, .int 0), (2, .int 63), (0, .ref pq)]) hx hb dX9_resolveTypes_151 hl (k := 2) rfl (nI_1 i2) (by decide) rfl (fun ls hl => ?_)
                refine lv_goto (tgt := 2) hx hb dX9_resolveTypes_154 (by decide) ?_
                have hO : OKP G h0 a (upd F 2 (nI sz)) R Z (updA B 11 (upd (f2) i2 63)) J K w := hO.to rfl
                exact ih_i (i2 + 1) (upd (f2) i2 63) _ _ _ _ (by omega) (by omega) htx123 hP hD hS hO (lv_sub hl [0, 3] rfl)
              · refine lv_aload_n hx hb dX9_resolveTypes_104 rfl (lv_at hl 2 rfl) ?_
                refine p_get (v := .ref (a 1)) (C := RX9) (Tc := TX9) (N := 5) (ci := 6) hx hb hq pin_wsX90 hown hE hP hO (by rw [hp1]; decide) (rep_7 hp1) rfl 0 (by decide) (hq _ pw_784) (fun _ h9 => h9) (congrArg (fun z => some (va_rf z)) hp2) dX9_resolveTypes_105 ?_
                refine lv_iload_n hx hb dX9_resolveTypes_108 rfl (lv_at hl 1 rfl) ?_
                refine lv_iconst (v := 2) hx hb dX9_resolveTypes_109 (by decide) ?_
                refine lv_iadd hx hb dX9_resolveTypes_110 ?_
                refine lv_topi (fun x124 e125 => ?_)
                obtain rfl : x124 = nI (i2 + 2) := e125.trans (nI_add (i2) (2))
                have hO : OKW G h0 a (upd (upd F 2 (nI sz)) 2 (nI sz)) R Z (updA B 11 f2) J K.1 (fun q99 x99 => x99 = rep G a K q99) w := hO.to rfl
                obtain ⟨_, qr129, hqr130⟩ := hO.2.1 2 _ (sg_2 G h0 a _ _ _ _ _)
                refine pc_V0 (G := G) (As := [.int (nI (i2 + 2))]) (rest := []) hx hb hml hown hq hE hX pX0_al hP hD hS hA hl.1 (Y_kindAt l G h0 a (upd F 2 (nI sz)) R Z (updA B 11 f2) J K.1 (fun q99 x99 => x99 = rep G a K q99) w (nI (i2 + 2)) sz (by omega) hO) (gV pw_1133 pw_193 pw_194 pw_59 pw_126) hV_X10_kindAt qr129 7 hqr130 rfl rfl rfl (Nat.le_of_ble_eq_true rfl) dX9_resolveTypes_111 ⟨Nat.le_of_ble_eq_true rfl, Nat.le_of_ble_eq_true rfl⟩ ⟨Nat.le_of_ble_eq_true rfl, Nat.le_of_ble_eq_true rfl⟩ (fun v128 u126 H locs hw127 hP hD hS => ?_)
                obtain ⟨w, _⟩ := u126
                obtain ⟨hw127, hO⟩ := hw127
                obtain rfl : v128 = some (.int (tkN ((B 7)) sz 67 (nI (i2 + 2)))) := hw127
                have hO : OKP G h0 a (upd F 2 (nI sz)) R Z (updA B 11 f2) J K w := hO.to rfl
                refine W.widen (k := 0) (n := 0) (Nat.le_of_ble_eq_true rfl) (Nat.le_of_ble_eq_true rfl) ?_
                refine W.eq (g2 := F0 m 114 ls [.int (tkN ((B 7)) sz 67 (nI (i2 + 2)))]) rfl ?_
                refine lv_bipush (v := 37) hx hb dX9_resolveTypes_114 (by decide) ?_
                refine lv_icmp_ne (tgt := 123) hx hb dX9_resolveTypes_116 (by decide) (fun c131 => ?_) (fun c131 => ?_)
                · refine lv_iconst (v := 0) hx hb dX9_resolveTypes_123 (by decide) ?_
                  refine lv_istore_n (lv' := [(3, .int 0), (2, .int 63), (1, .int (nI i2)), (0, .ref pq)]) hx hb dX9_resolveTypes_124 rfl hl (by decide) rfl (fun ls hl => ?_)
                  refine lv_aload_n hx hb dX9_resolveTypes_125 rfl (lv_at hl 3 rfl) ?_
                  refine p_get (v := .ref (a 1)) (C := RX9) (Tc := TX9) (N := 5) (ci := 6) hx hb hq pin_wsX90 hown hE hP hO (by rw [hp1]; decide) (rep_7 hp1) rfl 0 (by decide) (hq _ pw_784) (fun _ h9 => h9) (congrArg (fun z => some (va_rf z)) hp2) dX9_resolveTypes_126 ?_
                  refine lv_iload_n hx hb dX9_resolveTypes_129 rfl (lv_at hl 2 rfl) ?_
                  refine lv_iload_n hx hb dX9_resolveTypes_130 rfl (lv_at hl 0 rfl) ?_
                  refine lv_if_eq (tgt := 147) hx hb dX9_resolveTypes_131 (by decide) (fun c132 => ?_) (fun c132 => absurd c132 (by decide))
                  refine lv_iload_n hx hb dX9_resolveTypes_147 rfl (lv_at hl 1 rfl) ?_
                  have hO : OKW G h0 a (upd (upd F 2 (nI sz)) 2 (nI sz)) R Z (updA B 11 f2) J K.1 (fun q99 x99 => x99 = rep G a K q99) w := hO.to rfl
                  obtain ⟨_, qr136, hqr137⟩ := hO.2.1 2 _ (sg_2 G h0 a _ _ _ _ _)
                  refine pc_V0 (G := G) (As := [.int (nI i2), .int 63]) (rest := []) hx hb hml hown hq hE hX pX0_al hP hD hS hA hl.1 (N_giveType l G h0 a (upd F 2 (nI sz)) R Z (updA B 11 f2) J K.1 (fun q99 x99 => x99 = rep G a K q99) w i2 63 sz (by omega) (by omega) hO) (gV pw_1134 pw_1135 pw_1136 pw_59 pw_1132) hV_X10_giveType qr136 7 hqr137 rfl rfl rfl (Nat.le_of_ble_eq_true rfl) dX9_resolveTypes_148 ⟨Nat.le_of_ble_eq_true rfl, Nat.le_of_ble_eq_true rfl⟩ ⟨Nat.le_of_ble_eq_true rfl, Nat.le_of_ble_eq_true rfl⟩ (fun v135 u133 H locs hw134 hP hD hS => ?_)
                  obtain ⟨w, _⟩ := u133
                  obtain ⟨hw134, hO⟩ := hw134
                  obtain rfl : v135 = none := hw134
                  have hO : OKP G h0 a (upd F 2 (nI sz)) R Z (updA B 11 (upd (f2) i2 63)) J K w := hO.to rfl
                  refine W.widen (k := 0) (n := 0) (Nat.le_of_ble_eq_true rfl) (Nat.le_of_ble_eq_true rfl) ?_
                  refine W.eq (g2 := F0 m 151 ls []) rfl ?_
                  have htx138 : ∀ t : Nat, t < i2 + 1 → TyO K dr nd (B 9) (B 10) (B 7) sz (upd f2 i2 (63 : Int32)) t := TyX.up (r := (63 : Int32)) (v := (63 : Int32)) hty (fun y => absurd c10 y) (fun _ => Or.inr (Or.inr ⟨rfl, c16, c108⟩)) (Or.inl rfl)
                  refine lv_iinc (v := (nI (i2 + 1))) (lv' := [(1, .int (nI (i2 + 1))), (3, .int 0), (2, .int 63), (0, .ref pq)]) hx hb dX9_resolveTypes_151 hl (k := 2) rfl (nI_1 i2) (by decide) rfl (fun ls hl => ?_)
                  refine lv_goto (tgt := 2) hx hb dX9_resolveTypes_154 (by decide) ?_
                  have hO : OKP G h0 a (upd F 2 (nI sz)) R Z (updA B 11 (upd (f2) i2 63)) J K w := hO.to rfl
                  exact ih_i (i2 + 1) (upd (f2) i2 63) _ _ _ _ (by omega) (by omega) htx138 hP hD hS hO (lv_sub hl [0, 3] rfl)
                · refine lv_iconst (v := 1) hx hb dX9_resolveTypes_119 (by decide) ?_
                  refine lv_goto (tgt := 124) hx hb dX9_resolveTypes_120 (by decide) ?_
                  refine lv_istore_n (lv' := [(3, .int 1), (2, .int 63), (1, .int (nI i2)), (0, .ref pq)]) hx hb dX9_resolveTypes_124 rfl hl (by decide) rfl (fun ls hl => ?_)
                  refine lv_aload_n hx hb dX9_resolveTypes_125 rfl (lv_at hl 3 rfl) ?_
                  refine p_get (v := .ref (a 1)) (C := RX9) (Tc := TX9) (N := 5) (ci := 6) hx hb hq pin_wsX90 hown hE hP hO (by rw [hp1]; decide) (rep_7 hp1) rfl 0 (by decide) (hq _ pw_784) (fun _ h9 => h9) (congrArg (fun z => some (va_rf z)) hp2) dX9_resolveTypes_126 ?_
                  refine lv_iload_n hx hb dX9_resolveTypes_129 rfl (lv_at hl 2 rfl) ?_
                  refine lv_iload_n hx hb dX9_resolveTypes_130 rfl (lv_at hl 0 rfl) ?_
                  refine lv_if_eq (tgt := 147) hx hb dX9_resolveTypes_131 (by decide) (fun c139 => absurd c139 (by decide)) (fun c139 => ?_)
                  refine lv_iload_n hx hb dX9_resolveTypes_134 rfl (lv_at hl 1 rfl) ?_
                  refine lv_bipush (v := 63) hx hb dX9_resolveTypes_135 (by decide) ?_
                  refine lv_icmp_eq (tgt := 147) hx hb dX9_resolveTypes_137 (by decide) (fun c140 => ?_) (fun c140 => absurd c140 (by decide))
                  refine lv_iload_n hx hb dX9_resolveTypes_147 rfl (lv_at hl 1 rfl) ?_
                  have hO : OKW G h0 a (upd (upd F 2 (nI sz)) 2 (nI sz)) R Z (updA B 11 f2) J K.1 (fun q99 x99 => x99 = rep G a K q99) w := hO.to rfl
                  obtain ⟨_, qr144, hqr145⟩ := hO.2.1 2 _ (sg_2 G h0 a _ _ _ _ _)
                  refine pc_V0 (G := G) (As := [.int (nI i2), .int 63]) (rest := []) hx hb hml hown hq hE hX pX0_al hP hD hS hA hl.1 (N_giveType l G h0 a (upd F 2 (nI sz)) R Z (updA B 11 f2) J K.1 (fun q99 x99 => x99 = rep G a K q99) w i2 63 sz (by omega) (by omega) hO) (gV pw_1134 pw_1135 pw_1136 pw_59 pw_1132) hV_X10_giveType qr144 7 hqr145 rfl rfl rfl (Nat.le_of_ble_eq_true rfl) dX9_resolveTypes_148 ⟨Nat.le_of_ble_eq_true rfl, Nat.le_of_ble_eq_true rfl⟩ ⟨Nat.le_of_ble_eq_true rfl, Nat.le_of_ble_eq_true rfl⟩ (fun v143 u141 H locs hw142 hP hD hS => ?_)
                  obtain ⟨w, _⟩ := u141
                  obtain ⟨hw142, hO⟩ := hw142
                  obtain rfl : v143 = none := hw142
                  have hO : OKP G h0 a (upd F 2 (nI sz)) R Z (updA B 11 (upd (f2) i2 63)) J K w := hO.to rfl
                  refine W.widen (k := 0) (n := 0) (Nat.le_of_ble_eq_true rfl) (Nat.le_of_ble_eq_true rfl) ?_
                  refine W.eq (g2 := F0 m 151 ls []) rfl ?_
                  have htx146 : ∀ t : Nat, t < i2 + 1 → TyO K dr nd (B 9) (B 10) (B 7) sz (upd f2 i2 (63 : Int32)) t := TyX.up (r := (63 : Int32)) (v := (63 : Int32)) hty (fun y => absurd c10 y) (fun _ => Or.inr (Or.inr ⟨rfl, c16, c108⟩)) (Or.inl rfl)
                  refine lv_iinc (v := (nI (i2 + 1))) (lv' := [(1, .int (nI (i2 + 1))), (3, .int 1), (2, .int 63), (0, .ref pq)]) hx hb dX9_resolveTypes_151 hl (k := 2) rfl (nI_1 i2) (by decide) rfl (fun ls hl => ?_)
                  refine lv_goto (tgt := 2) hx hb dX9_resolveTypes_154 (by decide) ?_
                  have hO : OKP G h0 a (upd F 2 (nI sz)) R Z (updA B 11 (upd (f2) i2 63)) J K w := hO.to rfl
                  exact ih_i (i2 + 1) (upd (f2) i2 63) _ _ _ _ (by omega) (by omega) htx146 hP hD hS hO (lv_sub hl [0, 3] rfl)
            · refine lv_aload_n hx hb dX9_resolveTypes_68 rfl (lv_at hl 2 rfl) ?_
              refine p_get (v := .ref (a 1)) (C := RX9) (Tc := TX9) (N := 5) (ci := 6) hx hb hq pin_wsX90 hown hE hP hO (by rw [hp1]; decide) (rep_7 hp1) rfl 0 (by decide) (hq _ pw_784) (fun _ h9 => h9) (congrArg (fun z => some (va_rf z)) hp2) dX9_resolveTypes_69 ?_
              refine lv_iload_n hx hb dX9_resolveTypes_72 rfl (lv_at hl 1 rfl) ?_
              have hO : OKW G h0 a (upd (upd F 2 (nI sz)) 2 (nI sz)) R Z (updA B 11 f2) J K.1 (fun q99 x99 => x99 = rep G a K q99) w := hO.to rfl
              obtain ⟨_, qr150, hqr151⟩ := hO.2.1 2 _ (sg_2 G h0 a _ _ _ _ _)
              refine pc_V0 (G := G) (As := [.int (nI i2)]) (rest := []) hx hb hml hown hq hE hX pX0_al hP hD hS hA hl.1 (Y_kindAt l G h0 a (upd F 2 (nI sz)) R Z (updA B 11 f2) J K.1 (fun q99 x99 => x99 = rep G a K q99) w (nI i2) sz (by omega) hO) (gV pw_1133 pw_193 pw_194 pw_59 pw_126) hV_X10_kindAt qr150 7 hqr151 rfl rfl rfl (Nat.le_of_ble_eq_true rfl) dX9_resolveTypes_73 ⟨Nat.le_of_ble_eq_true rfl, Nat.le_of_ble_eq_true rfl⟩ ⟨Nat.le_of_ble_eq_true rfl, Nat.le_of_ble_eq_true rfl⟩ (fun v149 u147 H locs hw148 hP hD hS => ?_)
              obtain ⟨w, _⟩ := u147
              obtain ⟨hw148, hO⟩ := hw148
              obtain rfl : v149 = some (.int (tkN ((B 7)) sz 67 (nI i2))) := hw148
              have hO : OKP G h0 a (upd F 2 (nI sz)) R Z (updA B 11 f2) J K w := hO.to rfl
              refine W.widen (k := 0) (n := 0) (Nat.le_of_ble_eq_true rfl) (Nat.le_of_ble_eq_true rfl) ?_
              refine W.eq (g2 := F0 m 76 ls [.int (tkN ((B 7)) sz 67 (nI i2))]) rfl ?_
              rw [show tkN (B 7) sz 67 (nI i2) = B 7 i2 from tkN_in (by omega) (by omega)]
              refine lv_bipush (v := 13) hx hb dX9_resolveTypes_76 (by decide) ?_
              refine lv_icmp_ne (tgt := 86) hx hb dX9_resolveTypes_78 (by decide) (fun c152 => ?_) (fun c152 => ?_)
              · refine lv_bipush (v := 61) hx hb dX9_resolveTypes_86 (by decide) ?_
                refine lv_istore_n (lv' := [(2, .int 61), (1, .int (nI i2)), (0, .ref pq)]) hx hb dX9_resolveTypes_88 rfl hl (by decide) rfl (fun ls hl => ?_)
                refine lv_aload_n hx hb dX9_resolveTypes_89 rfl (lv_at hl 2 rfl) ?_
                refine p_get (v := .ref (a 1)) (C := RX9) (Tc := TX9) (N := 5) (ci := 6) hx hb hq pin_wsX90 hown hE hP hO (by rw [hp1]; decide) (rep_7 hp1) rfl 0 (by decide) (hq _ pw_784) (fun _ h9 => h9) (congrArg (fun z => some (va_rf z)) hp2) dX9_resolveTypes_90 ?_
                refine lv_iload_n hx hb dX9_resolveTypes_93 rfl (lv_at hl 1 rfl) ?_
                refine lv_iconst (v := 1) hx hb dX9_resolveTypes_94 (by decide) ?_
                refine lv_iadd hx hb dX9_resolveTypes_95 ?_
                refine lv_topi (fun x153 e154 => ?_)
                obtain rfl : x153 = nI (i2 + 1) := e154.trans (nI_add (i2) (1))
                have hO : OKW G h0 a (upd (upd F 2 (nI sz)) 2 (nI sz)) R Z (updA B 11 f2) J K.1 (fun q99 x99 => x99 = rep G a K q99) w := hO.to rfl
                obtain ⟨_, qr158, hqr159⟩ := hO.2.1 2 _ (sg_2 G h0 a _ _ _ _ _)
                refine pc_V0 (G := G) (As := [.int (nI (i2 + 1))]) (rest := []) hx hb hml hown hq hE hX pX0_al hP hD hS hA hl.1 (Y_kindAt l G h0 a (upd F 2 (nI sz)) R Z (updA B 11 f2) J K.1 (fun q99 x99 => x99 = rep G a K q99) w (nI (i2 + 1)) sz (by omega) hO) (gV pw_1133 pw_193 pw_194 pw_59 pw_126) hV_X10_kindAt qr158 7 hqr159 rfl rfl rfl (Nat.le_of_ble_eq_true rfl) dX9_resolveTypes_96 ⟨Nat.le_of_ble_eq_true rfl, Nat.le_of_ble_eq_true rfl⟩ ⟨Nat.le_of_ble_eq_true rfl, Nat.le_of_ble_eq_true rfl⟩ (fun v157 u155 H locs hw156 hP hD hS => ?_)
                obtain ⟨w, _⟩ := u155
                obtain ⟨hw156, hO⟩ := hw156
                obtain rfl : v157 = some (.int (tkN ((B 7)) sz 67 (nI (i2 + 1)))) := hw156
                have hO : OKP G h0 a (upd F 2 (nI sz)) R Z (updA B 11 f2) J K w := hO.to rfl
                refine W.widen (k := 0) (n := 0) (Nat.le_of_ble_eq_true rfl) (Nat.le_of_ble_eq_true rfl) ?_
                refine W.eq (g2 := F0 m 99 ls [.int (tkN ((B 7)) sz 67 (nI (i2 + 1)))]) rfl ?_
                refine lv_bipush (v := 36) hx hb dX9_resolveTypes_99 (by decide) ?_
                refine lv_icmp_ne (tgt := 123) hx hb dX9_resolveTypes_101 (by decide) (fun c160 => ?_) (fun c160 => ?_)
                · refine lv_iconst (v := 0) hx hb dX9_resolveTypes_123 (by decide) ?_
                  refine lv_istore_n (lv' := [(3, .int 0), (2, .int 61), (1, .int (nI i2)), (0, .ref pq)]) hx hb dX9_resolveTypes_124 rfl hl (by decide) rfl (fun ls hl => ?_)
                  refine lv_aload_n hx hb dX9_resolveTypes_125 rfl (lv_at hl 3 rfl) ?_
                  refine p_get (v := .ref (a 1)) (C := RX9) (Tc := TX9) (N := 5) (ci := 6) hx hb hq pin_wsX90 hown hE hP hO (by rw [hp1]; decide) (rep_7 hp1) rfl 0 (by decide) (hq _ pw_784) (fun _ h9 => h9) (congrArg (fun z => some (va_rf z)) hp2) dX9_resolveTypes_126 ?_
                  refine lv_iload_n hx hb dX9_resolveTypes_129 rfl (lv_at hl 2 rfl) ?_
                  refine lv_iload_n hx hb dX9_resolveTypes_130 rfl (lv_at hl 0 rfl) ?_
                  refine lv_if_eq (tgt := 147) hx hb dX9_resolveTypes_131 (by decide) (fun c161 => ?_) (fun c161 => absurd c161 (by decide))
                  refine lv_iload_n hx hb dX9_resolveTypes_147 rfl (lv_at hl 1 rfl) ?_
                  have hO : OKW G h0 a (upd (upd F 2 (nI sz)) 2 (nI sz)) R Z (updA B 11 f2) J K.1 (fun q99 x99 => x99 = rep G a K q99) w := hO.to rfl
                  obtain ⟨_, qr165, hqr166⟩ := hO.2.1 2 _ (sg_2 G h0 a _ _ _ _ _)
                  refine pc_V0 (G := G) (As := [.int (nI i2), .int 61]) (rest := []) hx hb hml hown hq hE hX pX0_al hP hD hS hA hl.1 (N_giveType l G h0 a (upd F 2 (nI sz)) R Z (updA B 11 f2) J K.1 (fun q99 x99 => x99 = rep G a K q99) w i2 61 sz (by omega) (by omega) hO) (gV pw_1134 pw_1135 pw_1136 pw_59 pw_1132) hV_X10_giveType qr165 7 hqr166 rfl rfl rfl (Nat.le_of_ble_eq_true rfl) dX9_resolveTypes_148 ⟨Nat.le_of_ble_eq_true rfl, Nat.le_of_ble_eq_true rfl⟩ ⟨Nat.le_of_ble_eq_true rfl, Nat.le_of_ble_eq_true rfl⟩ (fun v164 u162 H locs hw163 hP hD hS => ?_)
                  obtain ⟨w, _⟩ := u162
                  obtain ⟨hw163, hO⟩ := hw163
                  obtain rfl : v164 = none := hw163
                  have hO : OKP G h0 a (upd F 2 (nI sz)) R Z (updA B 11 (upd (f2) i2 61)) J K w := hO.to rfl
                  refine W.widen (k := 0) (n := 0) (Nat.le_of_ble_eq_true rfl) (Nat.le_of_ble_eq_true rfl) ?_
                  refine W.eq (g2 := F0 m 151 ls []) rfl ?_
                  have htx167 : ∀ t : Nat, t < i2 + 1 → TyO K dr nd (B 9) (B 10) (B 7) sz (upd f2 i2 (61 : Int32)) t := TyX.up (r := (61 : Int32)) (v := (61 : Int32)) hty (fun y => absurd c10 y) (fun _ => Or.inr (Or.inl ⟨rfl, c108⟩)) (Or.inl rfl)
                  refine lv_iinc (v := (nI (i2 + 1))) (lv' := [(1, .int (nI (i2 + 1))), (3, .int 0), (2, .int 61), (0, .ref pq)]) hx hb dX9_resolveTypes_151 hl (k := 2) rfl (nI_1 i2) (by decide) rfl (fun ls hl => ?_)
                  refine lv_goto (tgt := 2) hx hb dX9_resolveTypes_154 (by decide) ?_
                  have hO : OKP G h0 a (upd F 2 (nI sz)) R Z (updA B 11 (upd (f2) i2 61)) J K w := hO.to rfl
                  exact ih_i (i2 + 1) (upd (f2) i2 61) _ _ _ _ (by omega) (by omega) htx167 hP hD hS hO (lv_sub hl [0, 3] rfl)
                · refine lv_aload_n hx hb dX9_resolveTypes_104 rfl (lv_at hl 2 rfl) ?_
                  refine p_get (v := .ref (a 1)) (C := RX9) (Tc := TX9) (N := 5) (ci := 6) hx hb hq pin_wsX90 hown hE hP hO (by rw [hp1]; decide) (rep_7 hp1) rfl 0 (by decide) (hq _ pw_784) (fun _ h9 => h9) (congrArg (fun z => some (va_rf z)) hp2) dX9_resolveTypes_105 ?_
                  refine lv_iload_n hx hb dX9_resolveTypes_108 rfl (lv_at hl 1 rfl) ?_
                  refine lv_iconst (v := 2) hx hb dX9_resolveTypes_109 (by decide) ?_
                  refine lv_iadd hx hb dX9_resolveTypes_110 ?_
                  refine lv_topi (fun x168 e169 => ?_)
                  obtain rfl : x168 = nI (i2 + 2) := e169.trans (nI_add (i2) (2))
                  have hO : OKW G h0 a (upd (upd F 2 (nI sz)) 2 (nI sz)) R Z (updA B 11 f2) J K.1 (fun q99 x99 => x99 = rep G a K q99) w := hO.to rfl
                  obtain ⟨_, qr173, hqr174⟩ := hO.2.1 2 _ (sg_2 G h0 a _ _ _ _ _)
                  refine pc_V0 (G := G) (As := [.int (nI (i2 + 2))]) (rest := []) hx hb hml hown hq hE hX pX0_al hP hD hS hA hl.1 (Y_kindAt l G h0 a (upd F 2 (nI sz)) R Z (updA B 11 f2) J K.1 (fun q99 x99 => x99 = rep G a K q99) w (nI (i2 + 2)) sz (by omega) hO) (gV pw_1133 pw_193 pw_194 pw_59 pw_126) hV_X10_kindAt qr173 7 hqr174 rfl rfl rfl (Nat.le_of_ble_eq_true rfl) dX9_resolveTypes_111 ⟨Nat.le_of_ble_eq_true rfl, Nat.le_of_ble_eq_true rfl⟩ ⟨Nat.le_of_ble_eq_true rfl, Nat.le_of_ble_eq_true rfl⟩ (fun v172 u170 H locs hw171 hP hD hS => ?_)
                  obtain ⟨w, _⟩ := u170
                  obtain ⟨hw171, hO⟩ := hw171
                  obtain rfl : v172 = some (.int (tkN ((B 7)) sz 67 (nI (i2 + 2)))) := hw171
                  have hO : OKP G h0 a (upd F 2 (nI sz)) R Z (updA B 11 f2) J K w := hO.to rfl
                  refine W.widen (k := 0) (n := 0) (Nat.le_of_ble_eq_true rfl) (Nat.le_of_ble_eq_true rfl) ?_
                  refine W.eq (g2 := F0 m 114 ls [.int (tkN ((B 7)) sz 67 (nI (i2 + 2)))]) rfl ?_
                  refine lv_bipush (v := 37) hx hb dX9_resolveTypes_114 (by decide) ?_
                  refine lv_icmp_ne (tgt := 123) hx hb dX9_resolveTypes_116 (by decide) (fun c175 => ?_) (fun c175 => ?_)
                  · refine lv_iconst (v := 0) hx hb dX9_resolveTypes_123 (by decide) ?_
                    refine lv_istore_n (lv' := [(3, .int 0), (2, .int 61), (1, .int (nI i2)), (0, .ref pq)]) hx hb dX9_resolveTypes_124 rfl hl (by decide) rfl (fun ls hl => ?_)
                    refine lv_aload_n hx hb dX9_resolveTypes_125 rfl (lv_at hl 3 rfl) ?_
                    refine p_get (v := .ref (a 1)) (C := RX9) (Tc := TX9) (N := 5) (ci := 6) hx hb hq pin_wsX90 hown hE hP hO (by rw [hp1]; decide) (rep_7 hp1) rfl 0 (by decide) (hq _ pw_784) (fun _ h9 => h9) (congrArg (fun z => some (va_rf z)) hp2) dX9_resolveTypes_126 ?_
                    refine lv_iload_n hx hb dX9_resolveTypes_129 rfl (lv_at hl 2 rfl) ?_
                    refine lv_iload_n hx hb dX9_resolveTypes_130 rfl (lv_at hl 0 rfl) ?_
                    refine lv_if_eq (tgt := 147) hx hb dX9_resolveTypes_131 (by decide) (fun c176 => ?_) (fun c176 => absurd c176 (by decide))
                    refine lv_iload_n hx hb dX9_resolveTypes_147 rfl (lv_at hl 1 rfl) ?_
                    have hO : OKW G h0 a (upd (upd F 2 (nI sz)) 2 (nI sz)) R Z (updA B 11 f2) J K.1 (fun q99 x99 => x99 = rep G a K q99) w := hO.to rfl
                    obtain ⟨_, qr180, hqr181⟩ := hO.2.1 2 _ (sg_2 G h0 a _ _ _ _ _)
                    refine pc_V0 (G := G) (As := [.int (nI i2), .int 61]) (rest := []) hx hb hml hown hq hE hX pX0_al hP hD hS hA hl.1 (N_giveType l G h0 a (upd F 2 (nI sz)) R Z (updA B 11 f2) J K.1 (fun q99 x99 => x99 = rep G a K q99) w i2 61 sz (by omega) (by omega) hO) (gV pw_1134 pw_1135 pw_1136 pw_59 pw_1132) hV_X10_giveType qr180 7 hqr181 rfl rfl rfl (Nat.le_of_ble_eq_true rfl) dX9_resolveTypes_148 ⟨Nat.le_of_ble_eq_true rfl, Nat.le_of_ble_eq_true rfl⟩ ⟨Nat.le_of_ble_eq_true rfl, Nat.le_of_ble_eq_true rfl⟩ (fun v179 u177 H locs hw178 hP hD hS => ?_)
                    obtain ⟨w, _⟩ := u177
                    obtain ⟨hw178, hO⟩ := hw178
                    obtain rfl : v179 = none := hw178
                    have hO : OKP G h0 a (upd F 2 (nI sz)) R Z (updA B 11 (upd (f2) i2 61)) J K w := hO.to rfl
                    refine W.widen (k := 0) (n := 0) (Nat.le_of_ble_eq_true rfl) (Nat.le_of_ble_eq_true rfl) ?_
                    refine W.eq (g2 := F0 m 151 ls []) rfl ?_
                    have htx182 : ∀ t : Nat, t < i2 + 1 → TyO K dr nd (B 9) (B 10) (B 7) sz (upd f2 i2 (61 : Int32)) t := TyX.up (r := (61 : Int32)) (v := (61 : Int32)) hty (fun y => absurd c10 y) (fun _ => Or.inr (Or.inl ⟨rfl, c108⟩)) (Or.inl rfl)
                    refine lv_iinc (v := (nI (i2 + 1))) (lv' := [(1, .int (nI (i2 + 1))), (3, .int 0), (2, .int 61), (0, .ref pq)]) hx hb dX9_resolveTypes_151 hl (k := 2) rfl (nI_1 i2) (by decide) rfl (fun ls hl => ?_)
                    refine lv_goto (tgt := 2) hx hb dX9_resolveTypes_154 (by decide) ?_
                    have hO : OKP G h0 a (upd F 2 (nI sz)) R Z (updA B 11 (upd (f2) i2 61)) J K w := hO.to rfl
                    exact ih_i (i2 + 1) (upd (f2) i2 61) _ _ _ _ (by omega) (by omega) htx182 hP hD hS hO (lv_sub hl [0, 3] rfl)
                  · refine lv_iconst (v := 1) hx hb dX9_resolveTypes_119 (by decide) ?_
                    refine lv_goto (tgt := 124) hx hb dX9_resolveTypes_120 (by decide) ?_
                    refine lv_istore_n (lv' := [(3, .int 1), (2, .int 61), (1, .int (nI i2)), (0, .ref pq)]) hx hb dX9_resolveTypes_124 rfl hl (by decide) rfl (fun ls hl => ?_)
                    refine lv_aload_n hx hb dX9_resolveTypes_125 rfl (lv_at hl 3 rfl) ?_
                    refine p_get (v := .ref (a 1)) (C := RX9) (Tc := TX9) (N := 5) (ci := 6) hx hb hq pin_wsX90 hown hE hP hO (by rw [hp1]; decide) (rep_7 hp1) rfl 0 (by decide) (hq _ pw_784) (fun _ h9 => h9) (congrArg (fun z => some (va_rf z)) hp2) dX9_resolveTypes_126 ?_
                    refine lv_iload_n hx hb dX9_resolveTypes_129 rfl (lv_at hl 2 rfl) ?_
                    refine lv_iload_n hx hb dX9_resolveTypes_130 rfl (lv_at hl 0 rfl) ?_
                    refine lv_if_eq (tgt := 147) hx hb dX9_resolveTypes_131 (by decide) (fun c183 => absurd c183 (by decide)) (fun c183 => ?_)
                    refine lv_iload_n hx hb dX9_resolveTypes_134 rfl (lv_at hl 1 rfl) ?_
                    refine lv_bipush (v := 63) hx hb dX9_resolveTypes_135 (by decide) ?_
                    refine lv_icmp_eq (tgt := 147) hx hb dX9_resolveTypes_137 (by decide) (fun c184 => absurd c184 (by decide)) (fun c184 => ?_)
                    refine lv_bipush (v := 64) hx hb dX9_resolveTypes_140 (by decide) ?_
                    refine lv_iload_n hx hb dX9_resolveTypes_142 rfl (lv_at hl 1 rfl) ?_
                    refine lv_iadd hx hb dX9_resolveTypes_143 ?_
                    refine lv_topi (fun x185 e186 => ?_)
                    obtain rfl : x185 = 125 := e186.trans (by decide)
                    refine lv_goto (tgt := 148) hx hb dX9_resolveTypes_144 (by decide) ?_
                    have hO : OKW G h0 a (upd (upd F 2 (nI sz)) 2 (nI sz)) R Z (updA B 11 f2) J K.1 (fun q99 x99 => x99 = rep G a K q99) w := hO.to rfl
                    obtain ⟨_, qr190, hqr191⟩ := hO.2.1 2 _ (sg_2 G h0 a _ _ _ _ _)
                    refine pc_V0 (G := G) (As := [.int (nI i2), .int 125]) (rest := []) hx hb hml hown hq hE hX pX0_al hP hD hS hA hl.1 (N_giveType l G h0 a (upd F 2 (nI sz)) R Z (updA B 11 f2) J K.1 (fun q99 x99 => x99 = rep G a K q99) w i2 125 sz (by omega) (by omega) hO) (gV pw_1134 pw_1135 pw_1136 pw_59 pw_1132) hV_X10_giveType qr190 7 hqr191 rfl rfl rfl (Nat.le_of_ble_eq_true rfl) dX9_resolveTypes_148 ⟨Nat.le_of_ble_eq_true rfl, Nat.le_of_ble_eq_true rfl⟩ ⟨Nat.le_of_ble_eq_true rfl, Nat.le_of_ble_eq_true rfl⟩ (fun v189 u187 H locs hw188 hP hD hS => ?_)
                    obtain ⟨w, _⟩ := u187
                    obtain ⟨hw188, hO⟩ := hw188
                    obtain rfl : v189 = none := hw188
                    have hO : OKP G h0 a (upd F 2 (nI sz)) R Z (updA B 11 (upd (f2) i2 125)) J K w := hO.to rfl
                    refine W.widen (k := 0) (n := 0) (Nat.le_of_ble_eq_true rfl) (Nat.le_of_ble_eq_true rfl) ?_
                    refine W.eq (g2 := F0 m 151 ls []) rfl ?_
                    have htx192 : ∀ t : Nat, t < i2 + 1 → TyO K dr nd (B 9) (B 10) (B 7) sz (upd f2 i2 (125 : Int32)) t := TyX.up (r := (61 : Int32)) (v := (125 : Int32)) hty (fun y => absurd c10 y) (fun _ => Or.inr (Or.inl ⟨rfl, c108⟩)) (Or.inr ⟨(by decide), (by decide), c160, c175⟩)
                    refine lv_iinc (v := (nI (i2 + 1))) (lv' := [(1, .int (nI (i2 + 1))), (3, .int 1), (2, .int 61), (0, .ref pq)]) hx hb dX9_resolveTypes_151 hl (k := 2) rfl (nI_1 i2) (by decide) rfl (fun ls hl => ?_)
                    refine lv_goto (tgt := 2) hx hb dX9_resolveTypes_154 (by decide) ?_
                    have hO : OKP G h0 a (upd F 2 (nI sz)) R Z (updA B 11 (upd (f2) i2 125)) J K w := hO.to rfl
                    exact ih_i (i2 + 1) (upd (f2) i2 125) _ _ _ _ (by omega) (by omega) htx192 hP hD hS hO (lv_sub hl [0, 3] rfl)
              · refine lv_bipush (v := 60) hx hb dX9_resolveTypes_81 (by decide) ?_
                refine lv_goto (tgt := 88) hx hb dX9_resolveTypes_83 (by decide) ?_
                refine lv_istore_n (lv' := [(2, .int 60), (1, .int (nI i2)), (0, .ref pq)]) hx hb dX9_resolveTypes_88 rfl hl (by decide) rfl (fun ls hl => ?_)
                refine lv_aload_n hx hb dX9_resolveTypes_89 rfl (lv_at hl 2 rfl) ?_
                refine p_get (v := .ref (a 1)) (C := RX9) (Tc := TX9) (N := 5) (ci := 6) hx hb hq pin_wsX90 hown hE hP hO (by rw [hp1]; decide) (rep_7 hp1) rfl 0 (by decide) (hq _ pw_784) (fun _ h9 => h9) (congrArg (fun z => some (va_rf z)) hp2) dX9_resolveTypes_90 ?_
                refine lv_iload_n hx hb dX9_resolveTypes_93 rfl (lv_at hl 1 rfl) ?_
                refine lv_iconst (v := 1) hx hb dX9_resolveTypes_94 (by decide) ?_
                refine lv_iadd hx hb dX9_resolveTypes_95 ?_
                refine lv_topi (fun x193 e194 => ?_)
                obtain rfl : x193 = nI (i2 + 1) := e194.trans (nI_add (i2) (1))
                have hO : OKW G h0 a (upd (upd F 2 (nI sz)) 2 (nI sz)) R Z (updA B 11 f2) J K.1 (fun q99 x99 => x99 = rep G a K q99) w := hO.to rfl
                obtain ⟨_, qr198, hqr199⟩ := hO.2.1 2 _ (sg_2 G h0 a _ _ _ _ _)
                refine pc_V0 (G := G) (As := [.int (nI (i2 + 1))]) (rest := []) hx hb hml hown hq hE hX pX0_al hP hD hS hA hl.1 (Y_kindAt l G h0 a (upd F 2 (nI sz)) R Z (updA B 11 f2) J K.1 (fun q99 x99 => x99 = rep G a K q99) w (nI (i2 + 1)) sz (by omega) hO) (gV pw_1133 pw_193 pw_194 pw_59 pw_126) hV_X10_kindAt qr198 7 hqr199 rfl rfl rfl (Nat.le_of_ble_eq_true rfl) dX9_resolveTypes_96 ⟨Nat.le_of_ble_eq_true rfl, Nat.le_of_ble_eq_true rfl⟩ ⟨Nat.le_of_ble_eq_true rfl, Nat.le_of_ble_eq_true rfl⟩ (fun v197 u195 H locs hw196 hP hD hS => ?_)
                obtain ⟨w, _⟩ := u195
                obtain ⟨hw196, hO⟩ := hw196
                obtain rfl : v197 = some (.int (tkN ((B 7)) sz 67 (nI (i2 + 1)))) := hw196
                have hO : OKP G h0 a (upd F 2 (nI sz)) R Z (updA B 11 f2) J K w := hO.to rfl
                refine W.widen (k := 0) (n := 0) (Nat.le_of_ble_eq_true rfl) (Nat.le_of_ble_eq_true rfl) ?_
                refine W.eq (g2 := F0 m 99 ls [.int (tkN ((B 7)) sz 67 (nI (i2 + 1)))]) rfl ?_
                refine lv_bipush (v := 36) hx hb dX9_resolveTypes_99 (by decide) ?_
                refine lv_icmp_ne (tgt := 123) hx hb dX9_resolveTypes_101 (by decide) (fun c200 => ?_) (fun c200 => ?_)
                · refine lv_iconst (v := 0) hx hb dX9_resolveTypes_123 (by decide) ?_
                  refine lv_istore_n (lv' := [(3, .int 0), (2, .int 60), (1, .int (nI i2)), (0, .ref pq)]) hx hb dX9_resolveTypes_124 rfl hl (by decide) rfl (fun ls hl => ?_)
                  refine lv_aload_n hx hb dX9_resolveTypes_125 rfl (lv_at hl 3 rfl) ?_
                  refine p_get (v := .ref (a 1)) (C := RX9) (Tc := TX9) (N := 5) (ci := 6) hx hb hq pin_wsX90 hown hE hP hO (by rw [hp1]; decide) (rep_7 hp1) rfl 0 (by decide) (hq _ pw_784) (fun _ h9 => h9) (congrArg (fun z => some (va_rf z)) hp2) dX9_resolveTypes_126 ?_
                  refine lv_iload_n hx hb dX9_resolveTypes_129 rfl (lv_at hl 2 rfl) ?_
                  refine lv_iload_n hx hb dX9_resolveTypes_130 rfl (lv_at hl 0 rfl) ?_
                  refine lv_if_eq (tgt := 147) hx hb dX9_resolveTypes_131 (by decide) (fun c201 => ?_) (fun c201 => absurd c201 (by decide))
                  refine lv_iload_n hx hb dX9_resolveTypes_147 rfl (lv_at hl 1 rfl) ?_
                  have hO : OKW G h0 a (upd (upd F 2 (nI sz)) 2 (nI sz)) R Z (updA B 11 f2) J K.1 (fun q99 x99 => x99 = rep G a K q99) w := hO.to rfl
                  obtain ⟨_, qr205, hqr206⟩ := hO.2.1 2 _ (sg_2 G h0 a _ _ _ _ _)
                  refine pc_V0 (G := G) (As := [.int (nI i2), .int 60]) (rest := []) hx hb hml hown hq hE hX pX0_al hP hD hS hA hl.1 (N_giveType l G h0 a (upd F 2 (nI sz)) R Z (updA B 11 f2) J K.1 (fun q99 x99 => x99 = rep G a K q99) w i2 60 sz (by omega) (by omega) hO) (gV pw_1134 pw_1135 pw_1136 pw_59 pw_1132) hV_X10_giveType qr205 7 hqr206 rfl rfl rfl (Nat.le_of_ble_eq_true rfl) dX9_resolveTypes_148 ⟨Nat.le_of_ble_eq_true rfl, Nat.le_of_ble_eq_true rfl⟩ ⟨Nat.le_of_ble_eq_true rfl, Nat.le_of_ble_eq_true rfl⟩ (fun v204 u202 H locs hw203 hP hD hS => ?_)
                  obtain ⟨w, _⟩ := u202
                  obtain ⟨hw203, hO⟩ := hw203
                  obtain rfl : v204 = none := hw203
                  have hO : OKP G h0 a (upd F 2 (nI sz)) R Z (updA B 11 (upd (f2) i2 60)) J K w := hO.to rfl
                  refine W.widen (k := 0) (n := 0) (Nat.le_of_ble_eq_true rfl) (Nat.le_of_ble_eq_true rfl) ?_
                  refine W.eq (g2 := F0 m 151 ls []) rfl ?_
                  have htx207 : ∀ t : Nat, t < i2 + 1 → TyO K dr nd (B 9) (B 10) (B 7) sz (upd f2 i2 (60 : Int32)) t := TyX.up (r := (60 : Int32)) (v := (60 : Int32)) hty (fun y => absurd c10 y) (fun _ => Or.inl ⟨rfl, c152⟩) (Or.inl rfl)
                  refine lv_iinc (v := (nI (i2 + 1))) (lv' := [(1, .int (nI (i2 + 1))), (3, .int 0), (2, .int 60), (0, .ref pq)]) hx hb dX9_resolveTypes_151 hl (k := 2) rfl (nI_1 i2) (by decide) rfl (fun ls hl => ?_)
                  refine lv_goto (tgt := 2) hx hb dX9_resolveTypes_154 (by decide) ?_
                  have hO : OKP G h0 a (upd F 2 (nI sz)) R Z (updA B 11 (upd (f2) i2 60)) J K w := hO.to rfl
                  exact ih_i (i2 + 1) (upd (f2) i2 60) _ _ _ _ (by omega) (by omega) htx207 hP hD hS hO (lv_sub hl [0, 3] rfl)
                · refine lv_aload_n hx hb dX9_resolveTypes_104 rfl (lv_at hl 2 rfl) ?_
                  refine p_get (v := .ref (a 1)) (C := RX9) (Tc := TX9) (N := 5) (ci := 6) hx hb hq pin_wsX90 hown hE hP hO (by rw [hp1]; decide) (rep_7 hp1) rfl 0 (by decide) (hq _ pw_784) (fun _ h9 => h9) (congrArg (fun z => some (va_rf z)) hp2) dX9_resolveTypes_105 ?_
                  refine lv_iload_n hx hb dX9_resolveTypes_108 rfl (lv_at hl 1 rfl) ?_
                  refine lv_iconst (v := 2) hx hb dX9_resolveTypes_109 (by decide) ?_
                  refine lv_iadd hx hb dX9_resolveTypes_110 ?_
                  refine lv_topi (fun x208 e209 => ?_)
                  obtain rfl : x208 = nI (i2 + 2) := e209.trans (nI_add (i2) (2))
                  have hO : OKW G h0 a (upd (upd F 2 (nI sz)) 2 (nI sz)) R Z (updA B 11 f2) J K.1 (fun q99 x99 => x99 = rep G a K q99) w := hO.to rfl
                  obtain ⟨_, qr213, hqr214⟩ := hO.2.1 2 _ (sg_2 G h0 a _ _ _ _ _)
                  refine pc_V0 (G := G) (As := [.int (nI (i2 + 2))]) (rest := []) hx hb hml hown hq hE hX pX0_al hP hD hS hA hl.1 (Y_kindAt l G h0 a (upd F 2 (nI sz)) R Z (updA B 11 f2) J K.1 (fun q99 x99 => x99 = rep G a K q99) w (nI (i2 + 2)) sz (by omega) hO) (gV pw_1133 pw_193 pw_194 pw_59 pw_126) hV_X10_kindAt qr213 7 hqr214 rfl rfl rfl (Nat.le_of_ble_eq_true rfl) dX9_resolveTypes_111 ⟨Nat.le_of_ble_eq_true rfl, Nat.le_of_ble_eq_true rfl⟩ ⟨Nat.le_of_ble_eq_true rfl, Nat.le_of_ble_eq_true rfl⟩ (fun v212 u210 H locs hw211 hP hD hS => ?_)
                  obtain ⟨w, _⟩ := u210
                  obtain ⟨hw211, hO⟩ := hw211
                  obtain rfl : v212 = some (.int (tkN ((B 7)) sz 67 (nI (i2 + 2)))) := hw211
                  have hO : OKP G h0 a (upd F 2 (nI sz)) R Z (updA B 11 f2) J K w := hO.to rfl
                  refine W.widen (k := 0) (n := 0) (Nat.le_of_ble_eq_true rfl) (Nat.le_of_ble_eq_true rfl) ?_
                  refine W.eq (g2 := F0 m 114 ls [.int (tkN ((B 7)) sz 67 (nI (i2 + 2)))]) rfl ?_
                  refine lv_bipush (v := 37) hx hb dX9_resolveTypes_114 (by decide) ?_
                  refine lv_icmp_ne (tgt := 123) hx hb dX9_resolveTypes_116 (by decide) (fun c215 => ?_) (fun c215 => ?_)
                  · refine lv_iconst (v := 0) hx hb dX9_resolveTypes_123 (by decide) ?_
                    refine lv_istore_n (lv' := [(3, .int 0), (2, .int 60), (1, .int (nI i2)), (0, .ref pq)]) hx hb dX9_resolveTypes_124 rfl hl (by decide) rfl (fun ls hl => ?_)
                    refine lv_aload_n hx hb dX9_resolveTypes_125 rfl (lv_at hl 3 rfl) ?_
                    refine p_get (v := .ref (a 1)) (C := RX9) (Tc := TX9) (N := 5) (ci := 6) hx hb hq pin_wsX90 hown hE hP hO (by rw [hp1]; decide) (rep_7 hp1) rfl 0 (by decide) (hq _ pw_784) (fun _ h9 => h9) (congrArg (fun z => some (va_rf z)) hp2) dX9_resolveTypes_126 ?_
                    refine lv_iload_n hx hb dX9_resolveTypes_129 rfl (lv_at hl 2 rfl) ?_
                    refine lv_iload_n hx hb dX9_resolveTypes_130 rfl (lv_at hl 0 rfl) ?_
                    refine lv_if_eq (tgt := 147) hx hb dX9_resolveTypes_131 (by decide) (fun c216 => ?_) (fun c216 => absurd c216 (by decide))
                    refine lv_iload_n hx hb dX9_resolveTypes_147 rfl (lv_at hl 1 rfl) ?_
                    have hO : OKW G h0 a (upd (upd F 2 (nI sz)) 2 (nI sz)) R Z (updA B 11 f2) J K.1 (fun q99 x99 => x99 = rep G a K q99) w := hO.to rfl
                    obtain ⟨_, qr220, hqr221⟩ := hO.2.1 2 _ (sg_2 G h0 a _ _ _ _ _)
                    refine pc_V0 (G := G) (As := [.int (nI i2), .int 60]) (rest := []) hx hb hml hown hq hE hX pX0_al hP hD hS hA hl.1 (N_giveType l G h0 a (upd F 2 (nI sz)) R Z (updA B 11 f2) J K.1 (fun q99 x99 => x99 = rep G a K q99) w i2 60 sz (by omega) (by omega) hO) (gV pw_1134 pw_1135 pw_1136 pw_59 pw_1132) hV_X10_giveType qr220 7 hqr221 rfl rfl rfl (Nat.le_of_ble_eq_true rfl) dX9_resolveTypes_148 ⟨Nat.le_of_ble_eq_true rfl, Nat.le_of_ble_eq_true rfl⟩ ⟨Nat.le_of_ble_eq_true rfl, Nat.le_of_ble_eq_true rfl⟩ (fun v219 u217 H locs hw218 hP hD hS => ?_)
                    obtain ⟨w, _⟩ := u217
                    obtain ⟨hw218, hO⟩ := hw218
                    obtain rfl : v219 = none := hw218
                    have hO : OKP G h0 a (upd F 2 (nI sz)) R Z (updA B 11 (upd (f2) i2 60)) J K w := hO.to rfl
                    refine W.widen (k := 0) (n := 0) (Nat.le_of_ble_eq_true rfl) (Nat.le_of_ble_eq_true rfl) ?_
                    refine W.eq (g2 := F0 m 151 ls []) rfl ?_
                    have htx222 : ∀ t : Nat, t < i2 + 1 → TyO K dr nd (B 9) (B 10) (B 7) sz (upd f2 i2 (60 : Int32)) t := TyX.up (r := (60 : Int32)) (v := (60 : Int32)) hty (fun y => absurd c10 y) (fun _ => Or.inl ⟨rfl, c152⟩) (Or.inl rfl)
                    refine lv_iinc (v := (nI (i2 + 1))) (lv' := [(1, .int (nI (i2 + 1))), (3, .int 0), (2, .int 60), (0, .ref pq)]) hx hb dX9_resolveTypes_151 hl (k := 2) rfl (nI_1 i2) (by decide) rfl (fun ls hl => ?_)
                    refine lv_goto (tgt := 2) hx hb dX9_resolveTypes_154 (by decide) ?_
                    have hO : OKP G h0 a (upd F 2 (nI sz)) R Z (updA B 11 (upd (f2) i2 60)) J K w := hO.to rfl
                    exact ih_i (i2 + 1) (upd (f2) i2 60) _ _ _ _ (by omega) (by omega) htx222 hP hD hS hO (lv_sub hl [0, 3] rfl)
                  · refine lv_iconst (v := 1) hx hb dX9_resolveTypes_119 (by decide) ?_
                    refine lv_goto (tgt := 124) hx hb dX9_resolveTypes_120 (by decide) ?_
                    refine lv_istore_n (lv' := [(3, .int 1), (2, .int 60), (1, .int (nI i2)), (0, .ref pq)]) hx hb dX9_resolveTypes_124 rfl hl (by decide) rfl (fun ls hl => ?_)
                    refine lv_aload_n hx hb dX9_resolveTypes_125 rfl (lv_at hl 3 rfl) ?_
                    refine p_get (v := .ref (a 1)) (C := RX9) (Tc := TX9) (N := 5) (ci := 6) hx hb hq pin_wsX90 hown hE hP hO (by rw [hp1]; decide) (rep_7 hp1) rfl 0 (by decide) (hq _ pw_784) (fun _ h9 => h9) (congrArg (fun z => some (va_rf z)) hp2) dX9_resolveTypes_126 ?_
                    refine lv_iload_n hx hb dX9_resolveTypes_129 rfl (lv_at hl 2 rfl) ?_
                    refine lv_iload_n hx hb dX9_resolveTypes_130 rfl (lv_at hl 0 rfl) ?_
                    refine lv_if_eq (tgt := 147) hx hb dX9_resolveTypes_131 (by decide) (fun c223 => absurd c223 (by decide)) (fun c223 => ?_)
                    refine lv_iload_n hx hb dX9_resolveTypes_134 rfl (lv_at hl 1 rfl) ?_
                    refine lv_bipush (v := 63) hx hb dX9_resolveTypes_135 (by decide) ?_
                    refine lv_icmp_eq (tgt := 147) hx hb dX9_resolveTypes_137 (by decide) (fun c224 => absurd c224 (by decide)) (fun c224 => ?_)
                    refine lv_bipush (v := 64) hx hb dX9_resolveTypes_140 (by decide) ?_
                    refine lv_iload_n hx hb dX9_resolveTypes_142 rfl (lv_at hl 1 rfl) ?_
                    refine lv_iadd hx hb dX9_resolveTypes_143 ?_
                    refine lv_topi (fun x225 e226 => ?_)
                    obtain rfl : x225 = 124 := e226.trans (by decide)
                    refine lv_goto (tgt := 148) hx hb dX9_resolveTypes_144 (by decide) ?_
                    have hO : OKW G h0 a (upd (upd F 2 (nI sz)) 2 (nI sz)) R Z (updA B 11 f2) J K.1 (fun q99 x99 => x99 = rep G a K q99) w := hO.to rfl
                    obtain ⟨_, qr230, hqr231⟩ := hO.2.1 2 _ (sg_2 G h0 a _ _ _ _ _)
                    refine pc_V0 (G := G) (As := [.int (nI i2), .int 124]) (rest := []) hx hb hml hown hq hE hX pX0_al hP hD hS hA hl.1 (N_giveType l G h0 a (upd F 2 (nI sz)) R Z (updA B 11 f2) J K.1 (fun q99 x99 => x99 = rep G a K q99) w i2 124 sz (by omega) (by omega) hO) (gV pw_1134 pw_1135 pw_1136 pw_59 pw_1132) hV_X10_giveType qr230 7 hqr231 rfl rfl rfl (Nat.le_of_ble_eq_true rfl) dX9_resolveTypes_148 ⟨Nat.le_of_ble_eq_true rfl, Nat.le_of_ble_eq_true rfl⟩ ⟨Nat.le_of_ble_eq_true rfl, Nat.le_of_ble_eq_true rfl⟩ (fun v229 u227 H locs hw228 hP hD hS => ?_)
                    obtain ⟨w, _⟩ := u227
                    obtain ⟨hw228, hO⟩ := hw228
                    obtain rfl : v229 = none := hw228
                    have hO : OKP G h0 a (upd F 2 (nI sz)) R Z (updA B 11 (upd (f2) i2 124)) J K w := hO.to rfl
                    refine W.widen (k := 0) (n := 0) (Nat.le_of_ble_eq_true rfl) (Nat.le_of_ble_eq_true rfl) ?_
                    refine W.eq (g2 := F0 m 151 ls []) rfl ?_
                    have htx232 : ∀ t : Nat, t < i2 + 1 → TyO K dr nd (B 9) (B 10) (B 7) sz (upd f2 i2 (124 : Int32)) t := TyX.up (r := (60 : Int32)) (v := (124 : Int32)) hty (fun y => absurd c10 y) (fun _ => Or.inl ⟨rfl, c152⟩) (Or.inr ⟨(by decide), (by decide), c200, c215⟩)
                    refine lv_iinc (v := (nI (i2 + 1))) (lv' := [(1, .int (nI (i2 + 1))), (3, .int 1), (2, .int 60), (0, .ref pq)]) hx hb dX9_resolveTypes_151 hl (k := 2) rfl (nI_1 i2) (by decide) rfl (fun ls hl => ?_)
                    refine lv_goto (tgt := 2) hx hb dX9_resolveTypes_154 (by decide) ?_
                    have hO : OKP G h0 a (upd F 2 (nI sz)) R Z (updA B 11 (upd (f2) i2 124)) J K w := hO.to rfl
                    exact ih_i (i2 + 1) (upd (f2) i2 124) _ _ _ _ (by omega) (by omega) htx232 hP hD hS hO (lv_sub hl [0, 3] rfl)
        · refine lv_aload_n hx hb dX9_resolveTypes_27 rfl (lv_at hl 2 rfl) ?_
          refine lv_aload_n hx hb dX9_resolveTypes_28 rfl (lv_at hl 2 rfl) ?_
          refine p_get (v := .ref (a 1)) (C := RX9) (Tc := TX9) (N := 5) (ci := 6) hx hb hq pin_wsX90 hown hE hP hO (by rw [hp1]; decide) (rep_7 hp1) rfl 0 (by decide) (hq _ pw_784) (fun _ h9 => h9) (congrArg (fun z => some (va_rf z)) hp2) dX9_resolveTypes_29 ?_
          refine lv_iload_n hx hb dX9_resolveTypes_32 rfl (lv_at hl 1 rfl) ?_
          have hO : OKW G h0 a (upd (upd F 2 (nI sz)) 2 (nI sz)) R Z (updA B 11 f2) J K.1 (fun q99 x99 => x99 = rep G a K q99) w := hO.to rfl
          obtain ⟨_, qr236, hqr237⟩ := hO.2.1 2 _ (sg_2 G h0 a _ _ _ _ _)
          refine pc_V0 (G := G) (As := [.int (nI i2)]) (rest := [.ref pq]) hx hb hml hown hq hE hX pX0_al hP hD hS hA hl.1 (Y_valueAt l G h0 a (upd F 2 (nI sz)) R Z (updA B 11 f2) J K.1 (fun q99 x99 => x99 = rep G a K q99) w (nI i2) sz (by omega) hO) (gV pw_785 pw_57 pw_58 pw_59 pw_39) hV_X10_valueAt qr236 7 hqr237 rfl rfl rfl (Nat.le_of_ble_eq_true rfl) dX9_resolveTypes_33 ⟨Nat.le_of_ble_eq_true rfl, Nat.le_of_ble_eq_true rfl⟩ ⟨Nat.le_of_ble_eq_true rfl, Nat.le_of_ble_eq_true rfl⟩ (fun v235 u233 H locs hw234 hP hD hS => ?_)
          obtain ⟨w, _⟩ := u233
          obtain ⟨hw234, hO⟩ := hw234
          obtain rfl : v235 = some (.int (tkN ((B 9)) sz (-1) (nI i2))) := hw234
          have hO : OKP G h0 a (upd F 2 (nI sz)) R Z (updA B 11 f2) J K w := hO.to rfl
          refine W.widen (k := 0) (n := 0) (Nat.le_of_ble_eq_true rfl) (Nat.le_of_ble_eq_true rfl) ?_
          refine W.eq (g2 := F0 m 36 ls [.int (tkN ((B 9)) sz (-1) (nI i2)), .ref pq]) rfl ?_
          have hO : OKP G h0 a (upd F 2 (nI sz)) R Z (updA B 11 f2) J K w := hO.to rfl
          obtain ⟨qr241, hqr242⟩ := p_recv hO (by rw [hp1]; decide) (rep_7 hp1)
          refine pc_V0 (G := G) (As := [.int (tkN ((B 9)) sz (-1) (nI i2))]) (rest := []) hx hb hml hown hq hE hX pX0_al hP hD hS hA hl.1 (N_find l G h0 a (upd F 2 (nI sz)) R Z (updA B 11 f2) J K w pq dr ml nd (tkN ((B 9)) sz (-1) (nI i2)) g hpb hdc hO) (gV pw_1102 pw_585 pw_586 pw_106 pw_509) hV_X9_find qr241 6 hqr242 rfl rfl rfl (Nat.le_of_ble_eq_true rfl) dX9_resolveTypes_36 ⟨Nat.le_of_ble_eq_true rfl, Nat.le_of_ble_eq_true rfl⟩ ⟨Nat.le_of_ble_eq_true rfl, Nat.le_of_ble_eq_true rfl⟩ (fun v240 u238 H locs hw239 hP hD hS => ?_)
          obtain ⟨w, r243⟩ := u238
          obtain ⟨hw239, h244, hO⟩ := hw239
          have h244 : FdX K dr nd (tkN ((B 9)) sz (-1) (nI i2)) r243 := h244
          obtain rfl : v240 = some (.int r243) := hw239
          have hO : OKP G h0 a (upd F 2 (nI sz)) R Z (updA B 11 f2) J K w := hO.to rfl
          refine W.widen (k := 0) (n := 0) (Nat.le_of_ble_eq_true rfl) (Nat.le_of_ble_eq_true rfl) ?_
          refine W.eq (g2 := F0 m 39 ls [.int r243]) rfl ?_
          refine lv_istore_n (lv' := [(2, .int r243), (1, .int (nI i2)), (0, .ref pq)]) hx hb dX9_resolveTypes_39 rfl hl (by decide) rfl (fun ls hl => ?_)
          refine lv_goto (tgt := 89) hx hb dX9_resolveTypes_40 (by decide) ?_
          refine lv_aload_n hx hb dX9_resolveTypes_89 rfl (lv_at hl 2 rfl) ?_
          refine p_get (v := .ref (a 1)) (C := RX9) (Tc := TX9) (N := 5) (ci := 6) hx hb hq pin_wsX90 hown hE hP hO (by rw [hp1]; decide) (rep_7 hp1) rfl 0 (by decide) (hq _ pw_784) (fun _ h9 => h9) (congrArg (fun z => some (va_rf z)) hp2) dX9_resolveTypes_90 ?_
          refine lv_iload_n hx hb dX9_resolveTypes_93 rfl (lv_at hl 1 rfl) ?_
          refine lv_iconst (v := 1) hx hb dX9_resolveTypes_94 (by decide) ?_
          refine lv_iadd hx hb dX9_resolveTypes_95 ?_
          refine lv_topi (fun x245 e246 => ?_)
          obtain rfl : x245 = nI (i2 + 1) := e246.trans (nI_add (i2) (1))
          have hO : OKW G h0 a (upd (upd F 2 (nI sz)) 2 (nI sz)) R Z (updA B 11 f2) J K.1 (fun q99 x99 => x99 = rep G a K q99) w := hO.to rfl
          obtain ⟨_, qr250, hqr251⟩ := hO.2.1 2 _ (sg_2 G h0 a _ _ _ _ _)
          refine pc_V0 (G := G) (As := [.int (nI (i2 + 1))]) (rest := []) hx hb hml hown hq hE hX pX0_al hP hD hS hA hl.1 (Y_kindAt l G h0 a (upd F 2 (nI sz)) R Z (updA B 11 f2) J K.1 (fun q99 x99 => x99 = rep G a K q99) w (nI (i2 + 1)) sz (by omega) hO) (gV pw_1133 pw_193 pw_194 pw_59 pw_126) hV_X10_kindAt qr250 7 hqr251 rfl rfl rfl (Nat.le_of_ble_eq_true rfl) dX9_resolveTypes_96 ⟨Nat.le_of_ble_eq_true rfl, Nat.le_of_ble_eq_true rfl⟩ ⟨Nat.le_of_ble_eq_true rfl, Nat.le_of_ble_eq_true rfl⟩ (fun v249 u247 H locs hw248 hP hD hS => ?_)
          obtain ⟨w, _⟩ := u247
          obtain ⟨hw248, hO⟩ := hw248
          obtain rfl : v249 = some (.int (tkN ((B 7)) sz 67 (nI (i2 + 1)))) := hw248
          have hO : OKP G h0 a (upd F 2 (nI sz)) R Z (updA B 11 f2) J K w := hO.to rfl
          refine W.widen (k := 0) (n := 0) (Nat.le_of_ble_eq_true rfl) (Nat.le_of_ble_eq_true rfl) ?_
          refine W.eq (g2 := F0 m 99 ls [.int (tkN ((B 7)) sz 67 (nI (i2 + 1)))]) rfl ?_
          refine lv_bipush (v := 36) hx hb dX9_resolveTypes_99 (by decide) ?_
          refine lv_icmp_ne (tgt := 123) hx hb dX9_resolveTypes_101 (by decide) (fun c252 => ?_) (fun c252 => ?_)
          · refine lv_iconst (v := 0) hx hb dX9_resolveTypes_123 (by decide) ?_
            refine lv_istore_n (lv' := [(3, .int 0), (2, .int r243), (1, .int (nI i2)), (0, .ref pq)]) hx hb dX9_resolveTypes_124 rfl hl (by decide) rfl (fun ls hl => ?_)
            refine lv_aload_n hx hb dX9_resolveTypes_125 rfl (lv_at hl 3 rfl) ?_
            refine p_get (v := .ref (a 1)) (C := RX9) (Tc := TX9) (N := 5) (ci := 6) hx hb hq pin_wsX90 hown hE hP hO (by rw [hp1]; decide) (rep_7 hp1) rfl 0 (by decide) (hq _ pw_784) (fun _ h9 => h9) (congrArg (fun z => some (va_rf z)) hp2) dX9_resolveTypes_126 ?_
            refine lv_iload_n hx hb dX9_resolveTypes_129 rfl (lv_at hl 2 rfl) ?_
            refine lv_iload_n hx hb dX9_resolveTypes_130 rfl (lv_at hl 0 rfl) ?_
            refine lv_if_eq (tgt := 147) hx hb dX9_resolveTypes_131 (by decide) (fun c253 => ?_) (fun c253 => absurd c253 (by decide))
            refine lv_iload_n hx hb dX9_resolveTypes_147 rfl (lv_at hl 1 rfl) ?_
            have hO : OKW G h0 a (upd (upd F 2 (nI sz)) 2 (nI sz)) R Z (updA B 11 f2) J K.1 (fun q99 x99 => x99 = rep G a K q99) w := hO.to rfl
            obtain ⟨_, qr257, hqr258⟩ := hO.2.1 2 _ (sg_2 G h0 a _ _ _ _ _)
            refine pc_V0 (G := G) (As := [.int (nI i2), .int r243]) (rest := []) hx hb hml hown hq hE hX pX0_al hP hD hS hA hl.1 (N_giveType l G h0 a (upd F 2 (nI sz)) R Z (updA B 11 f2) J K.1 (fun q99 x99 => x99 = rep G a K q99) w i2 r243 sz (by omega) (by omega) hO) (gV pw_1134 pw_1135 pw_1136 pw_59 pw_1132) hV_X10_giveType qr257 7 hqr258 rfl rfl rfl (Nat.le_of_ble_eq_true rfl) dX9_resolveTypes_148 ⟨Nat.le_of_ble_eq_true rfl, Nat.le_of_ble_eq_true rfl⟩ ⟨Nat.le_of_ble_eq_true rfl, Nat.le_of_ble_eq_true rfl⟩ (fun v256 u254 H locs hw255 hP hD hS => ?_)
            obtain ⟨w, _⟩ := u254
            obtain ⟨hw255, hO⟩ := hw255
            obtain rfl : v256 = none := hw255
            have hO : OKP G h0 a (upd F 2 (nI sz)) R Z (updA B 11 (upd (f2) i2 r243)) J K w := hO.to rfl
            refine W.widen (k := 0) (n := 0) (Nat.le_of_ble_eq_true rfl) (Nat.le_of_ble_eq_true rfl) ?_
            refine W.eq (g2 := F0 m 151 ls []) rfl ?_
            have htx259 : ∀ t : Nat, t < i2 + 1 → TyO K dr nd (B 9) (B 10) (B 7) sz (upd f2 i2 r243) t := TyX.up (r := r243) (v := r243) hty (fun _ => h244) (fun y => absurd y c10) (Or.inl rfl)
            refine lv_iinc (v := (nI (i2 + 1))) (lv' := [(1, .int (nI (i2 + 1))), (3, .int 0), (2, .int r243), (0, .ref pq)]) hx hb dX9_resolveTypes_151 hl (k := 2) rfl (nI_1 i2) (by decide) rfl (fun ls hl => ?_)
            refine lv_goto (tgt := 2) hx hb dX9_resolveTypes_154 (by decide) ?_
            have hO : OKP G h0 a (upd F 2 (nI sz)) R Z (updA B 11 (upd (f2) i2 r243)) J K w := hO.to rfl
            exact ih_i (i2 + 1) (upd (f2) i2 r243) _ _ _ _ (by omega) (by omega) htx259 hP hD hS hO (lv_sub hl [0, 3] rfl)
          · refine lv_aload_n hx hb dX9_resolveTypes_104 rfl (lv_at hl 2 rfl) ?_
            refine p_get (v := .ref (a 1)) (C := RX9) (Tc := TX9) (N := 5) (ci := 6) hx hb hq pin_wsX90 hown hE hP hO (by rw [hp1]; decide) (rep_7 hp1) rfl 0 (by decide) (hq _ pw_784) (fun _ h9 => h9) (congrArg (fun z => some (va_rf z)) hp2) dX9_resolveTypes_105 ?_
            refine lv_iload_n hx hb dX9_resolveTypes_108 rfl (lv_at hl 1 rfl) ?_
            refine lv_iconst (v := 2) hx hb dX9_resolveTypes_109 (by decide) ?_
            refine lv_iadd hx hb dX9_resolveTypes_110 ?_
            refine lv_topi (fun x260 e261 => ?_)
            obtain rfl : x260 = nI (i2 + 2) := e261.trans (nI_add (i2) (2))
            have hO : OKW G h0 a (upd (upd F 2 (nI sz)) 2 (nI sz)) R Z (updA B 11 f2) J K.1 (fun q99 x99 => x99 = rep G a K q99) w := hO.to rfl
            obtain ⟨_, qr265, hqr266⟩ := hO.2.1 2 _ (sg_2 G h0 a _ _ _ _ _)
            refine pc_V0 (G := G) (As := [.int (nI (i2 + 2))]) (rest := []) hx hb hml hown hq hE hX pX0_al hP hD hS hA hl.1 (Y_kindAt l G h0 a (upd F 2 (nI sz)) R Z (updA B 11 f2) J K.1 (fun q99 x99 => x99 = rep G a K q99) w (nI (i2 + 2)) sz (by omega) hO) (gV pw_1133 pw_193 pw_194 pw_59 pw_126) hV_X10_kindAt qr265 7 hqr266 rfl rfl rfl (Nat.le_of_ble_eq_true rfl) dX9_resolveTypes_111 ⟨Nat.le_of_ble_eq_true rfl, Nat.le_of_ble_eq_true rfl⟩ ⟨Nat.le_of_ble_eq_true rfl, Nat.le_of_ble_eq_true rfl⟩ (fun v264 u262 H locs hw263 hP hD hS => ?_)
            obtain ⟨w, _⟩ := u262
            obtain ⟨hw263, hO⟩ := hw263
            obtain rfl : v264 = some (.int (tkN ((B 7)) sz 67 (nI (i2 + 2)))) := hw263
            have hO : OKP G h0 a (upd F 2 (nI sz)) R Z (updA B 11 f2) J K w := hO.to rfl
            refine W.widen (k := 0) (n := 0) (Nat.le_of_ble_eq_true rfl) (Nat.le_of_ble_eq_true rfl) ?_
            refine W.eq (g2 := F0 m 114 ls [.int (tkN ((B 7)) sz 67 (nI (i2 + 2)))]) rfl ?_
            refine lv_bipush (v := 37) hx hb dX9_resolveTypes_114 (by decide) ?_
            refine lv_icmp_ne (tgt := 123) hx hb dX9_resolveTypes_116 (by decide) (fun c267 => ?_) (fun c267 => ?_)
            · refine lv_iconst (v := 0) hx hb dX9_resolveTypes_123 (by decide) ?_
              refine lv_istore_n (lv' := [(3, .int 0), (2, .int r243), (1, .int (nI i2)), (0, .ref pq)]) hx hb dX9_resolveTypes_124 rfl hl (by decide) rfl (fun ls hl => ?_)
              refine lv_aload_n hx hb dX9_resolveTypes_125 rfl (lv_at hl 3 rfl) ?_
              refine p_get (v := .ref (a 1)) (C := RX9) (Tc := TX9) (N := 5) (ci := 6) hx hb hq pin_wsX90 hown hE hP hO (by rw [hp1]; decide) (rep_7 hp1) rfl 0 (by decide) (hq _ pw_784) (fun _ h9 => h9) (congrArg (fun z => some (va_rf z)) hp2) dX9_resolveTypes_126 ?_
              refine lv_iload_n hx hb dX9_resolveTypes_129 rfl (lv_at hl 2 rfl) ?_
              refine lv_iload_n hx hb dX9_resolveTypes_130 rfl (lv_at hl 0 rfl) ?_
              refine lv_if_eq (tgt := 147) hx hb dX9_resolveTypes_131 (by decide) (fun c268 => ?_) (fun c268 => absurd c268 (by decide))
              refine lv_iload_n hx hb dX9_resolveTypes_147 rfl (lv_at hl 1 rfl) ?_
              have hO : OKW G h0 a (upd (upd F 2 (nI sz)) 2 (nI sz)) R Z (updA B 11 f2) J K.1 (fun q99 x99 => x99 = rep G a K q99) w := hO.to rfl
              obtain ⟨_, qr272, hqr273⟩ := hO.2.1 2 _ (sg_2 G h0 a _ _ _ _ _)
              refine pc_V0 (G := G) (As := [.int (nI i2), .int r243]) (rest := []) hx hb hml hown hq hE hX pX0_al hP hD hS hA hl.1 (N_giveType l G h0 a (upd F 2 (nI sz)) R Z (updA B 11 f2) J K.1 (fun q99 x99 => x99 = rep G a K q99) w i2 r243 sz (by omega) (by omega) hO) (gV pw_1134 pw_1135 pw_1136 pw_59 pw_1132) hV_X10_giveType qr272 7 hqr273 rfl rfl rfl (Nat.le_of_ble_eq_true rfl) dX9_resolveTypes_148 ⟨Nat.le_of_ble_eq_true rfl, Nat.le_of_ble_eq_true rfl⟩ ⟨Nat.le_of_ble_eq_true rfl, Nat.le_of_ble_eq_true rfl⟩ (fun v271 u269 H locs hw270 hP hD hS => ?_)
              obtain ⟨w, _⟩ := u269
              obtain ⟨hw270, hO⟩ := hw270
              obtain rfl : v271 = none := hw270
              have hO : OKP G h0 a (upd F 2 (nI sz)) R Z (updA B 11 (upd (f2) i2 r243)) J K w := hO.to rfl
              refine W.widen (k := 0) (n := 0) (Nat.le_of_ble_eq_true rfl) (Nat.le_of_ble_eq_true rfl) ?_
              refine W.eq (g2 := F0 m 151 ls []) rfl ?_
              have htx274 : ∀ t : Nat, t < i2 + 1 → TyO K dr nd (B 9) (B 10) (B 7) sz (upd f2 i2 r243) t := TyX.up (r := r243) (v := r243) hty (fun _ => h244) (fun y => absurd y c10) (Or.inl rfl)
              refine lv_iinc (v := (nI (i2 + 1))) (lv' := [(1, .int (nI (i2 + 1))), (3, .int 0), (2, .int r243), (0, .ref pq)]) hx hb dX9_resolveTypes_151 hl (k := 2) rfl (nI_1 i2) (by decide) rfl (fun ls hl => ?_)
              refine lv_goto (tgt := 2) hx hb dX9_resolveTypes_154 (by decide) ?_
              have hO : OKP G h0 a (upd F 2 (nI sz)) R Z (updA B 11 (upd (f2) i2 r243)) J K w := hO.to rfl
              exact ih_i (i2 + 1) (upd (f2) i2 r243) _ _ _ _ (by omega) (by omega) htx274 hP hD hS hO (lv_sub hl [0, 3] rfl)
            · refine lv_iconst (v := 1) hx hb dX9_resolveTypes_119 (by decide) ?_
              refine lv_goto (tgt := 124) hx hb dX9_resolveTypes_120 (by decide) ?_
              refine lv_istore_n (lv' := [(3, .int 1), (2, .int r243), (1, .int (nI i2)), (0, .ref pq)]) hx hb dX9_resolveTypes_124 rfl hl (by decide) rfl (fun ls hl => ?_)
              refine lv_aload_n hx hb dX9_resolveTypes_125 rfl (lv_at hl 3 rfl) ?_
              refine p_get (v := .ref (a 1)) (C := RX9) (Tc := TX9) (N := 5) (ci := 6) hx hb hq pin_wsX90 hown hE hP hO (by rw [hp1]; decide) (rep_7 hp1) rfl 0 (by decide) (hq _ pw_784) (fun _ h9 => h9) (congrArg (fun z => some (va_rf z)) hp2) dX9_resolveTypes_126 ?_
              refine lv_iload_n hx hb dX9_resolveTypes_129 rfl (lv_at hl 2 rfl) ?_
              refine lv_iload_n hx hb dX9_resolveTypes_130 rfl (lv_at hl 0 rfl) ?_
              refine lv_if_eq (tgt := 147) hx hb dX9_resolveTypes_131 (by decide) (fun c275 => absurd c275 (by decide)) (fun c275 => ?_)
              refine lv_iload_n hx hb dX9_resolveTypes_134 rfl (lv_at hl 1 rfl) ?_
              refine lv_bipush (v := 63) hx hb dX9_resolveTypes_135 (by decide) ?_
              refine lv_icmp_eq (tgt := 147) hx hb dX9_resolveTypes_137 (by decide) (fun c276 => ?_) (fun c276 => ?_)
              · refine lv_iload_n hx hb dX9_resolveTypes_147 rfl (lv_at hl 1 rfl) ?_
                have hO : OKW G h0 a (upd (upd F 2 (nI sz)) 2 (nI sz)) R Z (updA B 11 f2) J K.1 (fun q99 x99 => x99 = rep G a K q99) w := hO.to rfl
                obtain ⟨_, qr280, hqr281⟩ := hO.2.1 2 _ (sg_2 G h0 a _ _ _ _ _)
                refine pc_V0 (G := G) (As := [.int (nI i2), .int r243]) (rest := []) hx hb hml hown hq hE hX pX0_al hP hD hS hA hl.1 (N_giveType l G h0 a (upd F 2 (nI sz)) R Z (updA B 11 f2) J K.1 (fun q99 x99 => x99 = rep G a K q99) w i2 r243 sz (by omega) (by omega) hO) (gV pw_1134 pw_1135 pw_1136 pw_59 pw_1132) hV_X10_giveType qr280 7 hqr281 rfl rfl rfl (Nat.le_of_ble_eq_true rfl) dX9_resolveTypes_148 ⟨Nat.le_of_ble_eq_true rfl, Nat.le_of_ble_eq_true rfl⟩ ⟨Nat.le_of_ble_eq_true rfl, Nat.le_of_ble_eq_true rfl⟩ (fun v279 u277 H locs hw278 hP hD hS => ?_)
                obtain ⟨w, _⟩ := u277
                obtain ⟨hw278, hO⟩ := hw278
                obtain rfl : v279 = none := hw278
                have hO : OKP G h0 a (upd F 2 (nI sz)) R Z (updA B 11 (upd (f2) i2 r243)) J K w := hO.to rfl
                refine W.widen (k := 0) (n := 0) (Nat.le_of_ble_eq_true rfl) (Nat.le_of_ble_eq_true rfl) ?_
                refine W.eq (g2 := F0 m 151 ls []) rfl ?_
                have htx282 : ∀ t : Nat, t < i2 + 1 → TyO K dr nd (B 9) (B 10) (B 7) sz (upd f2 i2 r243) t := TyX.up (r := r243) (v := r243) hty (fun _ => h244) (fun y => absurd y c10) (Or.inl rfl)
                refine lv_iinc (v := (nI (i2 + 1))) (lv' := [(1, .int (nI (i2 + 1))), (3, .int 1), (2, .int r243), (0, .ref pq)]) hx hb dX9_resolveTypes_151 hl (k := 2) rfl (nI_1 i2) (by decide) rfl (fun ls hl => ?_)
                refine lv_goto (tgt := 2) hx hb dX9_resolveTypes_154 (by decide) ?_
                have hO : OKP G h0 a (upd F 2 (nI sz)) R Z (updA B 11 (upd (f2) i2 r243)) J K w := hO.to rfl
                exact ih_i (i2 + 1) (upd (f2) i2 r243) _ _ _ _ (by omega) (by omega) htx282 hP hD hS hO (lv_sub hl [0, 3] rfl)
              · refine lv_bipush (v := 64) hx hb dX9_resolveTypes_140 (by decide) ?_
                refine lv_iload_n hx hb dX9_resolveTypes_142 rfl (lv_at hl 1 rfl) ?_
                refine lv_iadd hx hb dX9_resolveTypes_143 ?_
                refine lv_topi (fun x283 e284 => ?_)
                refine lv_goto (tgt := 148) hx hb dX9_resolveTypes_144 (by decide) ?_
                have hO : OKW G h0 a (upd (upd F 2 (nI sz)) 2 (nI sz)) R Z (updA B 11 f2) J K.1 (fun q99 x99 => x99 = rep G a K q99) w := hO.to rfl
                obtain ⟨_, qr288, hqr289⟩ := hO.2.1 2 _ (sg_2 G h0 a _ _ _ _ _)
                refine pc_V0 (G := G) (As := [.int (nI i2), .int x283]) (rest := []) hx hb hml hown hq hE hX pX0_al hP hD hS hA hl.1 (N_giveType l G h0 a (upd F 2 (nI sz)) R Z (updA B 11 f2) J K.1 (fun q99 x99 => x99 = rep G a K q99) w i2 x283 sz (by omega) (by omega) hO) (gV pw_1134 pw_1135 pw_1136 pw_59 pw_1132) hV_X10_giveType qr288 7 hqr289 rfl rfl rfl (Nat.le_of_ble_eq_true rfl) dX9_resolveTypes_148 ⟨Nat.le_of_ble_eq_true rfl, Nat.le_of_ble_eq_true rfl⟩ ⟨Nat.le_of_ble_eq_true rfl, Nat.le_of_ble_eq_true rfl⟩ (fun v287 u285 H locs hw286 hP hD hS => ?_)
                obtain ⟨w, _⟩ := u285
                obtain ⟨hw286, hO⟩ := hw286
                obtain rfl : v287 = none := hw286
                have hO : OKP G h0 a (upd F 2 (nI sz)) R Z (updA B 11 (upd (f2) i2 x283)) J K w := hO.to rfl
                refine W.widen (k := 0) (n := 0) (Nat.le_of_ble_eq_true rfl) (Nat.le_of_ble_eq_true rfl) ?_
                refine W.eq (g2 := F0 m 151 ls []) rfl ?_
                have htx290 : ∀ t : Nat, t < i2 + 1 → TyO K dr nd (B 9) (B 10) (B 7) sz (upd f2 i2 x283) t := TyX.up (r := r243) (v := x283) hty (fun _ => h244) (fun y => absurd y c10) (Or.inr ⟨e284, c276, c252, c267⟩)
                refine lv_iinc (v := (nI (i2 + 1))) (lv' := [(1, .int (nI (i2 + 1))), (3, .int 1), (2, .int r243), (0, .ref pq)]) hx hb dX9_resolveTypes_151 hl (k := 2) rfl (nI_1 i2) (by decide) rfl (fun ls hl => ?_)
                refine lv_goto (tgt := 2) hx hb dX9_resolveTypes_154 (by decide) ?_
                have hO : OKP G h0 a (upd F 2 (nI sz)) R Z (updA B 11 (upd (f2) i2 x283)) J K w := hO.to rfl
                exact ih_i (i2 + 1) (upd (f2) i2 x283) _ _ _ _ (by omega) (by omega) htx290 hP hD hS hO (lv_sub hl [0, 3] rfl)
  have hO : OKP G h0 a (upd F 2 (nI sz)) R Z (updA B 11 (B 11)) J K w := hO.to rfl
  exact loop_i (sz + 1) 0 (B 11) _ _ _ _ (by omega) (by omega) (fun t h => absurd h (by omega)) hP hD hS hO (lv_sub hl [0, 1] rfl)
