set_option maxHeartbeats 2000000 in
set_option maxRecDepth 100000 in
theorem Y_push (l : Launch) (G : pT) (h0 : Nat) (a : Nat → Nat) (F : Nat → Int32) (R : Nat → Value) (Z : Int64) (B : Nat → Nat → Int32) (J : Nat → Nat → Int64) (T : Nat → Nat) (Pi : Nat → va_E → Prop) (w : va_W) (x : Int64) (tp : Nat) (htp : tp < 32000) (hO : OKW G h0 a (upd F 19 (nI tp)) R Z B J T Pi w) : PM l G pX0 yX5_push cX5_push 3 none ({ frames := 2, cells := 0, slots := 0, locals := 60 }) [.ref (a 5), .long x] w (fun (v : Option Value) (u : va_W × (Unit)) => v = none ∧ (OKW G h0 a (upd F 19 (nI (tp + 1))) R Z B (updJ J 29 (vp_updL (J 29) tp x)) T Pi u.1)) (fun u => u.1) := by
  intro sz
  refine Met.ofW (cc := cX5_push) (maxL := 3) (ret := none) (by decide) rfl ?_
  intro p e s m args below meth c s₁ B9 hml hv
  obtain ⟨rfl, hsz, hP, hD0, hE, hX⟩ := hv
  have hx := B9.exec
  have hb := B9.bytes
  have hr := B9.returns
  have hts := atoms_spec (ws := Cond.code yX5_push cX5_push 3 none :: pw) B9.pre
  have hq : ∀ w ∈ pw, w.before _ s = true := fun w h => hts w (List.mem_cons_of_mem _ h)
  have hown : s.vm.findClass RX5 = some m.cls := findClass_of_methodNamed B9.named
  have hlocks := B9.notSynchronized
  subst hsz
  have hD := hD0.self (sz := s.heap.size)
  have hA : ∀ q : Nat, s.heap.size ≤ q → va_A w s.heap.size q := fun q h => Or.inr h
  generalize va_A w s.heap.size = A at hD hE hA ⊢
  have hS : va_S A s.heap s.heap [] := va_S.rf
  have hl := lv_entry ([.ref (a 5), .long x]) (n := 3) (Nat.le_of_ble_eq_true rfl)
  rw [lg_entry_eq]
  generalize (lg_sl ([.ref (a 5), .long x]) ++ List.replicate (3 - (lg_sl ([.ref (a 5), .long x])).length) Slot.unset).toArray = ls at hl ⊢
  have hl : lv_has ls 3 [(0, .ref (a 5)), (1, .long x)] := hl
  refine lv_aload_n hx hb dX5_push_0 rfl (lv_at hl 0 rfl) ?_
  refine c_get (v := .int (nI tp)) (C := RX5) (Tc := TX5) (N := 19) (ci := 4) hx hb hq pin_wsX50 hown hE hP hO 28 (sg_28 G h0 a _ _ _ _ _) rfl 11 (by decide) (hq _ pw_505) (fun _ h9 => h9) rfl dX5_push_1 ?_
  refine lv_if_lt (tgt := 19) hx hb dX5_push_4 (by decide) (fun c1 => (by have n2 : tp < 0 := (nI_ltI (a := tp) (b := 0) (by omega) (by omega)).mp c1; omega)) (fun c1 => ?_)
  refine lv_aload_n hx hb dX5_push_7 rfl (lv_at hl 0 rfl) ?_
  refine c_get (v := .int (nI tp)) (C := RX5) (Tc := TX5) (N := 19) (ci := 4) hx hb hq pin_wsX50 hown hE hP hO 28 (sg_28 G h0 a _ _ _ _ _) rfl 11 (by decide) (hq _ pw_505) (fun _ h9 => h9) rfl dX5_push_8 ?_
  refine lv_aload_n hx hb dX5_push_11 rfl (lv_at hl 0 rfl) ?_
  refine c_get (v := .ref (a 29)) (C := RX5) (Tc := TX5) (N := 19) (ci := 4) hx hb hq pin_wsX50 hown hE hP hO 28 (sg_28 G h0 a _ _ _ _ _) rfl 2 (by decide) (hq _ pw_474) (fun _ h9 => h9) rfl dX5_push_12 ?_
  refine c_len (n := 0) (t0 := 2) (v := 32000) hx hb hE hP hO 32 (sg_32 G h0 a _ _ _ _ _) rfl rfl dX5_push_15 ?_
  refine lv_icmp_lt (tgt := 24) hx hb dX5_push_16 (by decide) (fun c3 => ?_) (fun c3 => (by have n4 : ¬ (tp < 32000) := fun h9 => c3 ((nI_ltI (a := tp) (b := 32000) (by omega) (by omega)).mpr h9); omega))
  refine lv_aload_n hx hb dX5_push_24 rfl (lv_at hl 0 rfl) ?_
  refine c_get (v := .ref (a 29)) (C := RX5) (Tc := TX5) (N := 19) (ci := 4) hx hb hq pin_wsX50 hown hE hP hO 28 (sg_28 G h0 a _ _ _ _ _) rfl 2 (by decide) (hq _ pw_474) (fun _ h9 => h9) rfl dX5_push_25 ?_
  refine lv_aload_n hx hb dX5_push_28 rfl (lv_at hl 0 rfl) ?_
  refine c_get (v := .int (nI tp)) (C := RX5) (Tc := TX5) (N := 19) (ci := 4) hx hb hq pin_wsX50 hown hE hP hO 28 (sg_28 G h0 a _ _ _ _ _) rfl 11 (by decide) (hq _ pw_505) (fun _ h9 => h9) rfl dX5_push_29 ?_
  refine lv_lload_n hx hb dX5_push_32 rfl (lv_at hl 1 rfl) ?_
  refine c_stl (f := (J 29)) (n := 32000) (t0 := 2) hx hb hE hP hD hS hO 32 (sg_32 G h0 a _ _ _ _ _) rfl (vp_in_nI (by omega) (by decide)) (sj_29 G h0 a _ _ _ _ _ _) dX5_push_33 (fun H locs w hP hD hS hO => ?_)
  rw [(nI_clamp (show tp < 2 ^ 31 by omega))] at hO
  refine lv_aload_n hx hb dX5_push_34 rfl (lv_at hl 0 rfl) ?_
  refine lv_dup hx hb dX5_push_35 rfl ?_
  refine c_get (v := .int (nI tp)) (C := RX5) (Tc := TX5) (N := 19) (ci := 4) hx hb hq pin_wsX50 hown hE hP hO 28 (sg_28 G h0 a _ _ _ _ _) rfl 11 (by decide) (hq _ pw_505) (fun _ h9 => h9) rfl dX5_push_36 ?_
  refine lv_iconst (v := 1) hx hb dX5_push_39 (by decide) ?_
  refine lv_iadd hx hb dX5_push_40 ?_
  refine lv_topi (fun x5 e6 => ?_)
  obtain rfl : x5 = nI (tp + 1) := e6.trans (nI_add (tp) (1))
  refine c_put (v := .int (nI (tp + 1))) (ty := .int) (C := RX5) (Tc := TX5) (N := 19) (ci := 4) hx hb hq pin_wsX50 tyX5 tyX5_ok nmX5 hown hE hP hD hS hO 28 (sg_28 G h0 a _ _ _ _ _) rfl 11 (by decide) (hq _ pw_505) (fun _ h9 => h9) rfl (by decide +kernel) rfl rfl (Nat.le_of_ble_eq_true rfl) (sf_19 G h0 a _ _ _ _ _ (nI (tp + 1))) dX5_push_41 (fun H locs w hP hD hS hO => ?_)
  have hO : OKW G h0 a (upd F 19 (nI (tp + 1))) R Z B (updJ J 29 (vp_updL (J 29) tp x)) T Pi w := hO.to rfl
  exact W.vret hx hb hr (fun t99 ht99 hW99 => ⟨⟨_, (w, ()), rfl, ⟨rfl, hO⟩, by rw [ht99]; exact hP, hD⟩, hS.F ht99⟩) hS.2.2 dX5_push_44
set_option maxHeartbeats 2000000 in
set_option maxRecDepth 100000 in
theorem Y_pop (l : Launch) (G : pT) (h0 : Nat) (a : Nat → Nat) (F : Nat → Int32) (R : Nat → Value) (Z : Int64) (B : Nat → Nat → Int32) (J : Nat → Nat → Int64) (T : Nat → Nat) (Pi : Nat → va_E → Prop) (w : va_W) (tp : Nat) (htp : 1 ≤ tp ∧ tp ≤ 32000) (hO : OKW G h0 a (upd F 19 (nI tp)) R Z B J T Pi w) : PM l G pX0 yX5_pop cX5_pop 1 (some .long) ({ frames := 2, cells := 0, slots := 0, locals := 60 }) [.ref (a 5)] w (fun (v : Option Value) (u : va_W × (Unit)) => v = some (.long (J 29 (tp - 1))) ∧ (OKW G h0 a (upd F 19 (nI (tp - 1))) R Z B J T Pi u.1)) (fun u => u.1) := by
  intro sz
  refine Met.ofW (cc := cX5_pop) (maxL := 1) (ret := (some .long)) (by decide) rfl ?_
  intro p e s m args below meth c s₁ B9 hml hv
  obtain ⟨rfl, hsz, hP, hD0, hE, hX⟩ := hv
  have hx := B9.exec
  have hb := B9.bytes
  have hr := B9.returns
  have hts := atoms_spec (ws := Cond.code yX5_pop cX5_pop 1 (some .long) :: pw) B9.pre
  have hq : ∀ w ∈ pw, w.before _ s = true := fun w h => hts w (List.mem_cons_of_mem _ h)
  have hown : s.vm.findClass RX5 = some m.cls := findClass_of_methodNamed B9.named
  have hlocks := B9.notSynchronized
  subst hsz
  have hD := hD0.self (sz := s.heap.size)
  have hA : ∀ q : Nat, s.heap.size ≤ q → va_A w s.heap.size q := fun q h => Or.inr h
  generalize va_A w s.heap.size = A at hD hE hA ⊢
  have hS : va_S A s.heap s.heap [] := va_S.rf
  have hl := lv_entry ([.ref (a 5)]) (n := 1) (Nat.le_of_ble_eq_true rfl)
  rw [lg_entry_eq]
  generalize (lg_sl ([.ref (a 5)]) ++ List.replicate (1 - (lg_sl ([.ref (a 5)])).length) Slot.unset).toArray = ls at hl ⊢
  have hl : lv_has ls 1 [(0, .ref (a 5))] := hl
  refine lv_aload_n hx hb dX5_pop_0 rfl (lv_at hl 0 rfl) ?_
  refine c_get (v := .int (nI tp)) (C := RX5) (Tc := TX5) (N := 19) (ci := 4) hx hb hq pin_wsX50 hown hE hP hO 28 (sg_28 G h0 a _ _ _ _ _) rfl 11 (by decide) (hq _ pw_505) (fun _ h9 => h9) rfl dX5_pop_1 ?_
  refine lv_if_le (tgt := 19) hx hb dX5_pop_4 (by decide) (fun c1 => (by have n2 : tp ≤ 0 := (nI_leI (a := tp) (b := 0) (by omega) (by omega)).mp c1; omega)) (fun c1 => ?_)
  refine lv_aload_n hx hb dX5_pop_7 rfl (lv_at hl 0 rfl) ?_
  refine c_get (v := .int (nI tp)) (C := RX5) (Tc := TX5) (N := 19) (ci := 4) hx hb hq pin_wsX50 hown hE hP hO 28 (sg_28 G h0 a _ _ _ _ _) rfl 11 (by decide) (hq _ pw_505) (fun _ h9 => h9) rfl dX5_pop_8 ?_
  refine lv_aload_n hx hb dX5_pop_11 rfl (lv_at hl 0 rfl) ?_
  refine c_get (v := .ref (a 29)) (C := RX5) (Tc := TX5) (N := 19) (ci := 4) hx hb hq pin_wsX50 hown hE hP hO 28 (sg_28 G h0 a _ _ _ _ _) rfl 2 (by decide) (hq _ pw_474) (fun _ h9 => h9) rfl dX5_pop_12 ?_
  refine c_len (n := 0) (t0 := 2) (v := 32000) hx hb hE hP hO 32 (sg_32 G h0 a _ _ _ _ _) rfl rfl dX5_pop_15 ?_
  refine lv_icmp_le (tgt := 25) hx hb dX5_pop_16 (by decide) (fun c3 => ?_) (fun c3 => (by have n4 : ¬ (tp ≤ 32000) := fun h9 => c3 ((nI_leI (a := tp) (b := 32000) (by omega) (by omega)).mpr h9); omega))
  refine lv_aload_n hx hb dX5_pop_25 rfl (lv_at hl 0 rfl) ?_
  refine lv_dup hx hb dX5_pop_26 rfl ?_
  refine c_get (v := .int (nI tp)) (C := RX5) (Tc := TX5) (N := 19) (ci := 4) hx hb hq pin_wsX50 hown hE hP hO 28 (sg_28 G h0 a _ _ _ _ _) rfl 11 (by decide) (hq _ pw_505) (fun _ h9 => h9) rfl dX5_pop_27 ?_
  refine lv_iconst (v := 1) hx hb dX5_pop_30 (by decide) ?_
  refine lv_isub hx hb dX5_pop_31 ?_
  refine lv_topi (fun x5 e6 => ?_)
  obtain rfl : x5 = nI (tp - 1) := e6.trans (nI_subN (a := 1) (b := tp) (by omega))
  refine c_put (v := .int (nI (tp - 1))) (ty := .int) (C := RX5) (Tc := TX5) (N := 19) (ci := 4) hx hb hq pin_wsX50 tyX5 tyX5_ok nmX5 hown hE hP hD hS hO 28 (sg_28 G h0 a _ _ _ _ _) rfl 11 (by decide) (hq _ pw_505) (fun _ h9 => h9) rfl (by decide +kernel) rfl rfl (Nat.le_of_ble_eq_true rfl) (sf_19 G h0 a _ _ _ _ _ (nI (tp - 1))) dX5_pop_32 (fun H locs w hP hD hS hO => ?_)
  refine lv_aload_n hx hb dX5_pop_35 rfl (lv_at hl 0 rfl) ?_
  refine c_get (v := .ref (a 29)) (C := RX5) (Tc := TX5) (N := 19) (ci := 4) hx hb hq pin_wsX50 hown hE hP hO 28 (sg_28 G h0 a _ _ _ _ _) rfl 2 (by decide) (hq _ pw_474) (fun _ h9 => h9) rfl dX5_pop_36 ?_
  refine lv_aload_n hx hb dX5_pop_39 rfl (lv_at hl 0 rfl) ?_
  refine c_get (v := .int (nI (tp - 1))) (C := RX5) (Tc := TX5) (N := 19) (ci := 4) hx hb hq pin_wsX50 hown hE hP hO 28 (sg_28 G h0 a _ _ _ _ _) rfl 11 (by decide) (hq _ pw_505) (fun _ h9 => h9) rfl dX5_pop_40 ?_
  refine c_ldl (f := (J 29)) (n := 32000) (t0 := 2) hx hb hE hP hO 32 (sg_32 G h0 a _ _ _ _ _) rfl (vp_in_nI (by omega) (by decide)) dX5_pop_43 ?_
  rw [(nI_clamp (show (tp - 1) < 2 ^ 31 by omega))]
  have hO : OKW G h0 a (upd F 19 (nI (tp - 1))) R Z B J T Pi w := hO.to rfl
  exact W.lret (v := ((J 29) (tp - 1))) hx hb hr (fun t99 ht99 hW99 => ⟨⟨_, (w, ()), rfl, ⟨rfl, hO⟩, by rw [ht99]; exact hP, hD⟩, hS.F ht99⟩) hS.2.2 dX5_pop_44
set_option maxHeartbeats 2000000 in
set_option maxRecDepth 100000 in
theorem Y_pushNumber (l : Launch) (G : pT) (h0 : Nat) (a : Nat → Nat) (F : Nat → Int32) (R : Nat → Value) (Z : Int64) (B : Nat → Nat → Int32) (J : Nat → Nat → Int64) (T : Nat → Nat) (Pi : Nat → va_E → Prop) (w : va_W) (x : Int32) (tp : Nat) (htp : tp < 32000) (hO : OKW G h0 a (upd F 19 (nI tp)) R Z B J T Pi w) : PM l G pX0 yX5_pushNumber cX5_pushNumber 2 none ({ frames := 3, cells := 0, slots := 0, locals := 82 }) [.ref (a 5), .int x] w (fun (v : Option Value) (u : va_W × (Unit)) => v = none ∧ (OKW G h0 a (upd F 19 (nI (tp + 1))) R Z B (updJ J 29 (vp_updL (J 29) tp (nmV x))) T Pi u.1)) (fun u => u.1) := by
  intro sz
  refine Met.ofW (cc := cX5_pushNumber) (maxL := 2) (ret := none) (by decide) rfl ?_
  intro p e s m args below meth c s₁ B9 hml hv
  obtain ⟨rfl, hsz, hP, hD0, hE, hX⟩ := hv
  have hx := B9.exec
  have hb := B9.bytes
  have hr := B9.returns
  have hts := atoms_spec (ws := Cond.code yX5_pushNumber cX5_pushNumber 2 none :: pw) B9.pre
  have hq : ∀ w ∈ pw, w.before _ s = true := fun w h => hts w (List.mem_cons_of_mem _ h)
  have hown : s.vm.findClass RX5 = some m.cls := findClass_of_methodNamed B9.named
  have hlocks := B9.notSynchronized
  subst hsz
  have hD := hD0.self (sz := s.heap.size)
  have hA : ∀ q : Nat, s.heap.size ≤ q → va_A w s.heap.size q := fun q h => Or.inr h
  generalize va_A w s.heap.size = A at hD hE hA ⊢
  have hS : va_S A s.heap s.heap [] := va_S.rf
  have hl := lv_entry ([.ref (a 5), .int x]) (n := 2) (Nat.le_of_ble_eq_true rfl)
  rw [lg_entry_eq]
  generalize (lg_sl ([.ref (a 5), .int x]) ++ List.replicate (2 - (lg_sl ([.ref (a 5), .int x])).length) Slot.unset).toArray = ls at hl ⊢
  have hl : lv_has ls 2 [(0, .ref (a 5)), (1, .int x)] := hl
  refine lv_aload_n hx hb dX5_pushNumber_0 rfl (lv_at hl 0 rfl) ?_
  refine lv_iload_n hx hb dX5_pushNumber_1 rfl (lv_at hl 1 rfl) ?_
  refine lv_i2l hx hb dX5_pushNumber_2 rfl ?_
  refine lv_topl (fun x1 e2 => ?_)
  refine lv_ldc2 (v := 4294967295) hx hb hown (hq _ pw_603) dX5_pushNumber_3 ?_
  refine lv_land hx hb dX5_pushNumber_6 ?_
  refine lv_topl (fun x3 e4 => ?_)
  rw [show x3 = nmV x from e4.trans (by rw [e2]; rfl)]
  have hO : OKW G h0 a (upd (upd F 19 (nI tp)) 19 (nI tp)) R Z B J T Pi w := hO.to rfl
  obtain ⟨_, qr8, hqr9⟩ := hO.2.1 28 _ (sg_28 G h0 a _ _ _ _ _)
  refine pc_V0 (G := G) (As := [.long (nmV x)]) (rest := []) hx hb hml hown hq hE hX pX0_al hP hD hS hA hl.1 (Y_push l G h0 a (upd F 19 (nI tp)) R Z B J T Pi w (nmV x) tp (by omega) hO) (gV pw_549 pw_550 pw_551 pw_539 pw_535) hV_X5_push qr8 4 hqr9 rfl rfl rfl (Nat.le_of_ble_eq_true rfl) dX5_pushNumber_7 ⟨Nat.le_of_ble_eq_true rfl, Nat.le_of_ble_eq_true rfl⟩ ⟨Nat.le_of_ble_eq_true rfl, Nat.le_of_ble_eq_true rfl⟩ (fun v7 u5 H locs hw6 hP hD hS => ?_)
  obtain ⟨w, _⟩ := u5
  obtain ⟨hw6, hO⟩ := hw6
  obtain rfl : v7 = none := hw6
  have hO : OKW G h0 a (upd F 19 (nI (tp + 1))) R Z B (updJ J 29 (vp_updL ((J 29)) tp (nmV x))) T Pi w := hO.to rfl
  refine W.widen (k := 0) (n := 0) (Nat.le_of_ble_eq_true rfl) (Nat.le_of_ble_eq_true rfl) ?_
  refine W.eq (g2 := F0 m 10 ls []) rfl ?_
  have hO : OKW G h0 a (upd F 19 (nI (tp + 1))) R Z B (updJ J 29 (vp_updL (J 29) tp (nmV x))) T Pi w := hO.to rfl
  exact W.vret hx hb hr (fun t99 ht99 hW99 => ⟨⟨_, (w, ()), rfl, ⟨rfl, hO⟩, by rw [ht99]; exact hP, hD⟩, hS.F ht99⟩) hS.2.2 dX5_pushNumber_10
set_option maxHeartbeats 2000000 in
set_option maxRecDepth 100000 in
theorem Y_pushTruth (l : Launch) (G : pT) (h0 : Nat) (a : Nat → Nat) (F : Nat → Int32) (R : Nat → Value) (Z : Int64) (B : Nat → Nat → Int32) (J : Nat → Nat → Int64) (T : Nat → Nat) (Pi : Nat → va_E → Prop) (w : va_W) (b9 : Nat) (tp : Nat) (htp : tp < 32000) (hb9 : b9 ≤ 1) (hO : OKW G h0 a (upd F 19 (nI tp)) R Z B J T Pi w) : PM l G pX0 yX5_pushTruth cX5_pushTruth 2 none ({ frames := 3, cells := 0, slots := 0, locals := 82 }) [.ref (a 5), .int (nI b9)] w (fun (v : Option Value) (u : va_W × (Int64)) => v = none ∧ (u.2 = if b9 = 0 then 0 else 1) ∧ (OKW G h0 a (upd F 19 (nI (tp + 1))) R Z B (updJ J 29 (vp_updL (J 29) tp u.2)) T Pi u.1)) (fun u => u.1) := by
  intro sz
  refine Met.ofW (cc := cX5_pushTruth) (maxL := 2) (ret := none) (by decide) rfl ?_
  intro p e s m args below meth c s₁ B9 hml hv
  obtain ⟨rfl, hsz, hP, hD0, hE, hX⟩ := hv
  have hx := B9.exec
  have hb := B9.bytes
  have hr := B9.returns
  have hts := atoms_spec (ws := Cond.code yX5_pushTruth cX5_pushTruth 2 none :: pw) B9.pre
  have hq : ∀ w ∈ pw, w.before _ s = true := fun w h => hts w (List.mem_cons_of_mem _ h)
  have hown : s.vm.findClass RX5 = some m.cls := findClass_of_methodNamed B9.named
  have hlocks := B9.notSynchronized
  subst hsz
  have hD := hD0.self (sz := s.heap.size)
  have hA : ∀ q : Nat, s.heap.size ≤ q → va_A w s.heap.size q := fun q h => Or.inr h
  generalize va_A w s.heap.size = A at hD hE hA ⊢
  have hS : va_S A s.heap s.heap [] := va_S.rf
  have hl := lv_entry ([.ref (a 5), .int (nI b9)]) (n := 2) (Nat.le_of_ble_eq_true rfl)
  rw [lg_entry_eq]
  generalize (lg_sl ([.ref (a 5), .int (nI b9)]) ++ List.replicate (2 - (lg_sl ([.ref (a 5), .int (nI b9)])).length) Slot.unset).toArray = ls at hl ⊢
  have hl : lv_has ls 2 [(0, .ref (a 5)), (1, .int (nI b9))] := hl
  refine lv_aload_n hx hb dX5_pushTruth_0 rfl (lv_at hl 0 rfl) ?_
  refine lv_iload_n hx hb dX5_pushTruth_1 rfl (lv_at hl 1 rfl) ?_
  refine lv_if_eq (tgt := 9) hx hb dX5_pushTruth_2 (by decide) (fun c1 => ?_) (fun c1 => ?_)
  · have n2 : b9 = 0 := (nI_eq (a := b9) (b := 0) (by omega) (by omega)).mp c1
    refine lv_lconst (v := 0) hx hb dX5_pushTruth_9 (by decide) ?_
    have hO : OKW G h0 a (upd (upd F 19 (nI tp)) 19 (nI tp)) R Z B J T Pi w := hO.to rfl
    obtain ⟨_, qr6, hqr7⟩ := hO.2.1 28 _ (sg_28 G h0 a _ _ _ _ _)
    refine pc_V0 (G := G) (As := [.long 0]) (rest := []) hx hb hml hown hq hE hX pX0_al hP hD hS hA hl.1 (Y_push l G h0 a (upd F 19 (nI tp)) R Z B J T Pi w 0 tp (by omega) hO) (gV pw_549 pw_550 pw_551 pw_539 pw_535) hV_X5_push qr6 4 hqr7 rfl rfl rfl (Nat.le_of_ble_eq_true rfl) dX5_pushTruth_10 ⟨Nat.le_of_ble_eq_true rfl, Nat.le_of_ble_eq_true rfl⟩ ⟨Nat.le_of_ble_eq_true rfl, Nat.le_of_ble_eq_true rfl⟩ (fun v5 u3 H locs hw4 hP hD hS => ?_)
    obtain ⟨w, _⟩ := u3
    obtain ⟨hw4, hO⟩ := hw4
    obtain rfl : v5 = none := hw4
    have hO : OKW G h0 a (upd F 19 (nI (tp + 1))) R Z B (updJ J 29 (vp_updL ((J 29)) tp 0)) T Pi w := hO.to rfl
    refine W.widen (k := 0) (n := 0) (Nat.le_of_ble_eq_true rfl) (Nat.le_of_ble_eq_true rfl) ?_
    refine W.eq (g2 := F0 m 13 ls []) rfl ?_
    have hz8 : (0 : Int64) = if b9 = 0 then 0 else 1 := (if_pos (by omega)).symm
    have hO : OKW G h0 a (upd F 19 (nI (tp + 1))) R Z B (updJ J 29 (vp_updL (J 29) tp (0 : Int64))) T Pi w := hO.to rfl
    exact W.vret hx hb hr (fun t99 ht99 hW99 => ⟨⟨_, (w, (0 : Int64)), rfl, ⟨rfl, hz8, hO⟩, by rw [ht99]; exact hP, hD⟩, hS.F ht99⟩) hS.2.2 dX5_pushTruth_13
  · have n9 : ¬ (b9 = 0) := fun h9 => c1 ((nI_eq (a := b9) (b := 0) (by omega) (by omega)).mpr h9)
    refine lv_lconst (v := 1) hx hb dX5_pushTruth_5 (by decide) ?_
    refine lv_goto (tgt := 10) hx hb dX5_pushTruth_6 (by decide) ?_
    have hO : OKW G h0 a (upd (upd F 19 (nI tp)) 19 (nI tp)) R Z B J T Pi w := hO.to rfl
    obtain ⟨_, qr13, hqr14⟩ := hO.2.1 28 _ (sg_28 G h0 a _ _ _ _ _)
    refine pc_V0 (G := G) (As := [.long 1]) (rest := []) hx hb hml hown hq hE hX pX0_al hP hD hS hA hl.1 (Y_push l G h0 a (upd F 19 (nI tp)) R Z B J T Pi w 1 tp (by omega) hO) (gV pw_549 pw_550 pw_551 pw_539 pw_535) hV_X5_push qr13 4 hqr14 rfl rfl rfl (Nat.le_of_ble_eq_true rfl) dX5_pushTruth_10 ⟨Nat.le_of_ble_eq_true rfl, Nat.le_of_ble_eq_true rfl⟩ ⟨Nat.le_of_ble_eq_true rfl, Nat.le_of_ble_eq_true rfl⟩ (fun v12 u10 H locs hw11 hP hD hS => ?_)
    obtain ⟨w, _⟩ := u10
    obtain ⟨hw11, hO⟩ := hw11
    obtain rfl : v12 = none := hw11
    have hO : OKW G h0 a (upd F 19 (nI (tp + 1))) R Z B (updJ J 29 (vp_updL ((J 29)) tp 1)) T Pi w := hO.to rfl
    refine W.widen (k := 0) (n := 0) (Nat.le_of_ble_eq_true rfl) (Nat.le_of_ble_eq_true rfl) ?_
    refine W.eq (g2 := F0 m 13 ls []) rfl ?_
    have hz15 : (1 : Int64) = if b9 = 0 then 0 else 1 := (if_neg (by omega)).symm
    have hO : OKW G h0 a (upd F 19 (nI (tp + 1))) R Z B (updJ J 29 (vp_updL (J 29) tp (1 : Int64))) T Pi w := hO.to rfl
    exact W.vret hx hb hr (fun t99 ht99 hW99 => ⟨⟨_, (w, (1 : Int64)), rfl, ⟨rfl, hz15, hO⟩, by rw [ht99]; exact hP, hD⟩, hS.F ht99⟩) hS.2.2 dX5_pushTruth_13
set_option maxHeartbeats 2000000 in
set_option maxRecDepth 100000 in
theorem Y_slotAt (l : Launch) (G : pT) (h0 : Nat) (a : Nat → Nat) (F : Nat → Int32) (R : Nat → Value) (Z : Int64) (B : Nat → Nat → Int32) (J : Nat → Nat → Int64) (T : Nat → Nat) (Pi : Nat → va_E → Prop) (w : va_W) (ba : Nat) (s9 : Nat) (hba : ba + s9 < 32000) (hO : OKW G h0 a (upd F 18 (nI ba)) R Z B J T Pi w) : PM l G pX0 yX5_slotAt cX5_slotAt 3 (some .long) ({ frames := 2, cells := 0, slots := 0, locals := 60 }) [.ref (a 5), .int (nI s9)] w (fun (v : Option Value) (u : va_W × (Unit)) => v = some (.long (J 29 (ba + s9))) ∧ (OKW G h0 a (upd F 18 (nI ba)) R Z B J T Pi u.1)) (fun u => u.1) := by
  intro sz
  refine Met.ofW (cc := cX5_slotAt) (maxL := 3) (ret := (some .long)) (by decide) rfl ?_
  intro p e s m args below meth c s₁ B9 hml hv
  obtain ⟨rfl, hsz, hP, hD0, hE, hX⟩ := hv
  have hx := B9.exec
  have hb := B9.bytes
  have hr := B9.returns
  have hts := atoms_spec (ws := Cond.code yX5_slotAt cX5_slotAt 3 (some .long) :: pw) B9.pre
  have hq : ∀ w ∈ pw, w.before _ s = true := fun w h => hts w (List.mem_cons_of_mem _ h)
  have hown : s.vm.findClass RX5 = some m.cls := findClass_of_methodNamed B9.named
  have hlocks := B9.notSynchronized
  subst hsz
  have hD := hD0.self (sz := s.heap.size)
  have hA : ∀ q : Nat, s.heap.size ≤ q → va_A w s.heap.size q := fun q h => Or.inr h
  generalize va_A w s.heap.size = A at hD hE hA ⊢
  have hS : va_S A s.heap s.heap [] := va_S.rf
  have hl := lv_entry ([.ref (a 5), .int (nI s9)]) (n := 3) (Nat.le_of_ble_eq_true rfl)
  rw [lg_entry_eq]
  generalize (lg_sl ([.ref (a 5), .int (nI s9)]) ++ List.replicate (3 - (lg_sl ([.ref (a 5), .int (nI s9)])).length) Slot.unset).toArray = ls at hl ⊢
  have hl : lv_has ls 3 [(0, .ref (a 5)), (1, .int (nI s9))] := hl
  refine lv_aload_n hx hb dX5_slotAt_0 rfl (lv_at hl 0 rfl) ?_
  refine c_get (v := .int (nI ba)) (C := RX5) (Tc := TX5) (N := 19) (ci := 4) hx hb hq pin_wsX50 hown hE hP hO 28 (sg_28 G h0 a _ _ _ _ _) rfl 10 (by decide) (hq _ pw_504) (fun _ h9 => h9) rfl dX5_slotAt_1 ?_
  refine lv_iload_n hx hb dX5_slotAt_4 rfl (lv_at hl 1 rfl) ?_
  refine lv_iadd hx hb dX5_slotAt_5 ?_
  refine lv_topi (fun x1 e2 => ?_)
  obtain rfl : x1 = nI (ba + s9) := e2.trans (nI_add (ba) (s9))
  refine lv_istore_n (lv' := [(2, .int (nI (ba + s9))), (0, .ref (a 5)), (1, .int (nI s9))]) hx hb dX5_slotAt_6 rfl hl (by decide) rfl (fun ls hl => ?_)
  refine lv_iload_n hx hb dX5_slotAt_7 rfl (lv_at hl 0 rfl) ?_
  refine lv_if_lt (tgt := 29) hx hb dX5_slotAt_8 (by decide) (fun c3 => (by have n4 : (ba + s9) < 0 := (nI_ltI (a := (ba + s9)) (b := 0) (by omega) (by omega)).mp c3; omega)) (fun c3 => ?_)
  refine lv_iload_n hx hb dX5_slotAt_11 rfl (lv_at hl 0 rfl) ?_
  refine lv_aload_n hx hb dX5_slotAt_12 rfl (lv_at hl 1 rfl) ?_
  refine c_get (v := .ref (a 29)) (C := RX5) (Tc := TX5) (N := 19) (ci := 4) hx hb hq pin_wsX50 hown hE hP hO 28 (sg_28 G h0 a _ _ _ _ _) rfl 2 (by decide) (hq _ pw_474) (fun _ h9 => h9) rfl dX5_slotAt_13 ?_
  refine c_len (n := 0) (t0 := 2) (v := 32000) hx hb hE hP hO 32 (sg_32 G h0 a _ _ _ _ _) rfl rfl dX5_slotAt_16 ?_
  refine lv_icmp_ge (tgt := 29) hx hb dX5_slotAt_17 (by decide) (fun c5 => (by have n6 : 32000 ≤ (ba + s9) := (nI_leI (a := 32000) (b := (ba + s9)) (by omega) (by omega)).mp c5; omega)) (fun c5 => ?_)
  refine lv_aload_n hx hb dX5_slotAt_20 rfl (lv_at hl 1 rfl) ?_
  refine c_get (v := .ref (a 29)) (C := RX5) (Tc := TX5) (N := 19) (ci := 4) hx hb hq pin_wsX50 hown hE hP hO 28 (sg_28 G h0 a _ _ _ _ _) rfl 2 (by decide) (hq _ pw_474) (fun _ h9 => h9) rfl dX5_slotAt_21 ?_
  refine lv_iload_n hx hb dX5_slotAt_24 rfl (lv_at hl 0 rfl) ?_
  refine c_ldl (f := (J 29)) (n := 32000) (t0 := 2) hx hb hE hP hO 32 (sg_32 G h0 a _ _ _ _ _) rfl (vp_in_nI (by omega) (by decide)) dX5_slotAt_25 ?_
  rw [(nI_clamp (show (ba + s9) < 2 ^ 31 by omega))]
  refine lv_goto (tgt := 30) hx hb dX5_slotAt_26 (by decide) ?_
  have hO : OKW G h0 a (upd F 18 (nI ba)) R Z B J T Pi w := hO.to rfl
  exact W.lret (v := ((J 29) (ba + s9))) hx hb hr (fun t99 ht99 hW99 => ⟨⟨_, (w, ()), rfl, ⟨rfl, hO⟩, by rw [ht99]; exact hP, hD⟩, hS.F ht99⟩) hS.2.2 dX5_slotAt_30
set_option maxHeartbeats 2000000 in
set_option maxRecDepth 100000 in
theorem Y_setSlot (l : Launch) (G : pT) (h0 : Nat) (a : Nat → Nat) (F : Nat → Int32) (R : Nat → Value) (Z : Int64) (B : Nat → Nat → Int32) (J : Nat → Nat → Int64) (T : Nat → Nat) (Pi : Nat → va_E → Prop) (w : va_W) (ba : Nat) (s9 : Nat) (x : Int64) (hba : ba + s9 < 32000) (hO : OKW G h0 a (upd F 18 (nI ba)) R Z B J T Pi w) : PM l G pX0 yX5_setSlot cX5_setSlot 5 none ({ frames := 2, cells := 0, slots := 0, locals := 60 }) [.ref (a 5), .int (nI s9), .long x] w (fun (v : Option Value) (u : va_W × (Unit)) => v = none ∧ (OKW G h0 a (upd F 18 (nI ba)) R Z B (updJ J 29 (vp_updL (J 29) (ba + s9) x)) T Pi u.1)) (fun u => u.1) := by
  intro sz
  refine Met.ofW (cc := cX5_setSlot) (maxL := 5) (ret := none) (by decide) rfl ?_
  intro p e s m args below meth c s₁ B9 hml hv
  obtain ⟨rfl, hsz, hP, hD0, hE, hX⟩ := hv
  have hx := B9.exec
  have hb := B9.bytes
  have hr := B9.returns
  have hts := atoms_spec (ws := Cond.code yX5_setSlot cX5_setSlot 5 none :: pw) B9.pre
  have hq : ∀ w ∈ pw, w.before _ s = true := fun w h => hts w (List.mem_cons_of_mem _ h)
  have hown : s.vm.findClass RX5 = some m.cls := findClass_of_methodNamed B9.named
  have hlocks := B9.notSynchronized
  subst hsz
  have hD := hD0.self (sz := s.heap.size)
  have hA : ∀ q : Nat, s.heap.size ≤ q → va_A w s.heap.size q := fun q h => Or.inr h
  generalize va_A w s.heap.size = A at hD hE hA ⊢
  have hS : va_S A s.heap s.heap [] := va_S.rf
  have hl := lv_entry ([.ref (a 5), .int (nI s9), .long x]) (n := 5) (Nat.le_of_ble_eq_true rfl)
  rw [lg_entry_eq]
  generalize (lg_sl ([.ref (a 5), .int (nI s9), .long x]) ++ List.replicate (5 - (lg_sl ([.ref (a 5), .int (nI s9), .long x])).length) Slot.unset).toArray = ls at hl ⊢
  have hl : lv_has ls 5 [(0, .ref (a 5)), (1, .int (nI s9)), (2, .long x)] := hl
  refine lv_aload_n hx hb dX5_setSlot_0 rfl (lv_at hl 0 rfl) ?_
  refine c_get (v := .int (nI ba)) (C := RX5) (Tc := TX5) (N := 19) (ci := 4) hx hb hq pin_wsX50 hown hE hP hO 28 (sg_28 G h0 a _ _ _ _ _) rfl 10 (by decide) (hq _ pw_504) (fun _ h9 => h9) rfl dX5_setSlot_1 ?_
  refine lv_iload_n hx hb dX5_setSlot_4 rfl (lv_at hl 1 rfl) ?_
  refine lv_iadd hx hb dX5_setSlot_5 ?_
  refine lv_topi (fun x1 e2 => ?_)
  obtain rfl : x1 = nI (ba + s9) := e2.trans (nI_add (ba) (s9))
  refine lv_istore (lv' := [(4, .int (nI (ba + s9))), (0, .ref (a 5)), (1, .int (nI s9)), (2, .long x)]) hx hb dX5_setSlot_6 hl (by decide) rfl (fun ls hl => ?_)
  refine lv_iload hx hb dX5_setSlot_8 (lv_at hl 0 rfl) ?_
  refine lv_if_lt (tgt := 31) hx hb dX5_setSlot_10 (by decide) (fun c3 => (by have n4 : (ba + s9) < 0 := (nI_ltI (a := (ba + s9)) (b := 0) (by omega) (by omega)).mp c3; omega)) (fun c3 => ?_)
  refine lv_iload hx hb dX5_setSlot_13 (lv_at hl 0 rfl) ?_
  refine lv_aload_n hx hb dX5_setSlot_15 rfl (lv_at hl 1 rfl) ?_
  refine c_get (v := .ref (a 29)) (C := RX5) (Tc := TX5) (N := 19) (ci := 4) hx hb hq pin_wsX50 hown hE hP hO 28 (sg_28 G h0 a _ _ _ _ _) rfl 2 (by decide) (hq _ pw_474) (fun _ h9 => h9) rfl dX5_setSlot_16 ?_
  refine c_len (n := 0) (t0 := 2) (v := 32000) hx hb hE hP hO 32 (sg_32 G h0 a _ _ _ _ _) rfl rfl dX5_setSlot_19 ?_
  refine lv_icmp_ge (tgt := 31) hx hb dX5_setSlot_20 (by decide) (fun c5 => (by have n6 : 32000 ≤ (ba + s9) := (nI_leI (a := 32000) (b := (ba + s9)) (by omega) (by omega)).mp c5; omega)) (fun c5 => ?_)
  refine lv_aload_n hx hb dX5_setSlot_23 rfl (lv_at hl 1 rfl) ?_
  refine c_get (v := .ref (a 29)) (C := RX5) (Tc := TX5) (N := 19) (ci := 4) hx hb hq pin_wsX50 hown hE hP hO 28 (sg_28 G h0 a _ _ _ _ _) rfl 2 (by decide) (hq _ pw_474) (fun _ h9 => h9) rfl dX5_setSlot_24 ?_
  refine lv_iload hx hb dX5_setSlot_27 (lv_at hl 0 rfl) ?_
  refine lv_lload_n hx hb dX5_setSlot_29 rfl (lv_at hl 3 rfl) ?_
  refine c_stl (f := (J 29)) (n := 32000) (t0 := 2) hx hb hE hP hD hS hO 32 (sg_32 G h0 a _ _ _ _ _) rfl (vp_in_nI (by omega) (by decide)) (sj_29 G h0 a _ _ _ _ _ _) dX5_setSlot_30 (fun H locs w hP hD hS hO => ?_)
  rw [(nI_clamp (show (ba + s9) < 2 ^ 31 by omega))] at hO
  have hO : OKW G h0 a (upd F 18 (nI ba)) R Z B (updJ J 29 (vp_updL (J 29) (ba + s9) x)) T Pi w := hO.to rfl
  exact W.vret hx hb hr (fun t99 ht99 hW99 => ⟨⟨_, (w, ()), rfl, ⟨rfl, hO⟩, by rw [ht99]; exact hP, hD⟩, hS.F ht99⟩) hS.2.2 dX5_setSlot_31
set_option maxHeartbeats 2000000 in
set_option maxRecDepth 100000 in
theorem Y_burn (l : Launch) (G : pT) (h0 : Nat) (a : Nat → Nat) (F : Nat → Int32) (R : Nat → Value) (Z : Int64) (B : Nat → Nat → Int32) (J : Nat → Nat → Int64) (T : Nat → Nat) (Pi : Nat → va_E → Prop) (w : va_W) (fl : Nat) (hfl : B 33 5 = nI fl) (hflb : fl ≤ 20000) (hO : OKW G h0 a (upd F 23 5) R Z B J T Pi w) : PM l G pX0 yX5_burn cX5_burn 1 (some .boolean) ({ frames := 2, cells := 0, slots := 0, locals := 60 }) [.ref (a 5)] w (fun (v : Option Value) (u : va_W × (Nat × Nat × Int32 × (Nat → Int32))) => v = some (.int (nI u.2.1)) ∧ (u.2.1 ≤ 1) ∧ (BuQ fl u.2.1 u.2.2.2.1 u.2.2.1) ∧ (u.2.2.2.2 5 = nI u.2.2.1) ∧ (u.2.2.1 ≤ fl) ∧ (OKW G h0 a (upd F 23 u.2.2.2.1) R Z (updA B 33 u.2.2.2.2) J T Pi u.1)) (fun u => u.1) := by
  intro sz
  refine Met.ofW (cc := cX5_burn) (maxL := 1) (ret := (some .boolean)) (by decide) rfl ?_
  intro p e s m args below meth c s₁ B9 hml hv
  obtain ⟨rfl, hsz, hP, hD0, hE, hX⟩ := hv
  have hx := B9.exec
  have hb := B9.bytes
  have hr := B9.returns
  have hts := atoms_spec (ws := Cond.code yX5_burn cX5_burn 1 (some .boolean) :: pw) B9.pre
  have hq : ∀ w ∈ pw, w.before _ s = true := fun w h => hts w (List.mem_cons_of_mem _ h)
  have hown : s.vm.findClass RX5 = some m.cls := findClass_of_methodNamed B9.named
  have hlocks := B9.notSynchronized
  subst hsz
  have hD := hD0.self (sz := s.heap.size)
  have hA : ∀ q : Nat, s.heap.size ≤ q → va_A w s.heap.size q := fun q h => Or.inr h
  generalize va_A w s.heap.size = A at hD hE hA ⊢
  have hS : va_S A s.heap s.heap [] := va_S.rf
  have hl := lv_entry ([.ref (a 5)]) (n := 1) (Nat.le_of_ble_eq_true rfl)
  rw [lg_entry_eq]
  generalize (lg_sl ([.ref (a 5)]) ++ List.replicate (1 - (lg_sl ([.ref (a 5)])).length) Slot.unset).toArray = ls at hl ⊢
  have hl : lv_has ls 1 [(0, .ref (a 5))] := hl
  refine lv_aload_n hx hb dX5_burn_0 rfl (lv_at hl 0 rfl) ?_
  refine c_get (v := .ref (a 33)) (C := RX5) (Tc := TX5) (N := 19) (ci := 4) hx hb hq pin_wsX50 hown hE hP hO 28 (sg_28 G h0 a _ _ _ _ _) rfl 7 (by decide) (hq _ pw_478) (fun _ h9 => h9) rfl dX5_burn_1 ?_
  refine lv_iconst (v := 5) hx hb dX5_burn_4 (by decide) ?_
  refine c_ldi (f := (B 33)) (n := 12) (t0 := 0) hx hb hE hP hO 36 (sg_36 G h0 a _ _ _ _ _) rfl (by unfold vp_in; decide) dX5_burn_5 ?_
  refine W.eq (g2 := F0 m 6 ls [.int ((B 33) 5)]) rfl ?_
  refine lv_topi (fun x1 e2 => ?_)
  obtain rfl : x1 = nI fl := e2.trans hfl
  refine lv_if_gt (tgt := 16) hx hb dX5_burn_6 (by decide) (fun c3 => ?_) (fun c3 => ?_)
  · have n4 : 0 < fl := (nI_ltI (a := 0) (b := fl) (by omega) (by omega)).mp c3
    refine lv_aload_n hx hb dX5_burn_16 rfl (lv_at hl 0 rfl) ?_
    refine c_get (v := .ref (a 33)) (C := RX5) (Tc := TX5) (N := 19) (ci := 4) hx hb hq pin_wsX50 hown hE hP hO 28 (sg_28 G h0 a _ _ _ _ _) rfl 7 (by decide) (hq _ pw_478) (fun _ h9 => h9) rfl dX5_burn_17 ?_
    refine lv_iconst (v := 5) hx hb dX5_burn_20 (by decide) ?_
    refine lv_dup2_11 hx hb dX5_burn_21 rfl rfl ?_
    refine c_ldi (f := (B 33)) (n := 12) (t0 := 0) hx hb hE hP hO 36 (sg_36 G h0 a _ _ _ _ _) rfl (by unfold vp_in; decide) dX5_burn_22 ?_
    refine W.eq (g2 := F0 m 23 ls [.int ((B 33) 5), .int 5, .ref (a 33)]) rfl ?_
    refine lv_topi (fun x5 e6 => ?_)
    obtain rfl : x5 = nI fl := e6.trans hfl
    refine lv_iconst (v := 1) hx hb dX5_burn_23 (by decide) ?_
    refine lv_isub hx hb dX5_burn_24 ?_
    refine lv_topi (fun x7 e8 => ?_)
    obtain rfl : x7 = nI (fl - 1) := e8.trans (nI_subN (a := 1) (b := fl) (by omega))
    refine c_sti (f := (B 33)) (n := 12) (t0 := 0) hx hb hE hP hD hS hO 36 (sg_36 G h0 a _ _ _ _ _) rfl (by unfold vp_in; decide) (sb_33 G h0 a _ _ _ _ _ _) dX5_burn_25 (fun H locs w hP hD hS hO => ?_)
    refine lv_iconst (v := 1) hx hb dX5_burn_26 (by decide) ?_
    have hz9 : 1 ≤ 1 := (by omega)
    have hz10 : BuQ fl 1 (5 : Int32) (fl - 1) := (Or.inl ⟨rfl, rfl, by omega⟩)
    have hz11 : (upd (B 33) 5 (nI (fl - 1))) 5 = nI (fl - 1) := (if_pos rfl)
    have hz12 : (fl - 1) ≤ fl := (by omega)
    have hO : OKW G h0 a (upd F 23 (5 : Int32)) R Z (updA B 33 (upd (B 33) 5 (nI (fl - 1)))) J T Pi w := hO.to rfl
    exact W.zret (v := 1) hx hb hr rfl (fun t99 ht99 hW99 => ⟨⟨_, (w, (1, (fl - 1), (5 : Int32), (upd (B 33) 5 (nI (fl - 1))))), rfl, ⟨rfl, hz9, hz10, hz11, hz12, hO⟩, by rw [ht99]; exact hP, hD⟩, hS.F ht99⟩) hS.2.2 dX5_burn_27
  · have n13 : ¬ (0 < fl) := fun h9 => c3 ((nI_ltI (a := 0) (b := fl) (by omega) (by omega)).mpr h9)
    refine lv_aload_n hx hb dX5_burn_9 rfl (lv_at hl 0 rfl) ?_
    refine lv_iconst (v := 2) hx hb dX5_burn_10 (by decide) ?_
    refine c_put (v := .int 2) (ty := .int) (C := RX5) (Tc := TX5) (N := 19) (ci := 4) hx hb hq pin_wsX50 tyX5 tyX5_ok nmX5 hown hE hP hD hS hO 28 (sg_28 G h0 a _ _ _ _ _) rfl 16 (by decide) (hq _ pw_513) (fun _ h9 => h9) rfl (by decide +kernel) rfl rfl (Nat.le_of_ble_eq_true rfl) (sf_23 G h0 a _ _ _ _ _ 2) dX5_burn_11 (fun H locs w hP hD hS hO => ?_)
    refine lv_iconst (v := 0) hx hb dX5_burn_14 (by decide) ?_
    have hz14 : 0 ≤ 1 := (by omega)
    have hz15 : BuQ fl 0 (2 : Int32) fl := (Or.inr ⟨rfl, rfl, rfl⟩)
    have hz16 : (B 33) 5 = nI fl := hfl
    have hz17 : fl ≤ fl := (by omega)
    have hO : OKW G h0 a (upd F 23 (2 : Int32)) R Z (updA B 33 (B 33)) J T Pi w := hO.to rfl
    exact W.zret (v := 0) hx hb hr rfl (fun t99 ht99 hW99 => ⟨⟨_, (w, (0, fl, (2 : Int32), (B 33))), rfl, ⟨rfl, hz14, hz15, hz16, hz17, hO⟩, by rw [ht99]; exact hP, hD⟩, hS.F ht99⟩) hS.2.2 dX5_burn_15
set_option maxHeartbeats 2000000 in
set_option maxRecDepth 100000 in
theorem Y_raise (l : Launch) (G : pT) (h0 : Nat) (a : Nat → Nat) (F : Nat → Int32) (R : Nat → Value) (Z : Int64) (B : Nat → Nat → Int32) (J : Nat → Nat → Int64) (T : Nat → Nat) (Pi : Nat → va_E → Prop) (w : va_W) (e9 : Nat) (he9 : e9 < 8) (hO : OKW G h0 a F R Z B J T Pi w) : PM l G pX0 yX5_raise cX5_raise 2 none ({ frames := 2, cells := 0, slots := 0, locals := 60 }) [.ref (a 5), .int (nI e9)] w (fun (v : Option Value) (u : va_W × (Unit)) => v = none ∧ (OKW G h0 a F R (rfV e9) B J T Pi u.1)) (fun u => u.1) := by
  intro sz
  refine Met.ofW (cc := cX5_raise) (maxL := 2) (ret := none) (by decide) rfl ?_
  intro p e s m args below meth c s₁ B9 hml hv
  obtain ⟨rfl, hsz, hP, hD0, hE, hX⟩ := hv
  have hx := B9.exec
  have hb := B9.bytes
  have hr := B9.returns
  have hts := atoms_spec (ws := Cond.code yX5_raise cX5_raise 2 none :: pw) B9.pre
  have hq : ∀ w ∈ pw, w.before _ s = true := fun w h => hts w (List.mem_cons_of_mem _ h)
  have hown : s.vm.findClass RX5 = some m.cls := findClass_of_methodNamed B9.named
  have hlocks := B9.notSynchronized
  subst hsz
  have hD := hD0.self (sz := s.heap.size)
  have hA : ∀ q : Nat, s.heap.size ≤ q → va_A w s.heap.size q := fun q h => Or.inr h
  generalize va_A w s.heap.size = A at hD hE hA ⊢
  have hS : va_S A s.heap s.heap [] := va_S.rf
  have hl := lv_entry ([.ref (a 5), .int (nI e9)]) (n := 2) (Nat.le_of_ble_eq_true rfl)
  rw [lg_entry_eq]
  generalize (lg_sl ([.ref (a 5), .int (nI e9)]) ++ List.replicate (2 - (lg_sl ([.ref (a 5), .int (nI e9)])).length) Slot.unset).toArray = ls at hl ⊢
  have hl : lv_has ls 2 [(0, .ref (a 5)), (1, .int (nI e9))] := hl
  refine lv_aload_n hx hb dX5_raise_0 rfl (lv_at hl 0 rfl) ?_
  refine lv_ldc2 (v := 4294967296) hx hb hown (hq _ pw_562) dX5_raise_1 ?_
  refine lv_iload_n hx hb dX5_raise_4 rfl (lv_at hl 1 rfl) ?_
  refine lv_i2l hx hb dX5_raise_5 rfl ?_
  refine lv_topl (fun x1 e2 => ?_)
  refine lv_lor hx hb dX5_raise_6 ?_
  refine lv_topl (fun x3 e4 => ?_)
  rw [show x3 = rfV e9 from e4.trans (by rw [e2]; rfl)]
  refine c_put (v := .long (rfV e9)) (ty := .long) (C := RX5) (Tc := TX5) (N := 19) (ci := 4) hx hb hq pin_wsX50 tyX5 tyX5_ok nmX5 hown hE hP hD hS hO 28 (sg_28 G h0 a _ _ _ _ _) rfl 14 (by decide) (hq _ pw_485) (fun _ h9 => h9) rfl (by decide +kernel) rfl rfl (Nat.le_of_ble_eq_true rfl) (sz G h0 a _ _ _ _ _ (rfV e9)) dX5_raise_7 (fun H locs w hP hD hS hO => ?_)
  have hO : OKW G h0 a F R (rfV e9) B J T Pi w := hO.to rfl
  exact W.vret hx hb hr (fun t99 ht99 hW99 => ⟨⟨_, (w, ()), rfl, ⟨rfl, hO⟩, by rw [ht99]; exact hP, hD⟩, hS.F ht99⟩) hS.2.2 dX5_raise_10
