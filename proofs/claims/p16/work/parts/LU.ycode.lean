theorem mx_x {x y : Nat} (hx : x ≤ 1000) (hy : y ≤ 1000) : ∃ k : Nat, (if nI x < nI y then nI y else nI x) = nI k ∧ k ≤ 1000 ∧ x ≤ k ∧ y ≤ k ∧ (k = x ∨ k = y) := by
  by_cases q : nI x < nI y
  · have z := (nI_ltI (a := x) (b := y) (by omega) (by omega)).mp q
    exact ⟨y, if_pos q, hy, by omega, Nat.le_refl _, Or.inr rfl⟩
  · have z : ¬ x < y := fun h => q ((nI_ltI (a := x) (b := y) (by omega) (by omega)).mpr h)
    exact ⟨x, if_neg q, hx, Nat.le_refl _, by omega, Or.inl rfl⟩
set_option maxHeartbeats 2000000 in
set_option maxRecDepth 100000 in
theorem Y_emit (l : Launch) (G : pT) (h0 : Nat) (a : Nat → Nat) (F : Nat → Int32) (R : Nat → Value) (Z : Int64) (B : Nat → Nat → Int32) (J : Nat → Nat → Int64) (T : Nat → Nat) (Pi : Nat → va_E → Prop) (w : va_W) (x1 : Int32) (x2 : Int32) (x3 : Int32) (cs : Nat) (hd : Nat) (hc9 : cs < 10000) (hO : OKW G h0 a (upd (upd F 5 (nI cs)) 7 (nI hd)) R Z B J T Pi w) : PM l G pX0 yX1_emit cX1_emit 4 none ({ frames := 2, cells := 0, slots := 0, locals := 60 }) [.ref (a 2), .int x1, .int x2, .int x3] w (fun (v : Option Value) (u : va_W × (Unit)) => v = none ∧ (OKW G h0 a (upd (upd F 5 (nI (cs + 1))) 7 (nI hd)) R Z (updA (updA (updA (updA B 16 (upd (B 16) cs x1)) 17 (upd (B 17) cs x2)) 18 (upd (B 18) cs x3)) 19 (upd (B 19) cs (nI hd))) J T Pi u.1)) (fun u => u.1) := by
  intro sz
  refine Met.ofW (cc := cX1_emit) (maxL := 4) (ret := none) (by decide) rfl ?_
  intro p e s m args below meth c s₁ B9 hml hv
  obtain ⟨rfl, hsz, hP, hD0, hE, hX⟩ := hv
  have hx := B9.exec
  have hb := B9.bytes
  have hr := B9.returns
  have hts := atoms_spec (ws := Cond.code yX1_emit cX1_emit 4 none :: pw) B9.pre
  have hq : ∀ w ∈ pw, w.before _ s = true := fun w h => hts w (List.mem_cons_of_mem _ h)
  have hown : s.vm.findClass RX1 = some m.cls := findClass_of_methodNamed B9.named
  have hlocks := B9.notSynchronized
  subst hsz
  have hD := hD0.self (sz := s.heap.size)
  have hA : ∀ q : Nat, s.heap.size ≤ q → va_A w s.heap.size q := fun q h => Or.inr h
  generalize va_A w s.heap.size = A at hD hE hA ⊢
  have hS : va_S A s.heap s.heap [] := va_S.rf
  have hl := lv_entry ([.ref (a 2), .int x1, .int x2, .int x3]) (n := 4) (Nat.le_of_ble_eq_true rfl)
  rw [lg_entry_eq]
  generalize (lg_sl ([.ref (a 2), .int x1, .int x2, .int x3]) ++ List.replicate (4 - (lg_sl ([.ref (a 2), .int x1, .int x2, .int x3])).length) Slot.unset).toArray = ls at hl ⊢
  have hl : lv_has ls 4 [(0, .ref (a 2)), (1, .int x1), (2, .int x2), (3, .int x3)] := hl
  refine lv_aload_n hx hb dX1_emit_0 rfl (lv_at hl 0 rfl) ?_
  refine c_get (v := .int (nI cs)) (C := RX1) (Tc := TX1) (N := 13) (ci := 1) hx hb hq pin_wsX10 hown hE hP hO 13 (sg_13 G h0 a _ _ _ _ _) rfl 4 (by decide) (hq _ pw_11) (fun _ h9 => h9) rfl dX1_emit_1 ?_
  refine lv_sipush (v := 10000) hx hb dX1_emit_4 (by decide) ?_
  refine lv_icmp_ge (tgt := 63) hx hb dX1_emit_7 (by decide) (fun c1 => (by have n2 : 10000 ≤ cs := (nI_leI (a := 10000) (b := cs) (by omega) (by omega)).mp c1; omega)) (fun c1 => ?_)
  refine lv_aload_n hx hb dX1_emit_10 rfl (lv_at hl 0 rfl) ?_
  refine c_get (v := .ref (a 16)) (C := RX1) (Tc := TX1) (N := 13) (ci := 1) hx hb hq pin_wsX10 hown hE hP hO 13 (sg_13 G h0 a _ _ _ _ _) rfl 0 (by decide) (hq _ pw_116) (fun _ h9 => h9) rfl dX1_emit_11 ?_
  refine lv_aload_n hx hb dX1_emit_14 rfl (lv_at hl 0 rfl) ?_
  refine c_get (v := .int (nI cs)) (C := RX1) (Tc := TX1) (N := 13) (ci := 1) hx hb hq pin_wsX10 hown hE hP hO 13 (sg_13 G h0 a _ _ _ _ _) rfl 4 (by decide) (hq _ pw_11) (fun _ h9 => h9) rfl dX1_emit_15 ?_
  refine lv_iload_n hx hb dX1_emit_18 rfl (lv_at hl 1 rfl) ?_
  refine c_sti (f := (B 16)) (n := 10000) (t0 := 0) hx hb hE hP hD hS hO 14 (sg_14 G h0 a _ _ _ _ _) rfl (vp_in_nI (by omega) (by decide)) (sb_16 G h0 a _ _ _ _ _ _) dX1_emit_19 (fun H locs w hP hD hS hO => ?_)
  rw [(nI_clamp (show cs < 2 ^ 31 by omega))] at hO
  refine lv_aload_n hx hb dX1_emit_20 rfl (lv_at hl 0 rfl) ?_
  refine c_get (v := .ref (a 17)) (C := RX1) (Tc := TX1) (N := 13) (ci := 1) hx hb hq pin_wsX10 hown hE hP hO 13 (sg_13 G h0 a _ _ _ _ _) rfl 1 (by decide) (hq _ pw_117) (fun _ h9 => h9) rfl dX1_emit_21 ?_
  refine lv_aload_n hx hb dX1_emit_24 rfl (lv_at hl 0 rfl) ?_
  refine c_get (v := .int (nI cs)) (C := RX1) (Tc := TX1) (N := 13) (ci := 1) hx hb hq pin_wsX10 hown hE hP hO 13 (sg_13 G h0 a _ _ _ _ _) rfl 4 (by decide) (hq _ pw_11) (fun _ h9 => h9) rfl dX1_emit_25 ?_
  refine lv_iload_n hx hb dX1_emit_28 rfl (lv_at hl 2 rfl) ?_
  refine c_sti (f := (B 17)) (n := 10000) (t0 := 0) hx hb hE hP hD hS hO 15 (sg_15 G h0 a _ _ _ _ _) rfl (vp_in_nI (by omega) (by decide)) (sb_17 G h0 a _ _ _ _ _ _) dX1_emit_29 (fun H locs w hP hD hS hO => ?_)
  rw [(nI_clamp (show cs < 2 ^ 31 by omega))] at hO
  refine lv_aload_n hx hb dX1_emit_30 rfl (lv_at hl 0 rfl) ?_
  refine c_get (v := .ref (a 18)) (C := RX1) (Tc := TX1) (N := 13) (ci := 1) hx hb hq pin_wsX10 hown hE hP hO 13 (sg_13 G h0 a _ _ _ _ _) rfl 2 (by decide) (hq _ pw_118) (fun _ h9 => h9) rfl dX1_emit_31 ?_
  refine lv_aload_n hx hb dX1_emit_34 rfl (lv_at hl 0 rfl) ?_
  refine c_get (v := .int (nI cs)) (C := RX1) (Tc := TX1) (N := 13) (ci := 1) hx hb hq pin_wsX10 hown hE hP hO 13 (sg_13 G h0 a _ _ _ _ _) rfl 4 (by decide) (hq _ pw_11) (fun _ h9 => h9) rfl dX1_emit_35 ?_
  refine lv_iload_n hx hb dX1_emit_38 rfl (lv_at hl 3 rfl) ?_
  refine c_sti (f := (B 18)) (n := 10000) (t0 := 0) hx hb hE hP hD hS hO 16 (sg_16 G h0 a _ _ _ _ _) rfl (vp_in_nI (by omega) (by decide)) (sb_18 G h0 a _ _ _ _ _ _) dX1_emit_39 (fun H locs w hP hD hS hO => ?_)
  rw [(nI_clamp (show cs < 2 ^ 31 by omega))] at hO
  refine lv_aload_n hx hb dX1_emit_40 rfl (lv_at hl 0 rfl) ?_
  refine c_get (v := .ref (a 19)) (C := RX1) (Tc := TX1) (N := 13) (ci := 1) hx hb hq pin_wsX10 hown hE hP hO 13 (sg_13 G h0 a _ _ _ _ _) rfl 3 (by decide) (hq _ pw_119) (fun _ h9 => h9) rfl dX1_emit_41 ?_
  refine lv_aload_n hx hb dX1_emit_44 rfl (lv_at hl 0 rfl) ?_
  refine c_get (v := .int (nI cs)) (C := RX1) (Tc := TX1) (N := 13) (ci := 1) hx hb hq pin_wsX10 hown hE hP hO 13 (sg_13 G h0 a _ _ _ _ _) rfl 4 (by decide) (hq _ pw_11) (fun _ h9 => h9) rfl dX1_emit_45 ?_
  refine lv_aload_n hx hb dX1_emit_48 rfl (lv_at hl 0 rfl) ?_
  refine c_get (v := .int (nI hd)) (C := RX1) (Tc := TX1) (N := 13) (ci := 1) hx hb hq pin_wsX10 hown hE hP hO 13 (sg_13 G h0 a _ _ _ _ _) rfl 11 (by decide) (hq _ pw_34) (fun _ h9 => h9) rfl dX1_emit_49 ?_
  refine c_sti (f := (B 19)) (n := 10000) (t0 := 0) hx hb hE hP hD hS hO 17 (sg_17 G h0 a _ _ _ _ _) rfl (vp_in_nI (by omega) (by decide)) (sb_19 G h0 a _ _ _ _ _ _) dX1_emit_52 (fun H locs w hP hD hS hO => ?_)
  rw [(nI_clamp (show cs < 2 ^ 31 by omega))] at hO
  refine lv_aload_n hx hb dX1_emit_53 rfl (lv_at hl 0 rfl) ?_
  refine lv_dup hx hb dX1_emit_54 rfl ?_
  refine c_get (v := .int (nI cs)) (C := RX1) (Tc := TX1) (N := 13) (ci := 1) hx hb hq pin_wsX10 hown hE hP hO 13 (sg_13 G h0 a _ _ _ _ _) rfl 4 (by decide) (hq _ pw_11) (fun _ h9 => h9) rfl dX1_emit_55 ?_
  refine lv_iconst (v := 1) hx hb dX1_emit_58 (by decide) ?_
  refine lv_iadd hx hb dX1_emit_59 ?_
  refine lv_topi (fun x4 e5 => ?_)
  obtain rfl : x4 = nI (cs + 1) := e5.trans (nI_add (cs) (1))
  refine c_put (v := .int (nI (cs + 1))) (ty := .int) (C := RX1) (Tc := TX1) (N := 13) (ci := 1) hx hb hq pin_wsX10 tyX1 tyX1_ok nmX1 hown hE hP hD hS hO 13 (sg_13 G h0 a _ _ _ _ _) rfl 4 (by decide) (hq _ pw_11) (fun _ h9 => h9) rfl (by decide +kernel) rfl rfl (Nat.le_of_ble_eq_true rfl) (sf_5 G h0 a _ _ _ _ _ (nI (cs + 1))) dX1_emit_60 (fun H locs w hP hD hS hO => ?_)
  have hO : OKW G h0 a (upd (upd F 5 (nI (cs + 1))) 7 (nI hd)) R Z (updA (updA (updA (updA B 16 (upd (B 16) cs x1)) 17 (upd (B 17) cs x2)) 18 (upd (B 18) cs x3)) 19 (upd (B 19) cs (nI hd))) J T Pi w := hO.to rfl
  exact W.vret hx hb hr (fun t99 ht99 hW99 => ⟨⟨_, (w, ()), rfl, ⟨rfl, hO⟩, by rw [ht99]; exact hP, hD⟩, hS.F ht99⟩) hS.2.2 dX1_emit_63
set_option maxHeartbeats 2000000 in
set_option maxRecDepth 100000 in
theorem Y_jump (l : Launch) (G : pT) (h0 : Nat) (a : Nat → Nat) (F : Nat → Int32) (R : Nat → Value) (Z : Int64) (B : Nat → Nat → Int32) (J : Nat → Nat → Int64) (T : Nat → Nat) (Pi : Nat → va_E → Prop) (w : va_W) (x1 : Int32) (x2 : Int32) (x3 : Int32) (cs : Nat) (hd : Nat) (hc9 : cs < 10000) (hO : OKW G h0 a (upd (upd F 5 (nI cs)) 7 (nI hd)) R Z B J T Pi w) : PM l G pX0 yX1_jump cX1_jump 4 (some .int) ({ frames := 3, cells := 0, slots := 0, locals := 83 }) [.ref (a 2), .int x1, .int x2, .int x3] w (fun (v : Option Value) (u : va_W × (Unit)) => v = some (.int (nI cs)) ∧ (OKW G h0 a (upd (upd F 5 (nI (cs + 1))) 7 (nI hd)) R Z (updA (updA (updA (updA B 16 (upd (B 16) cs x1)) 17 (upd (B 17) cs x2)) 18 (upd (B 18) cs x3)) 19 (upd (B 19) cs (nI hd))) J T Pi u.1)) (fun u => u.1) := by
  intro sz
  refine Met.ofW (cc := cX1_jump) (maxL := 4) (ret := (some .int)) (by decide) rfl ?_
  intro p e s m args below meth c s₁ B9 hml hv
  obtain ⟨rfl, hsz, hP, hD0, hE, hX⟩ := hv
  have hx := B9.exec
  have hb := B9.bytes
  have hr := B9.returns
  have hts := atoms_spec (ws := Cond.code yX1_jump cX1_jump 4 (some .int) :: pw) B9.pre
  have hq : ∀ w ∈ pw, w.before _ s = true := fun w h => hts w (List.mem_cons_of_mem _ h)
  have hown : s.vm.findClass RX1 = some m.cls := findClass_of_methodNamed B9.named
  have hlocks := B9.notSynchronized
  subst hsz
  have hD := hD0.self (sz := s.heap.size)
  have hA : ∀ q : Nat, s.heap.size ≤ q → va_A w s.heap.size q := fun q h => Or.inr h
  generalize va_A w s.heap.size = A at hD hE hA ⊢
  have hS : va_S A s.heap s.heap [] := va_S.rf
  have hl := lv_entry ([.ref (a 2), .int x1, .int x2, .int x3]) (n := 4) (Nat.le_of_ble_eq_true rfl)
  rw [lg_entry_eq]
  generalize (lg_sl ([.ref (a 2), .int x1, .int x2, .int x3]) ++ List.replicate (4 - (lg_sl ([.ref (a 2), .int x1, .int x2, .int x3])).length) Slot.unset).toArray = ls at hl ⊢
  have hl : lv_has ls 4 [(0, .ref (a 2)), (1, .int x1), (2, .int x2), (3, .int x3)] := hl
  refine lv_aload_n hx hb dX1_jump_0 rfl (lv_at hl 0 rfl) ?_
  refine lv_iload_n hx hb dX1_jump_1 rfl (lv_at hl 1 rfl) ?_
  refine lv_iload_n hx hb dX1_jump_2 rfl (lv_at hl 2 rfl) ?_
  refine lv_iload_n hx hb dX1_jump_3 rfl (lv_at hl 3 rfl) ?_
  have hO : OKW G h0 a (upd (upd (upd (upd F 5 (nI cs)) 7 (nI hd)) 5 (nI cs)) 7 (nI hd)) R Z B J T Pi w := hO.to rfl
  obtain ⟨_, qr4, hqr5⟩ := hO.2.1 13 _ (sg_13 G h0 a _ _ _ _ _)
  refine pc_V0 (G := G) (As := [.int x1, .int x2, .int x3]) (rest := []) hx hb hml hown hq hE hX pX0_al hP hD hS hA hl.1 (Y_emit l G h0 a (upd (upd F 5 (nI cs)) 7 (nI hd)) R Z B J T Pi w x1 x2 x3 cs hd (by omega) hO) (gV pw_133 pw_130 pw_131 pw_70 pw_115) hV_X1_emit qr4 1 hqr5 rfl rfl rfl (Nat.le_of_ble_eq_true rfl) dX1_jump_4 ⟨Nat.le_of_ble_eq_true rfl, Nat.le_of_ble_eq_true rfl⟩ ⟨Nat.le_of_ble_eq_true rfl, Nat.le_of_ble_eq_true rfl⟩ (fun v3 u1 H locs hw2 hP hD hS => ?_)
  obtain ⟨w, _⟩ := u1
  obtain ⟨hw2, hO⟩ := hw2
  obtain rfl : v3 = none := hw2
  have hO : OKW G h0 a (upd (upd F 5 (nI (cs + 1))) 7 (nI hd)) R Z (updA (updA (updA (updA B 16 (upd ((B 16)) cs x1)) 17 (upd ((B 17)) cs x2)) 18 (upd ((B 18)) cs x3)) 19 (upd ((B 19)) cs (nI hd))) J T Pi w := hO.to rfl
  refine W.widen (k := 0) (n := 0) (Nat.le_of_ble_eq_true rfl) (Nat.le_of_ble_eq_true rfl) ?_
  refine W.eq (g2 := F0 m 7 ls []) rfl ?_
  refine lv_aload_n hx hb dX1_jump_7 rfl (lv_at hl 0 rfl) ?_
  refine c_get (v := .int (nI (cs + 1))) (C := RX1) (Tc := TX1) (N := 13) (ci := 1) hx hb hq pin_wsX10 hown hE hP hO 13 (sg_13 G h0 a _ _ _ _ _) rfl 4 (by decide) (hq _ pw_11) (fun _ h9 => h9) rfl dX1_jump_8 ?_
  refine lv_iconst (v := 1) hx hb dX1_jump_11 (by decide) ?_
  refine lv_isub hx hb dX1_jump_12 ?_
  refine lv_topi (fun x6 e7 => ?_)
  obtain rfl : x6 = nI ((cs + 1) - 1) := e7.trans (nI_subN (a := 1) (b := (cs + 1)) (by omega))
  have hO : OKW G h0 a (upd (upd F 5 (nI (cs + 1))) 7 (nI hd)) R Z (updA (updA (updA (updA B 16 (upd (B 16) cs x1)) 17 (upd (B 17) cs x2)) 18 (upd (B 18) cs x3)) 19 (upd (B 19) cs (nI hd))) J T Pi w := hO.to rfl
  exact W.iret (v := (nI ((cs + 1) - 1))) hx hb hr (fun t99 ht99 hW99 => ⟨⟨_, (w, ()), rfl, ⟨(congrArg (fun z => some (Value.int z)) (congrArg nI (by omega))), hO⟩, by rw [ht99]; exact hP, hD⟩, hS.F ht99⟩) hS.2.2 dX1_jump_13
set_option maxHeartbeats 8000000 in
set_option maxRecDepth 100000 in
theorem Y_land (l : Launch) (G : pT) (h0 : Nat) (a : Nat → Nat) (F : Nat → Int32) (R : Nat → Value) (Z : Int64) (B : Nat → Nat → Int32) (J : Nat → Nat → Int64) (T : Nat → Nat) (Pi : Nat → va_E → Prop) (w : va_W) (x : Int32) (cs : Nat) (xs : List Nat) (hcs : cs ≤ 10000) (hch : ChnJ (B 17) x xs) (hxs : ∀ y9 : Nat, y9 ∈ xs → y9 < cs) (hO : OKW G h0 a (upd F 5 (nI cs)) R Z B J T Pi w) : PM l G pX0 yX1_land cX1_land 5 none ({ frames := 2, cells := 0, slots := 0, locals := 60 }) [.ref (a 2), .int x] w (fun (v : Option Value) (u : va_W × (Unit)) => v = none ∧ (OKW G h0 a (upd F 5 (nI cs)) R Z (updA B 17 (aim (B 17) xs cs)) J T Pi u.1)) (fun u => u.1) := by
  intro sz
  refine Met.ofW (cc := cX1_land) (maxL := 5) (ret := none) (by decide) rfl ?_
  intro p e s m args below meth c s₁ B9 hml hv
  obtain ⟨rfl, hsz, hP, hD0, hE, hX⟩ := hv
  have hx := B9.exec
  have hb := B9.bytes
  have hr := B9.returns
  have hts := atoms_spec (ws := Cond.code yX1_land cX1_land 5 none :: pw) B9.pre
  have hq : ∀ w ∈ pw, w.before _ s = true := fun w h => hts w (List.mem_cons_of_mem _ h)
  have hown : s.vm.findClass RX1 = some m.cls := findClass_of_methodNamed B9.named
  have hlocks := B9.notSynchronized
  subst hsz
  have hD := hD0.self (sz := s.heap.size)
  have hA : ∀ q : Nat, s.heap.size ≤ q → va_A w s.heap.size q := fun q h => Or.inr h
  generalize va_A w s.heap.size = A at hD hE hA ⊢
  have hS : va_S A s.heap s.heap [] := va_S.rf
  have hl := lv_entry ([.ref (a 2), .int x]) (n := 5) (Nat.le_of_ble_eq_true rfl)
  rw [lg_entry_eq]
  generalize (lg_sl ([.ref (a 2), .int x]) ++ List.replicate (5 - (lg_sl ([.ref (a 2), .int x])).length) Slot.unset).toArray = ls at hl ⊢
  have hl : lv_has ls 5 [(0, .ref (a 2)), (1, .int x)] := hl
  refine lv_iload_n hx hb dX1_land_0 rfl (lv_at hl 1 rfl) ?_
  refine lv_istore_n (lv' := [(2, .int x), (0, .ref (a 2)), (1, .int x)]) hx hb dX1_land_1 rfl hl (by decide) rfl (fun ls hl => ?_)
  refine lv_iconst (v := 0) hx hb dX1_land_2 (by decide) ?_
  refine lv_istore_n (lv' := [(3, .int 0), (2, .int x), (0, .ref (a 2)), (1, .int x)]) hx hb dX1_land_3 rfl hl (by decide) rfl (fun ls hl => ?_)
  have loop_n : ∀ (n_n : Nat) (nq : Nat) (j2 : Int32) (f2 : Nat → Int32) (zs : List Nat) (ys : List Nat) (H : Heap) (locs : List Loc) (ls : Array Slot) (w : va_W), nq ≤ cs → cs + 1 ≤ nq + n_n → (f2 = aim (B 17) zs cs) → (ChnJ (aim (B 17) zs cs) j2 ys) → (∀ y9 : Nat, y9 ∈ ys → ¬ y9 ∈ zs) → (zs ++ ys = xs) → (zs.length = nq) → va_P G.1 pCl w H → va_D A w → va_S A s.heap H locs → OKW G h0 a (upd F 5 (nI cs)) R Z (updA B 17 f2) J T Pi w → lv_has ls 5 [(3, .int (nI nq)), (2, .int j2), (1, .int x), (0, .ref (a 2))] → W p l e (headSpec (Cond.code yX1_land cX1_land 5 none :: pw) ({ frames := 2, cells := 0, slots := 0, locals := 60 } : Room)).room s m ([.ref (a 2), .int x] : List Value).toArray below meth c H locs 0 0 (MQ below (pQ G A (fun (v : Option Value) (u : va_W × (Unit)) => v = none ∧ (OKW G h0 a (upd F 5 (nI cs)) R Z (updA B 17 (aim (B 17) xs cs)) J T Pi u.1)) (fun u => u.1)) ([.ref (a 2), .int x] : List Value).toArray s ({ frames := 2, cells := 0, slots := 0, locals := 60 } : Room).cells ({ frames := 2, cells := 0, slots := 0, locals := 60 } : Room).slots A) (F0 m 4 ls []) := by
    intro n_n
    induction n_n with
    | zero => intro nq j2 f2 zs ys H locs ls w hk_n hn_n; omega
    | succ n_n ih_n =>
      intro nq j2 f2 zs ys H locs ls w hk_n hn_n hf2 hc2 hd2 he2 hl2 hP hD hS hO hl
      rcases ys with _ | ⟨z9, ys9⟩
      · skip
        have hj9 : j2 = -1 := hc2
        have he9 : zs = xs := by rw [← he2, List.append_nil]
        rw [hj9] at hl
        refine lv_iload_n hx hb dX1_land_4 rfl (lv_at hl 0 rfl) ?_
        refine lv_aload_n hx hb dX1_land_5 rfl (lv_at hl 3 rfl) ?_
        refine c_get (v := .int (nI cs)) (C := RX1) (Tc := TX1) (N := 13) (ci := 1) hx hb hq pin_wsX10 hown hE hP hO 13 (sg_13 G h0 a _ _ _ _ _) rfl 4 (by decide) (hq _ pw_11) (fun _ h9 => h9) rfl dX1_land_6 ?_
        refine lv_icmp_ge (tgt := 51) hx hb dX1_land_9 (by decide) (fun c1 => ?_) (fun c1 => ?_)
        · have n2 : cs ≤ nq := (nI_leI (a := cs) (b := nq) (by omega) (by omega)).mp c1
          rw [hf2, he9] at hO
          have hO : OKW G h0 a (upd F 5 (nI cs)) R Z (updA B 17 (aim (B 17) xs cs)) J T Pi w := hO.to rfl
          exact W.vret hx hb hr (fun t99 ht99 hW99 => ⟨⟨_, (w, ()), rfl, ⟨rfl, hO⟩, by rw [ht99]; exact hP, hD⟩, hS.F ht99⟩) hS.2.2 dX1_land_51
        · have n3 : ¬ (cs ≤ nq) := fun h9 => c1 ((nI_leI (a := cs) (b := nq) (by omega) (by omega)).mpr h9)
          refine lv_iload_n hx hb dX1_land_12 rfl (lv_at hl 1 rfl) ?_
          refine lv_if_lt (tgt := 51) hx hb dX1_land_13 (by decide) (fun c4 => ?_) (fun c4 => absurd c4 (by decide))
          rw [hf2, he9] at hO
          have hO : OKW G h0 a (upd F 5 (nI cs)) R Z (updA B 17 (aim (B 17) xs cs)) J T Pi w := hO.to rfl
          exact W.vret hx hb hr (fun t99 ht99 hW99 => ⟨⟨_, (w, ()), rfl, ⟨rfl, hO⟩, by rw [ht99]; exact hP, hD⟩, hS.F ht99⟩) hS.2.2 dX1_land_51
      · skip
        have hj9 : j2 = nI z9 := hc2.1
        have hz9 : z9 < cs := hxs z9 (by rw [← he2]; exact List.mem_append_right _ (List.mem_cons_self ..))
        have hst9 := hc2.step hd2
        have hln : nq < cs := by have q9 := ChnJ.len hch hxs; rw [← he2, List.length_append] at q9; have q8 : (z9 :: ys9).length = ys9.length + 1 := rfl; omega
        rw [hj9] at hl
        refine lv_iload_n hx hb dX1_land_4 rfl (lv_at hl 0 rfl) ?_
        refine lv_aload_n hx hb dX1_land_5 rfl (lv_at hl 3 rfl) ?_
        refine c_get (v := .int (nI cs)) (C := RX1) (Tc := TX1) (N := 13) (ci := 1) hx hb hq pin_wsX10 hown hE hP hO 13 (sg_13 G h0 a _ _ _ _ _) rfl 4 (by decide) (hq _ pw_11) (fun _ h9 => h9) rfl dX1_land_6 ?_
        refine lv_icmp_ge (tgt := 51) hx hb dX1_land_9 (by decide) (fun c5 => (by have n6 : cs ≤ nq := (nI_leI (a := cs) (b := nq) (by omega) (by omega)).mp c5; omega)) (fun c5 => ?_)
        refine lv_iload_n hx hb dX1_land_12 rfl (lv_at hl 1 rfl) ?_
        refine lv_if_lt (tgt := 51) hx hb dX1_land_13 (by decide) (fun c7 => (by have n8 : z9 < 0 := (nI_ltI (a := z9) (b := 0) (by omega) (by omega)).mp c7; omega)) (fun c7 => ?_)
        refine lv_iload_n hx hb dX1_land_16 rfl (lv_at hl 1 rfl) ?_
        refine lv_aload_n hx hb dX1_land_17 rfl (lv_at hl 3 rfl) ?_
        refine c_get (v := .int (nI cs)) (C := RX1) (Tc := TX1) (N := 13) (ci := 1) hx hb hq pin_wsX10 hown hE hP hO 13 (sg_13 G h0 a _ _ _ _ _) rfl 4 (by decide) (hq _ pw_11) (fun _ h9 => h9) rfl dX1_land_18 ?_
        refine lv_icmp_ge (tgt := 51) hx hb dX1_land_21 (by decide) (fun c9 => (by have n10 : cs ≤ z9 := (nI_leI (a := cs) (b := z9) (by omega) (by omega)).mp c9; omega)) (fun c9 => ?_)
        refine lv_aload_n hx hb dX1_land_24 rfl (lv_at hl 3 rfl) ?_
        refine c_get (v := .ref (a 17)) (C := RX1) (Tc := TX1) (N := 13) (ci := 1) hx hb hq pin_wsX10 hown hE hP hO 13 (sg_13 G h0 a _ _ _ _ _) rfl 1 (by decide) (hq _ pw_117) (fun _ h9 => h9) rfl dX1_land_25 ?_
        refine lv_iload_n hx hb dX1_land_28 rfl (lv_at hl 1 rfl) ?_
        refine c_ldi (f := f2) (n := 10000) (t0 := 0) hx hb hE hP hO 15 (sg_15 G h0 a _ _ _ _ _) rfl (vp_in_nI (by omega) (by decide)) dX1_land_29 ?_
        rw [(nI_clamp (show z9 < 2 ^ 31 by omega))]
        refine lv_topi (fun x11 e12 => ?_)
        obtain rfl : x11 = B 17 z9 := e12.trans (by rw [hf2]; exact hst9.2.1)
        refine lv_istore (lv' := [(4, .int (B 17 z9)), (3, .int (nI nq)), (2, .int (nI z9)), (1, .int x), (0, .ref (a 2))]) hx hb dX1_land_30 hl (by decide) rfl (fun ls hl => ?_)
        refine lv_aload_n hx hb dX1_land_32 rfl (lv_at hl 4 rfl) ?_
        refine c_get (v := .ref (a 17)) (C := RX1) (Tc := TX1) (N := 13) (ci := 1) hx hb hq pin_wsX10 hown hE hP hO 13 (sg_13 G h0 a _ _ _ _ _) rfl 1 (by decide) (hq _ pw_117) (fun _ h9 => h9) rfl dX1_land_33 ?_
        refine lv_iload_n hx hb dX1_land_36 rfl (lv_at hl 2 rfl) ?_
        refine lv_aload_n hx hb dX1_land_37 rfl (lv_at hl 4 rfl) ?_
        refine c_get (v := .int (nI cs)) (C := RX1) (Tc := TX1) (N := 13) (ci := 1) hx hb hq pin_wsX10 hown hE hP hO 13 (sg_13 G h0 a _ _ _ _ _) rfl 4 (by decide) (hq _ pw_11) (fun _ h9 => h9) rfl dX1_land_38 ?_
        refine c_sti (f := f2) (n := 10000) (t0 := 0) hx hb hE hP hD hS hO 15 (sg_15 G h0 a _ _ _ _ _) rfl (vp_in_nI (by omega) (by decide)) (sb_17 G h0 a _ _ _ _ _ _) dX1_land_41 (fun H locs w hP hD hS hO => ?_)
        rw [(nI_clamp (show z9 < 2 ^ 31 by omega))] at hO
        refine lv_iload hx hb dX1_land_42 (lv_at hl 0 rfl) ?_
        refine lv_istore_n (lv' := [(2, .int (B 17 z9)), (4, .int (B 17 z9)), (3, .int (nI nq)), (1, .int x), (0, .ref (a 2))]) hx hb dX1_land_44 rfl hl (by decide) rfl (fun ls hl => ?_)
        refine lv_iinc (v := (nI (nq + 1))) (lv' := [(3, .int (nI (nq + 1))), (2, .int (B 17 z9)), (4, .int (B 17 z9)), (1, .int x), (0, .ref (a 2))]) hx hb dX1_land_45 hl (k := 2) rfl (nI_1 nq) (by decide) rfl (fun ls hl => ?_)
        refine lv_goto (tgt := 4) hx hb dX1_land_48 (by decide) ?_
        have hO : OKW G h0 a (upd F 5 (nI cs)) R Z (updA B 17 (upd f2 z9 (nI cs))) J T Pi w := hO.to rfl
        exact ih_n (nq + 1) (B 17 z9) (upd f2 z9 (nI cs)) (zs ++ [z9]) ys9 _ _ _ _ (by omega) (by omega) (by rw [hf2]; exact aim_more) hst9.1 hst9.2.2 (by rw [List.append_assoc]; exact he2) (by rw [List.length_append, hl2]; rfl) hP hD hS hO (lv_sub hl [0, 1, 3, 4] rfl)
  have hO : OKW G h0 a (upd F 5 (nI cs)) R Z (updA B 17 (B 17)) J T Pi w := hO.to rfl
  exact loop_n (cs + 1) 0 x (B 17) ([] : List Nat) xs _ _ _ _ (by omega) (by omega) aim_nil.symm (by rw [aim_nil]; exact hch) (fun _ _ => List.not_mem_nil) rfl rfl hP hD hS hO (lv_sub hl [0, 1, 3, 2] rfl)
set_option maxHeartbeats 2000000 in
set_option maxRecDepth 100000 in
theorem Y_addRegion (l : Launch) (G : pT) (h0 : Nat) (a : Nat → Nat) (F : Nat → Int32) (R : Nat → Value) (Z : Int64) (B : Nat → Nat → Int32) (J : Nat → Nat → Int64) (T : Nat → Nat) (Pi : Nat → va_E → Prop) (w : va_W) (x1 : Int32) (x2 : Int32) (x3 : Int32) (x4 : Int32) (rg : Nat) (cs : Nat) (hrg : rg < 625) (hO : OKW G h0 a (upd (upd F 5 (nI cs)) 6 (nI rg)) R Z B J T Pi w) : PM l G pX0 yX1_addRegion cX1_addRegion 5 none ({ frames := 2, cells := 0, slots := 0, locals := 60 }) [.ref (a 2), .int x1, .int x2, .int x3, .int x4] w (fun (v : Option Value) (u : va_W × (Unit)) => v = none ∧ (OKW G h0 a (upd (upd F 5 (nI cs)) 6 (nI (rg + 1))) R Z (updA (updA (updA (updA (updA B 20 (upd (B 20) rg x1)) 21 (upd (B 21) rg x2)) 22 (upd (B 22) rg (nI cs))) 23 (upd (B 23) rg x3)) 24 (upd (B 24) rg x4)) J T Pi u.1)) (fun u => u.1) := by
  intro sz
  refine Met.ofW (cc := cX1_addRegion) (maxL := 5) (ret := none) (by decide) rfl ?_
  intro p e s m args below meth c s₁ B9 hml hv
  obtain ⟨rfl, hsz, hP, hD0, hE, hX⟩ := hv
  have hx := B9.exec
  have hb := B9.bytes
  have hr := B9.returns
  have hts := atoms_spec (ws := Cond.code yX1_addRegion cX1_addRegion 5 none :: pw) B9.pre
  have hq : ∀ w ∈ pw, w.before _ s = true := fun w h => hts w (List.mem_cons_of_mem _ h)
  have hown : s.vm.findClass RX1 = some m.cls := findClass_of_methodNamed B9.named
  have hlocks := B9.notSynchronized
  subst hsz
  have hD := hD0.self (sz := s.heap.size)
  have hA : ∀ q : Nat, s.heap.size ≤ q → va_A w s.heap.size q := fun q h => Or.inr h
  generalize va_A w s.heap.size = A at hD hE hA ⊢
  have hS : va_S A s.heap s.heap [] := va_S.rf
  have hl := lv_entry ([.ref (a 2), .int x1, .int x2, .int x3, .int x4]) (n := 5) (Nat.le_of_ble_eq_true rfl)
  rw [lg_entry_eq]
  generalize (lg_sl ([.ref (a 2), .int x1, .int x2, .int x3, .int x4]) ++ List.replicate (5 - (lg_sl ([.ref (a 2), .int x1, .int x2, .int x3, .int x4])).length) Slot.unset).toArray = ls at hl ⊢
  have hl : lv_has ls 5 [(0, .ref (a 2)), (1, .int x1), (2, .int x2), (3, .int x3), (4, .int x4)] := hl
  refine lv_aload_n hx hb dX1_addRegion_0 rfl (lv_at hl 0 rfl) ?_
  refine c_get (v := .int (nI rg)) (C := RX1) (Tc := TX1) (N := 13) (ci := 1) hx hb hq pin_wsX10 hown hE hP hO 13 (sg_13 G h0 a _ _ _ _ _) rfl 10 (by decide) (hq _ pw_12) (fun _ h9 => h9) rfl dX1_addRegion_1 ?_
  refine lv_sipush (v := 625) hx hb dX1_addRegion_4 (by decide) ?_
  refine lv_icmp_ge (tgt := 74) hx hb dX1_addRegion_7 (by decide) (fun c1 => (by have n2 : 625 ≤ rg := (nI_leI (a := 625) (b := rg) (by omega) (by omega)).mp c1; omega)) (fun c1 => ?_)
  refine lv_aload_n hx hb dX1_addRegion_10 rfl (lv_at hl 0 rfl) ?_
  refine c_get (v := .ref (a 20)) (C := RX1) (Tc := TX1) (N := 13) (ci := 1) hx hb hq pin_wsX10 hown hE hP hO 13 (sg_13 G h0 a _ _ _ _ _) rfl 5 (by decide) (hq _ pw_295) (fun _ h9 => h9) rfl dX1_addRegion_11 ?_
  refine lv_aload_n hx hb dX1_addRegion_14 rfl (lv_at hl 0 rfl) ?_
  refine c_get (v := .int (nI rg)) (C := RX1) (Tc := TX1) (N := 13) (ci := 1) hx hb hq pin_wsX10 hown hE hP hO 13 (sg_13 G h0 a _ _ _ _ _) rfl 10 (by decide) (hq _ pw_12) (fun _ h9 => h9) rfl dX1_addRegion_15 ?_
  refine lv_iload_n hx hb dX1_addRegion_18 rfl (lv_at hl 1 rfl) ?_
  refine c_sti (f := (B 20)) (n := 625) (t0 := 0) hx hb hE hP hD hS hO 18 (sg_18 G h0 a _ _ _ _ _) rfl (vp_in_nI (by omega) (by decide)) (sb_20 G h0 a _ _ _ _ _ _) dX1_addRegion_19 (fun H locs w hP hD hS hO => ?_)
  rw [(nI_clamp (show rg < 2 ^ 31 by omega))] at hO
  refine lv_aload_n hx hb dX1_addRegion_20 rfl (lv_at hl 0 rfl) ?_
  refine c_get (v := .ref (a 21)) (C := RX1) (Tc := TX1) (N := 13) (ci := 1) hx hb hq pin_wsX10 hown hE hP hO 13 (sg_13 G h0 a _ _ _ _ _) rfl 6 (by decide) (hq _ pw_296) (fun _ h9 => h9) rfl dX1_addRegion_21 ?_
  refine lv_aload_n hx hb dX1_addRegion_24 rfl (lv_at hl 0 rfl) ?_
  refine c_get (v := .int (nI rg)) (C := RX1) (Tc := TX1) (N := 13) (ci := 1) hx hb hq pin_wsX10 hown hE hP hO 13 (sg_13 G h0 a _ _ _ _ _) rfl 10 (by decide) (hq _ pw_12) (fun _ h9 => h9) rfl dX1_addRegion_25 ?_
  refine lv_iload_n hx hb dX1_addRegion_28 rfl (lv_at hl 2 rfl) ?_
  refine c_sti (f := (B 21)) (n := 625) (t0 := 0) hx hb hE hP hD hS hO 19 (sg_19 G h0 a _ _ _ _ _) rfl (vp_in_nI (by omega) (by decide)) (sb_21 G h0 a _ _ _ _ _ _) dX1_addRegion_29 (fun H locs w hP hD hS hO => ?_)
  rw [(nI_clamp (show rg < 2 ^ 31 by omega))] at hO
  refine lv_aload_n hx hb dX1_addRegion_30 rfl (lv_at hl 0 rfl) ?_
  refine c_get (v := .ref (a 22)) (C := RX1) (Tc := TX1) (N := 13) (ci := 1) hx hb hq pin_wsX10 hown hE hP hO 13 (sg_13 G h0 a _ _ _ _ _) rfl 7 (by decide) (hq _ pw_297) (fun _ h9 => h9) rfl dX1_addRegion_31 ?_
  refine lv_aload_n hx hb dX1_addRegion_34 rfl (lv_at hl 0 rfl) ?_
  refine c_get (v := .int (nI rg)) (C := RX1) (Tc := TX1) (N := 13) (ci := 1) hx hb hq pin_wsX10 hown hE hP hO 13 (sg_13 G h0 a _ _ _ _ _) rfl 10 (by decide) (hq _ pw_12) (fun _ h9 => h9) rfl dX1_addRegion_35 ?_
  refine lv_aload_n hx hb dX1_addRegion_38 rfl (lv_at hl 0 rfl) ?_
  refine c_get (v := .int (nI cs)) (C := RX1) (Tc := TX1) (N := 13) (ci := 1) hx hb hq pin_wsX10 hown hE hP hO 13 (sg_13 G h0 a _ _ _ _ _) rfl 4 (by decide) (hq _ pw_11) (fun _ h9 => h9) rfl dX1_addRegion_39 ?_
  refine c_sti (f := (B 22)) (n := 625) (t0 := 0) hx hb hE hP hD hS hO 20 (sg_20 G h0 a _ _ _ _ _) rfl (vp_in_nI (by omega) (by decide)) (sb_22 G h0 a _ _ _ _ _ _) dX1_addRegion_42 (fun H locs w hP hD hS hO => ?_)
  rw [(nI_clamp (show rg < 2 ^ 31 by omega))] at hO
  refine lv_aload_n hx hb dX1_addRegion_43 rfl (lv_at hl 0 rfl) ?_
  refine c_get (v := .ref (a 23)) (C := RX1) (Tc := TX1) (N := 13) (ci := 1) hx hb hq pin_wsX10 hown hE hP hO 13 (sg_13 G h0 a _ _ _ _ _) rfl 8 (by decide) (hq _ pw_298) (fun _ h9 => h9) rfl dX1_addRegion_44 ?_
  refine lv_aload_n hx hb dX1_addRegion_47 rfl (lv_at hl 0 rfl) ?_
  refine c_get (v := .int (nI rg)) (C := RX1) (Tc := TX1) (N := 13) (ci := 1) hx hb hq pin_wsX10 hown hE hP hO 13 (sg_13 G h0 a _ _ _ _ _) rfl 10 (by decide) (hq _ pw_12) (fun _ h9 => h9) rfl dX1_addRegion_48 ?_
  refine lv_iload_n hx hb dX1_addRegion_51 rfl (lv_at hl 3 rfl) ?_
  refine c_sti (f := (B 23)) (n := 625) (t0 := 0) hx hb hE hP hD hS hO 21 (sg_21 G h0 a _ _ _ _ _) rfl (vp_in_nI (by omega) (by decide)) (sb_23 G h0 a _ _ _ _ _ _) dX1_addRegion_52 (fun H locs w hP hD hS hO => ?_)
  rw [(nI_clamp (show rg < 2 ^ 31 by omega))] at hO
  refine lv_aload_n hx hb dX1_addRegion_53 rfl (lv_at hl 0 rfl) ?_
  refine c_get (v := .ref (a 24)) (C := RX1) (Tc := TX1) (N := 13) (ci := 1) hx hb hq pin_wsX10 hown hE hP hO 13 (sg_13 G h0 a _ _ _ _ _) rfl 9 (by decide) (hq _ pw_299) (fun _ h9 => h9) rfl dX1_addRegion_54 ?_
  refine lv_aload_n hx hb dX1_addRegion_57 rfl (lv_at hl 0 rfl) ?_
  refine c_get (v := .int (nI rg)) (C := RX1) (Tc := TX1) (N := 13) (ci := 1) hx hb hq pin_wsX10 hown hE hP hO 13 (sg_13 G h0 a _ _ _ _ _) rfl 10 (by decide) (hq _ pw_12) (fun _ h9 => h9) rfl dX1_addRegion_58 ?_
  refine lv_iload hx hb dX1_addRegion_61 (lv_at hl 4 rfl) ?_
  refine c_sti (f := (B 24)) (n := 625) (t0 := 0) hx hb hE hP hD hS hO 22 (sg_22 G h0 a _ _ _ _ _) rfl (vp_in_nI (by omega) (by decide)) (sb_24 G h0 a _ _ _ _ _ _) dX1_addRegion_63 (fun H locs w hP hD hS hO => ?_)
  rw [(nI_clamp (show rg < 2 ^ 31 by omega))] at hO
  refine lv_aload_n hx hb dX1_addRegion_64 rfl (lv_at hl 0 rfl) ?_
  refine lv_dup hx hb dX1_addRegion_65 rfl ?_
  refine c_get (v := .int (nI rg)) (C := RX1) (Tc := TX1) (N := 13) (ci := 1) hx hb hq pin_wsX10 hown hE hP hO 13 (sg_13 G h0 a _ _ _ _ _) rfl 10 (by decide) (hq _ pw_12) (fun _ h9 => h9) rfl dX1_addRegion_66 ?_
  refine lv_iconst (v := 1) hx hb dX1_addRegion_69 (by decide) ?_
  refine lv_iadd hx hb dX1_addRegion_70 ?_
  refine lv_topi (fun x5 e6 => ?_)
  obtain rfl : x5 = nI (rg + 1) := e6.trans (nI_add (rg) (1))
  refine c_put (v := .int (nI (rg + 1))) (ty := .int) (C := RX1) (Tc := TX1) (N := 13) (ci := 1) hx hb hq pin_wsX10 tyX1 tyX1_ok nmX1 hown hE hP hD hS hO 13 (sg_13 G h0 a _ _ _ _ _) rfl 10 (by decide) (hq _ pw_12) (fun _ h9 => h9) rfl (by decide +kernel) rfl rfl (Nat.le_of_ble_eq_true rfl) (sf_6 G h0 a _ _ _ _ _ (nI (rg + 1))) dX1_addRegion_71 (fun H locs w hP hD hS hO => ?_)
  have hO : OKW G h0 a (upd (upd F 5 (nI cs)) 6 (nI (rg + 1))) R Z (updA (updA (updA (updA (updA B 20 (upd (B 20) rg x1)) 21 (upd (B 21) rg x2)) 22 (upd (B 22) rg (nI cs))) 23 (upd (B 23) rg x3)) 24 (upd (B 24) rg x4)) J T Pi w := hO.to rfl
  exact W.vret hx hb hr (fun t99 ht99 hW99 => ⟨⟨_, (w, ()), rfl, ⟨rfl, hO⟩, by rw [ht99]; exact hP, hD⟩, hS.F ht99⟩) hS.2.2 dX1_addRegion_74
set_option maxHeartbeats 2000000 in
set_option maxRecDepth 100000 in
theorem Y_noRegion (l : Launch) (G : pT) (h0 : Nat) (a : Nat → Nat) (F : Nat → Int32) (R : Nat → Value) (Z : Int64) (B : Nat → Nat → Int32) (J : Nat → Nat → Int64) (T : Nat → Nat) (Pi : Nat → va_E → Prop) (w : va_W) (x1 : Int32) (x2 : Int32) (x3 : Int32) (x4 : Int32) (rg : Nat) (hrg : 625 ≤ rg ∧ rg ≤ 1000) (hO : OKW G h0 a (upd F 6 (nI rg)) R Z B J T Pi w) : PM l G pX0 yX1_addRegion cX1_addRegion 5 none ({ frames := 2, cells := 0, slots := 0, locals := 60 }) [.ref (a 2), .int x1, .int x2, .int x3, .int x4] w (fun (v : Option Value) (u : va_W × (Unit)) => v = none ∧ (OKW G h0 a (upd F 6 (nI rg)) R Z B J T Pi u.1)) (fun u => u.1) := by
  intro sz
  refine Met.ofW (cc := cX1_addRegion) (maxL := 5) (ret := none) (by decide) rfl ?_
  intro p e s m args below meth c s₁ B9 hml hv
  obtain ⟨rfl, hsz, hP, hD0, hE, hX⟩ := hv
  have hx := B9.exec
  have hb := B9.bytes
  have hr := B9.returns
  have hts := atoms_spec (ws := Cond.code yX1_addRegion cX1_addRegion 5 none :: pw) B9.pre
  have hq : ∀ w ∈ pw, w.before _ s = true := fun w h => hts w (List.mem_cons_of_mem _ h)
  have hown : s.vm.findClass RX1 = some m.cls := findClass_of_methodNamed B9.named
  have hlocks := B9.notSynchronized
  subst hsz
  have hD := hD0.self (sz := s.heap.size)
  have hA : ∀ q : Nat, s.heap.size ≤ q → va_A w s.heap.size q := fun q h => Or.inr h
  generalize va_A w s.heap.size = A at hD hE hA ⊢
  have hS : va_S A s.heap s.heap [] := va_S.rf
  have hl := lv_entry ([.ref (a 2), .int x1, .int x2, .int x3, .int x4]) (n := 5) (Nat.le_of_ble_eq_true rfl)
  rw [lg_entry_eq]
  generalize (lg_sl ([.ref (a 2), .int x1, .int x2, .int x3, .int x4]) ++ List.replicate (5 - (lg_sl ([.ref (a 2), .int x1, .int x2, .int x3, .int x4])).length) Slot.unset).toArray = ls at hl ⊢
  have hl : lv_has ls 5 [(0, .ref (a 2)), (1, .int x1), (2, .int x2), (3, .int x3), (4, .int x4)] := hl
  refine lv_aload_n hx hb dX1_addRegion_0 rfl (lv_at hl 0 rfl) ?_
  refine c_get (v := .int (nI rg)) (C := RX1) (Tc := TX1) (N := 13) (ci := 1) hx hb hq pin_wsX10 hown hE hP hO 13 (sg_13 G h0 a _ _ _ _ _) rfl 10 (by decide) (hq _ pw_12) (fun _ h9 => h9) rfl dX1_addRegion_1 ?_
  refine lv_sipush (v := 625) hx hb dX1_addRegion_4 (by decide) ?_
  refine lv_icmp_ge (tgt := 74) hx hb dX1_addRegion_7 (by decide) (fun c1 => ?_) (fun c1 => (by have n2 : ¬ (625 ≤ rg) := fun h9 => c1 ((nI_leI (a := 625) (b := rg) (by omega) (by omega)).mpr h9); omega))
  have hO : OKW G h0 a (upd F 6 (nI rg)) R Z B J T Pi w := hO.to rfl
  exact W.vret hx hb hr (fun t99 ht99 hW99 => ⟨⟨_, (w, ()), rfl, ⟨rfl, hO⟩, by rw [ht99]; exact hP, hD⟩, hS.F ht99⟩) hS.2.2 dX1_addRegion_74
set_option maxHeartbeats 2000000 in
set_option maxRecDepth 100000 in
theorem Y_hold (l : Launch) (G : pT) (h0 : Nat) (a : Nat → Nat) (F : Nat → Int32) (R : Nat → Value) (Z : Int64) (B : Nat → Nat → Int32) (J : Nat → Nat → Int64) (T : Nat → Nat) (Pi : Nat → va_E → Prop) (w : va_W) (mo : Nat) (hd : Nat) (dp : Nat) (hh : hd + mo ≤ 1000) (hdp : dp ≤ 1000) (hO : OKW G h0 a (upd (upd F 7 (nI hd)) 8 (nI dp)) R Z B J T Pi w) : PM l G pX0 yX1_hold cX1_hold 2 none ({ frames := 2, cells := 0, slots := 0, locals := 60 }) [.ref (a 2), .int (nI mo)] w (fun (v : Option Value) (u : va_W × (Nat)) => v = none ∧ (u.2 ≤ 1000) ∧ (dp ≤ u.2 ∧ hd + mo ≤ u.2 ∧ (u.2 = dp ∨ u.2 = hd + mo)) ∧ (OKW G h0 a (upd (upd F 7 (nI (hd + mo))) 8 (nI u.2)) R Z B J T Pi u.1)) (fun u => u.1) := by
  intro sz
  refine Met.ofW (cc := cX1_hold) (maxL := 2) (ret := none) (by decide) rfl ?_
  intro p e s m args below meth c s₁ B9 hml hv
  obtain ⟨rfl, hsz, hP, hD0, hE, hX⟩ := hv
  have hx := B9.exec
  have hb := B9.bytes
  have hr := B9.returns
  have hts := atoms_spec (ws := Cond.code yX1_hold cX1_hold 2 none :: pw) B9.pre
  have hq : ∀ w ∈ pw, w.before _ s = true := fun w h => hts w (List.mem_cons_of_mem _ h)
  have hown : s.vm.findClass RX1 = some m.cls := findClass_of_methodNamed B9.named
  have hlocks := B9.notSynchronized
  subst hsz
  have hD := hD0.self (sz := s.heap.size)
  have hA : ∀ q : Nat, s.heap.size ≤ q → va_A w s.heap.size q := fun q h => Or.inr h
  generalize va_A w s.heap.size = A at hD hE hA ⊢
  have hS : va_S A s.heap s.heap [] := va_S.rf
  have hl := lv_entry ([.ref (a 2), .int (nI mo)]) (n := 2) (Nat.le_of_ble_eq_true rfl)
  rw [lg_entry_eq]
  generalize (lg_sl ([.ref (a 2), .int (nI mo)]) ++ List.replicate (2 - (lg_sl ([.ref (a 2), .int (nI mo)])).length) Slot.unset).toArray = ls at hl ⊢
  have hl : lv_has ls 2 [(0, .ref (a 2)), (1, .int (nI mo))] := hl
  refine lv_aload_n hx hb dX1_hold_0 rfl (lv_at hl 0 rfl) ?_
  refine lv_dup hx hb dX1_hold_1 rfl ?_
  refine c_get (v := .int (nI hd)) (C := RX1) (Tc := TX1) (N := 13) (ci := 1) hx hb hq pin_wsX10 hown hE hP hO 13 (sg_13 G h0 a _ _ _ _ _) rfl 11 (by decide) (hq _ pw_34) (fun _ h9 => h9) rfl dX1_hold_2 ?_
  refine lv_iload_n hx hb dX1_hold_5 rfl (lv_at hl 1 rfl) ?_
  refine lv_iadd hx hb dX1_hold_6 ?_
  refine lv_topi (fun x1 e2 => ?_)
  obtain rfl : x1 = nI (hd + mo) := e2.trans (nI_add (hd) (mo))
  refine c_put (v := .int (nI (hd + mo))) (ty := .int) (C := RX1) (Tc := TX1) (N := 13) (ci := 1) hx hb hq pin_wsX10 tyX1 tyX1_ok nmX1 hown hE hP hD hS hO 13 (sg_13 G h0 a _ _ _ _ _) rfl 11 (by decide) (hq _ pw_34) (fun _ h9 => h9) rfl (by decide +kernel) rfl rfl (Nat.le_of_ble_eq_true rfl) (sf_7 G h0 a _ _ _ _ _ (nI (hd + mo))) dX1_hold_7 (fun H locs w hP hD hS hO => ?_)
  refine lv_aload_n hx hb dX1_hold_10 rfl (lv_at hl 0 rfl) ?_
  refine lv_aload_n hx hb dX1_hold_11 rfl (lv_at hl 0 rfl) ?_
  refine c_get (v := .int (nI dp)) (C := RX1) (Tc := TX1) (N := 13) (ci := 1) hx hb hq pin_wsX10 hown hE hP hO 13 (sg_13 G h0 a _ _ _ _ _) rfl 12 (by decide) (hq _ pw_35) (fun _ h9 => h9) rfl dX1_hold_12 ?_
  refine lv_aload_n hx hb dX1_hold_15 rfl (lv_at hl 0 rfl) ?_
  refine c_get (v := .int (nI (hd + mo))) (C := RX1) (Tc := TX1) (N := 13) (ci := 1) hx hb hq pin_wsX10 hown hE hP hO 13 (sg_13 G h0 a _ _ _ _ _) rfl 11 (by decide) (hq _ pw_34) (fun _ h9 => h9) rfl dX1_hold_16 ?_
  refine va_mmax (own := RX1) hx hb (by rw [hml]; exact hl.1.symm) hown (hq _ pw_50) (hq _ pw_51) (hq _ pw_52) (hq _ pw_53) (Nat.le_of_ble_eq_true rfl) (Nat.le_of_ble_eq_true rfl) (Nat.le_of_ble_eq_true rfl) (Nat.le_of_ble_eq_true rfl) dX1_hold_19 ?_
  refine lv_topi (fun x3 e4 => ?_)
  obtain ⟨k9, hk9, hl9, hl8, hl7, hl6⟩ := mx_x (x := dp) (y := hd + mo) (by omega) (by omega)
  obtain rfl : x3 = nI k9 := e4.trans hk9
  refine c_put (v := .int (nI k9)) (ty := .int) (C := RX1) (Tc := TX1) (N := 13) (ci := 1) hx hb hq pin_wsX10 tyX1 tyX1_ok nmX1 hown hE hP hD hS hO 13 (sg_13 G h0 a _ _ _ _ _) rfl 12 (by decide) (hq _ pw_35) (fun _ h9 => h9) rfl (by decide +kernel) rfl rfl (Nat.le_of_ble_eq_true rfl) (sf_8 G h0 a _ _ _ _ _ (nI k9)) dX1_hold_22 (fun H locs w hP hD hS hO => ?_)
  have hz5 : k9 ≤ 1000 := (by omega)
  have hz6 : dp ≤ k9 ∧ hd + mo ≤ k9 ∧ (k9 = dp ∨ k9 = hd + mo) := ⟨hl8, hl7, hl6⟩
  have hO : OKW G h0 a (upd (upd F 7 (nI (hd + mo))) 8 (nI k9)) R Z B J T Pi w := hO.to rfl
  exact W.vret hx hb hr (fun t99 ht99 hW99 => ⟨⟨_, (w, k9), rfl, ⟨rfl, hz5, hz6, hO⟩, by rw [ht99]; exact hP, hD⟩, hS.F ht99⟩) hS.2.2 dX1_hold_25
