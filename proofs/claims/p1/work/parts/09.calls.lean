theorem dX11_append_0 : decode cX11_append 0 = .ok (.bipush 24, 2) := by decide +kernel
theorem dX11_append_2 : decode cX11_append 2 = .ok (.istore_n 2, 1) := by decide +kernel
theorem dX11_append_3 : decode cX11_append 3 = .ok (.iload_n 2, 1) := by decide +kernel
theorem dX11_append_4 : decode cX11_append 4 = .ok (.ifCond .lt 44, 3) := by decide +kernel
theorem dX11_append_7 : decode cX11_append 7 = .ok (.aload_n 0, 1) := by decide +kernel
theorem dX11_append_8 : decode cX11_append 8 = .ok (.getfield 54, 3) := by decide +kernel
theorem dX11_append_11 : decode cX11_append 11 = .ok (.aload_n 0, 1) := by decide +kernel
theorem dX11_append_12 : decode cX11_append 12 = .ok (.getfield 9, 3) := by decide +kernel
theorem dX11_append_15 : decode cX11_append 15 = .ok (.arraylength, 1) := by decide +kernel
theorem dX11_append_16 : decode cX11_append 16 = .ok (.if_icmp .ge 26, 3) := by decide +kernel
theorem dX11_append_19 : decode cX11_append 19 = .ok (.aload_n 0, 1) := by decide +kernel
theorem dX11_append_20 : decode cX11_append 20 = .ok (.getfield 9, 3) := by decide +kernel
theorem dX11_append_23 : decode cX11_append 23 = .ok (.aload_n 0, 1) := by decide +kernel
theorem dX11_append_24 : decode cX11_append 24 = .ok (.getfield 54, 3) := by decide +kernel
theorem dX11_append_27 : decode cX11_append 27 = .ok (.iload_n 1, 1) := by decide +kernel
theorem dX11_append_28 : decode cX11_append 28 = .ok (.iload_n 2, 1) := by decide +kernel
theorem dX11_append_29 : decode cX11_append 29 = .ok (.iushr, 1) := by decide +kernel
theorem dX11_append_30 : decode cX11_append 30 = .ok (.i2b, 1) := by decide +kernel
theorem dX11_append_31 : decode cX11_append 31 = .ok (.bastore, 1) := by decide +kernel
theorem dX11_append_32 : decode cX11_append 32 = .ok (.aload_n 0, 1) := by decide +kernel
theorem dX11_append_33 : decode cX11_append 33 = .ok (.dup, 1) := by decide +kernel
theorem dX11_append_34 : decode cX11_append 34 = .ok (.getfield 54, 3) := by decide +kernel
theorem dX11_append_37 : decode cX11_append 37 = .ok (.iconst 1, 1) := by decide +kernel
theorem dX11_append_38 : decode cX11_append 38 = .ok (.iadd, 1) := by decide +kernel
theorem dX11_append_39 : decode cX11_append 39 = .ok (.putfield 54, 3) := by decide +kernel
theorem dX11_append_42 : decode cX11_append 42 = .ok (.iinc 2 (-8), 3) := by decide +kernel
theorem dX11_append_45 : decode cX11_append 45 = .ok (.goto (-42), 3) := by decide +kernel
theorem dX11_append_48 : decode cX11_append 48 = .ok (.return_, 1) := by decide +kernel
set_option maxHeartbeats 1000000 in
set_option maxRecDepth 100000 in
/-- append, 0 bytes on the tape -/
theorem c_append_0 (l : Launch) (G : pT) (h0 : Nat) (k1 : Nat) (k2 : Nat) (k3 : Nat) (k4 : Nat) (k5 : Nat) (k6 : Nat) (f : Nat → Int32) (x : Int32) : PM l G pX0 yX11_append cX11_append 3 none ({ frames := 2, cells := 0, slots := 0, locals := 60 }) [.ref h0, .int x] [(h0, .inr (8, [.ref k1, .int 0, .ref k2, .ref k3, .ref k4, .ref k5, .ref k6, .null])), (k1, .inl (G.2.1 1, 5000, .inl f))] (fun (v : Option Value) (u : (Nat → Nat) × (Nat → Nat → Int32) × (Nat → Nat → Int64)) => v = none) (fun u => [(h0, .inr (8, [.ref k1, .int 4, .ref k2, .ref k3, .ref k4, .ref k5, .ref k6, .null])), (k1, .inl (G.2.1 1, 5000, .inl (u.2.1 0)))]) := by
  intro sz
  refine Met.ofW (cc := cX11_append) (maxL := 3) (ret := none) (by decide) rfl ?_
  intro p e s m args below meth c s₁ B hml hv
  obtain ⟨rfl, hsz, hP, hD0, hE, hX⟩ := hv
  have hx := B.exec
  have hb := B.bytes
  have hr := B.returns
  have hts := atoms_spec (ws := Cond.code yX11_append cX11_append 3 none :: pw) B.pre
  have hq : ∀ w ∈ pw, w.before _ s = true := fun w h => hts w (List.mem_cons_of_mem _ h)
  have hown : s.vm.findClass RX11 = some m.cls := findClass_of_methodNamed B.named
  have hlocks := B.notSynchronized
  subst hsz
  have hD := hD0.self (sz := s.heap.size)
  have hA : ∀ q : Nat, s.heap.size ≤ q → va_A [(h0, .inr (8, [.ref k1, .int 0, .ref k2, .ref k3, .ref k4, .ref k5, .ref k6, .null])), (k1, .inl (G.2.1 1, 5000, .inl f))] s.heap.size q := fun q h => Or.inr h
  have hP : va_P G.1 pCl [(h0, .inr (8, [.ref k1, .int 0, .ref k2, .ref k3, .ref k4, .ref k5, .ref k6, .null])), (k1, .inl (G.2.1 1, 5000, .inl f))] s.heap := hP
  generalize va_A [(h0, .inr (8, [.ref k1, .int 0, .ref k2, .ref k3, .ref k4, .ref k5, .ref k6, .null])), (k1, .inl (G.2.1 1, 5000, .inl f))] s.heap.size = A at hD hE hA ⊢
  have hS : va_S A s.heap s.heap [] := va_S.rf
  have hl := lv_entry ([.ref h0, .int x]) (n := 3) (Nat.le_of_ble_eq_true rfl)
  rw [lg_entry_eq]
  generalize (lg_sl ([.ref h0, .int x]) ++ List.replicate (3 - (lg_sl ([.ref h0, .int x])).length) Slot.unset).toArray = ls at hl ⊢
  have hl : lv_has ls 3 [(0, .ref h0), (1, .int x)] := hl
  refine lv_bipush (v := 24) hx hb dX11_append_0 (by decide) ?_
  refine lv_istore_n (lv' := [(2, .int 24), (0, .ref h0), (1, .int x)]) hx hb dX11_append_2 rfl hl (by decide) rfl (fun ls hl => ?_)
  refine lv_iload_n hx hb dX11_append_3 rfl (lv_at hl 0 rfl) ?_
  refine lv_if_lt (tgt := 48) hx hb dX11_append_4 (by decide) (fun c1 => absurd c1 (by decide)) (fun c1 => ?_)
  refine lv_aload_n hx hb dX11_append_7 rfl (lv_at hl 1 rfl) ?_
  refine va_get (D := G.1) (ci := 8) (v := .int 0) (C := RX11) (T := TX11) (N := 8) hx hb hq pin_wsX110 hown hE.1.1 hP 0 rfl rfl 1 (by decide) (hq _ pw_17) (fun _ h9 => h9) rfl dX11_append_8 ?_
  refine lv_aload_n hx hb dX11_append_11 rfl (lv_at hl 1 rfl) ?_
  refine va_get (D := G.1) (ci := 8) (v := .ref k1) (C := RX11) (T := TX11) (N := 8) hx hb hq pin_wsX110 hown hE.1.1 hP 0 rfl rfl 0 (by decide) (hq _ pw_1) (fun _ h9 => h9) rfl dX11_append_12 ?_
  refine va_alen (v := 5000) hx hb hE.1.1 hP 1 1 rfl rfl (show Int32.ofNat 5000 = 5000 from by decide) dX11_append_15 ?_
  refine lv_icmp_ge (tgt := 42) hx hb dX11_append_16 (by decide) (fun c2 => absurd c2 (by decide)) (fun c2 => ?_)
  refine lv_aload_n hx hb dX11_append_19 rfl (lv_at hl 1 rfl) ?_
  refine va_get (D := G.1) (ci := 8) (v := .ref k1) (C := RX11) (T := TX11) (N := 8) hx hb hq pin_wsX110 hown hE.1.1 hP 0 rfl rfl 0 (by decide) (hq _ pw_1) (fun _ h9 => h9) rfl dX11_append_20 ?_
  refine lv_aload_n hx hb dX11_append_23 rfl (lv_at hl 1 rfl) ?_
  refine va_get (D := G.1) (ci := 8) (v := .int 0) (C := RX11) (T := TX11) (N := 8) hx hb hq pin_wsX110 hown hE.1.1 hP 0 rfl rfl 1 (by decide) (hq _ pw_17) (fun _ h9 => h9) rfl dX11_append_24 ?_
  refine lv_iload_n hx hb dX11_append_27 rfl (lv_at hl 2 rfl) ?_
  refine lv_iload_n hx hb dX11_append_28 rfl (lv_at hl 0 rfl) ?_
  refine lv_iushr hx hb dX11_append_29 rfl ?_
  refine lv_topi (fun x3 e4 => ?_)
  refine lv_i2b hx hb dX11_append_30 rfl ?_
  refine lv_topi (fun x5 e6 => ?_)
  refine va_bast hx hb hE.1.1 hP hD hS 1 1 rfl rfl (by unfold vp_in; decide) dX11_append_31 (fun H locs hP hD hS => ?_)
  have hP : va_P G.1 pCl [(h0, .inr (8, [.ref k1, .int 0, .ref k2, .ref k3, .ref k4, .ref k5, .ref k6, .null])), (k1, .inl (G.2.1 1, 5000, .inl (upd f (Int32.toNatClampNeg 0) (vp_nar .byte x5))))] H := hP
  have hD : va_D A [(h0, .inr (8, [.ref k1, .int 0, .ref k2, .ref k3, .ref k4, .ref k5, .ref k6, .null])), (k1, .inl (G.2.1 1, 5000, .inl (upd f (Int32.toNatClampNeg 0) (vp_nar .byte x5))))] := hD
  generalize (upd f (Int32.toNatClampNeg 0) (vp_nar .byte x5)) = f7 at hP hD
  refine lv_aload_n hx hb dX11_append_32 rfl (lv_at hl 1 rfl) ?_
  refine lv_dup hx hb dX11_append_33 rfl ?_
  refine va_get (D := G.1) (ci := 8) (v := .int 0) (C := RX11) (T := TX11) (N := 8) hx hb hq pin_wsX110 hown hE.1.1 hP 0 rfl rfl 1 (by decide) (hq _ pw_17) (fun _ h9 => h9) rfl dX11_append_34 ?_
  refine lv_iconst (v := 1) hx hb dX11_append_37 (by decide) ?_
  refine lv_iadd hx hb dX11_append_38 ?_
  refine lv_topi (fun x8 e9 => ?_)
  obtain rfl : x8 = 1 := e9.trans (by decide)
  refine va_put (D := G.1) (ci := 8) (v := .int 1) (ty := .int) (C := RX11) (T := TX11) (N := 8) hx hb hq pin_wsX110 tyX11 tyX11_ok nmX11 hown hE.1.1 hP hD hS 0 rfl rfl 1 (by decide) (hq _ pw_17) (fun _ h9 => h9) rfl (by decide +kernel) rfl rfl (Nat.le_of_ble_eq_true rfl) dX11_append_39 (fun H locs hP hD hS => ?_)
  have hP : va_P G.1 pCl [(h0, .inr (8, [.ref k1, .int 1, .ref k2, .ref k3, .ref k4, .ref k5, .ref k6, .null])), (k1, .inl (G.2.1 1, 5000, .inl f7))] H := hP
  have hD : va_D A [(h0, .inr (8, [.ref k1, .int 1, .ref k2, .ref k3, .ref k4, .ref k5, .ref k6, .null])), (k1, .inl (G.2.1 1, 5000, .inl f7))] := hD
  refine lv_iinc (v := 16) (lv' := [(2, .int 16), (0, .ref h0), (1, .int x)]) hx hb dX11_append_42 hl (k := 0) rfl (by decide) (by decide) rfl (fun ls hl => ?_)
  refine lv_goto (tgt := 3) hx hb dX11_append_45 (by decide) ?_
  refine lv_iload_n hx hb dX11_append_3 rfl (lv_at hl 0 rfl) ?_
  refine lv_if_lt (tgt := 48) hx hb dX11_append_4 (by decide) (fun c10 => absurd c10 (by decide)) (fun c10 => ?_)
  refine lv_aload_n hx hb dX11_append_7 rfl (lv_at hl 1 rfl) ?_
  refine va_get (D := G.1) (ci := 8) (v := .int 1) (C := RX11) (T := TX11) (N := 8) hx hb hq pin_wsX110 hown hE.1.1 hP 0 rfl rfl 1 (by decide) (hq _ pw_17) (fun _ h9 => h9) rfl dX11_append_8 ?_
  refine lv_aload_n hx hb dX11_append_11 rfl (lv_at hl 1 rfl) ?_
  refine va_get (D := G.1) (ci := 8) (v := .ref k1) (C := RX11) (T := TX11) (N := 8) hx hb hq pin_wsX110 hown hE.1.1 hP 0 rfl rfl 0 (by decide) (hq _ pw_1) (fun _ h9 => h9) rfl dX11_append_12 ?_
  refine va_alen (v := 5000) hx hb hE.1.1 hP 1 1 rfl rfl (show Int32.ofNat 5000 = 5000 from by decide) dX11_append_15 ?_
  refine lv_icmp_ge (tgt := 42) hx hb dX11_append_16 (by decide) (fun c11 => absurd c11 (by decide)) (fun c11 => ?_)
  refine lv_aload_n hx hb dX11_append_19 rfl (lv_at hl 1 rfl) ?_
  refine va_get (D := G.1) (ci := 8) (v := .ref k1) (C := RX11) (T := TX11) (N := 8) hx hb hq pin_wsX110 hown hE.1.1 hP 0 rfl rfl 0 (by decide) (hq _ pw_1) (fun _ h9 => h9) rfl dX11_append_20 ?_
  refine lv_aload_n hx hb dX11_append_23 rfl (lv_at hl 1 rfl) ?_
  refine va_get (D := G.1) (ci := 8) (v := .int 1) (C := RX11) (T := TX11) (N := 8) hx hb hq pin_wsX110 hown hE.1.1 hP 0 rfl rfl 1 (by decide) (hq _ pw_17) (fun _ h9 => h9) rfl dX11_append_24 ?_
  refine lv_iload_n hx hb dX11_append_27 rfl (lv_at hl 2 rfl) ?_
  refine lv_iload_n hx hb dX11_append_28 rfl (lv_at hl 0 rfl) ?_
  refine lv_iushr hx hb dX11_append_29 rfl ?_
  refine lv_topi (fun x12 e13 => ?_)
  refine lv_i2b hx hb dX11_append_30 rfl ?_
  refine lv_topi (fun x14 e15 => ?_)
  refine va_bast hx hb hE.1.1 hP hD hS 1 1 rfl rfl (by unfold vp_in; decide) dX11_append_31 (fun H locs hP hD hS => ?_)
  have hP : va_P G.1 pCl [(h0, .inr (8, [.ref k1, .int 1, .ref k2, .ref k3, .ref k4, .ref k5, .ref k6, .null])), (k1, .inl (G.2.1 1, 5000, .inl (upd f7 (Int32.toNatClampNeg 1) (vp_nar .byte x14))))] H := hP
  have hD : va_D A [(h0, .inr (8, [.ref k1, .int 1, .ref k2, .ref k3, .ref k4, .ref k5, .ref k6, .null])), (k1, .inl (G.2.1 1, 5000, .inl (upd f7 (Int32.toNatClampNeg 1) (vp_nar .byte x14))))] := hD
  generalize (upd f7 (Int32.toNatClampNeg 1) (vp_nar .byte x14)) = f16 at hP hD
  refine lv_aload_n hx hb dX11_append_32 rfl (lv_at hl 1 rfl) ?_
  refine lv_dup hx hb dX11_append_33 rfl ?_
  refine va_get (D := G.1) (ci := 8) (v := .int 1) (C := RX11) (T := TX11) (N := 8) hx hb hq pin_wsX110 hown hE.1.1 hP 0 rfl rfl 1 (by decide) (hq _ pw_17) (fun _ h9 => h9) rfl dX11_append_34 ?_
  refine lv_iconst (v := 1) hx hb dX11_append_37 (by decide) ?_
  refine lv_iadd hx hb dX11_append_38 ?_
  refine lv_topi (fun x17 e18 => ?_)
  obtain rfl : x17 = 2 := e18.trans (by decide)
  refine va_put (D := G.1) (ci := 8) (v := .int 2) (ty := .int) (C := RX11) (T := TX11) (N := 8) hx hb hq pin_wsX110 tyX11 tyX11_ok nmX11 hown hE.1.1 hP hD hS 0 rfl rfl 1 (by decide) (hq _ pw_17) (fun _ h9 => h9) rfl (by decide +kernel) rfl rfl (Nat.le_of_ble_eq_true rfl) dX11_append_39 (fun H locs hP hD hS => ?_)
  have hP : va_P G.1 pCl [(h0, .inr (8, [.ref k1, .int 2, .ref k2, .ref k3, .ref k4, .ref k5, .ref k6, .null])), (k1, .inl (G.2.1 1, 5000, .inl f16))] H := hP
  have hD : va_D A [(h0, .inr (8, [.ref k1, .int 2, .ref k2, .ref k3, .ref k4, .ref k5, .ref k6, .null])), (k1, .inl (G.2.1 1, 5000, .inl f16))] := hD
  refine lv_iinc (v := 8) (lv' := [(2, .int 8), (0, .ref h0), (1, .int x)]) hx hb dX11_append_42 hl (k := 0) rfl (by decide) (by decide) rfl (fun ls hl => ?_)
  refine lv_goto (tgt := 3) hx hb dX11_append_45 (by decide) ?_
  refine lv_iload_n hx hb dX11_append_3 rfl (lv_at hl 0 rfl) ?_
  refine lv_if_lt (tgt := 48) hx hb dX11_append_4 (by decide) (fun c19 => absurd c19 (by decide)) (fun c19 => ?_)
  refine lv_aload_n hx hb dX11_append_7 rfl (lv_at hl 1 rfl) ?_
  refine va_get (D := G.1) (ci := 8) (v := .int 2) (C := RX11) (T := TX11) (N := 8) hx hb hq pin_wsX110 hown hE.1.1 hP 0 rfl rfl 1 (by decide) (hq _ pw_17) (fun _ h9 => h9) rfl dX11_append_8 ?_
  refine lv_aload_n hx hb dX11_append_11 rfl (lv_at hl 1 rfl) ?_
  refine va_get (D := G.1) (ci := 8) (v := .ref k1) (C := RX11) (T := TX11) (N := 8) hx hb hq pin_wsX110 hown hE.1.1 hP 0 rfl rfl 0 (by decide) (hq _ pw_1) (fun _ h9 => h9) rfl dX11_append_12 ?_
  refine va_alen (v := 5000) hx hb hE.1.1 hP 1 1 rfl rfl (show Int32.ofNat 5000 = 5000 from by decide) dX11_append_15 ?_
  refine lv_icmp_ge (tgt := 42) hx hb dX11_append_16 (by decide) (fun c20 => absurd c20 (by decide)) (fun c20 => ?_)
  refine lv_aload_n hx hb dX11_append_19 rfl (lv_at hl 1 rfl) ?_
  refine va_get (D := G.1) (ci := 8) (v := .ref k1) (C := RX11) (T := TX11) (N := 8) hx hb hq pin_wsX110 hown hE.1.1 hP 0 rfl rfl 0 (by decide) (hq _ pw_1) (fun _ h9 => h9) rfl dX11_append_20 ?_
  refine lv_aload_n hx hb dX11_append_23 rfl (lv_at hl 1 rfl) ?_
  refine va_get (D := G.1) (ci := 8) (v := .int 2) (C := RX11) (T := TX11) (N := 8) hx hb hq pin_wsX110 hown hE.1.1 hP 0 rfl rfl 1 (by decide) (hq _ pw_17) (fun _ h9 => h9) rfl dX11_append_24 ?_
  refine lv_iload_n hx hb dX11_append_27 rfl (lv_at hl 2 rfl) ?_
  refine lv_iload_n hx hb dX11_append_28 rfl (lv_at hl 0 rfl) ?_
  refine lv_iushr hx hb dX11_append_29 rfl ?_
  refine lv_topi (fun x21 e22 => ?_)
  refine lv_i2b hx hb dX11_append_30 rfl ?_
  refine lv_topi (fun x23 e24 => ?_)
  refine va_bast hx hb hE.1.1 hP hD hS 1 1 rfl rfl (by unfold vp_in; decide) dX11_append_31 (fun H locs hP hD hS => ?_)
  have hP : va_P G.1 pCl [(h0, .inr (8, [.ref k1, .int 2, .ref k2, .ref k3, .ref k4, .ref k5, .ref k6, .null])), (k1, .inl (G.2.1 1, 5000, .inl (upd f16 (Int32.toNatClampNeg 2) (vp_nar .byte x23))))] H := hP
  have hD : va_D A [(h0, .inr (8, [.ref k1, .int 2, .ref k2, .ref k3, .ref k4, .ref k5, .ref k6, .null])), (k1, .inl (G.2.1 1, 5000, .inl (upd f16 (Int32.toNatClampNeg 2) (vp_nar .byte x23))))] := hD
  generalize (upd f16 (Int32.toNatClampNeg 2) (vp_nar .byte x23)) = f25 at hP hD
  refine lv_aload_n hx hb dX11_append_32 rfl (lv_at hl 1 rfl) ?_
  refine lv_dup hx hb dX11_append_33 rfl ?_
  refine va_get (D := G.1) (ci := 8) (v := .int 2) (C := RX11) (T := TX11) (N := 8) hx hb hq pin_wsX110 hown hE.1.1 hP 0 rfl rfl 1 (by decide) (hq _ pw_17) (fun _ h9 => h9) rfl dX11_append_34 ?_
  refine lv_iconst (v := 1) hx hb dX11_append_37 (by decide) ?_
  refine lv_iadd hx hb dX11_append_38 ?_
  refine lv_topi (fun x26 e27 => ?_)
  obtain rfl : x26 = 3 := e27.trans (by decide)
  refine va_put (D := G.1) (ci := 8) (v := .int 3) (ty := .int) (C := RX11) (T := TX11) (N := 8) hx hb hq pin_wsX110 tyX11 tyX11_ok nmX11 hown hE.1.1 hP hD hS 0 rfl rfl 1 (by decide) (hq _ pw_17) (fun _ h9 => h9) rfl (by decide +kernel) rfl rfl (Nat.le_of_ble_eq_true rfl) dX11_append_39 (fun H locs hP hD hS => ?_)
  have hP : va_P G.1 pCl [(h0, .inr (8, [.ref k1, .int 3, .ref k2, .ref k3, .ref k4, .ref k5, .ref k6, .null])), (k1, .inl (G.2.1 1, 5000, .inl f25))] H := hP
  have hD : va_D A [(h0, .inr (8, [.ref k1, .int 3, .ref k2, .ref k3, .ref k4, .ref k5, .ref k6, .null])), (k1, .inl (G.2.1 1, 5000, .inl f25))] := hD
  refine lv_iinc (v := 0) (lv' := [(2, .int 0), (0, .ref h0), (1, .int x)]) hx hb dX11_append_42 hl (k := 0) rfl (by decide) (by decide) rfl (fun ls hl => ?_)
  refine lv_goto (tgt := 3) hx hb dX11_append_45 (by decide) ?_
  refine lv_iload_n hx hb dX11_append_3 rfl (lv_at hl 0 rfl) ?_
  refine lv_if_lt (tgt := 48) hx hb dX11_append_4 (by decide) (fun c28 => absurd c28 (by decide)) (fun c28 => ?_)
  refine lv_aload_n hx hb dX11_append_7 rfl (lv_at hl 1 rfl) ?_
  refine va_get (D := G.1) (ci := 8) (v := .int 3) (C := RX11) (T := TX11) (N := 8) hx hb hq pin_wsX110 hown hE.1.1 hP 0 rfl rfl 1 (by decide) (hq _ pw_17) (fun _ h9 => h9) rfl dX11_append_8 ?_
  refine lv_aload_n hx hb dX11_append_11 rfl (lv_at hl 1 rfl) ?_
  refine va_get (D := G.1) (ci := 8) (v := .ref k1) (C := RX11) (T := TX11) (N := 8) hx hb hq pin_wsX110 hown hE.1.1 hP 0 rfl rfl 0 (by decide) (hq _ pw_1) (fun _ h9 => h9) rfl dX11_append_12 ?_
  refine va_alen (v := 5000) hx hb hE.1.1 hP 1 1 rfl rfl (show Int32.ofNat 5000 = 5000 from by decide) dX11_append_15 ?_
  refine lv_icmp_ge (tgt := 42) hx hb dX11_append_16 (by decide) (fun c29 => absurd c29 (by decide)) (fun c29 => ?_)
  refine lv_aload_n hx hb dX11_append_19 rfl (lv_at hl 1 rfl) ?_
  refine va_get (D := G.1) (ci := 8) (v := .ref k1) (C := RX11) (T := TX11) (N := 8) hx hb hq pin_wsX110 hown hE.1.1 hP 0 rfl rfl 0 (by decide) (hq _ pw_1) (fun _ h9 => h9) rfl dX11_append_20 ?_
  refine lv_aload_n hx hb dX11_append_23 rfl (lv_at hl 1 rfl) ?_
  refine va_get (D := G.1) (ci := 8) (v := .int 3) (C := RX11) (T := TX11) (N := 8) hx hb hq pin_wsX110 hown hE.1.1 hP 0 rfl rfl 1 (by decide) (hq _ pw_17) (fun _ h9 => h9) rfl dX11_append_24 ?_
  refine lv_iload_n hx hb dX11_append_27 rfl (lv_at hl 2 rfl) ?_
  refine lv_iload_n hx hb dX11_append_28 rfl (lv_at hl 0 rfl) ?_
  refine lv_iushr hx hb dX11_append_29 rfl ?_
  refine lv_topi (fun x30 e31 => ?_)
  refine lv_i2b hx hb dX11_append_30 rfl ?_
  refine lv_topi (fun x32 e33 => ?_)
  refine va_bast hx hb hE.1.1 hP hD hS 1 1 rfl rfl (by unfold vp_in; decide) dX11_append_31 (fun H locs hP hD hS => ?_)
  have hP : va_P G.1 pCl [(h0, .inr (8, [.ref k1, .int 3, .ref k2, .ref k3, .ref k4, .ref k5, .ref k6, .null])), (k1, .inl (G.2.1 1, 5000, .inl (upd f25 (Int32.toNatClampNeg 3) (vp_nar .byte x32))))] H := hP
  have hD : va_D A [(h0, .inr (8, [.ref k1, .int 3, .ref k2, .ref k3, .ref k4, .ref k5, .ref k6, .null])), (k1, .inl (G.2.1 1, 5000, .inl (upd f25 (Int32.toNatClampNeg 3) (vp_nar .byte x32))))] := hD
  generalize (upd f25 (Int32.toNatClampNeg 3) (vp_nar .byte x32)) = f34 at hP hD
  refine lv_aload_n hx hb dX11_append_32 rfl (lv_at hl 1 rfl) ?_
  refine lv_dup hx hb dX11_append_33 rfl ?_
  refine va_get (D := G.1) (ci := 8) (v := .int 3) (C := RX11) (T := TX11) (N := 8) hx hb hq pin_wsX110 hown hE.1.1 hP 0 rfl rfl 1 (by decide) (hq _ pw_17) (fun _ h9 => h9) rfl dX11_append_34 ?_
  refine lv_iconst (v := 1) hx hb dX11_append_37 (by decide) ?_
  refine lv_iadd hx hb dX11_append_38 ?_
  refine lv_topi (fun x35 e36 => ?_)
  obtain rfl : x35 = 4 := e36.trans (by decide)
  refine va_put (D := G.1) (ci := 8) (v := .int 4) (ty := .int) (C := RX11) (T := TX11) (N := 8) hx hb hq pin_wsX110 tyX11 tyX11_ok nmX11 hown hE.1.1 hP hD hS 0 rfl rfl 1 (by decide) (hq _ pw_17) (fun _ h9 => h9) rfl (by decide +kernel) rfl rfl (Nat.le_of_ble_eq_true rfl) dX11_append_39 (fun H locs hP hD hS => ?_)
  have hP : va_P G.1 pCl [(h0, .inr (8, [.ref k1, .int 4, .ref k2, .ref k3, .ref k4, .ref k5, .ref k6, .null])), (k1, .inl (G.2.1 1, 5000, .inl f34))] H := hP
  have hD : va_D A [(h0, .inr (8, [.ref k1, .int 4, .ref k2, .ref k3, .ref k4, .ref k5, .ref k6, .null])), (k1, .inl (G.2.1 1, 5000, .inl f34))] := hD
  refine lv_iinc (v := (-8)) (lv' := [(2, .int (-8)), (0, .ref h0), (1, .int x)]) hx hb dX11_append_42 hl (k := 0) rfl (by decide) (by decide) rfl (fun ls hl => ?_)
  refine lv_goto (tgt := 3) hx hb dX11_append_45 (by decide) ?_
  refine lv_iload_n hx hb dX11_append_3 rfl (lv_at hl 0 rfl) ?_
  refine lv_if_lt (tgt := 48) hx hb dX11_append_4 (by decide) (fun c37 => ?_) (fun c37 => absurd c37 (by decide))
  refine W.widen (k := 0) (n := 0) (Nat.le_of_ble_eq_true rfl) (Nat.le_of_ble_eq_true rfl) ?_
  exact W.vret hx hb hr (fun t ht hW => ⟨⟨_, ((fun _ => 0), (fun k => match k with | _ => f34), (fun _ => fun _ => 0)), rfl, rfl, by rw [ht]; exact hP.sub [0, 1] rfl, hD.sub [0, 1] (by decide) rfl⟩, hS.F ht⟩) hS.2.2 dX11_append_48
set_option maxHeartbeats 1000000 in
set_option maxRecDepth 100000 in
/-- append, 4 bytes on the tape -/
theorem c_append_4 (l : Launch) (G : pT) (h0 : Nat) (k1 : Nat) (k2 : Nat) (k3 : Nat) (k4 : Nat) (k5 : Nat) (k6 : Nat) (f : Nat → Int32) (x : Int32) : PM l G pX0 yX11_append cX11_append 3 none ({ frames := 2, cells := 0, slots := 0, locals := 60 }) [.ref h0, .int x] [(h0, .inr (8, [.ref k1, .int 4, .ref k2, .ref k3, .ref k4, .ref k5, .ref k6, .null])), (k1, .inl (G.2.1 1, 5000, .inl f))] (fun (v : Option Value) (u : (Nat → Nat) × (Nat → Nat → Int32) × (Nat → Nat → Int64)) => v = none) (fun u => [(h0, .inr (8, [.ref k1, .int 8, .ref k2, .ref k3, .ref k4, .ref k5, .ref k6, .null])), (k1, .inl (G.2.1 1, 5000, .inl (u.2.1 0)))]) := by
  intro sz
  refine Met.ofW (cc := cX11_append) (maxL := 3) (ret := none) (by decide) rfl ?_
  intro p e s m args below meth c s₁ B hml hv
  obtain ⟨rfl, hsz, hP, hD0, hE, hX⟩ := hv
  have hx := B.exec
  have hb := B.bytes
  have hr := B.returns
  have hts := atoms_spec (ws := Cond.code yX11_append cX11_append 3 none :: pw) B.pre
  have hq : ∀ w ∈ pw, w.before _ s = true := fun w h => hts w (List.mem_cons_of_mem _ h)
  have hown : s.vm.findClass RX11 = some m.cls := findClass_of_methodNamed B.named
  have hlocks := B.notSynchronized
  subst hsz
  have hD := hD0.self (sz := s.heap.size)
  have hA : ∀ q : Nat, s.heap.size ≤ q → va_A [(h0, .inr (8, [.ref k1, .int 4, .ref k2, .ref k3, .ref k4, .ref k5, .ref k6, .null])), (k1, .inl (G.2.1 1, 5000, .inl f))] s.heap.size q := fun q h => Or.inr h
  have hP : va_P G.1 pCl [(h0, .inr (8, [.ref k1, .int 4, .ref k2, .ref k3, .ref k4, .ref k5, .ref k6, .null])), (k1, .inl (G.2.1 1, 5000, .inl f))] s.heap := hP
  generalize va_A [(h0, .inr (8, [.ref k1, .int 4, .ref k2, .ref k3, .ref k4, .ref k5, .ref k6, .null])), (k1, .inl (G.2.1 1, 5000, .inl f))] s.heap.size = A at hD hE hA ⊢
  have hS : va_S A s.heap s.heap [] := va_S.rf
  have hl := lv_entry ([.ref h0, .int x]) (n := 3) (Nat.le_of_ble_eq_true rfl)
  rw [lg_entry_eq]
  generalize (lg_sl ([.ref h0, .int x]) ++ List.replicate (3 - (lg_sl ([.ref h0, .int x])).length) Slot.unset).toArray = ls at hl ⊢
  have hl : lv_has ls 3 [(0, .ref h0), (1, .int x)] := hl
  refine lv_bipush (v := 24) hx hb dX11_append_0 (by decide) ?_
  refine lv_istore_n (lv' := [(2, .int 24), (0, .ref h0), (1, .int x)]) hx hb dX11_append_2 rfl hl (by decide) rfl (fun ls hl => ?_)
  refine lv_iload_n hx hb dX11_append_3 rfl (lv_at hl 0 rfl) ?_
  refine lv_if_lt (tgt := 48) hx hb dX11_append_4 (by decide) (fun c1 => absurd c1 (by decide)) (fun c1 => ?_)
  refine lv_aload_n hx hb dX11_append_7 rfl (lv_at hl 1 rfl) ?_
  refine va_get (D := G.1) (ci := 8) (v := .int 4) (C := RX11) (T := TX11) (N := 8) hx hb hq pin_wsX110 hown hE.1.1 hP 0 rfl rfl 1 (by decide) (hq _ pw_17) (fun _ h9 => h9) rfl dX11_append_8 ?_
  refine lv_aload_n hx hb dX11_append_11 rfl (lv_at hl 1 rfl) ?_
  refine va_get (D := G.1) (ci := 8) (v := .ref k1) (C := RX11) (T := TX11) (N := 8) hx hb hq pin_wsX110 hown hE.1.1 hP 0 rfl rfl 0 (by decide) (hq _ pw_1) (fun _ h9 => h9) rfl dX11_append_12 ?_
  refine va_alen (v := 5000) hx hb hE.1.1 hP 1 1 rfl rfl (show Int32.ofNat 5000 = 5000 from by decide) dX11_append_15 ?_
  refine lv_icmp_ge (tgt := 42) hx hb dX11_append_16 (by decide) (fun c2 => absurd c2 (by decide)) (fun c2 => ?_)
  refine lv_aload_n hx hb dX11_append_19 rfl (lv_at hl 1 rfl) ?_
  refine va_get (D := G.1) (ci := 8) (v := .ref k1) (C := RX11) (T := TX11) (N := 8) hx hb hq pin_wsX110 hown hE.1.1 hP 0 rfl rfl 0 (by decide) (hq _ pw_1) (fun _ h9 => h9) rfl dX11_append_20 ?_
  refine lv_aload_n hx hb dX11_append_23 rfl (lv_at hl 1 rfl) ?_
  refine va_get (D := G.1) (ci := 8) (v := .int 4) (C := RX11) (T := TX11) (N := 8) hx hb hq pin_wsX110 hown hE.1.1 hP 0 rfl rfl 1 (by decide) (hq _ pw_17) (fun _ h9 => h9) rfl dX11_append_24 ?_
  refine lv_iload_n hx hb dX11_append_27 rfl (lv_at hl 2 rfl) ?_
  refine lv_iload_n hx hb dX11_append_28 rfl (lv_at hl 0 rfl) ?_
  refine lv_iushr hx hb dX11_append_29 rfl ?_
  refine lv_topi (fun x3 e4 => ?_)
  refine lv_i2b hx hb dX11_append_30 rfl ?_
  refine lv_topi (fun x5 e6 => ?_)
  refine va_bast hx hb hE.1.1 hP hD hS 1 1 rfl rfl (by unfold vp_in; decide) dX11_append_31 (fun H locs hP hD hS => ?_)
  have hP : va_P G.1 pCl [(h0, .inr (8, [.ref k1, .int 4, .ref k2, .ref k3, .ref k4, .ref k5, .ref k6, .null])), (k1, .inl (G.2.1 1, 5000, .inl (upd f (Int32.toNatClampNeg 4) (vp_nar .byte x5))))] H := hP
  have hD : va_D A [(h0, .inr (8, [.ref k1, .int 4, .ref k2, .ref k3, .ref k4, .ref k5, .ref k6, .null])), (k1, .inl (G.2.1 1, 5000, .inl (upd f (Int32.toNatClampNeg 4) (vp_nar .byte x5))))] := hD
  generalize (upd f (Int32.toNatClampNeg 4) (vp_nar .byte x5)) = f7 at hP hD
  refine lv_aload_n hx hb dX11_append_32 rfl (lv_at hl 1 rfl) ?_
  refine lv_dup hx hb dX11_append_33 rfl ?_
  refine va_get (D := G.1) (ci := 8) (v := .int 4) (C := RX11) (T := TX11) (N := 8) hx hb hq pin_wsX110 hown hE.1.1 hP 0 rfl rfl 1 (by decide) (hq _ pw_17) (fun _ h9 => h9) rfl dX11_append_34 ?_
  refine lv_iconst (v := 1) hx hb dX11_append_37 (by decide) ?_
  refine lv_iadd hx hb dX11_append_38 ?_
  refine lv_topi (fun x8 e9 => ?_)
  obtain rfl : x8 = 5 := e9.trans (by decide)
  refine va_put (D := G.1) (ci := 8) (v := .int 5) (ty := .int) (C := RX11) (T := TX11) (N := 8) hx hb hq pin_wsX110 tyX11 tyX11_ok nmX11 hown hE.1.1 hP hD hS 0 rfl rfl 1 (by decide) (hq _ pw_17) (fun _ h9 => h9) rfl (by decide +kernel) rfl rfl (Nat.le_of_ble_eq_true rfl) dX11_append_39 (fun H locs hP hD hS => ?_)
  have hP : va_P G.1 pCl [(h0, .inr (8, [.ref k1, .int 5, .ref k2, .ref k3, .ref k4, .ref k5, .ref k6, .null])), (k1, .inl (G.2.1 1, 5000, .inl f7))] H := hP
  have hD : va_D A [(h0, .inr (8, [.ref k1, .int 5, .ref k2, .ref k3, .ref k4, .ref k5, .ref k6, .null])), (k1, .inl (G.2.1 1, 5000, .inl f7))] := hD
  refine lv_iinc (v := 16) (lv' := [(2, .int 16), (0, .ref h0), (1, .int x)]) hx hb dX11_append_42 hl (k := 0) rfl (by decide) (by decide) rfl (fun ls hl => ?_)
  refine lv_goto (tgt := 3) hx hb dX11_append_45 (by decide) ?_
  refine lv_iload_n hx hb dX11_append_3 rfl (lv_at hl 0 rfl) ?_
  refine lv_if_lt (tgt := 48) hx hb dX11_append_4 (by decide) (fun c10 => absurd c10 (by decide)) (fun c10 => ?_)
  refine lv_aload_n hx hb dX11_append_7 rfl (lv_at hl 1 rfl) ?_
  refine va_get (D := G.1) (ci := 8) (v := .int 5) (C := RX11) (T := TX11) (N := 8) hx hb hq pin_wsX110 hown hE.1.1 hP 0 rfl rfl 1 (by decide) (hq _ pw_17) (fun _ h9 => h9) rfl dX11_append_8 ?_
  refine lv_aload_n hx hb dX11_append_11 rfl (lv_at hl 1 rfl) ?_
  refine va_get (D := G.1) (ci := 8) (v := .ref k1) (C := RX11) (T := TX11) (N := 8) hx hb hq pin_wsX110 hown hE.1.1 hP 0 rfl rfl 0 (by decide) (hq _ pw_1) (fun _ h9 => h9) rfl dX11_append_12 ?_
  refine va_alen (v := 5000) hx hb hE.1.1 hP 1 1 rfl rfl (show Int32.ofNat 5000 = 5000 from by decide) dX11_append_15 ?_
  refine lv_icmp_ge (tgt := 42) hx hb dX11_append_16 (by decide) (fun c11 => absurd c11 (by decide)) (fun c11 => ?_)
  refine lv_aload_n hx hb dX11_append_19 rfl (lv_at hl 1 rfl) ?_
  refine va_get (D := G.1) (ci := 8) (v := .ref k1) (C := RX11) (T := TX11) (N := 8) hx hb hq pin_wsX110 hown hE.1.1 hP 0 rfl rfl 0 (by decide) (hq _ pw_1) (fun _ h9 => h9) rfl dX11_append_20 ?_
  refine lv_aload_n hx hb dX11_append_23 rfl (lv_at hl 1 rfl) ?_
  refine va_get (D := G.1) (ci := 8) (v := .int 5) (C := RX11) (T := TX11) (N := 8) hx hb hq pin_wsX110 hown hE.1.1 hP 0 rfl rfl 1 (by decide) (hq _ pw_17) (fun _ h9 => h9) rfl dX11_append_24 ?_
  refine lv_iload_n hx hb dX11_append_27 rfl (lv_at hl 2 rfl) ?_
  refine lv_iload_n hx hb dX11_append_28 rfl (lv_at hl 0 rfl) ?_
  refine lv_iushr hx hb dX11_append_29 rfl ?_
  refine lv_topi (fun x12 e13 => ?_)
  refine lv_i2b hx hb dX11_append_30 rfl ?_
  refine lv_topi (fun x14 e15 => ?_)
  refine va_bast hx hb hE.1.1 hP hD hS 1 1 rfl rfl (by unfold vp_in; decide) dX11_append_31 (fun H locs hP hD hS => ?_)
  have hP : va_P G.1 pCl [(h0, .inr (8, [.ref k1, .int 5, .ref k2, .ref k3, .ref k4, .ref k5, .ref k6, .null])), (k1, .inl (G.2.1 1, 5000, .inl (upd f7 (Int32.toNatClampNeg 5) (vp_nar .byte x14))))] H := hP
  have hD : va_D A [(h0, .inr (8, [.ref k1, .int 5, .ref k2, .ref k3, .ref k4, .ref k5, .ref k6, .null])), (k1, .inl (G.2.1 1, 5000, .inl (upd f7 (Int32.toNatClampNeg 5) (vp_nar .byte x14))))] := hD
  generalize (upd f7 (Int32.toNatClampNeg 5) (vp_nar .byte x14)) = f16 at hP hD
  refine lv_aload_n hx hb dX11_append_32 rfl (lv_at hl 1 rfl) ?_
  refine lv_dup hx hb dX11_append_33 rfl ?_
  refine va_get (D := G.1) (ci := 8) (v := .int 5) (C := RX11) (T := TX11) (N := 8) hx hb hq pin_wsX110 hown hE.1.1 hP 0 rfl rfl 1 (by decide) (hq _ pw_17) (fun _ h9 => h9) rfl dX11_append_34 ?_
  refine lv_iconst (v := 1) hx hb dX11_append_37 (by decide) ?_
  refine lv_iadd hx hb dX11_append_38 ?_
  refine lv_topi (fun x17 e18 => ?_)
  obtain rfl : x17 = 6 := e18.trans (by decide)
  refine va_put (D := G.1) (ci := 8) (v := .int 6) (ty := .int) (C := RX11) (T := TX11) (N := 8) hx hb hq pin_wsX110 tyX11 tyX11_ok nmX11 hown hE.1.1 hP hD hS 0 rfl rfl 1 (by decide) (hq _ pw_17) (fun _ h9 => h9) rfl (by decide +kernel) rfl rfl (Nat.le_of_ble_eq_true rfl) dX11_append_39 (fun H locs hP hD hS => ?_)
  have hP : va_P G.1 pCl [(h0, .inr (8, [.ref k1, .int 6, .ref k2, .ref k3, .ref k4, .ref k5, .ref k6, .null])), (k1, .inl (G.2.1 1, 5000, .inl f16))] H := hP
  have hD : va_D A [(h0, .inr (8, [.ref k1, .int 6, .ref k2, .ref k3, .ref k4, .ref k5, .ref k6, .null])), (k1, .inl (G.2.1 1, 5000, .inl f16))] := hD
  refine lv_iinc (v := 8) (lv' := [(2, .int 8), (0, .ref h0), (1, .int x)]) hx hb dX11_append_42 hl (k := 0) rfl (by decide) (by decide) rfl (fun ls hl => ?_)
  refine lv_goto (tgt := 3) hx hb dX11_append_45 (by decide) ?_
  refine lv_iload_n hx hb dX11_append_3 rfl (lv_at hl 0 rfl) ?_
  refine lv_if_lt (tgt := 48) hx hb dX11_append_4 (by decide) (fun c19 => absurd c19 (by decide)) (fun c19 => ?_)
  refine lv_aload_n hx hb dX11_append_7 rfl (lv_at hl 1 rfl) ?_
  refine va_get (D := G.1) (ci := 8) (v := .int 6) (C := RX11) (T := TX11) (N := 8) hx hb hq pin_wsX110 hown hE.1.1 hP 0 rfl rfl 1 (by decide) (hq _ pw_17) (fun _ h9 => h9) rfl dX11_append_8 ?_
  refine lv_aload_n hx hb dX11_append_11 rfl (lv_at hl 1 rfl) ?_
  refine va_get (D := G.1) (ci := 8) (v := .ref k1) (C := RX11) (T := TX11) (N := 8) hx hb hq pin_wsX110 hown hE.1.1 hP 0 rfl rfl 0 (by decide) (hq _ pw_1) (fun _ h9 => h9) rfl dX11_append_12 ?_
  refine va_alen (v := 5000) hx hb hE.1.1 hP 1 1 rfl rfl (show Int32.ofNat 5000 = 5000 from by decide) dX11_append_15 ?_
  refine lv_icmp_ge (tgt := 42) hx hb dX11_append_16 (by decide) (fun c20 => absurd c20 (by decide)) (fun c20 => ?_)
  refine lv_aload_n hx hb dX11_append_19 rfl (lv_at hl 1 rfl) ?_
  refine va_get (D := G.1) (ci := 8) (v := .ref k1) (C := RX11) (T := TX11) (N := 8) hx hb hq pin_wsX110 hown hE.1.1 hP 0 rfl rfl 0 (by decide) (hq _ pw_1) (fun _ h9 => h9) rfl dX11_append_20 ?_
  refine lv_aload_n hx hb dX11_append_23 rfl (lv_at hl 1 rfl) ?_
  refine va_get (D := G.1) (ci := 8) (v := .int 6) (C := RX11) (T := TX11) (N := 8) hx hb hq pin_wsX110 hown hE.1.1 hP 0 rfl rfl 1 (by decide) (hq _ pw_17) (fun _ h9 => h9) rfl dX11_append_24 ?_
  refine lv_iload_n hx hb dX11_append_27 rfl (lv_at hl 2 rfl) ?_
  refine lv_iload_n hx hb dX11_append_28 rfl (lv_at hl 0 rfl) ?_
  refine lv_iushr hx hb dX11_append_29 rfl ?_
  refine lv_topi (fun x21 e22 => ?_)
  refine lv_i2b hx hb dX11_append_30 rfl ?_
  refine lv_topi (fun x23 e24 => ?_)
  refine va_bast hx hb hE.1.1 hP hD hS 1 1 rfl rfl (by unfold vp_in; decide) dX11_append_31 (fun H locs hP hD hS => ?_)
  have hP : va_P G.1 pCl [(h0, .inr (8, [.ref k1, .int 6, .ref k2, .ref k3, .ref k4, .ref k5, .ref k6, .null])), (k1, .inl (G.2.1 1, 5000, .inl (upd f16 (Int32.toNatClampNeg 6) (vp_nar .byte x23))))] H := hP
  have hD : va_D A [(h0, .inr (8, [.ref k1, .int 6, .ref k2, .ref k3, .ref k4, .ref k5, .ref k6, .null])), (k1, .inl (G.2.1 1, 5000, .inl (upd f16 (Int32.toNatClampNeg 6) (vp_nar .byte x23))))] := hD
  generalize (upd f16 (Int32.toNatClampNeg 6) (vp_nar .byte x23)) = f25 at hP hD
  refine lv_aload_n hx hb dX11_append_32 rfl (lv_at hl 1 rfl) ?_
  refine lv_dup hx hb dX11_append_33 rfl ?_
  refine va_get (D := G.1) (ci := 8) (v := .int 6) (C := RX11) (T := TX11) (N := 8) hx hb hq pin_wsX110 hown hE.1.1 hP 0 rfl rfl 1 (by decide) (hq _ pw_17) (fun _ h9 => h9) rfl dX11_append_34 ?_
  refine lv_iconst (v := 1) hx hb dX11_append_37 (by decide) ?_
  refine lv_iadd hx hb dX11_append_38 ?_
  refine lv_topi (fun x26 e27 => ?_)
  obtain rfl : x26 = 7 := e27.trans (by decide)
  refine va_put (D := G.1) (ci := 8) (v := .int 7) (ty := .int) (C := RX11) (T := TX11) (N := 8) hx hb hq pin_wsX110 tyX11 tyX11_ok nmX11 hown hE.1.1 hP hD hS 0 rfl rfl 1 (by decide) (hq _ pw_17) (fun _ h9 => h9) rfl (by decide +kernel) rfl rfl (Nat.le_of_ble_eq_true rfl) dX11_append_39 (fun H locs hP hD hS => ?_)
  have hP : va_P G.1 pCl [(h0, .inr (8, [.ref k1, .int 7, .ref k2, .ref k3, .ref k4, .ref k5, .ref k6, .null])), (k1, .inl (G.2.1 1, 5000, .inl f25))] H := hP
  have hD : va_D A [(h0, .inr (8, [.ref k1, .int 7, .ref k2, .ref k3, .ref k4, .ref k5, .ref k6, .null])), (k1, .inl (G.2.1 1, 5000, .inl f25))] := hD
  refine lv_iinc (v := 0) (lv' := [(2, .int 0), (0, .ref h0), (1, .int x)]) hx hb dX11_append_42 hl (k := 0) rfl (by decide) (by decide) rfl (fun ls hl => ?_)
  refine lv_goto (tgt := 3) hx hb dX11_append_45 (by decide) ?_
  refine lv_iload_n hx hb dX11_append_3 rfl (lv_at hl 0 rfl) ?_
  refine lv_if_lt (tgt := 48) hx hb dX11_append_4 (by decide) (fun c28 => absurd c28 (by decide)) (fun c28 => ?_)
  refine lv_aload_n hx hb dX11_append_7 rfl (lv_at hl 1 rfl) ?_
  refine va_get (D := G.1) (ci := 8) (v := .int 7) (C := RX11) (T := TX11) (N := 8) hx hb hq pin_wsX110 hown hE.1.1 hP 0 rfl rfl 1 (by decide) (hq _ pw_17) (fun _ h9 => h9) rfl dX11_append_8 ?_
  refine lv_aload_n hx hb dX11_append_11 rfl (lv_at hl 1 rfl) ?_
  refine va_get (D := G.1) (ci := 8) (v := .ref k1) (C := RX11) (T := TX11) (N := 8) hx hb hq pin_wsX110 hown hE.1.1 hP 0 rfl rfl 0 (by decide) (hq _ pw_1) (fun _ h9 => h9) rfl dX11_append_12 ?_
  refine va_alen (v := 5000) hx hb hE.1.1 hP 1 1 rfl rfl (show Int32.ofNat 5000 = 5000 from by decide) dX11_append_15 ?_
  refine lv_icmp_ge (tgt := 42) hx hb dX11_append_16 (by decide) (fun c29 => absurd c29 (by decide)) (fun c29 => ?_)
  refine lv_aload_n hx hb dX11_append_19 rfl (lv_at hl 1 rfl) ?_
  refine va_get (D := G.1) (ci := 8) (v := .ref k1) (C := RX11) (T := TX11) (N := 8) hx hb hq pin_wsX110 hown hE.1.1 hP 0 rfl rfl 0 (by decide) (hq _ pw_1) (fun _ h9 => h9) rfl dX11_append_20 ?_
  refine lv_aload_n hx hb dX11_append_23 rfl (lv_at hl 1 rfl) ?_
  refine va_get (D := G.1) (ci := 8) (v := .int 7) (C := RX11) (T := TX11) (N := 8) hx hb hq pin_wsX110 hown hE.1.1 hP 0 rfl rfl 1 (by decide) (hq _ pw_17) (fun _ h9 => h9) rfl dX11_append_24 ?_
  refine lv_iload_n hx hb dX11_append_27 rfl (lv_at hl 2 rfl) ?_
  refine lv_iload_n hx hb dX11_append_28 rfl (lv_at hl 0 rfl) ?_
  refine lv_iushr hx hb dX11_append_29 rfl ?_
  refine lv_topi (fun x30 e31 => ?_)
  refine lv_i2b hx hb dX11_append_30 rfl ?_
  refine lv_topi (fun x32 e33 => ?_)
  refine va_bast hx hb hE.1.1 hP hD hS 1 1 rfl rfl (by unfold vp_in; decide) dX11_append_31 (fun H locs hP hD hS => ?_)
  have hP : va_P G.1 pCl [(h0, .inr (8, [.ref k1, .int 7, .ref k2, .ref k3, .ref k4, .ref k5, .ref k6, .null])), (k1, .inl (G.2.1 1, 5000, .inl (upd f25 (Int32.toNatClampNeg 7) (vp_nar .byte x32))))] H := hP
  have hD : va_D A [(h0, .inr (8, [.ref k1, .int 7, .ref k2, .ref k3, .ref k4, .ref k5, .ref k6, .null])), (k1, .inl (G.2.1 1, 5000, .inl (upd f25 (Int32.toNatClampNeg 7) (vp_nar .byte x32))))] := hD
  generalize (upd f25 (Int32.toNatClampNeg 7) (vp_nar .byte x32)) = f34 at hP hD
  refine lv_aload_n hx hb dX11_append_32 rfl (lv_at hl 1 rfl) ?_
  refine lv_dup hx hb dX11_append_33 rfl ?_
  refine va_get (D := G.1) (ci := 8) (v := .int 7) (C := RX11) (T := TX11) (N := 8) hx hb hq pin_wsX110 hown hE.1.1 hP 0 rfl rfl 1 (by decide) (hq _ pw_17) (fun _ h9 => h9) rfl dX11_append_34 ?_
  refine lv_iconst (v := 1) hx hb dX11_append_37 (by decide) ?_
  refine lv_iadd hx hb dX11_append_38 ?_
  refine lv_topi (fun x35 e36 => ?_)
  obtain rfl : x35 = 8 := e36.trans (by decide)
  refine va_put (D := G.1) (ci := 8) (v := .int 8) (ty := .int) (C := RX11) (T := TX11) (N := 8) hx hb hq pin_wsX110 tyX11 tyX11_ok nmX11 hown hE.1.1 hP hD hS 0 rfl rfl 1 (by decide) (hq _ pw_17) (fun _ h9 => h9) rfl (by decide +kernel) rfl rfl (Nat.le_of_ble_eq_true rfl) dX11_append_39 (fun H locs hP hD hS => ?_)
  have hP : va_P G.1 pCl [(h0, .inr (8, [.ref k1, .int 8, .ref k2, .ref k3, .ref k4, .ref k5, .ref k6, .null])), (k1, .inl (G.2.1 1, 5000, .inl f34))] H := hP
  have hD : va_D A [(h0, .inr (8, [.ref k1, .int 8, .ref k2, .ref k3, .ref k4, .ref k5, .ref k6, .null])), (k1, .inl (G.2.1 1, 5000, .inl f34))] := hD
  refine lv_iinc (v := (-8)) (lv' := [(2, .int (-8)), (0, .ref h0), (1, .int x)]) hx hb dX11_append_42 hl (k := 0) rfl (by decide) (by decide) rfl (fun ls hl => ?_)
  refine lv_goto (tgt := 3) hx hb dX11_append_45 (by decide) ?_
  refine lv_iload_n hx hb dX11_append_3 rfl (lv_at hl 0 rfl) ?_
  refine lv_if_lt (tgt := 48) hx hb dX11_append_4 (by decide) (fun c37 => ?_) (fun c37 => absurd c37 (by decide))
  refine W.widen (k := 0) (n := 0) (Nat.le_of_ble_eq_true rfl) (Nat.le_of_ble_eq_true rfl) ?_
  exact W.vret hx hb hr (fun t ht hW => ⟨⟨_, ((fun _ => 0), (fun k => match k with | _ => f34), (fun _ => fun _ => 0)), rfl, rfl, by rw [ht]; exact hP.sub [0, 1] rfl, hD.sub [0, 1] (by decide) rfl⟩, hS.F ht⟩) hS.2.2 dX11_append_48
set_option maxHeartbeats 1000000 in
set_option maxRecDepth 100000 in
/-- append, 8 bytes on the tape -/
theorem c_append_8 (l : Launch) (G : pT) (h0 : Nat) (k1 : Nat) (k2 : Nat) (k3 : Nat) (k4 : Nat) (k5 : Nat) (k6 : Nat) (f : Nat → Int32) (x : Int32) : PM l G pX0 yX11_append cX11_append 3 none ({ frames := 2, cells := 0, slots := 0, locals := 60 }) [.ref h0, .int x] [(h0, .inr (8, [.ref k1, .int 8, .ref k2, .ref k3, .ref k4, .ref k5, .ref k6, .null])), (k1, .inl (G.2.1 1, 5000, .inl f))] (fun (v : Option Value) (u : (Nat → Nat) × (Nat → Nat → Int32) × (Nat → Nat → Int64)) => v = none) (fun u => [(h0, .inr (8, [.ref k1, .int 12, .ref k2, .ref k3, .ref k4, .ref k5, .ref k6, .null])), (k1, .inl (G.2.1 1, 5000, .inl (u.2.1 0)))]) := by
  intro sz
  refine Met.ofW (cc := cX11_append) (maxL := 3) (ret := none) (by decide) rfl ?_
  intro p e s m args below meth c s₁ B hml hv
  obtain ⟨rfl, hsz, hP, hD0, hE, hX⟩ := hv
  have hx := B.exec
  have hb := B.bytes
  have hr := B.returns
  have hts := atoms_spec (ws := Cond.code yX11_append cX11_append 3 none :: pw) B.pre
  have hq : ∀ w ∈ pw, w.before _ s = true := fun w h => hts w (List.mem_cons_of_mem _ h)
  have hown : s.vm.findClass RX11 = some m.cls := findClass_of_methodNamed B.named
  have hlocks := B.notSynchronized
  subst hsz
  have hD := hD0.self (sz := s.heap.size)
  have hA : ∀ q : Nat, s.heap.size ≤ q → va_A [(h0, .inr (8, [.ref k1, .int 8, .ref k2, .ref k3, .ref k4, .ref k5, .ref k6, .null])), (k1, .inl (G.2.1 1, 5000, .inl f))] s.heap.size q := fun q h => Or.inr h
  have hP : va_P G.1 pCl [(h0, .inr (8, [.ref k1, .int 8, .ref k2, .ref k3, .ref k4, .ref k5, .ref k6, .null])), (k1, .inl (G.2.1 1, 5000, .inl f))] s.heap := hP
  generalize va_A [(h0, .inr (8, [.ref k1, .int 8, .ref k2, .ref k3, .ref k4, .ref k5, .ref k6, .null])), (k1, .inl (G.2.1 1, 5000, .inl f))] s.heap.size = A at hD hE hA ⊢
  have hS : va_S A s.heap s.heap [] := va_S.rf
  have hl := lv_entry ([.ref h0, .int x]) (n := 3) (Nat.le_of_ble_eq_true rfl)
  rw [lg_entry_eq]
  generalize (lg_sl ([.ref h0, .int x]) ++ List.replicate (3 - (lg_sl ([.ref h0, .int x])).length) Slot.unset).toArray = ls at hl ⊢
  have hl : lv_has ls 3 [(0, .ref h0), (1, .int x)] := hl
  refine lv_bipush (v := 24) hx hb dX11_append_0 (by decide) ?_
  refine lv_istore_n (lv' := [(2, .int 24), (0, .ref h0), (1, .int x)]) hx hb dX11_append_2 rfl hl (by decide) rfl (fun ls hl => ?_)
  refine lv_iload_n hx hb dX11_append_3 rfl (lv_at hl 0 rfl) ?_
  refine lv_if_lt (tgt := 48) hx hb dX11_append_4 (by decide) (fun c1 => absurd c1 (by decide)) (fun c1 => ?_)
  refine lv_aload_n hx hb dX11_append_7 rfl (lv_at hl 1 rfl) ?_
  refine va_get (D := G.1) (ci := 8) (v := .int 8) (C := RX11) (T := TX11) (N := 8) hx hb hq pin_wsX110 hown hE.1.1 hP 0 rfl rfl 1 (by decide) (hq _ pw_17) (fun _ h9 => h9) rfl dX11_append_8 ?_
  refine lv_aload_n hx hb dX11_append_11 rfl (lv_at hl 1 rfl) ?_
  refine va_get (D := G.1) (ci := 8) (v := .ref k1) (C := RX11) (T := TX11) (N := 8) hx hb hq pin_wsX110 hown hE.1.1 hP 0 rfl rfl 0 (by decide) (hq _ pw_1) (fun _ h9 => h9) rfl dX11_append_12 ?_
  refine va_alen (v := 5000) hx hb hE.1.1 hP 1 1 rfl rfl (show Int32.ofNat 5000 = 5000 from by decide) dX11_append_15 ?_
  refine lv_icmp_ge (tgt := 42) hx hb dX11_append_16 (by decide) (fun c2 => absurd c2 (by decide)) (fun c2 => ?_)
  refine lv_aload_n hx hb dX11_append_19 rfl (lv_at hl 1 rfl) ?_
  refine va_get (D := G.1) (ci := 8) (v := .ref k1) (C := RX11) (T := TX11) (N := 8) hx hb hq pin_wsX110 hown hE.1.1 hP 0 rfl rfl 0 (by decide) (hq _ pw_1) (fun _ h9 => h9) rfl dX11_append_20 ?_
  refine lv_aload_n hx hb dX11_append_23 rfl (lv_at hl 1 rfl) ?_
  refine va_get (D := G.1) (ci := 8) (v := .int 8) (C := RX11) (T := TX11) (N := 8) hx hb hq pin_wsX110 hown hE.1.1 hP 0 rfl rfl 1 (by decide) (hq _ pw_17) (fun _ h9 => h9) rfl dX11_append_24 ?_
  refine lv_iload_n hx hb dX11_append_27 rfl (lv_at hl 2 rfl) ?_
  refine lv_iload_n hx hb dX11_append_28 rfl (lv_at hl 0 rfl) ?_
  refine lv_iushr hx hb dX11_append_29 rfl ?_
  refine lv_topi (fun x3 e4 => ?_)
  refine lv_i2b hx hb dX11_append_30 rfl ?_
  refine lv_topi (fun x5 e6 => ?_)
  refine va_bast hx hb hE.1.1 hP hD hS 1 1 rfl rfl (by unfold vp_in; decide) dX11_append_31 (fun H locs hP hD hS => ?_)
  have hP : va_P G.1 pCl [(h0, .inr (8, [.ref k1, .int 8, .ref k2, .ref k3, .ref k4, .ref k5, .ref k6, .null])), (k1, .inl (G.2.1 1, 5000, .inl (upd f (Int32.toNatClampNeg 8) (vp_nar .byte x5))))] H := hP
  have hD : va_D A [(h0, .inr (8, [.ref k1, .int 8, .ref k2, .ref k3, .ref k4, .ref k5, .ref k6, .null])), (k1, .inl (G.2.1 1, 5000, .inl (upd f (Int32.toNatClampNeg 8) (vp_nar .byte x5))))] := hD
  generalize (upd f (Int32.toNatClampNeg 8) (vp_nar .byte x5)) = f7 at hP hD
  refine lv_aload_n hx hb dX11_append_32 rfl (lv_at hl 1 rfl) ?_
  refine lv_dup hx hb dX11_append_33 rfl ?_
  refine va_get (D := G.1) (ci := 8) (v := .int 8) (C := RX11) (T := TX11) (N := 8) hx hb hq pin_wsX110 hown hE.1.1 hP 0 rfl rfl 1 (by decide) (hq _ pw_17) (fun _ h9 => h9) rfl dX11_append_34 ?_
  refine lv_iconst (v := 1) hx hb dX11_append_37 (by decide) ?_
  refine lv_iadd hx hb dX11_append_38 ?_
  refine lv_topi (fun x8 e9 => ?_)
  obtain rfl : x8 = 9 := e9.trans (by decide)
  refine va_put (D := G.1) (ci := 8) (v := .int 9) (ty := .int) (C := RX11) (T := TX11) (N := 8) hx hb hq pin_wsX110 tyX11 tyX11_ok nmX11 hown hE.1.1 hP hD hS 0 rfl rfl 1 (by decide) (hq _ pw_17) (fun _ h9 => h9) rfl (by decide +kernel) rfl rfl (Nat.le_of_ble_eq_true rfl) dX11_append_39 (fun H locs hP hD hS => ?_)
  have hP : va_P G.1 pCl [(h0, .inr (8, [.ref k1, .int 9, .ref k2, .ref k3, .ref k4, .ref k5, .ref k6, .null])), (k1, .inl (G.2.1 1, 5000, .inl f7))] H := hP
  have hD : va_D A [(h0, .inr (8, [.ref k1, .int 9, .ref k2, .ref k3, .ref k4, .ref k5, .ref k6, .null])), (k1, .inl (G.2.1 1, 5000, .inl f7))] := hD
  refine lv_iinc (v := 16) (lv' := [(2, .int 16), (0, .ref h0), (1, .int x)]) hx hb dX11_append_42 hl (k := 0) rfl (by decide) (by decide) rfl (fun ls hl => ?_)
  refine lv_goto (tgt := 3) hx hb dX11_append_45 (by decide) ?_
  refine lv_iload_n hx hb dX11_append_3 rfl (lv_at hl 0 rfl) ?_
  refine lv_if_lt (tgt := 48) hx hb dX11_append_4 (by decide) (fun c10 => absurd c10 (by decide)) (fun c10 => ?_)
  refine lv_aload_n hx hb dX11_append_7 rfl (lv_at hl 1 rfl) ?_
  refine va_get (D := G.1) (ci := 8) (v := .int 9) (C := RX11) (T := TX11) (N := 8) hx hb hq pin_wsX110 hown hE.1.1 hP 0 rfl rfl 1 (by decide) (hq _ pw_17) (fun _ h9 => h9) rfl dX11_append_8 ?_
  refine lv_aload_n hx hb dX11_append_11 rfl (lv_at hl 1 rfl) ?_
  refine va_get (D := G.1) (ci := 8) (v := .ref k1) (C := RX11) (T := TX11) (N := 8) hx hb hq pin_wsX110 hown hE.1.1 hP 0 rfl rfl 0 (by decide) (hq _ pw_1) (fun _ h9 => h9) rfl dX11_append_12 ?_
  refine va_alen (v := 5000) hx hb hE.1.1 hP 1 1 rfl rfl (show Int32.ofNat 5000 = 5000 from by decide) dX11_append_15 ?_
  refine lv_icmp_ge (tgt := 42) hx hb dX11_append_16 (by decide) (fun c11 => absurd c11 (by decide)) (fun c11 => ?_)
  refine lv_aload_n hx hb dX11_append_19 rfl (lv_at hl 1 rfl) ?_
  refine va_get (D := G.1) (ci := 8) (v := .ref k1) (C := RX11) (T := TX11) (N := 8) hx hb hq pin_wsX110 hown hE.1.1 hP 0 rfl rfl 0 (by decide) (hq _ pw_1) (fun _ h9 => h9) rfl dX11_append_20 ?_
  refine lv_aload_n hx hb dX11_append_23 rfl (lv_at hl 1 rfl) ?_
  refine va_get (D := G.1) (ci := 8) (v := .int 9) (C := RX11) (T := TX11) (N := 8) hx hb hq pin_wsX110 hown hE.1.1 hP 0 rfl rfl 1 (by decide) (hq _ pw_17) (fun _ h9 => h9) rfl dX11_append_24 ?_
  refine lv_iload_n hx hb dX11_append_27 rfl (lv_at hl 2 rfl) ?_
  refine lv_iload_n hx hb dX11_append_28 rfl (lv_at hl 0 rfl) ?_
  refine lv_iushr hx hb dX11_append_29 rfl ?_
  refine lv_topi (fun x12 e13 => ?_)
  refine lv_i2b hx hb dX11_append_30 rfl ?_
  refine lv_topi (fun x14 e15 => ?_)
  refine va_bast hx hb hE.1.1 hP hD hS 1 1 rfl rfl (by unfold vp_in; decide) dX11_append_31 (fun H locs hP hD hS => ?_)
  have hP : va_P G.1 pCl [(h0, .inr (8, [.ref k1, .int 9, .ref k2, .ref k3, .ref k4, .ref k5, .ref k6, .null])), (k1, .inl (G.2.1 1, 5000, .inl (upd f7 (Int32.toNatClampNeg 9) (vp_nar .byte x14))))] H := hP
  have hD : va_D A [(h0, .inr (8, [.ref k1, .int 9, .ref k2, .ref k3, .ref k4, .ref k5, .ref k6, .null])), (k1, .inl (G.2.1 1, 5000, .inl (upd f7 (Int32.toNatClampNeg 9) (vp_nar .byte x14))))] := hD
  generalize (upd f7 (Int32.toNatClampNeg 9) (vp_nar .byte x14)) = f16 at hP hD
  refine lv_aload_n hx hb dX11_append_32 rfl (lv_at hl 1 rfl) ?_
  refine lv_dup hx hb dX11_append_33 rfl ?_
  refine va_get (D := G.1) (ci := 8) (v := .int 9) (C := RX11) (T := TX11) (N := 8) hx hb hq pin_wsX110 hown hE.1.1 hP 0 rfl rfl 1 (by decide) (hq _ pw_17) (fun _ h9 => h9) rfl dX11_append_34 ?_
  refine lv_iconst (v := 1) hx hb dX11_append_37 (by decide) ?_
  refine lv_iadd hx hb dX11_append_38 ?_
  refine lv_topi (fun x17 e18 => ?_)
  obtain rfl : x17 = 10 := e18.trans (by decide)
  refine va_put (D := G.1) (ci := 8) (v := .int 10) (ty := .int) (C := RX11) (T := TX11) (N := 8) hx hb hq pin_wsX110 tyX11 tyX11_ok nmX11 hown hE.1.1 hP hD hS 0 rfl rfl 1 (by decide) (hq _ pw_17) (fun _ h9 => h9) rfl (by decide +kernel) rfl rfl (Nat.le_of_ble_eq_true rfl) dX11_append_39 (fun H locs hP hD hS => ?_)
  have hP : va_P G.1 pCl [(h0, .inr (8, [.ref k1, .int 10, .ref k2, .ref k3, .ref k4, .ref k5, .ref k6, .null])), (k1, .inl (G.2.1 1, 5000, .inl f16))] H := hP
  have hD : va_D A [(h0, .inr (8, [.ref k1, .int 10, .ref k2, .ref k3, .ref k4, .ref k5, .ref k6, .null])), (k1, .inl (G.2.1 1, 5000, .inl f16))] := hD
  refine lv_iinc (v := 8) (lv' := [(2, .int 8), (0, .ref h0), (1, .int x)]) hx hb dX11_append_42 hl (k := 0) rfl (by decide) (by decide) rfl (fun ls hl => ?_)
  refine lv_goto (tgt := 3) hx hb dX11_append_45 (by decide) ?_
  refine lv_iload_n hx hb dX11_append_3 rfl (lv_at hl 0 rfl) ?_
  refine lv_if_lt (tgt := 48) hx hb dX11_append_4 (by decide) (fun c19 => absurd c19 (by decide)) (fun c19 => ?_)
  refine lv_aload_n hx hb dX11_append_7 rfl (lv_at hl 1 rfl) ?_
  refine va_get (D := G.1) (ci := 8) (v := .int 10) (C := RX11) (T := TX11) (N := 8) hx hb hq pin_wsX110 hown hE.1.1 hP 0 rfl rfl 1 (by decide) (hq _ pw_17) (fun _ h9 => h9) rfl dX11_append_8 ?_
  refine lv_aload_n hx hb dX11_append_11 rfl (lv_at hl 1 rfl) ?_
  refine va_get (D := G.1) (ci := 8) (v := .ref k1) (C := RX11) (T := TX11) (N := 8) hx hb hq pin_wsX110 hown hE.1.1 hP 0 rfl rfl 0 (by decide) (hq _ pw_1) (fun _ h9 => h9) rfl dX11_append_12 ?_
  refine va_alen (v := 5000) hx hb hE.1.1 hP 1 1 rfl rfl (show Int32.ofNat 5000 = 5000 from by decide) dX11_append_15 ?_
  refine lv_icmp_ge (tgt := 42) hx hb dX11_append_16 (by decide) (fun c20 => absurd c20 (by decide)) (fun c20 => ?_)
  refine lv_aload_n hx hb dX11_append_19 rfl (lv_at hl 1 rfl) ?_
  refine va_get (D := G.1) (ci := 8) (v := .ref k1) (C := RX11) (T := TX11) (N := 8) hx hb hq pin_wsX110 hown hE.1.1 hP 0 rfl rfl 0 (by decide) (hq _ pw_1) (fun _ h9 => h9) rfl dX11_append_20 ?_
  refine lv_aload_n hx hb dX11_append_23 rfl (lv_at hl 1 rfl) ?_
  refine va_get (D := G.1) (ci := 8) (v := .int 10) (C := RX11) (T := TX11) (N := 8) hx hb hq pin_wsX110 hown hE.1.1 hP 0 rfl rfl 1 (by decide) (hq _ pw_17) (fun _ h9 => h9) rfl dX11_append_24 ?_
  refine lv_iload_n hx hb dX11_append_27 rfl (lv_at hl 2 rfl) ?_
  refine lv_iload_n hx hb dX11_append_28 rfl (lv_at hl 0 rfl) ?_
  refine lv_iushr hx hb dX11_append_29 rfl ?_
  refine lv_topi (fun x21 e22 => ?_)
  refine lv_i2b hx hb dX11_append_30 rfl ?_
  refine lv_topi (fun x23 e24 => ?_)
  refine va_bast hx hb hE.1.1 hP hD hS 1 1 rfl rfl (by unfold vp_in; decide) dX11_append_31 (fun H locs hP hD hS => ?_)
  have hP : va_P G.1 pCl [(h0, .inr (8, [.ref k1, .int 10, .ref k2, .ref k3, .ref k4, .ref k5, .ref k6, .null])), (k1, .inl (G.2.1 1, 5000, .inl (upd f16 (Int32.toNatClampNeg 10) (vp_nar .byte x23))))] H := hP
  have hD : va_D A [(h0, .inr (8, [.ref k1, .int 10, .ref k2, .ref k3, .ref k4, .ref k5, .ref k6, .null])), (k1, .inl (G.2.1 1, 5000, .inl (upd f16 (Int32.toNatClampNeg 10) (vp_nar .byte x23))))] := hD
  generalize (upd f16 (Int32.toNatClampNeg 10) (vp_nar .byte x23)) = f25 at hP hD
  refine lv_aload_n hx hb dX11_append_32 rfl (lv_at hl 1 rfl) ?_
  refine lv_dup hx hb dX11_append_33 rfl ?_
  refine va_get (D := G.1) (ci := 8) (v := .int 10) (C := RX11) (T := TX11) (N := 8) hx hb hq pin_wsX110 hown hE.1.1 hP 0 rfl rfl 1 (by decide) (hq _ pw_17) (fun _ h9 => h9) rfl dX11_append_34 ?_
  refine lv_iconst (v := 1) hx hb dX11_append_37 (by decide) ?_
  refine lv_iadd hx hb dX11_append_38 ?_
  refine lv_topi (fun x26 e27 => ?_)
  obtain rfl : x26 = 11 := e27.trans (by decide)
  refine va_put (D := G.1) (ci := 8) (v := .int 11) (ty := .int) (C := RX11) (T := TX11) (N := 8) hx hb hq pin_wsX110 tyX11 tyX11_ok nmX11 hown hE.1.1 hP hD hS 0 rfl rfl 1 (by decide) (hq _ pw_17) (fun _ h9 => h9) rfl (by decide +kernel) rfl rfl (Nat.le_of_ble_eq_true rfl) dX11_append_39 (fun H locs hP hD hS => ?_)
  have hP : va_P G.1 pCl [(h0, .inr (8, [.ref k1, .int 11, .ref k2, .ref k3, .ref k4, .ref k5, .ref k6, .null])), (k1, .inl (G.2.1 1, 5000, .inl f25))] H := hP
  have hD : va_D A [(h0, .inr (8, [.ref k1, .int 11, .ref k2, .ref k3, .ref k4, .ref k5, .ref k6, .null])), (k1, .inl (G.2.1 1, 5000, .inl f25))] := hD
  refine lv_iinc (v := 0) (lv' := [(2, .int 0), (0, .ref h0), (1, .int x)]) hx hb dX11_append_42 hl (k := 0) rfl (by decide) (by decide) rfl (fun ls hl => ?_)
  refine lv_goto (tgt := 3) hx hb dX11_append_45 (by decide) ?_
  refine lv_iload_n hx hb dX11_append_3 rfl (lv_at hl 0 rfl) ?_
  refine lv_if_lt (tgt := 48) hx hb dX11_append_4 (by decide) (fun c28 => absurd c28 (by decide)) (fun c28 => ?_)
  refine lv_aload_n hx hb dX11_append_7 rfl (lv_at hl 1 rfl) ?_
  refine va_get (D := G.1) (ci := 8) (v := .int 11) (C := RX11) (T := TX11) (N := 8) hx hb hq pin_wsX110 hown hE.1.1 hP 0 rfl rfl 1 (by decide) (hq _ pw_17) (fun _ h9 => h9) rfl dX11_append_8 ?_
  refine lv_aload_n hx hb dX11_append_11 rfl (lv_at hl 1 rfl) ?_
  refine va_get (D := G.1) (ci := 8) (v := .ref k1) (C := RX11) (T := TX11) (N := 8) hx hb hq pin_wsX110 hown hE.1.1 hP 0 rfl rfl 0 (by decide) (hq _ pw_1) (fun _ h9 => h9) rfl dX11_append_12 ?_
  refine va_alen (v := 5000) hx hb hE.1.1 hP 1 1 rfl rfl (show Int32.ofNat 5000 = 5000 from by decide) dX11_append_15 ?_
  refine lv_icmp_ge (tgt := 42) hx hb dX11_append_16 (by decide) (fun c29 => absurd c29 (by decide)) (fun c29 => ?_)
  refine lv_aload_n hx hb dX11_append_19 rfl (lv_at hl 1 rfl) ?_
  refine va_get (D := G.1) (ci := 8) (v := .ref k1) (C := RX11) (T := TX11) (N := 8) hx hb hq pin_wsX110 hown hE.1.1 hP 0 rfl rfl 0 (by decide) (hq _ pw_1) (fun _ h9 => h9) rfl dX11_append_20 ?_
  refine lv_aload_n hx hb dX11_append_23 rfl (lv_at hl 1 rfl) ?_
  refine va_get (D := G.1) (ci := 8) (v := .int 11) (C := RX11) (T := TX11) (N := 8) hx hb hq pin_wsX110 hown hE.1.1 hP 0 rfl rfl 1 (by decide) (hq _ pw_17) (fun _ h9 => h9) rfl dX11_append_24 ?_
  refine lv_iload_n hx hb dX11_append_27 rfl (lv_at hl 2 rfl) ?_
  refine lv_iload_n hx hb dX11_append_28 rfl (lv_at hl 0 rfl) ?_
  refine lv_iushr hx hb dX11_append_29 rfl ?_
  refine lv_topi (fun x30 e31 => ?_)
  refine lv_i2b hx hb dX11_append_30 rfl ?_
  refine lv_topi (fun x32 e33 => ?_)
  refine va_bast hx hb hE.1.1 hP hD hS 1 1 rfl rfl (by unfold vp_in; decide) dX11_append_31 (fun H locs hP hD hS => ?_)
  have hP : va_P G.1 pCl [(h0, .inr (8, [.ref k1, .int 11, .ref k2, .ref k3, .ref k4, .ref k5, .ref k6, .null])), (k1, .inl (G.2.1 1, 5000, .inl (upd f25 (Int32.toNatClampNeg 11) (vp_nar .byte x32))))] H := hP
  have hD : va_D A [(h0, .inr (8, [.ref k1, .int 11, .ref k2, .ref k3, .ref k4, .ref k5, .ref k6, .null])), (k1, .inl (G.2.1 1, 5000, .inl (upd f25 (Int32.toNatClampNeg 11) (vp_nar .byte x32))))] := hD
  generalize (upd f25 (Int32.toNatClampNeg 11) (vp_nar .byte x32)) = f34 at hP hD
  refine lv_aload_n hx hb dX11_append_32 rfl (lv_at hl 1 rfl) ?_
  refine lv_dup hx hb dX11_append_33 rfl ?_
  refine va_get (D := G.1) (ci := 8) (v := .int 11) (C := RX11) (T := TX11) (N := 8) hx hb hq pin_wsX110 hown hE.1.1 hP 0 rfl rfl 1 (by decide) (hq _ pw_17) (fun _ h9 => h9) rfl dX11_append_34 ?_
  refine lv_iconst (v := 1) hx hb dX11_append_37 (by decide) ?_
  refine lv_iadd hx hb dX11_append_38 ?_
  refine lv_topi (fun x35 e36 => ?_)
  obtain rfl : x35 = 12 := e36.trans (by decide)
  refine va_put (D := G.1) (ci := 8) (v := .int 12) (ty := .int) (C := RX11) (T := TX11) (N := 8) hx hb hq pin_wsX110 tyX11 tyX11_ok nmX11 hown hE.1.1 hP hD hS 0 rfl rfl 1 (by decide) (hq _ pw_17) (fun _ h9 => h9) rfl (by decide +kernel) rfl rfl (Nat.le_of_ble_eq_true rfl) dX11_append_39 (fun H locs hP hD hS => ?_)
  have hP : va_P G.1 pCl [(h0, .inr (8, [.ref k1, .int 12, .ref k2, .ref k3, .ref k4, .ref k5, .ref k6, .null])), (k1, .inl (G.2.1 1, 5000, .inl f34))] H := hP
  have hD : va_D A [(h0, .inr (8, [.ref k1, .int 12, .ref k2, .ref k3, .ref k4, .ref k5, .ref k6, .null])), (k1, .inl (G.2.1 1, 5000, .inl f34))] := hD
  refine lv_iinc (v := (-8)) (lv' := [(2, .int (-8)), (0, .ref h0), (1, .int x)]) hx hb dX11_append_42 hl (k := 0) rfl (by decide) (by decide) rfl (fun ls hl => ?_)
  refine lv_goto (tgt := 3) hx hb dX11_append_45 (by decide) ?_
  refine lv_iload_n hx hb dX11_append_3 rfl (lv_at hl 0 rfl) ?_
  refine lv_if_lt (tgt := 48) hx hb dX11_append_4 (by decide) (fun c37 => ?_) (fun c37 => absurd c37 (by decide))
  refine W.widen (k := 0) (n := 0) (Nat.le_of_ble_eq_true rfl) (Nat.le_of_ble_eq_true rfl) ?_
  exact W.vret hx hb hr (fun t ht hW => ⟨⟨_, ((fun _ => 0), (fun k => match k with | _ => f34), (fun _ => fun _ => 0)), rfl, rfl, by rw [ht]; exact hP.sub [0, 1] rfl, hD.sub [0, 1] (by decide) rfl⟩, hS.F ht⟩) hS.2.2 dX11_append_48
set_option maxHeartbeats 1000000 in
set_option maxRecDepth 100000 in
/-- append, 12 bytes on the tape -/
theorem c_append_12 (l : Launch) (G : pT) (h0 : Nat) (k1 : Nat) (k2 : Nat) (k3 : Nat) (k4 : Nat) (k5 : Nat) (k6 : Nat) (f : Nat → Int32) (x : Int32) : PM l G pX0 yX11_append cX11_append 3 none ({ frames := 2, cells := 0, slots := 0, locals := 60 }) [.ref h0, .int x] [(h0, .inr (8, [.ref k1, .int 12, .ref k2, .ref k3, .ref k4, .ref k5, .ref k6, .null])), (k1, .inl (G.2.1 1, 5000, .inl f))] (fun (v : Option Value) (u : (Nat → Nat) × (Nat → Nat → Int32) × (Nat → Nat → Int64)) => v = none) (fun u => [(h0, .inr (8, [.ref k1, .int 16, .ref k2, .ref k3, .ref k4, .ref k5, .ref k6, .null])), (k1, .inl (G.2.1 1, 5000, .inl (u.2.1 0)))]) := by
  intro sz
  refine Met.ofW (cc := cX11_append) (maxL := 3) (ret := none) (by decide) rfl ?_
  intro p e s m args below meth c s₁ B hml hv
  obtain ⟨rfl, hsz, hP, hD0, hE, hX⟩ := hv
  have hx := B.exec
  have hb := B.bytes
  have hr := B.returns
  have hts := atoms_spec (ws := Cond.code yX11_append cX11_append 3 none :: pw) B.pre
  have hq : ∀ w ∈ pw, w.before _ s = true := fun w h => hts w (List.mem_cons_of_mem _ h)
  have hown : s.vm.findClass RX11 = some m.cls := findClass_of_methodNamed B.named
  have hlocks := B.notSynchronized
  subst hsz
  have hD := hD0.self (sz := s.heap.size)
  have hA : ∀ q : Nat, s.heap.size ≤ q → va_A [(h0, .inr (8, [.ref k1, .int 12, .ref k2, .ref k3, .ref k4, .ref k5, .ref k6, .null])), (k1, .inl (G.2.1 1, 5000, .inl f))] s.heap.size q := fun q h => Or.inr h
  have hP : va_P G.1 pCl [(h0, .inr (8, [.ref k1, .int 12, .ref k2, .ref k3, .ref k4, .ref k5, .ref k6, .null])), (k1, .inl (G.2.1 1, 5000, .inl f))] s.heap := hP
  generalize va_A [(h0, .inr (8, [.ref k1, .int 12, .ref k2, .ref k3, .ref k4, .ref k5, .ref k6, .null])), (k1, .inl (G.2.1 1, 5000, .inl f))] s.heap.size = A at hD hE hA ⊢
  have hS : va_S A s.heap s.heap [] := va_S.rf
  have hl := lv_entry ([.ref h0, .int x]) (n := 3) (Nat.le_of_ble_eq_true rfl)
  rw [lg_entry_eq]
  generalize (lg_sl ([.ref h0, .int x]) ++ List.replicate (3 - (lg_sl ([.ref h0, .int x])).length) Slot.unset).toArray = ls at hl ⊢
  have hl : lv_has ls 3 [(0, .ref h0), (1, .int x)] := hl
  refine lv_bipush (v := 24) hx hb dX11_append_0 (by decide) ?_
  refine lv_istore_n (lv' := [(2, .int 24), (0, .ref h0), (1, .int x)]) hx hb dX11_append_2 rfl hl (by decide) rfl (fun ls hl => ?_)
  refine lv_iload_n hx hb dX11_append_3 rfl (lv_at hl 0 rfl) ?_
  refine lv_if_lt (tgt := 48) hx hb dX11_append_4 (by decide) (fun c1 => absurd c1 (by decide)) (fun c1 => ?_)
  refine lv_aload_n hx hb dX11_append_7 rfl (lv_at hl 1 rfl) ?_
  refine va_get (D := G.1) (ci := 8) (v := .int 12) (C := RX11) (T := TX11) (N := 8) hx hb hq pin_wsX110 hown hE.1.1 hP 0 rfl rfl 1 (by decide) (hq _ pw_17) (fun _ h9 => h9) rfl dX11_append_8 ?_
  refine lv_aload_n hx hb dX11_append_11 rfl (lv_at hl 1 rfl) ?_
  refine va_get (D := G.1) (ci := 8) (v := .ref k1) (C := RX11) (T := TX11) (N := 8) hx hb hq pin_wsX110 hown hE.1.1 hP 0 rfl rfl 0 (by decide) (hq _ pw_1) (fun _ h9 => h9) rfl dX11_append_12 ?_
  refine va_alen (v := 5000) hx hb hE.1.1 hP 1 1 rfl rfl (show Int32.ofNat 5000 = 5000 from by decide) dX11_append_15 ?_
  refine lv_icmp_ge (tgt := 42) hx hb dX11_append_16 (by decide) (fun c2 => absurd c2 (by decide)) (fun c2 => ?_)
  refine lv_aload_n hx hb dX11_append_19 rfl (lv_at hl 1 rfl) ?_
  refine va_get (D := G.1) (ci := 8) (v := .ref k1) (C := RX11) (T := TX11) (N := 8) hx hb hq pin_wsX110 hown hE.1.1 hP 0 rfl rfl 0 (by decide) (hq _ pw_1) (fun _ h9 => h9) rfl dX11_append_20 ?_
  refine lv_aload_n hx hb dX11_append_23 rfl (lv_at hl 1 rfl) ?_
  refine va_get (D := G.1) (ci := 8) (v := .int 12) (C := RX11) (T := TX11) (N := 8) hx hb hq pin_wsX110 hown hE.1.1 hP 0 rfl rfl 1 (by decide) (hq _ pw_17) (fun _ h9 => h9) rfl dX11_append_24 ?_
  refine lv_iload_n hx hb dX11_append_27 rfl (lv_at hl 2 rfl) ?_
  refine lv_iload_n hx hb dX11_append_28 rfl (lv_at hl 0 rfl) ?_
  refine lv_iushr hx hb dX11_append_29 rfl ?_
  refine lv_topi (fun x3 e4 => ?_)
  refine lv_i2b hx hb dX11_append_30 rfl ?_
  refine lv_topi (fun x5 e6 => ?_)
  refine va_bast hx hb hE.1.1 hP hD hS 1 1 rfl rfl (by unfold vp_in; decide) dX11_append_31 (fun H locs hP hD hS => ?_)
  have hP : va_P G.1 pCl [(h0, .inr (8, [.ref k1, .int 12, .ref k2, .ref k3, .ref k4, .ref k5, .ref k6, .null])), (k1, .inl (G.2.1 1, 5000, .inl (upd f (Int32.toNatClampNeg 12) (vp_nar .byte x5))))] H := hP
  have hD : va_D A [(h0, .inr (8, [.ref k1, .int 12, .ref k2, .ref k3, .ref k4, .ref k5, .ref k6, .null])), (k1, .inl (G.2.1 1, 5000, .inl (upd f (Int32.toNatClampNeg 12) (vp_nar .byte x5))))] := hD
  generalize (upd f (Int32.toNatClampNeg 12) (vp_nar .byte x5)) = f7 at hP hD
  refine lv_aload_n hx hb dX11_append_32 rfl (lv_at hl 1 rfl) ?_
  refine lv_dup hx hb dX11_append_33 rfl ?_
  refine va_get (D := G.1) (ci := 8) (v := .int 12) (C := RX11) (T := TX11) (N := 8) hx hb hq pin_wsX110 hown hE.1.1 hP 0 rfl rfl 1 (by decide) (hq _ pw_17) (fun _ h9 => h9) rfl dX11_append_34 ?_
  refine lv_iconst (v := 1) hx hb dX11_append_37 (by decide) ?_
  refine lv_iadd hx hb dX11_append_38 ?_
  refine lv_topi (fun x8 e9 => ?_)
  obtain rfl : x8 = 13 := e9.trans (by decide)
  refine va_put (D := G.1) (ci := 8) (v := .int 13) (ty := .int) (C := RX11) (T := TX11) (N := 8) hx hb hq pin_wsX110 tyX11 tyX11_ok nmX11 hown hE.1.1 hP hD hS 0 rfl rfl 1 (by decide) (hq _ pw_17) (fun _ h9 => h9) rfl (by decide +kernel) rfl rfl (Nat.le_of_ble_eq_true rfl) dX11_append_39 (fun H locs hP hD hS => ?_)
  have hP : va_P G.1 pCl [(h0, .inr (8, [.ref k1, .int 13, .ref k2, .ref k3, .ref k4, .ref k5, .ref k6, .null])), (k1, .inl (G.2.1 1, 5000, .inl f7))] H := hP
  have hD : va_D A [(h0, .inr (8, [.ref k1, .int 13, .ref k2, .ref k3, .ref k4, .ref k5, .ref k6, .null])), (k1, .inl (G.2.1 1, 5000, .inl f7))] := hD
  refine lv_iinc (v := 16) (lv' := [(2, .int 16), (0, .ref h0), (1, .int x)]) hx hb dX11_append_42 hl (k := 0) rfl (by decide) (by decide) rfl (fun ls hl => ?_)
  refine lv_goto (tgt := 3) hx hb dX11_append_45 (by decide) ?_
  refine lv_iload_n hx hb dX11_append_3 rfl (lv_at hl 0 rfl) ?_
  refine lv_if_lt (tgt := 48) hx hb dX11_append_4 (by decide) (fun c10 => absurd c10 (by decide)) (fun c10 => ?_)
  refine lv_aload_n hx hb dX11_append_7 rfl (lv_at hl 1 rfl) ?_
  refine va_get (D := G.1) (ci := 8) (v := .int 13) (C := RX11) (T := TX11) (N := 8) hx hb hq pin_wsX110 hown hE.1.1 hP 0 rfl rfl 1 (by decide) (hq _ pw_17) (fun _ h9 => h9) rfl dX11_append_8 ?_
  refine lv_aload_n hx hb dX11_append_11 rfl (lv_at hl 1 rfl) ?_
  refine va_get (D := G.1) (ci := 8) (v := .ref k1) (C := RX11) (T := TX11) (N := 8) hx hb hq pin_wsX110 hown hE.1.1 hP 0 rfl rfl 0 (by decide) (hq _ pw_1) (fun _ h9 => h9) rfl dX11_append_12 ?_
  refine va_alen (v := 5000) hx hb hE.1.1 hP 1 1 rfl rfl (show Int32.ofNat 5000 = 5000 from by decide) dX11_append_15 ?_
  refine lv_icmp_ge (tgt := 42) hx hb dX11_append_16 (by decide) (fun c11 => absurd c11 (by decide)) (fun c11 => ?_)
  refine lv_aload_n hx hb dX11_append_19 rfl (lv_at hl 1 rfl) ?_
  refine va_get (D := G.1) (ci := 8) (v := .ref k1) (C := RX11) (T := TX11) (N := 8) hx hb hq pin_wsX110 hown hE.1.1 hP 0 rfl rfl 0 (by decide) (hq _ pw_1) (fun _ h9 => h9) rfl dX11_append_20 ?_
  refine lv_aload_n hx hb dX11_append_23 rfl (lv_at hl 1 rfl) ?_
  refine va_get (D := G.1) (ci := 8) (v := .int 13) (C := RX11) (T := TX11) (N := 8) hx hb hq pin_wsX110 hown hE.1.1 hP 0 rfl rfl 1 (by decide) (hq _ pw_17) (fun _ h9 => h9) rfl dX11_append_24 ?_
  refine lv_iload_n hx hb dX11_append_27 rfl (lv_at hl 2 rfl) ?_
  refine lv_iload_n hx hb dX11_append_28 rfl (lv_at hl 0 rfl) ?_
  refine lv_iushr hx hb dX11_append_29 rfl ?_
  refine lv_topi (fun x12 e13 => ?_)
  refine lv_i2b hx hb dX11_append_30 rfl ?_
  refine lv_topi (fun x14 e15 => ?_)
  refine va_bast hx hb hE.1.1 hP hD hS 1 1 rfl rfl (by unfold vp_in; decide) dX11_append_31 (fun H locs hP hD hS => ?_)
  have hP : va_P G.1 pCl [(h0, .inr (8, [.ref k1, .int 13, .ref k2, .ref k3, .ref k4, .ref k5, .ref k6, .null])), (k1, .inl (G.2.1 1, 5000, .inl (upd f7 (Int32.toNatClampNeg 13) (vp_nar .byte x14))))] H := hP
  have hD : va_D A [(h0, .inr (8, [.ref k1, .int 13, .ref k2, .ref k3, .ref k4, .ref k5, .ref k6, .null])), (k1, .inl (G.2.1 1, 5000, .inl (upd f7 (Int32.toNatClampNeg 13) (vp_nar .byte x14))))] := hD
  generalize (upd f7 (Int32.toNatClampNeg 13) (vp_nar .byte x14)) = f16 at hP hD
  refine lv_aload_n hx hb dX11_append_32 rfl (lv_at hl 1 rfl) ?_
  refine lv_dup hx hb dX11_append_33 rfl ?_
  refine va_get (D := G.1) (ci := 8) (v := .int 13) (C := RX11) (T := TX11) (N := 8) hx hb hq pin_wsX110 hown hE.1.1 hP 0 rfl rfl 1 (by decide) (hq _ pw_17) (fun _ h9 => h9) rfl dX11_append_34 ?_
  refine lv_iconst (v := 1) hx hb dX11_append_37 (by decide) ?_
  refine lv_iadd hx hb dX11_append_38 ?_
  refine lv_topi (fun x17 e18 => ?_)
  obtain rfl : x17 = 14 := e18.trans (by decide)
  refine va_put (D := G.1) (ci := 8) (v := .int 14) (ty := .int) (C := RX11) (T := TX11) (N := 8) hx hb hq pin_wsX110 tyX11 tyX11_ok nmX11 hown hE.1.1 hP hD hS 0 rfl rfl 1 (by decide) (hq _ pw_17) (fun _ h9 => h9) rfl (by decide +kernel) rfl rfl (Nat.le_of_ble_eq_true rfl) dX11_append_39 (fun H locs hP hD hS => ?_)
  have hP : va_P G.1 pCl [(h0, .inr (8, [.ref k1, .int 14, .ref k2, .ref k3, .ref k4, .ref k5, .ref k6, .null])), (k1, .inl (G.2.1 1, 5000, .inl f16))] H := hP
  have hD : va_D A [(h0, .inr (8, [.ref k1, .int 14, .ref k2, .ref k3, .ref k4, .ref k5, .ref k6, .null])), (k1, .inl (G.2.1 1, 5000, .inl f16))] := hD
  refine lv_iinc (v := 8) (lv' := [(2, .int 8), (0, .ref h0), (1, .int x)]) hx hb dX11_append_42 hl (k := 0) rfl (by decide) (by decide) rfl (fun ls hl => ?_)
  refine lv_goto (tgt := 3) hx hb dX11_append_45 (by decide) ?_
  refine lv_iload_n hx hb dX11_append_3 rfl (lv_at hl 0 rfl) ?_
  refine lv_if_lt (tgt := 48) hx hb dX11_append_4 (by decide) (fun c19 => absurd c19 (by decide)) (fun c19 => ?_)
  refine lv_aload_n hx hb dX11_append_7 rfl (lv_at hl 1 rfl) ?_
  refine va_get (D := G.1) (ci := 8) (v := .int 14) (C := RX11) (T := TX11) (N := 8) hx hb hq pin_wsX110 hown hE.1.1 hP 0 rfl rfl 1 (by decide) (hq _ pw_17) (fun _ h9 => h9) rfl dX11_append_8 ?_
  refine lv_aload_n hx hb dX11_append_11 rfl (lv_at hl 1 rfl) ?_
  refine va_get (D := G.1) (ci := 8) (v := .ref k1) (C := RX11) (T := TX11) (N := 8) hx hb hq pin_wsX110 hown hE.1.1 hP 0 rfl rfl 0 (by decide) (hq _ pw_1) (fun _ h9 => h9) rfl dX11_append_12 ?_
  refine va_alen (v := 5000) hx hb hE.1.1 hP 1 1 rfl rfl (show Int32.ofNat 5000 = 5000 from by decide) dX11_append_15 ?_
  refine lv_icmp_ge (tgt := 42) hx hb dX11_append_16 (by decide) (fun c20 => absurd c20 (by decide)) (fun c20 => ?_)
  refine lv_aload_n hx hb dX11_append_19 rfl (lv_at hl 1 rfl) ?_
  refine va_get (D := G.1) (ci := 8) (v := .ref k1) (C := RX11) (T := TX11) (N := 8) hx hb hq pin_wsX110 hown hE.1.1 hP 0 rfl rfl 0 (by decide) (hq _ pw_1) (fun _ h9 => h9) rfl dX11_append_20 ?_
  refine lv_aload_n hx hb dX11_append_23 rfl (lv_at hl 1 rfl) ?_
  refine va_get (D := G.1) (ci := 8) (v := .int 14) (C := RX11) (T := TX11) (N := 8) hx hb hq pin_wsX110 hown hE.1.1 hP 0 rfl rfl 1 (by decide) (hq _ pw_17) (fun _ h9 => h9) rfl dX11_append_24 ?_
  refine lv_iload_n hx hb dX11_append_27 rfl (lv_at hl 2 rfl) ?_
  refine lv_iload_n hx hb dX11_append_28 rfl (lv_at hl 0 rfl) ?_
  refine lv_iushr hx hb dX11_append_29 rfl ?_
  refine lv_topi (fun x21 e22 => ?_)
  refine lv_i2b hx hb dX11_append_30 rfl ?_
  refine lv_topi (fun x23 e24 => ?_)
  refine va_bast hx hb hE.1.1 hP hD hS 1 1 rfl rfl (by unfold vp_in; decide) dX11_append_31 (fun H locs hP hD hS => ?_)
  have hP : va_P G.1 pCl [(h0, .inr (8, [.ref k1, .int 14, .ref k2, .ref k3, .ref k4, .ref k5, .ref k6, .null])), (k1, .inl (G.2.1 1, 5000, .inl (upd f16 (Int32.toNatClampNeg 14) (vp_nar .byte x23))))] H := hP
  have hD : va_D A [(h0, .inr (8, [.ref k1, .int 14, .ref k2, .ref k3, .ref k4, .ref k5, .ref k6, .null])), (k1, .inl (G.2.1 1, 5000, .inl (upd f16 (Int32.toNatClampNeg 14) (vp_nar .byte x23))))] := hD
  generalize (upd f16 (Int32.toNatClampNeg 14) (vp_nar .byte x23)) = f25 at hP hD
  refine lv_aload_n hx hb dX11_append_32 rfl (lv_at hl 1 rfl) ?_
  refine lv_dup hx hb dX11_append_33 rfl ?_
  refine va_get (D := G.1) (ci := 8) (v := .int 14) (C := RX11) (T := TX11) (N := 8) hx hb hq pin_wsX110 hown hE.1.1 hP 0 rfl rfl 1 (by decide) (hq _ pw_17) (fun _ h9 => h9) rfl dX11_append_34 ?_
  refine lv_iconst (v := 1) hx hb dX11_append_37 (by decide) ?_
  refine lv_iadd hx hb dX11_append_38 ?_
  refine lv_topi (fun x26 e27 => ?_)
  obtain rfl : x26 = 15 := e27.trans (by decide)
  refine va_put (D := G.1) (ci := 8) (v := .int 15) (ty := .int) (C := RX11) (T := TX11) (N := 8) hx hb hq pin_wsX110 tyX11 tyX11_ok nmX11 hown hE.1.1 hP hD hS 0 rfl rfl 1 (by decide) (hq _ pw_17) (fun _ h9 => h9) rfl (by decide +kernel) rfl rfl (Nat.le_of_ble_eq_true rfl) dX11_append_39 (fun H locs hP hD hS => ?_)
  have hP : va_P G.1 pCl [(h0, .inr (8, [.ref k1, .int 15, .ref k2, .ref k3, .ref k4, .ref k5, .ref k6, .null])), (k1, .inl (G.2.1 1, 5000, .inl f25))] H := hP
  have hD : va_D A [(h0, .inr (8, [.ref k1, .int 15, .ref k2, .ref k3, .ref k4, .ref k5, .ref k6, .null])), (k1, .inl (G.2.1 1, 5000, .inl f25))] := hD
  refine lv_iinc (v := 0) (lv' := [(2, .int 0), (0, .ref h0), (1, .int x)]) hx hb dX11_append_42 hl (k := 0) rfl (by decide) (by decide) rfl (fun ls hl => ?_)
  refine lv_goto (tgt := 3) hx hb dX11_append_45 (by decide) ?_
  refine lv_iload_n hx hb dX11_append_3 rfl (lv_at hl 0 rfl) ?_
  refine lv_if_lt (tgt := 48) hx hb dX11_append_4 (by decide) (fun c28 => absurd c28 (by decide)) (fun c28 => ?_)
  refine lv_aload_n hx hb dX11_append_7 rfl (lv_at hl 1 rfl) ?_
  refine va_get (D := G.1) (ci := 8) (v := .int 15) (C := RX11) (T := TX11) (N := 8) hx hb hq pin_wsX110 hown hE.1.1 hP 0 rfl rfl 1 (by decide) (hq _ pw_17) (fun _ h9 => h9) rfl dX11_append_8 ?_
  refine lv_aload_n hx hb dX11_append_11 rfl (lv_at hl 1 rfl) ?_
  refine va_get (D := G.1) (ci := 8) (v := .ref k1) (C := RX11) (T := TX11) (N := 8) hx hb hq pin_wsX110 hown hE.1.1 hP 0 rfl rfl 0 (by decide) (hq _ pw_1) (fun _ h9 => h9) rfl dX11_append_12 ?_
  refine va_alen (v := 5000) hx hb hE.1.1 hP 1 1 rfl rfl (show Int32.ofNat 5000 = 5000 from by decide) dX11_append_15 ?_
  refine lv_icmp_ge (tgt := 42) hx hb dX11_append_16 (by decide) (fun c29 => absurd c29 (by decide)) (fun c29 => ?_)
  refine lv_aload_n hx hb dX11_append_19 rfl (lv_at hl 1 rfl) ?_
  refine va_get (D := G.1) (ci := 8) (v := .ref k1) (C := RX11) (T := TX11) (N := 8) hx hb hq pin_wsX110 hown hE.1.1 hP 0 rfl rfl 0 (by decide) (hq _ pw_1) (fun _ h9 => h9) rfl dX11_append_20 ?_
  refine lv_aload_n hx hb dX11_append_23 rfl (lv_at hl 1 rfl) ?_
  refine va_get (D := G.1) (ci := 8) (v := .int 15) (C := RX11) (T := TX11) (N := 8) hx hb hq pin_wsX110 hown hE.1.1 hP 0 rfl rfl 1 (by decide) (hq _ pw_17) (fun _ h9 => h9) rfl dX11_append_24 ?_
  refine lv_iload_n hx hb dX11_append_27 rfl (lv_at hl 2 rfl) ?_
  refine lv_iload_n hx hb dX11_append_28 rfl (lv_at hl 0 rfl) ?_
  refine lv_iushr hx hb dX11_append_29 rfl ?_
  refine lv_topi (fun x30 e31 => ?_)
  refine lv_i2b hx hb dX11_append_30 rfl ?_
  refine lv_topi (fun x32 e33 => ?_)
  refine va_bast hx hb hE.1.1 hP hD hS 1 1 rfl rfl (by unfold vp_in; decide) dX11_append_31 (fun H locs hP hD hS => ?_)
  have hP : va_P G.1 pCl [(h0, .inr (8, [.ref k1, .int 15, .ref k2, .ref k3, .ref k4, .ref k5, .ref k6, .null])), (k1, .inl (G.2.1 1, 5000, .inl (upd f25 (Int32.toNatClampNeg 15) (vp_nar .byte x32))))] H := hP
  have hD : va_D A [(h0, .inr (8, [.ref k1, .int 15, .ref k2, .ref k3, .ref k4, .ref k5, .ref k6, .null])), (k1, .inl (G.2.1 1, 5000, .inl (upd f25 (Int32.toNatClampNeg 15) (vp_nar .byte x32))))] := hD
  generalize (upd f25 (Int32.toNatClampNeg 15) (vp_nar .byte x32)) = f34 at hP hD
  refine lv_aload_n hx hb dX11_append_32 rfl (lv_at hl 1 rfl) ?_
  refine lv_dup hx hb dX11_append_33 rfl ?_
  refine va_get (D := G.1) (ci := 8) (v := .int 15) (C := RX11) (T := TX11) (N := 8) hx hb hq pin_wsX110 hown hE.1.1 hP 0 rfl rfl 1 (by decide) (hq _ pw_17) (fun _ h9 => h9) rfl dX11_append_34 ?_
  refine lv_iconst (v := 1) hx hb dX11_append_37 (by decide) ?_
  refine lv_iadd hx hb dX11_append_38 ?_
  refine lv_topi (fun x35 e36 => ?_)
  obtain rfl : x35 = 16 := e36.trans (by decide)
  refine va_put (D := G.1) (ci := 8) (v := .int 16) (ty := .int) (C := RX11) (T := TX11) (N := 8) hx hb hq pin_wsX110 tyX11 tyX11_ok nmX11 hown hE.1.1 hP hD hS 0 rfl rfl 1 (by decide) (hq _ pw_17) (fun _ h9 => h9) rfl (by decide +kernel) rfl rfl (Nat.le_of_ble_eq_true rfl) dX11_append_39 (fun H locs hP hD hS => ?_)
  have hP : va_P G.1 pCl [(h0, .inr (8, [.ref k1, .int 16, .ref k2, .ref k3, .ref k4, .ref k5, .ref k6, .null])), (k1, .inl (G.2.1 1, 5000, .inl f34))] H := hP
  have hD : va_D A [(h0, .inr (8, [.ref k1, .int 16, .ref k2, .ref k3, .ref k4, .ref k5, .ref k6, .null])), (k1, .inl (G.2.1 1, 5000, .inl f34))] := hD
  refine lv_iinc (v := (-8)) (lv' := [(2, .int (-8)), (0, .ref h0), (1, .int x)]) hx hb dX11_append_42 hl (k := 0) rfl (by decide) (by decide) rfl (fun ls hl => ?_)
  refine lv_goto (tgt := 3) hx hb dX11_append_45 (by decide) ?_
  refine lv_iload_n hx hb dX11_append_3 rfl (lv_at hl 0 rfl) ?_
  refine lv_if_lt (tgt := 48) hx hb dX11_append_4 (by decide) (fun c37 => ?_) (fun c37 => absurd c37 (by decide))
  refine W.widen (k := 0) (n := 0) (Nat.le_of_ble_eq_true rfl) (Nat.le_of_ble_eq_true rfl) ?_
  exact W.vret hx hb hr (fun t ht hW => ⟨⟨_, ((fun _ => 0), (fun k => match k with | _ => f34), (fun _ => fun _ => 0)), rfl, rfl, by rw [ht]; exact hP.sub [0, 1] rfl, hD.sub [0, 1] (by decide) rfl⟩, hS.F ht⟩) hS.2.2 dX11_append_48
set_option maxHeartbeats 1000000 in
set_option maxRecDepth 100000 in
/-- append, 16 bytes on the tape -/
theorem c_append_16 (l : Launch) (G : pT) (h0 : Nat) (k1 : Nat) (k2 : Nat) (k3 : Nat) (k4 : Nat) (k5 : Nat) (k6 : Nat) (f : Nat → Int32) (x : Int32) : PM l G pX0 yX11_append cX11_append 3 none ({ frames := 2, cells := 0, slots := 0, locals := 60 }) [.ref h0, .int x] [(h0, .inr (8, [.ref k1, .int 16, .ref k2, .ref k3, .ref k4, .ref k5, .ref k6, .null])), (k1, .inl (G.2.1 1, 5000, .inl f))] (fun (v : Option Value) (u : (Nat → Nat) × (Nat → Nat → Int32) × (Nat → Nat → Int64)) => v = none) (fun u => [(h0, .inr (8, [.ref k1, .int 20, .ref k2, .ref k3, .ref k4, .ref k5, .ref k6, .null])), (k1, .inl (G.2.1 1, 5000, .inl (u.2.1 0)))]) := by
  intro sz
  refine Met.ofW (cc := cX11_append) (maxL := 3) (ret := none) (by decide) rfl ?_
  intro p e s m args below meth c s₁ B hml hv
  obtain ⟨rfl, hsz, hP, hD0, hE, hX⟩ := hv
  have hx := B.exec
  have hb := B.bytes
  have hr := B.returns
  have hts := atoms_spec (ws := Cond.code yX11_append cX11_append 3 none :: pw) B.pre
  have hq : ∀ w ∈ pw, w.before _ s = true := fun w h => hts w (List.mem_cons_of_mem _ h)
  have hown : s.vm.findClass RX11 = some m.cls := findClass_of_methodNamed B.named
  have hlocks := B.notSynchronized
  subst hsz
  have hD := hD0.self (sz := s.heap.size)
  have hA : ∀ q : Nat, s.heap.size ≤ q → va_A [(h0, .inr (8, [.ref k1, .int 16, .ref k2, .ref k3, .ref k4, .ref k5, .ref k6, .null])), (k1, .inl (G.2.1 1, 5000, .inl f))] s.heap.size q := fun q h => Or.inr h
  have hP : va_P G.1 pCl [(h0, .inr (8, [.ref k1, .int 16, .ref k2, .ref k3, .ref k4, .ref k5, .ref k6, .null])), (k1, .inl (G.2.1 1, 5000, .inl f))] s.heap := hP
  generalize va_A [(h0, .inr (8, [.ref k1, .int 16, .ref k2, .ref k3, .ref k4, .ref k5, .ref k6, .null])), (k1, .inl (G.2.1 1, 5000, .inl f))] s.heap.size = A at hD hE hA ⊢
  have hS : va_S A s.heap s.heap [] := va_S.rf
  have hl := lv_entry ([.ref h0, .int x]) (n := 3) (Nat.le_of_ble_eq_true rfl)
  rw [lg_entry_eq]
  generalize (lg_sl ([.ref h0, .int x]) ++ List.replicate (3 - (lg_sl ([.ref h0, .int x])).length) Slot.unset).toArray = ls at hl ⊢
  have hl : lv_has ls 3 [(0, .ref h0), (1, .int x)] := hl
  refine lv_bipush (v := 24) hx hb dX11_append_0 (by decide) ?_
  refine lv_istore_n (lv' := [(2, .int 24), (0, .ref h0), (1, .int x)]) hx hb dX11_append_2 rfl hl (by decide) rfl (fun ls hl => ?_)
  refine lv_iload_n hx hb dX11_append_3 rfl (lv_at hl 0 rfl) ?_
  refine lv_if_lt (tgt := 48) hx hb dX11_append_4 (by decide) (fun c1 => absurd c1 (by decide)) (fun c1 => ?_)
  refine lv_aload_n hx hb dX11_append_7 rfl (lv_at hl 1 rfl) ?_
  refine va_get (D := G.1) (ci := 8) (v := .int 16) (C := RX11) (T := TX11) (N := 8) hx hb hq pin_wsX110 hown hE.1.1 hP 0 rfl rfl 1 (by decide) (hq _ pw_17) (fun _ h9 => h9) rfl dX11_append_8 ?_
  refine lv_aload_n hx hb dX11_append_11 rfl (lv_at hl 1 rfl) ?_
  refine va_get (D := G.1) (ci := 8) (v := .ref k1) (C := RX11) (T := TX11) (N := 8) hx hb hq pin_wsX110 hown hE.1.1 hP 0 rfl rfl 0 (by decide) (hq _ pw_1) (fun _ h9 => h9) rfl dX11_append_12 ?_
  refine va_alen (v := 5000) hx hb hE.1.1 hP 1 1 rfl rfl (show Int32.ofNat 5000 = 5000 from by decide) dX11_append_15 ?_
  refine lv_icmp_ge (tgt := 42) hx hb dX11_append_16 (by decide) (fun c2 => absurd c2 (by decide)) (fun c2 => ?_)
  refine lv_aload_n hx hb dX11_append_19 rfl (lv_at hl 1 rfl) ?_
  refine va_get (D := G.1) (ci := 8) (v := .ref k1) (C := RX11) (T := TX11) (N := 8) hx hb hq pin_wsX110 hown hE.1.1 hP 0 rfl rfl 0 (by decide) (hq _ pw_1) (fun _ h9 => h9) rfl dX11_append_20 ?_
  refine lv_aload_n hx hb dX11_append_23 rfl (lv_at hl 1 rfl) ?_
  refine va_get (D := G.1) (ci := 8) (v := .int 16) (C := RX11) (T := TX11) (N := 8) hx hb hq pin_wsX110 hown hE.1.1 hP 0 rfl rfl 1 (by decide) (hq _ pw_17) (fun _ h9 => h9) rfl dX11_append_24 ?_
  refine lv_iload_n hx hb dX11_append_27 rfl (lv_at hl 2 rfl) ?_
  refine lv_iload_n hx hb dX11_append_28 rfl (lv_at hl 0 rfl) ?_
  refine lv_iushr hx hb dX11_append_29 rfl ?_
  refine lv_topi (fun x3 e4 => ?_)
  refine lv_i2b hx hb dX11_append_30 rfl ?_
  refine lv_topi (fun x5 e6 => ?_)
  refine va_bast hx hb hE.1.1 hP hD hS 1 1 rfl rfl (by unfold vp_in; decide) dX11_append_31 (fun H locs hP hD hS => ?_)
  have hP : va_P G.1 pCl [(h0, .inr (8, [.ref k1, .int 16, .ref k2, .ref k3, .ref k4, .ref k5, .ref k6, .null])), (k1, .inl (G.2.1 1, 5000, .inl (upd f (Int32.toNatClampNeg 16) (vp_nar .byte x5))))] H := hP
  have hD : va_D A [(h0, .inr (8, [.ref k1, .int 16, .ref k2, .ref k3, .ref k4, .ref k5, .ref k6, .null])), (k1, .inl (G.2.1 1, 5000, .inl (upd f (Int32.toNatClampNeg 16) (vp_nar .byte x5))))] := hD
  generalize (upd f (Int32.toNatClampNeg 16) (vp_nar .byte x5)) = f7 at hP hD
  refine lv_aload_n hx hb dX11_append_32 rfl (lv_at hl 1 rfl) ?_
  refine lv_dup hx hb dX11_append_33 rfl ?_
  refine va_get (D := G.1) (ci := 8) (v := .int 16) (C := RX11) (T := TX11) (N := 8) hx hb hq pin_wsX110 hown hE.1.1 hP 0 rfl rfl 1 (by decide) (hq _ pw_17) (fun _ h9 => h9) rfl dX11_append_34 ?_
  refine lv_iconst (v := 1) hx hb dX11_append_37 (by decide) ?_
  refine lv_iadd hx hb dX11_append_38 ?_
  refine lv_topi (fun x8 e9 => ?_)
  obtain rfl : x8 = 17 := e9.trans (by decide)
  refine va_put (D := G.1) (ci := 8) (v := .int 17) (ty := .int) (C := RX11) (T := TX11) (N := 8) hx hb hq pin_wsX110 tyX11 tyX11_ok nmX11 hown hE.1.1 hP hD hS 0 rfl rfl 1 (by decide) (hq _ pw_17) (fun _ h9 => h9) rfl (by decide +kernel) rfl rfl (Nat.le_of_ble_eq_true rfl) dX11_append_39 (fun H locs hP hD hS => ?_)
  have hP : va_P G.1 pCl [(h0, .inr (8, [.ref k1, .int 17, .ref k2, .ref k3, .ref k4, .ref k5, .ref k6, .null])), (k1, .inl (G.2.1 1, 5000, .inl f7))] H := hP
  have hD : va_D A [(h0, .inr (8, [.ref k1, .int 17, .ref k2, .ref k3, .ref k4, .ref k5, .ref k6, .null])), (k1, .inl (G.2.1 1, 5000, .inl f7))] := hD
  refine lv_iinc (v := 16) (lv' := [(2, .int 16), (0, .ref h0), (1, .int x)]) hx hb dX11_append_42 hl (k := 0) rfl (by decide) (by decide) rfl (fun ls hl => ?_)
  refine lv_goto (tgt := 3) hx hb dX11_append_45 (by decide) ?_
  refine lv_iload_n hx hb dX11_append_3 rfl (lv_at hl 0 rfl) ?_
  refine lv_if_lt (tgt := 48) hx hb dX11_append_4 (by decide) (fun c10 => absurd c10 (by decide)) (fun c10 => ?_)
  refine lv_aload_n hx hb dX11_append_7 rfl (lv_at hl 1 rfl) ?_
  refine va_get (D := G.1) (ci := 8) (v := .int 17) (C := RX11) (T := TX11) (N := 8) hx hb hq pin_wsX110 hown hE.1.1 hP 0 rfl rfl 1 (by decide) (hq _ pw_17) (fun _ h9 => h9) rfl dX11_append_8 ?_
  refine lv_aload_n hx hb dX11_append_11 rfl (lv_at hl 1 rfl) ?_
  refine va_get (D := G.1) (ci := 8) (v := .ref k1) (C := RX11) (T := TX11) (N := 8) hx hb hq pin_wsX110 hown hE.1.1 hP 0 rfl rfl 0 (by decide) (hq _ pw_1) (fun _ h9 => h9) rfl dX11_append_12 ?_
  refine va_alen (v := 5000) hx hb hE.1.1 hP 1 1 rfl rfl (show Int32.ofNat 5000 = 5000 from by decide) dX11_append_15 ?_
  refine lv_icmp_ge (tgt := 42) hx hb dX11_append_16 (by decide) (fun c11 => absurd c11 (by decide)) (fun c11 => ?_)
  refine lv_aload_n hx hb dX11_append_19 rfl (lv_at hl 1 rfl) ?_
  refine va_get (D := G.1) (ci := 8) (v := .ref k1) (C := RX11) (T := TX11) (N := 8) hx hb hq pin_wsX110 hown hE.1.1 hP 0 rfl rfl 0 (by decide) (hq _ pw_1) (fun _ h9 => h9) rfl dX11_append_20 ?_
  refine lv_aload_n hx hb dX11_append_23 rfl (lv_at hl 1 rfl) ?_
  refine va_get (D := G.1) (ci := 8) (v := .int 17) (C := RX11) (T := TX11) (N := 8) hx hb hq pin_wsX110 hown hE.1.1 hP 0 rfl rfl 1 (by decide) (hq _ pw_17) (fun _ h9 => h9) rfl dX11_append_24 ?_
  refine lv_iload_n hx hb dX11_append_27 rfl (lv_at hl 2 rfl) ?_
  refine lv_iload_n hx hb dX11_append_28 rfl (lv_at hl 0 rfl) ?_
  refine lv_iushr hx hb dX11_append_29 rfl ?_
  refine lv_topi (fun x12 e13 => ?_)
  refine lv_i2b hx hb dX11_append_30 rfl ?_
  refine lv_topi (fun x14 e15 => ?_)
  refine va_bast hx hb hE.1.1 hP hD hS 1 1 rfl rfl (by unfold vp_in; decide) dX11_append_31 (fun H locs hP hD hS => ?_)
  have hP : va_P G.1 pCl [(h0, .inr (8, [.ref k1, .int 17, .ref k2, .ref k3, .ref k4, .ref k5, .ref k6, .null])), (k1, .inl (G.2.1 1, 5000, .inl (upd f7 (Int32.toNatClampNeg 17) (vp_nar .byte x14))))] H := hP
  have hD : va_D A [(h0, .inr (8, [.ref k1, .int 17, .ref k2, .ref k3, .ref k4, .ref k5, .ref k6, .null])), (k1, .inl (G.2.1 1, 5000, .inl (upd f7 (Int32.toNatClampNeg 17) (vp_nar .byte x14))))] := hD
  generalize (upd f7 (Int32.toNatClampNeg 17) (vp_nar .byte x14)) = f16 at hP hD
  refine lv_aload_n hx hb dX11_append_32 rfl (lv_at hl 1 rfl) ?_
  refine lv_dup hx hb dX11_append_33 rfl ?_
  refine va_get (D := G.1) (ci := 8) (v := .int 17) (C := RX11) (T := TX11) (N := 8) hx hb hq pin_wsX110 hown hE.1.1 hP 0 rfl rfl 1 (by decide) (hq _ pw_17) (fun _ h9 => h9) rfl dX11_append_34 ?_
  refine lv_iconst (v := 1) hx hb dX11_append_37 (by decide) ?_
  refine lv_iadd hx hb dX11_append_38 ?_
  refine lv_topi (fun x17 e18 => ?_)
  obtain rfl : x17 = 18 := e18.trans (by decide)
  refine va_put (D := G.1) (ci := 8) (v := .int 18) (ty := .int) (C := RX11) (T := TX11) (N := 8) hx hb hq pin_wsX110 tyX11 tyX11_ok nmX11 hown hE.1.1 hP hD hS 0 rfl rfl 1 (by decide) (hq _ pw_17) (fun _ h9 => h9) rfl (by decide +kernel) rfl rfl (Nat.le_of_ble_eq_true rfl) dX11_append_39 (fun H locs hP hD hS => ?_)
  have hP : va_P G.1 pCl [(h0, .inr (8, [.ref k1, .int 18, .ref k2, .ref k3, .ref k4, .ref k5, .ref k6, .null])), (k1, .inl (G.2.1 1, 5000, .inl f16))] H := hP
  have hD : va_D A [(h0, .inr (8, [.ref k1, .int 18, .ref k2, .ref k3, .ref k4, .ref k5, .ref k6, .null])), (k1, .inl (G.2.1 1, 5000, .inl f16))] := hD
  refine lv_iinc (v := 8) (lv' := [(2, .int 8), (0, .ref h0), (1, .int x)]) hx hb dX11_append_42 hl (k := 0) rfl (by decide) (by decide) rfl (fun ls hl => ?_)
  refine lv_goto (tgt := 3) hx hb dX11_append_45 (by decide) ?_
  refine lv_iload_n hx hb dX11_append_3 rfl (lv_at hl 0 rfl) ?_
  refine lv_if_lt (tgt := 48) hx hb dX11_append_4 (by decide) (fun c19 => absurd c19 (by decide)) (fun c19 => ?_)
  refine lv_aload_n hx hb dX11_append_7 rfl (lv_at hl 1 rfl) ?_
  refine va_get (D := G.1) (ci := 8) (v := .int 18) (C := RX11) (T := TX11) (N := 8) hx hb hq pin_wsX110 hown hE.1.1 hP 0 rfl rfl 1 (by decide) (hq _ pw_17) (fun _ h9 => h9) rfl dX11_append_8 ?_
  refine lv_aload_n hx hb dX11_append_11 rfl (lv_at hl 1 rfl) ?_
  refine va_get (D := G.1) (ci := 8) (v := .ref k1) (C := RX11) (T := TX11) (N := 8) hx hb hq pin_wsX110 hown hE.1.1 hP 0 rfl rfl 0 (by decide) (hq _ pw_1) (fun _ h9 => h9) rfl dX11_append_12 ?_
  refine va_alen (v := 5000) hx hb hE.1.1 hP 1 1 rfl rfl (show Int32.ofNat 5000 = 5000 from by decide) dX11_append_15 ?_
  refine lv_icmp_ge (tgt := 42) hx hb dX11_append_16 (by decide) (fun c20 => absurd c20 (by decide)) (fun c20 => ?_)
  refine lv_aload_n hx hb dX11_append_19 rfl (lv_at hl 1 rfl) ?_
  refine va_get (D := G.1) (ci := 8) (v := .ref k1) (C := RX11) (T := TX11) (N := 8) hx hb hq pin_wsX110 hown hE.1.1 hP 0 rfl rfl 0 (by decide) (hq _ pw_1) (fun _ h9 => h9) rfl dX11_append_20 ?_
  refine lv_aload_n hx hb dX11_append_23 rfl (lv_at hl 1 rfl) ?_
  refine va_get (D := G.1) (ci := 8) (v := .int 18) (C := RX11) (T := TX11) (N := 8) hx hb hq pin_wsX110 hown hE.1.1 hP 0 rfl rfl 1 (by decide) (hq _ pw_17) (fun _ h9 => h9) rfl dX11_append_24 ?_
  refine lv_iload_n hx hb dX11_append_27 rfl (lv_at hl 2 rfl) ?_
  refine lv_iload_n hx hb dX11_append_28 rfl (lv_at hl 0 rfl) ?_
  refine lv_iushr hx hb dX11_append_29 rfl ?_
  refine lv_topi (fun x21 e22 => ?_)
  refine lv_i2b hx hb dX11_append_30 rfl ?_
  refine lv_topi (fun x23 e24 => ?_)
  refine va_bast hx hb hE.1.1 hP hD hS 1 1 rfl rfl (by unfold vp_in; decide) dX11_append_31 (fun H locs hP hD hS => ?_)
  have hP : va_P G.1 pCl [(h0, .inr (8, [.ref k1, .int 18, .ref k2, .ref k3, .ref k4, .ref k5, .ref k6, .null])), (k1, .inl (G.2.1 1, 5000, .inl (upd f16 (Int32.toNatClampNeg 18) (vp_nar .byte x23))))] H := hP
  have hD : va_D A [(h0, .inr (8, [.ref k1, .int 18, .ref k2, .ref k3, .ref k4, .ref k5, .ref k6, .null])), (k1, .inl (G.2.1 1, 5000, .inl (upd f16 (Int32.toNatClampNeg 18) (vp_nar .byte x23))))] := hD
  generalize (upd f16 (Int32.toNatClampNeg 18) (vp_nar .byte x23)) = f25 at hP hD
  refine lv_aload_n hx hb dX11_append_32 rfl (lv_at hl 1 rfl) ?_
  refine lv_dup hx hb dX11_append_33 rfl ?_
  refine va_get (D := G.1) (ci := 8) (v := .int 18) (C := RX11) (T := TX11) (N := 8) hx hb hq pin_wsX110 hown hE.1.1 hP 0 rfl rfl 1 (by decide) (hq _ pw_17) (fun _ h9 => h9) rfl dX11_append_34 ?_
  refine lv_iconst (v := 1) hx hb dX11_append_37 (by decide) ?_
  refine lv_iadd hx hb dX11_append_38 ?_
  refine lv_topi (fun x26 e27 => ?_)
  obtain rfl : x26 = 19 := e27.trans (by decide)
  refine va_put (D := G.1) (ci := 8) (v := .int 19) (ty := .int) (C := RX11) (T := TX11) (N := 8) hx hb hq pin_wsX110 tyX11 tyX11_ok nmX11 hown hE.1.1 hP hD hS 0 rfl rfl 1 (by decide) (hq _ pw_17) (fun _ h9 => h9) rfl (by decide +kernel) rfl rfl (Nat.le_of_ble_eq_true rfl) dX11_append_39 (fun H locs hP hD hS => ?_)
  have hP : va_P G.1 pCl [(h0, .inr (8, [.ref k1, .int 19, .ref k2, .ref k3, .ref k4, .ref k5, .ref k6, .null])), (k1, .inl (G.2.1 1, 5000, .inl f25))] H := hP
  have hD : va_D A [(h0, .inr (8, [.ref k1, .int 19, .ref k2, .ref k3, .ref k4, .ref k5, .ref k6, .null])), (k1, .inl (G.2.1 1, 5000, .inl f25))] := hD
  refine lv_iinc (v := 0) (lv' := [(2, .int 0), (0, .ref h0), (1, .int x)]) hx hb dX11_append_42 hl (k := 0) rfl (by decide) (by decide) rfl (fun ls hl => ?_)
  refine lv_goto (tgt := 3) hx hb dX11_append_45 (by decide) ?_
  refine lv_iload_n hx hb dX11_append_3 rfl (lv_at hl 0 rfl) ?_
  refine lv_if_lt (tgt := 48) hx hb dX11_append_4 (by decide) (fun c28 => absurd c28 (by decide)) (fun c28 => ?_)
  refine lv_aload_n hx hb dX11_append_7 rfl (lv_at hl 1 rfl) ?_
  refine va_get (D := G.1) (ci := 8) (v := .int 19) (C := RX11) (T := TX11) (N := 8) hx hb hq pin_wsX110 hown hE.1.1 hP 0 rfl rfl 1 (by decide) (hq _ pw_17) (fun _ h9 => h9) rfl dX11_append_8 ?_
  refine lv_aload_n hx hb dX11_append_11 rfl (lv_at hl 1 rfl) ?_
  refine va_get (D := G.1) (ci := 8) (v := .ref k1) (C := RX11) (T := TX11) (N := 8) hx hb hq pin_wsX110 hown hE.1.1 hP 0 rfl rfl 0 (by decide) (hq _ pw_1) (fun _ h9 => h9) rfl dX11_append_12 ?_
  refine va_alen (v := 5000) hx hb hE.1.1 hP 1 1 rfl rfl (show Int32.ofNat 5000 = 5000 from by decide) dX11_append_15 ?_
  refine lv_icmp_ge (tgt := 42) hx hb dX11_append_16 (by decide) (fun c29 => absurd c29 (by decide)) (fun c29 => ?_)
  refine lv_aload_n hx hb dX11_append_19 rfl (lv_at hl 1 rfl) ?_
  refine va_get (D := G.1) (ci := 8) (v := .ref k1) (C := RX11) (T := TX11) (N := 8) hx hb hq pin_wsX110 hown hE.1.1 hP 0 rfl rfl 0 (by decide) (hq _ pw_1) (fun _ h9 => h9) rfl dX11_append_20 ?_
  refine lv_aload_n hx hb dX11_append_23 rfl (lv_at hl 1 rfl) ?_
  refine va_get (D := G.1) (ci := 8) (v := .int 19) (C := RX11) (T := TX11) (N := 8) hx hb hq pin_wsX110 hown hE.1.1 hP 0 rfl rfl 1 (by decide) (hq _ pw_17) (fun _ h9 => h9) rfl dX11_append_24 ?_
  refine lv_iload_n hx hb dX11_append_27 rfl (lv_at hl 2 rfl) ?_
  refine lv_iload_n hx hb dX11_append_28 rfl (lv_at hl 0 rfl) ?_
  refine lv_iushr hx hb dX11_append_29 rfl ?_
  refine lv_topi (fun x30 e31 => ?_)
  refine lv_i2b hx hb dX11_append_30 rfl ?_
  refine lv_topi (fun x32 e33 => ?_)
  refine va_bast hx hb hE.1.1 hP hD hS 1 1 rfl rfl (by unfold vp_in; decide) dX11_append_31 (fun H locs hP hD hS => ?_)
  have hP : va_P G.1 pCl [(h0, .inr (8, [.ref k1, .int 19, .ref k2, .ref k3, .ref k4, .ref k5, .ref k6, .null])), (k1, .inl (G.2.1 1, 5000, .inl (upd f25 (Int32.toNatClampNeg 19) (vp_nar .byte x32))))] H := hP
  have hD : va_D A [(h0, .inr (8, [.ref k1, .int 19, .ref k2, .ref k3, .ref k4, .ref k5, .ref k6, .null])), (k1, .inl (G.2.1 1, 5000, .inl (upd f25 (Int32.toNatClampNeg 19) (vp_nar .byte x32))))] := hD
  generalize (upd f25 (Int32.toNatClampNeg 19) (vp_nar .byte x32)) = f34 at hP hD
  refine lv_aload_n hx hb dX11_append_32 rfl (lv_at hl 1 rfl) ?_
  refine lv_dup hx hb dX11_append_33 rfl ?_
  refine va_get (D := G.1) (ci := 8) (v := .int 19) (C := RX11) (T := TX11) (N := 8) hx hb hq pin_wsX110 hown hE.1.1 hP 0 rfl rfl 1 (by decide) (hq _ pw_17) (fun _ h9 => h9) rfl dX11_append_34 ?_
  refine lv_iconst (v := 1) hx hb dX11_append_37 (by decide) ?_
  refine lv_iadd hx hb dX11_append_38 ?_
  refine lv_topi (fun x35 e36 => ?_)
  obtain rfl : x35 = 20 := e36.trans (by decide)
  refine va_put (D := G.1) (ci := 8) (v := .int 20) (ty := .int) (C := RX11) (T := TX11) (N := 8) hx hb hq pin_wsX110 tyX11 tyX11_ok nmX11 hown hE.1.1 hP hD hS 0 rfl rfl 1 (by decide) (hq _ pw_17) (fun _ h9 => h9) rfl (by decide +kernel) rfl rfl (Nat.le_of_ble_eq_true rfl) dX11_append_39 (fun H locs hP hD hS => ?_)
  have hP : va_P G.1 pCl [(h0, .inr (8, [.ref k1, .int 20, .ref k2, .ref k3, .ref k4, .ref k5, .ref k6, .null])), (k1, .inl (G.2.1 1, 5000, .inl f34))] H := hP
  have hD : va_D A [(h0, .inr (8, [.ref k1, .int 20, .ref k2, .ref k3, .ref k4, .ref k5, .ref k6, .null])), (k1, .inl (G.2.1 1, 5000, .inl f34))] := hD
  refine lv_iinc (v := (-8)) (lv' := [(2, .int (-8)), (0, .ref h0), (1, .int x)]) hx hb dX11_append_42 hl (k := 0) rfl (by decide) (by decide) rfl (fun ls hl => ?_)
  refine lv_goto (tgt := 3) hx hb dX11_append_45 (by decide) ?_
  refine lv_iload_n hx hb dX11_append_3 rfl (lv_at hl 0 rfl) ?_
  refine lv_if_lt (tgt := 48) hx hb dX11_append_4 (by decide) (fun c37 => ?_) (fun c37 => absurd c37 (by decide))
  refine W.widen (k := 0) (n := 0) (Nat.le_of_ble_eq_true rfl) (Nat.le_of_ble_eq_true rfl) ?_
  exact W.vret hx hb hr (fun t ht hW => ⟨⟨_, ((fun _ => 0), (fun k => match k with | _ => f34), (fun _ => fun _ => 0)), rfl, rfl, by rw [ht]; exact hP.sub [0, 1] rfl, hD.sub [0, 1] (by decide) rfl⟩, hS.F ht⟩) hS.2.2 dX11_append_48
theorem dX11_feed_0 : decode cX11_feed 0 = .ok (.aload_n 0, 1) := by decide +kernel
theorem dX11_feed_1 : decode cX11_feed 1 = .ok (.getfield 54, 3) := by decide +kernel
theorem dX11_feed_4 : decode cX11_feed 4 = .ok (.bipush 20, 2) := by decide +kernel
theorem dX11_feed_6 : decode cX11_feed 6 = .ok (.iadd, 1) := by decide +kernel
theorem dX11_feed_7 : decode cX11_feed 7 = .ok (.sipush 5000, 3) := by decide +kernel
theorem dX11_feed_10 : decode cX11_feed 10 = .ok (.if_icmp .le 5, 3) := by decide +kernel
theorem dX11_feed_15 : decode cX11_feed 15 = .ok (.aload_n 0, 1) := by decide +kernel
theorem dX11_feed_16 : decode cX11_feed 16 = .ok (.iload_n 1, 1) := by decide +kernel
theorem dX11_feed_17 : decode cX11_feed 17 = .ok (.invokevirtual 58, 3) := by decide +kernel
theorem dX11_feed_20 : decode cX11_feed 20 = .ok (.aload_n 0, 1) := by decide +kernel
theorem dX11_feed_21 : decode cX11_feed 21 = .ok (.iload_n 2, 1) := by decide +kernel
theorem dX11_feed_22 : decode cX11_feed 22 = .ok (.invokevirtual 58, 3) := by decide +kernel
theorem dX11_feed_25 : decode cX11_feed 25 = .ok (.aload_n 0, 1) := by decide +kernel
theorem dX11_feed_26 : decode cX11_feed 26 = .ok (.iload_n 3, 1) := by decide +kernel
theorem dX11_feed_27 : decode cX11_feed 27 = .ok (.invokevirtual 58, 3) := by decide +kernel
theorem dX11_feed_30 : decode cX11_feed 30 = .ok (.aload_n 0, 1) := by decide +kernel
theorem dX11_feed_31 : decode cX11_feed 31 = .ok (.iload 4, 2) := by decide +kernel
theorem dX11_feed_33 : decode cX11_feed 33 = .ok (.invokevirtual 58, 3) := by decide +kernel
theorem dX11_feed_36 : decode cX11_feed 36 = .ok (.aload_n 0, 1) := by decide +kernel
theorem dX11_feed_37 : decode cX11_feed 37 = .ok (.iload 5, 2) := by decide +kernel
theorem dX11_feed_39 : decode cX11_feed 39 = .ok (.invokevirtual 58, 3) := by decide +kernel
theorem dX11_feed_42 : decode cX11_feed 42 = .ok (.aload_n 0, 1) := by decide +kernel
theorem dX11_feed_43 : decode cX11_feed 43 = .ok (.getfield 54, 3) := by decide +kernel
theorem dX11_feed_46 : decode cX11_feed 46 = .ok (.ireturn, 1) := by decide +kernel
theorem hV_X11_append : yX11_append.cls = RX11 ∧ yX11_append.cls ≠ "java/lang/invoke/MethodHandle" ∧ yX11_append.cls ≠ "java/lang/invoke/VarHandle" ∧ (parseMethodDescriptor yX11_append.desc).map (fun d => d.parameters.length) = some 1 := by decide +kernel
set_option maxHeartbeats 1000000 in
set_option maxRecDepth 100000 in
/-- feed on a fresh object: 20 -/
theorem c_feed (l : Launch) (G : pT) (h0 : Nat) (k1 : Nat) (k2 : Nat) (k3 : Nat) (k4 : Nat) (k5 : Nat) (k6 : Nat) (f : Nat → Int32) (x1 : Int32) (x2 : Int32) (x3 : Int32) (x4 : Int32) (x5 : Int32) : PM l G pX0 yX11_feed cX11_feed 6 (some .int) ({ frames := 3, cells := 0, slots := 0, locals := 82 }) [.ref h0, .int x1, .int x2, .int x3, .int x4, .int x5] [(h0, .inr (8, [.ref k1, .int 0, .ref k2, .ref k3, .ref k4, .ref k5, .ref k6, .null])), (k1, .inl (G.2.1 1, 5000, .inl f))] (fun (v : Option Value) (u : (Nat → Nat) × (Nat → Nat → Int32) × (Nat → Nat → Int64)) => v = some (.int 20)) (fun u => []) := by
  intro sz
  refine Met.ofW (cc := cX11_feed) (maxL := 6) (ret := (some .int)) (by decide) rfl ?_
  intro p e s m args below meth c s₁ B hml hv
  obtain ⟨rfl, hsz, hP, hD0, hE, hX⟩ := hv
  have hx := B.exec
  have hb := B.bytes
  have hr := B.returns
  have hts := atoms_spec (ws := Cond.code yX11_feed cX11_feed 6 (some .int) :: pw) B.pre
  have hq : ∀ w ∈ pw, w.before _ s = true := fun w h => hts w (List.mem_cons_of_mem _ h)
  have hown : s.vm.findClass RX11 = some m.cls := findClass_of_methodNamed B.named
  have hlocks := B.notSynchronized
  subst hsz
  have hD := hD0.self (sz := s.heap.size)
  have hA : ∀ q : Nat, s.heap.size ≤ q → va_A [(h0, .inr (8, [.ref k1, .int 0, .ref k2, .ref k3, .ref k4, .ref k5, .ref k6, .null])), (k1, .inl (G.2.1 1, 5000, .inl f))] s.heap.size q := fun q h => Or.inr h
  have hP : va_P G.1 pCl [(h0, .inr (8, [.ref k1, .int 0, .ref k2, .ref k3, .ref k4, .ref k5, .ref k6, .null])), (k1, .inl (G.2.1 1, 5000, .inl f))] s.heap := hP
  generalize va_A [(h0, .inr (8, [.ref k1, .int 0, .ref k2, .ref k3, .ref k4, .ref k5, .ref k6, .null])), (k1, .inl (G.2.1 1, 5000, .inl f))] s.heap.size = A at hD hE hA ⊢
  have hS : va_S A s.heap s.heap [] := va_S.rf
  have hl := lv_entry ([.ref h0, .int x1, .int x2, .int x3, .int x4, .int x5]) (n := 6) (Nat.le_of_ble_eq_true rfl)
  rw [lg_entry_eq]
  generalize (lg_sl ([.ref h0, .int x1, .int x2, .int x3, .int x4, .int x5]) ++ List.replicate (6 - (lg_sl ([.ref h0, .int x1, .int x2, .int x3, .int x4, .int x5])).length) Slot.unset).toArray = ls at hl ⊢
  have hl : lv_has ls 6 [(0, .ref h0), (1, .int x1), (2, .int x2), (3, .int x3), (4, .int x4), (5, .int x5)] := hl
  refine lv_aload_n hx hb dX11_feed_0 rfl (lv_at hl 0 rfl) ?_
  refine va_get (D := G.1) (ci := 8) (v := .int 0) (C := RX11) (T := TX11) (N := 8) hx hb hq pin_wsX110 hown hE.1.1 hP 0 rfl rfl 1 (by decide) (hq _ pw_17) (fun _ h9 => h9) rfl dX11_feed_1 ?_
  refine lv_bipush (v := 20) hx hb dX11_feed_4 (by decide) ?_
  refine lv_iadd hx hb dX11_feed_6 ?_
  refine lv_topi (fun x6 e7 => ?_)
  obtain rfl : x6 = 20 := e7.trans (by decide)
  refine lv_sipush (v := 5000) hx hb dX11_feed_7 (by decide) ?_
  refine lv_icmp_le (tgt := 15) hx hb dX11_feed_10 (by decide) (fun c8 => ?_) (fun c8 => absurd c8 (by decide))
  refine lv_aload_n hx hb dX11_feed_15 rfl (lv_at hl 0 rfl) ?_
  refine lv_iload_n hx hb dX11_feed_16 rfl (lv_at hl 1 rfl) ?_
  refine pc_V (G := G) (As := [.int x1]) (rest := []) (wr := []) hx hb hml hown hq hE hX pX0_al hP hD hS hA hl.1 (c_append_0 l G h0 k1 k2 k3 k4 k5 k6 f x1) (gV pw_18 pw_375 pw_376 pw_370 pw_374) hV_X11_append 0 8 rfl rfl rfl [0, 1] [] rfl rfl (by decide) (by decide) (by decide) rfl (Nat.le_of_ble_eq_true rfl) dX11_feed_17 ⟨Nat.le_of_ble_eq_true rfl, Nat.le_of_ble_eq_true rfl⟩ ⟨Nat.le_of_ble_eq_true rfl, Nat.le_of_ble_eq_true rfl⟩ (fun v11 u9 H locs hw10 hP hD hS => ?_)
  obtain rfl : v11 = none := hw10
  have hP : va_P G.1 pCl [(h0, .inr (8, [.ref k1, .int 4, .ref k2, .ref k3, .ref k4, .ref k5, .ref k6, .null])), (k1, .inl (G.2.1 1, 5000, .inl (u9.2.1 0)))] H := hP
  have hD : va_D A [(h0, .inr (8, [.ref k1, .int 4, .ref k2, .ref k3, .ref k4, .ref k5, .ref k6, .null])), (k1, .inl (G.2.1 1, 5000, .inl (u9.2.1 0)))] := hD
  generalize u9.2.1 0 = f12 at hP hD
  refine W.widen (k := 0) (n := 0) (Nat.le_of_ble_eq_true rfl) (Nat.le_of_ble_eq_true rfl) ?_
  refine W.eq (g2 := F0 m 20 ls []) rfl ?_
  refine lv_aload_n hx hb dX11_feed_20 rfl (lv_at hl 0 rfl) ?_
  refine lv_iload_n hx hb dX11_feed_21 rfl (lv_at hl 2 rfl) ?_
  refine pc_V (G := G) (As := [.int x2]) (rest := []) (wr := []) hx hb hml hown hq hE hX pX0_al hP hD hS hA hl.1 (c_append_4 l G h0 k1 k2 k3 k4 k5 k6 f12 x2) (gV pw_18 pw_375 pw_376 pw_370 pw_374) hV_X11_append 0 8 rfl rfl rfl [0, 1] [] rfl rfl (by decide) (by decide) (by decide) rfl (Nat.le_of_ble_eq_true rfl) dX11_feed_22 ⟨Nat.le_of_ble_eq_true rfl, Nat.le_of_ble_eq_true rfl⟩ ⟨Nat.le_of_ble_eq_true rfl, Nat.le_of_ble_eq_true rfl⟩ (fun v15 u13 H locs hw14 hP hD hS => ?_)
  obtain rfl : v15 = none := hw14
  have hP : va_P G.1 pCl [(h0, .inr (8, [.ref k1, .int 8, .ref k2, .ref k3, .ref k4, .ref k5, .ref k6, .null])), (k1, .inl (G.2.1 1, 5000, .inl (u13.2.1 0)))] H := hP
  have hD : va_D A [(h0, .inr (8, [.ref k1, .int 8, .ref k2, .ref k3, .ref k4, .ref k5, .ref k6, .null])), (k1, .inl (G.2.1 1, 5000, .inl (u13.2.1 0)))] := hD
  generalize u13.2.1 0 = f16 at hP hD
  refine W.widen (k := 0) (n := 0) (Nat.le_of_ble_eq_true rfl) (Nat.le_of_ble_eq_true rfl) ?_
  refine W.eq (g2 := F0 m 25 ls []) rfl ?_
  refine lv_aload_n hx hb dX11_feed_25 rfl (lv_at hl 0 rfl) ?_
  refine lv_iload_n hx hb dX11_feed_26 rfl (lv_at hl 3 rfl) ?_
  refine pc_V (G := G) (As := [.int x3]) (rest := []) (wr := []) hx hb hml hown hq hE hX pX0_al hP hD hS hA hl.1 (c_append_8 l G h0 k1 k2 k3 k4 k5 k6 f16 x3) (gV pw_18 pw_375 pw_376 pw_370 pw_374) hV_X11_append 0 8 rfl rfl rfl [0, 1] [] rfl rfl (by decide) (by decide) (by decide) rfl (Nat.le_of_ble_eq_true rfl) dX11_feed_27 ⟨Nat.le_of_ble_eq_true rfl, Nat.le_of_ble_eq_true rfl⟩ ⟨Nat.le_of_ble_eq_true rfl, Nat.le_of_ble_eq_true rfl⟩ (fun v19 u17 H locs hw18 hP hD hS => ?_)
  obtain rfl : v19 = none := hw18
  have hP : va_P G.1 pCl [(h0, .inr (8, [.ref k1, .int 12, .ref k2, .ref k3, .ref k4, .ref k5, .ref k6, .null])), (k1, .inl (G.2.1 1, 5000, .inl (u17.2.1 0)))] H := hP
  have hD : va_D A [(h0, .inr (8, [.ref k1, .int 12, .ref k2, .ref k3, .ref k4, .ref k5, .ref k6, .null])), (k1, .inl (G.2.1 1, 5000, .inl (u17.2.1 0)))] := hD
  generalize u17.2.1 0 = f20 at hP hD
  refine W.widen (k := 0) (n := 0) (Nat.le_of_ble_eq_true rfl) (Nat.le_of_ble_eq_true rfl) ?_
  refine W.eq (g2 := F0 m 30 ls []) rfl ?_
  refine lv_aload_n hx hb dX11_feed_30 rfl (lv_at hl 0 rfl) ?_
  refine lv_iload hx hb dX11_feed_31 (lv_at hl 4 rfl) ?_
  refine pc_V (G := G) (As := [.int x4]) (rest := []) (wr := []) hx hb hml hown hq hE hX pX0_al hP hD hS hA hl.1 (c_append_12 l G h0 k1 k2 k3 k4 k5 k6 f20 x4) (gV pw_18 pw_375 pw_376 pw_370 pw_374) hV_X11_append 0 8 rfl rfl rfl [0, 1] [] rfl rfl (by decide) (by decide) (by decide) rfl (Nat.le_of_ble_eq_true rfl) dX11_feed_33 ⟨Nat.le_of_ble_eq_true rfl, Nat.le_of_ble_eq_true rfl⟩ ⟨Nat.le_of_ble_eq_true rfl, Nat.le_of_ble_eq_true rfl⟩ (fun v23 u21 H locs hw22 hP hD hS => ?_)
  obtain rfl : v23 = none := hw22
  have hP : va_P G.1 pCl [(h0, .inr (8, [.ref k1, .int 16, .ref k2, .ref k3, .ref k4, .ref k5, .ref k6, .null])), (k1, .inl (G.2.1 1, 5000, .inl (u21.2.1 0)))] H := hP
  have hD : va_D A [(h0, .inr (8, [.ref k1, .int 16, .ref k2, .ref k3, .ref k4, .ref k5, .ref k6, .null])), (k1, .inl (G.2.1 1, 5000, .inl (u21.2.1 0)))] := hD
  generalize u21.2.1 0 = f24 at hP hD
  refine W.widen (k := 0) (n := 0) (Nat.le_of_ble_eq_true rfl) (Nat.le_of_ble_eq_true rfl) ?_
  refine W.eq (g2 := F0 m 36 ls []) rfl ?_
  refine lv_aload_n hx hb dX11_feed_36 rfl (lv_at hl 0 rfl) ?_
  refine lv_iload hx hb dX11_feed_37 (lv_at hl 5 rfl) ?_
  refine pc_V (G := G) (As := [.int x5]) (rest := []) (wr := []) hx hb hml hown hq hE hX pX0_al hP hD hS hA hl.1 (c_append_16 l G h0 k1 k2 k3 k4 k5 k6 f24 x5) (gV pw_18 pw_375 pw_376 pw_370 pw_374) hV_X11_append 0 8 rfl rfl rfl [0, 1] [] rfl rfl (by decide) (by decide) (by decide) rfl (Nat.le_of_ble_eq_true rfl) dX11_feed_39 ⟨Nat.le_of_ble_eq_true rfl, Nat.le_of_ble_eq_true rfl⟩ ⟨Nat.le_of_ble_eq_true rfl, Nat.le_of_ble_eq_true rfl⟩ (fun v27 u25 H locs hw26 hP hD hS => ?_)
  obtain rfl : v27 = none := hw26
  have hP : va_P G.1 pCl [(h0, .inr (8, [.ref k1, .int 20, .ref k2, .ref k3, .ref k4, .ref k5, .ref k6, .null])), (k1, .inl (G.2.1 1, 5000, .inl (u25.2.1 0)))] H := hP
  have hD : va_D A [(h0, .inr (8, [.ref k1, .int 20, .ref k2, .ref k3, .ref k4, .ref k5, .ref k6, .null])), (k1, .inl (G.2.1 1, 5000, .inl (u25.2.1 0)))] := hD
  generalize u25.2.1 0 = f28 at hP hD
  refine W.widen (k := 0) (n := 0) (Nat.le_of_ble_eq_true rfl) (Nat.le_of_ble_eq_true rfl) ?_
  refine W.eq (g2 := F0 m 42 ls []) rfl ?_
  refine lv_aload_n hx hb dX11_feed_42 rfl (lv_at hl 0 rfl) ?_
  refine va_get (D := G.1) (ci := 8) (v := .int 20) (C := RX11) (T := TX11) (N := 8) hx hb hq pin_wsX110 hown hE.1.1 hP 0 rfl rfl 1 (by decide) (hq _ pw_17) (fun _ h9 => h9) rfl dX11_feed_43 ?_
  refine W.widen (k := 0) (n := 0) (Nat.le_of_ble_eq_true rfl) (Nat.le_of_ble_eq_true rfl) ?_
  exact W.iret (v := 20) hx hb hr (fun t ht hW => ⟨⟨_, ((fun _ => 0), (fun _ => fun _ => 0), (fun _ => fun _ => 0)), rfl, rfl, by rw [ht]; exact hP.sub [] rfl, hD.sub [] (by decide) rfl⟩, hS.F ht⟩) hS.2.2 dX11_feed_46
theorem dX11_declared_0 : decode cX11_declared 0 = .ok (.aload_n 0, 1) := by decide +kernel
theorem dX11_declared_1 : decode cX11_declared 1 = .ok (.getfield 69, 3) := by decide +kernel
theorem dX11_declared_4 : decode cX11_declared 4 = .ok (.ifnonnull 7, 3) := by decide +kernel
theorem dX11_declared_7 : decode cX11_declared 7 = .ok (.aconst_null, 1) := by decide +kernel
theorem dX11_declared_8 : decode cX11_declared 8 = .ok (.goto 11, 3) := by decide +kernel
theorem dX11_declared_19 : decode cX11_declared 19 = .ok (.areturn, 1) := by decide +kernel
set_option maxHeartbeats 1000000 in
set_option maxRecDepth 100000 in
/-- declared(k) without a program: null -/
theorem c_declared (l : Launch) (G : pT) (h0 : Nat) (k1 : Nat) (k2 : Nat) (k3 : Nat) (k4 : Nat) (k5 : Nat) (k6 : Nat) (x : Int32) : PM l G pX0 yX11_declared cX11_declared 2 (some (.object "JinjaTongue$Decl")) ({ frames := 2, cells := 0, slots := 0, locals := 60 }) [.ref h0, .int x] [(h0, .inr (8, [.ref k1, .int 0, .ref k2, .ref k3, .ref k4, .ref k5, .ref k6, .null]))] (fun (v : Option Value) (u : (Nat → Nat) × (Nat → Nat → Int32) × (Nat → Nat → Int64)) => v = some (.null)) (fun u => [(h0, .inr (8, [.ref k1, .int 0, .ref k2, .ref k3, .ref k4, .ref k5, .ref k6, .null]))]) := by
  intro sz
  refine Met.ofW (cc := cX11_declared) (maxL := 2) (ret := (some (.object "JinjaTongue$Decl"))) (by decide) rfl ?_
  intro p e s m args below meth c s₁ B hml hv
  obtain ⟨rfl, hsz, hP, hD0, hE, hX⟩ := hv
  have hx := B.exec
  have hb := B.bytes
  have hr := B.returns
  have hts := atoms_spec (ws := Cond.code yX11_declared cX11_declared 2 (some (.object "JinjaTongue$Decl")) :: pw) B.pre
  have hq : ∀ w ∈ pw, w.before _ s = true := fun w h => hts w (List.mem_cons_of_mem _ h)
  have hown : s.vm.findClass RX11 = some m.cls := findClass_of_methodNamed B.named
  have hlocks := B.notSynchronized
  subst hsz
  have hD := hD0.self (sz := s.heap.size)
  have hA : ∀ q : Nat, s.heap.size ≤ q → va_A [(h0, .inr (8, [.ref k1, .int 0, .ref k2, .ref k3, .ref k4, .ref k5, .ref k6, .null]))] s.heap.size q := fun q h => Or.inr h
  have hP : va_P G.1 pCl [(h0, .inr (8, [.ref k1, .int 0, .ref k2, .ref k3, .ref k4, .ref k5, .ref k6, .null]))] s.heap := hP
  generalize va_A [(h0, .inr (8, [.ref k1, .int 0, .ref k2, .ref k3, .ref k4, .ref k5, .ref k6, .null]))] s.heap.size = A at hD hE hA ⊢
  have hS : va_S A s.heap s.heap [] := va_S.rf
  have hl := lv_entry ([.ref h0, .int x]) (n := 2) (Nat.le_of_ble_eq_true rfl)
  rw [lg_entry_eq]
  generalize (lg_sl ([.ref h0, .int x]) ++ List.replicate (2 - (lg_sl ([.ref h0, .int x])).length) Slot.unset).toArray = ls at hl ⊢
  have hl : lv_has ls 2 [(0, .ref h0), (1, .int x)] := hl
  refine lv_aload_n hx hb dX11_declared_0 rfl (lv_at hl 0 rfl) ?_
  refine va_get (D := G.1) (ci := 8) (v := .null) (C := RX11) (T := TX11) (N := 8) hx hb hq pin_wsX110 hown hE.1.1 hP 0 rfl rfl 7 (by decide) (hq _ pw_21) (fun _ h9 => h9) rfl dX11_declared_1 ?_
  refine lv_ifnonnullN hx hb dX11_declared_4 ?_
  refine lv_null hx hb dX11_declared_7 ?_
  refine lv_goto (tgt := 19) hx hb dX11_declared_8 (by decide) ?_
  refine W.widen (k := 0) (n := 0) (Nat.le_of_ble_eq_true rfl) (Nat.le_of_ble_eq_true rfl) ?_
  exact W.aret (v := .null) hx hb hr (Or.inl ⟨_, rfl⟩) (Or.inl rfl) (fun t ht hW => ⟨⟨_, ((fun _ => 0), (fun _ => fun _ => 0), (fun _ => fun _ => 0)), rfl, rfl, by rw [ht]; exact hP.sub [0] rfl, hD.sub [0] (by decide) rfl⟩, hS.F ht⟩) hS.2.2 dX11_declared_19
theorem dX11_type_0 : decode cX11_type 0 = .ok (.aload_n 0, 1) := by decide +kernel
theorem dX11_type_1 : decode cX11_type 1 = .ok (.iload_n 1, 1) := by decide +kernel
theorem dX11_type_2 : decode cX11_type 2 = .ok (.invokevirtual 95, 3) := by decide +kernel
theorem dX11_type_5 : decode cX11_type 5 = .ok (.astore_n 3, 1) := by decide +kernel
theorem dX11_type_6 : decode cX11_type 6 = .ok (.aload_n 3, 1) := by decide +kernel
theorem dX11_type_7 : decode cX11_type 7 = .ok (.ifnonnull 5, 3) := by decide +kernel
theorem dX11_type_10 : decode cX11_type 10 = .ok (.iconst (-1), 1) := by decide +kernel
theorem dX11_type_11 : decode cX11_type 11 = .ok (.ireturn, 1) := by decide +kernel
theorem hV_X11_declared : yX11_declared.cls = RX11 ∧ yX11_declared.cls ≠ "java/lang/invoke/MethodHandle" ∧ yX11_declared.cls ≠ "java/lang/invoke/VarHandle" ∧ (parseMethodDescriptor yX11_declared.desc).map (fun d => d.parameters.length) = some 1 := by decide +kernel
set_option maxHeartbeats 1000000 in
set_option maxRecDepth 100000 in
/-- type without a program: NONE -/
theorem c_type (l : Launch) (G : pT) (h0 : Nat) (k1 : Nat) (k2 : Nat) (k3 : Nat) (k4 : Nat) (k5 : Nat) (k6 : Nat) (x : Int32) (y : Int32) : PM l G pX0 yX11_type cX11_type 4 (some .int) ({ frames := 3, cells := 0, slots := 0, locals := 81 }) [.ref h0, .int x, .int y] [(h0, .inr (8, [.ref k1, .int 0, .ref k2, .ref k3, .ref k4, .ref k5, .ref k6, .null]))] (fun (v : Option Value) (u : (Nat → Nat) × (Nat → Nat → Int32) × (Nat → Nat → Int64)) => v = some (.int (-1))) (fun u => []) := by
  intro sz
  refine Met.ofW (cc := cX11_type) (maxL := 4) (ret := (some .int)) (by decide) rfl ?_
  intro p e s m args below meth c s₁ B hml hv
  obtain ⟨rfl, hsz, hP, hD0, hE, hX⟩ := hv
  have hx := B.exec
  have hb := B.bytes
  have hr := B.returns
  have hts := atoms_spec (ws := Cond.code yX11_type cX11_type 4 (some .int) :: pw) B.pre
  have hq : ∀ w ∈ pw, w.before _ s = true := fun w h => hts w (List.mem_cons_of_mem _ h)
  have hown : s.vm.findClass RX11 = some m.cls := findClass_of_methodNamed B.named
  have hlocks := B.notSynchronized
  subst hsz
  have hD := hD0.self (sz := s.heap.size)
  have hA : ∀ q : Nat, s.heap.size ≤ q → va_A [(h0, .inr (8, [.ref k1, .int 0, .ref k2, .ref k3, .ref k4, .ref k5, .ref k6, .null]))] s.heap.size q := fun q h => Or.inr h
  have hP : va_P G.1 pCl [(h0, .inr (8, [.ref k1, .int 0, .ref k2, .ref k3, .ref k4, .ref k5, .ref k6, .null]))] s.heap := hP
  generalize va_A [(h0, .inr (8, [.ref k1, .int 0, .ref k2, .ref k3, .ref k4, .ref k5, .ref k6, .null]))] s.heap.size = A at hD hE hA ⊢
  have hS : va_S A s.heap s.heap [] := va_S.rf
  have hl := lv_entry ([.ref h0, .int x, .int y]) (n := 4) (Nat.le_of_ble_eq_true rfl)
  rw [lg_entry_eq]
  generalize (lg_sl ([.ref h0, .int x, .int y]) ++ List.replicate (4 - (lg_sl ([.ref h0, .int x, .int y])).length) Slot.unset).toArray = ls at hl ⊢
  have hl : lv_has ls 4 [(0, .ref h0), (1, .int x), (2, .int y)] := hl
  refine lv_aload_n hx hb dX11_type_0 rfl (lv_at hl 0 rfl) ?_
  refine lv_iload_n hx hb dX11_type_1 rfl (lv_at hl 1 rfl) ?_
  refine pc_V (G := G) (As := [.int x]) (rest := []) (wr := []) hx hb hml hown hq hE hX pX0_al hP hD hS hA hl.1 (c_declared l G h0 k1 k2 k3 k4 k5 k6 x) (gV pw_28 pw_384 pw_385 pw_370 pw_383) hV_X11_declared 0 8 rfl rfl rfl [0] [] rfl rfl (by decide) (by decide) (by decide) rfl (Nat.le_of_ble_eq_true rfl) dX11_type_2 ⟨Nat.le_of_ble_eq_true rfl, Nat.le_of_ble_eq_true rfl⟩ ⟨Nat.le_of_ble_eq_true rfl, Nat.le_of_ble_eq_true rfl⟩ (fun v3 u1 H locs hw2 hP hD hS => ?_)
  obtain rfl : v3 = some (.null) := hw2
  have hP : va_P G.1 pCl [(h0, .inr (8, [.ref k1, .int 0, .ref k2, .ref k3, .ref k4, .ref k5, .ref k6, .null]))] H := hP
  have hD : va_D A [(h0, .inr (8, [.ref k1, .int 0, .ref k2, .ref k3, .ref k4, .ref k5, .ref k6, .null]))] := hD
  refine W.widen (k := 0) (n := 0) (Nat.le_of_ble_eq_true rfl) (Nat.le_of_ble_eq_true rfl) ?_
  refine W.eq (g2 := F0 m 5 ls [.null]) rfl ?_
  refine lv_astore_nN (lv' := [(3, .null), (0, .ref h0), (1, .int x), (2, .int y)]) hx hb dX11_type_5 rfl hl (by decide) rfl (fun ls hl => ?_)
  refine lv_aload_nN hx hb dX11_type_6 rfl (lv_at hl 0 rfl) ?_
  refine lv_ifnonnullN hx hb dX11_type_7 ?_
  refine lv_iconst (v := (-1)) hx hb dX11_type_10 (by decide) ?_
  refine W.widen (k := 0) (n := 0) (Nat.le_of_ble_eq_true rfl) (Nat.le_of_ble_eq_true rfl) ?_
  exact W.iret (v := (-1)) hx hb hr (fun t ht hW => ⟨⟨_, ((fun _ => 0), (fun _ => fun _ => 0), (fun _ => fun _ => 0)), rfl, rfl, by rw [ht]; exact hP.sub [] rfl, hD.sub [] (by decide) rfl⟩, hS.F ht⟩) hS.2.2 dX11_type_11
theorem dX11_above_0 : decode cX11_above 0 = .ok (.aload_n 0, 1) := by decide +kernel
theorem dX11_above_1 : decode cX11_above 1 = .ok (.iload_n 1, 1) := by decide +kernel
theorem dX11_above_2 : decode cX11_above 2 = .ok (.invokevirtual 95, 3) := by decide +kernel
theorem dX11_above_5 : decode cX11_above 5 = .ok (.ifnull 11, 3) := by decide +kernel
theorem dX11_above_16 : decode cX11_above 16 = .ok (.iconst (-1), 1) := by decide +kernel
theorem dX11_above_17 : decode cX11_above 17 = .ok (.ireturn, 1) := by decide +kernel
set_option maxHeartbeats 1000000 in
set_option maxRecDepth 100000 in
/-- above without a program: NONE -/
theorem c_above (l : Launch) (G : pT) (h0 : Nat) (k1 : Nat) (k2 : Nat) (k3 : Nat) (k4 : Nat) (k5 : Nat) (k6 : Nat) (x : Int32) (y : Int32) : PM l G pX0 yX11_above cX11_above 3 (some .int) ({ frames := 3, cells := 0, slots := 0, locals := 81 }) [.ref h0, .int x, .int y] [(h0, .inr (8, [.ref k1, .int 0, .ref k2, .ref k3, .ref k4, .ref k5, .ref k6, .null]))] (fun (v : Option Value) (u : (Nat → Nat) × (Nat → Nat → Int32) × (Nat → Nat → Int64)) => v = some (.int (-1))) (fun u => []) := by
  intro sz
  refine Met.ofW (cc := cX11_above) (maxL := 3) (ret := (some .int)) (by decide) rfl ?_
  intro p e s m args below meth c s₁ B hml hv
  obtain ⟨rfl, hsz, hP, hD0, hE, hX⟩ := hv
  have hx := B.exec
  have hb := B.bytes
  have hr := B.returns
  have hts := atoms_spec (ws := Cond.code yX11_above cX11_above 3 (some .int) :: pw) B.pre
  have hq : ∀ w ∈ pw, w.before _ s = true := fun w h => hts w (List.mem_cons_of_mem _ h)
  have hown : s.vm.findClass RX11 = some m.cls := findClass_of_methodNamed B.named
  have hlocks := B.notSynchronized
  subst hsz
  have hD := hD0.self (sz := s.heap.size)
  have hA : ∀ q : Nat, s.heap.size ≤ q → va_A [(h0, .inr (8, [.ref k1, .int 0, .ref k2, .ref k3, .ref k4, .ref k5, .ref k6, .null]))] s.heap.size q := fun q h => Or.inr h
  have hP : va_P G.1 pCl [(h0, .inr (8, [.ref k1, .int 0, .ref k2, .ref k3, .ref k4, .ref k5, .ref k6, .null]))] s.heap := hP
  generalize va_A [(h0, .inr (8, [.ref k1, .int 0, .ref k2, .ref k3, .ref k4, .ref k5, .ref k6, .null]))] s.heap.size = A at hD hE hA ⊢
  have hS : va_S A s.heap s.heap [] := va_S.rf
  have hl := lv_entry ([.ref h0, .int x, .int y]) (n := 3) (Nat.le_of_ble_eq_true rfl)
  rw [lg_entry_eq]
  generalize (lg_sl ([.ref h0, .int x, .int y]) ++ List.replicate (3 - (lg_sl ([.ref h0, .int x, .int y])).length) Slot.unset).toArray = ls at hl ⊢
  have hl : lv_has ls 3 [(0, .ref h0), (1, .int x), (2, .int y)] := hl
  refine lv_aload_n hx hb dX11_above_0 rfl (lv_at hl 0 rfl) ?_
  refine lv_iload_n hx hb dX11_above_1 rfl (lv_at hl 1 rfl) ?_
  refine pc_V (G := G) (As := [.int x]) (rest := []) (wr := []) hx hb hml hown hq hE hX pX0_al hP hD hS hA hl.1 (c_declared l G h0 k1 k2 k3 k4 k5 k6 x) (gV pw_28 pw_384 pw_385 pw_370 pw_383) hV_X11_declared 0 8 rfl rfl rfl [0] [] rfl rfl (by decide) (by decide) (by decide) rfl (Nat.le_of_ble_eq_true rfl) dX11_above_2 ⟨Nat.le_of_ble_eq_true rfl, Nat.le_of_ble_eq_true rfl⟩ ⟨Nat.le_of_ble_eq_true rfl, Nat.le_of_ble_eq_true rfl⟩ (fun v3 u1 H locs hw2 hP hD hS => ?_)
  obtain rfl : v3 = some (.null) := hw2
  have hP : va_P G.1 pCl [(h0, .inr (8, [.ref k1, .int 0, .ref k2, .ref k3, .ref k4, .ref k5, .ref k6, .null]))] H := hP
  have hD : va_D A [(h0, .inr (8, [.ref k1, .int 0, .ref k2, .ref k3, .ref k4, .ref k5, .ref k6, .null]))] := hD
  refine W.widen (k := 0) (n := 0) (Nat.le_of_ble_eq_true rfl) (Nat.le_of_ble_eq_true rfl) ?_
  refine W.eq (g2 := F0 m 5 ls [.null]) rfl ?_
  refine lv_ifnullN (tgt := 16) hx hb dX11_above_5 (by decide) ?_
  refine lv_iconst (v := (-1)) hx hb dX11_above_16 (by decide) ?_
  refine W.widen (k := 0) (n := 0) (Nat.le_of_ble_eq_true rfl) (Nat.le_of_ble_eq_true rfl) ?_
  exact W.iret (v := (-1)) hx hb hr (fun t ht hW => ⟨⟨_, ((fun _ => 0), (fun _ => fun _ => 0), (fun _ => fun _ => 0)), rfl, rfl, by rw [ht]; exact hP.sub [] rfl, hD.sub [] (by decide) rfl⟩, hS.F ht⟩) hS.2.2 dX11_above_17
theorem dX11_letter_0 : decode cX11_letter 0 = .ok (.aload_n 0, 1) := by decide +kernel
theorem dX11_letter_1 : decode cX11_letter 1 = .ok (.iload_n 1, 1) := by decide +kernel
theorem dX11_letter_2 : decode cX11_letter 2 = .ok (.invokevirtual 95, 3) := by decide +kernel
theorem dX11_letter_5 : decode cX11_letter 5 = .ok (.astore_n 3, 1) := by decide +kernel
theorem dX11_letter_6 : decode cX11_letter 6 = .ok (.aload_n 3, 1) := by decide +kernel
theorem dX11_letter_7 : decode cX11_letter 7 = .ok (.ifnonnull 7, 3) := by decide +kernel
theorem dX11_letter_10 : decode cX11_letter 10 = .ok (.iconst (-1), 1) := by decide +kernel
theorem dX11_letter_11 : decode cX11_letter 11 = .ok (.goto 15, 3) := by decide +kernel
theorem dX11_letter_26 : decode cX11_letter 26 = .ok (.ireturn, 1) := by decide +kernel
set_option maxHeartbeats 1000000 in
set_option maxRecDepth 100000 in
/-- letter without a program: NONE -/
theorem c_letter (l : Launch) (G : pT) (h0 : Nat) (k1 : Nat) (k2 : Nat) (k3 : Nat) (k4 : Nat) (k5 : Nat) (k6 : Nat) (x : Int32) (y : Int32) : PM l G pX0 yX11_letter cX11_letter 4 (some .int) ({ frames := 3, cells := 0, slots := 0, locals := 81 }) [.ref h0, .int x, .int y] [(h0, .inr (8, [.ref k1, .int 0, .ref k2, .ref k3, .ref k4, .ref k5, .ref k6, .null]))] (fun (v : Option Value) (u : (Nat → Nat) × (Nat → Nat → Int32) × (Nat → Nat → Int64)) => v = some (.int (-1))) (fun u => []) := by
  intro sz
  refine Met.ofW (cc := cX11_letter) (maxL := 4) (ret := (some .int)) (by decide) rfl ?_
  intro p e s m args below meth c s₁ B hml hv
  obtain ⟨rfl, hsz, hP, hD0, hE, hX⟩ := hv
  have hx := B.exec
  have hb := B.bytes
  have hr := B.returns
  have hts := atoms_spec (ws := Cond.code yX11_letter cX11_letter 4 (some .int) :: pw) B.pre
  have hq : ∀ w ∈ pw, w.before _ s = true := fun w h => hts w (List.mem_cons_of_mem _ h)
  have hown : s.vm.findClass RX11 = some m.cls := findClass_of_methodNamed B.named
  have hlocks := B.notSynchronized
  subst hsz
  have hD := hD0.self (sz := s.heap.size)
  have hA : ∀ q : Nat, s.heap.size ≤ q → va_A [(h0, .inr (8, [.ref k1, .int 0, .ref k2, .ref k3, .ref k4, .ref k5, .ref k6, .null]))] s.heap.size q := fun q h => Or.inr h
  have hP : va_P G.1 pCl [(h0, .inr (8, [.ref k1, .int 0, .ref k2, .ref k3, .ref k4, .ref k5, .ref k6, .null]))] s.heap := hP
  generalize va_A [(h0, .inr (8, [.ref k1, .int 0, .ref k2, .ref k3, .ref k4, .ref k5, .ref k6, .null]))] s.heap.size = A at hD hE hA ⊢
  have hS : va_S A s.heap s.heap [] := va_S.rf
  have hl := lv_entry ([.ref h0, .int x, .int y]) (n := 4) (Nat.le_of_ble_eq_true rfl)
  rw [lg_entry_eq]
  generalize (lg_sl ([.ref h0, .int x, .int y]) ++ List.replicate (4 - (lg_sl ([.ref h0, .int x, .int y])).length) Slot.unset).toArray = ls at hl ⊢
  have hl : lv_has ls 4 [(0, .ref h0), (1, .int x), (2, .int y)] := hl
  refine lv_aload_n hx hb dX11_letter_0 rfl (lv_at hl 0 rfl) ?_
  refine lv_iload_n hx hb dX11_letter_1 rfl (lv_at hl 1 rfl) ?_
  refine pc_V (G := G) (As := [.int x]) (rest := []) (wr := []) hx hb hml hown hq hE hX pX0_al hP hD hS hA hl.1 (c_declared l G h0 k1 k2 k3 k4 k5 k6 x) (gV pw_28 pw_384 pw_385 pw_370 pw_383) hV_X11_declared 0 8 rfl rfl rfl [0] [] rfl rfl (by decide) (by decide) (by decide) rfl (Nat.le_of_ble_eq_true rfl) dX11_letter_2 ⟨Nat.le_of_ble_eq_true rfl, Nat.le_of_ble_eq_true rfl⟩ ⟨Nat.le_of_ble_eq_true rfl, Nat.le_of_ble_eq_true rfl⟩ (fun v3 u1 H locs hw2 hP hD hS => ?_)
  obtain rfl : v3 = some (.null) := hw2
  have hP : va_P G.1 pCl [(h0, .inr (8, [.ref k1, .int 0, .ref k2, .ref k3, .ref k4, .ref k5, .ref k6, .null]))] H := hP
  have hD : va_D A [(h0, .inr (8, [.ref k1, .int 0, .ref k2, .ref k3, .ref k4, .ref k5, .ref k6, .null]))] := hD
  refine W.widen (k := 0) (n := 0) (Nat.le_of_ble_eq_true rfl) (Nat.le_of_ble_eq_true rfl) ?_
  refine W.eq (g2 := F0 m 5 ls [.null]) rfl ?_
  refine lv_astore_nN (lv' := [(3, .null), (0, .ref h0), (1, .int x), (2, .int y)]) hx hb dX11_letter_5 rfl hl (by decide) rfl (fun ls hl => ?_)
  refine lv_aload_nN hx hb dX11_letter_6 rfl (lv_at hl 0 rfl) ?_
  refine lv_ifnonnullN hx hb dX11_letter_7 ?_
  refine lv_iconst (v := (-1)) hx hb dX11_letter_10 (by decide) ?_
  refine lv_goto (tgt := 26) hx hb dX11_letter_11 (by decide) ?_
  refine W.widen (k := 0) (n := 0) (Nat.le_of_ble_eq_true rfl) (Nat.le_of_ble_eq_true rfl) ?_
  exact W.iret (v := (-1)) hx hb hr (fun t ht hW => ⟨⟨_, ((fun _ => 0), (fun _ => fun _ => 0), (fun _ => fun _ => 0)), rfl, rfl, by rw [ht]; exact hP.sub [] rfl, hD.sub [] (by decide) rfl⟩, hS.F ht⟩) hS.2.2 dX11_letter_26
theorem dX11_called_0 : decode cX11_called 0 = .ok (.aload_n 0, 1) := by decide +kernel
theorem dX11_called_1 : decode cX11_called 1 = .ok (.iload_n 1, 1) := by decide +kernel
theorem dX11_called_2 : decode cX11_called 2 = .ok (.invokevirtual 95, 3) := by decide +kernel
theorem dX11_called_5 : decode cX11_called 5 = .ok (.astore_n 3, 1) := by decide +kernel
theorem dX11_called_6 : decode cX11_called 6 = .ok (.aload_n 0, 1) := by decide +kernel
theorem dX11_called_7 : decode cX11_called 7 = .ok (.getfield 69, 3) := by decide +kernel
theorem dX11_called_10 : decode cX11_called 10 = .ok (.ifnonnull 7, 3) := by decide +kernel
theorem dX11_called_13 : decode cX11_called 13 = .ok (.aconst_null, 1) := by decide +kernel
theorem dX11_called_14 : decode cX11_called 14 = .ok (.goto 11, 3) := by decide +kernel
theorem dX11_called_25 : decode cX11_called 25 = .ok (.astore 4, 2) := by decide +kernel
theorem dX11_called_27 : decode cX11_called 27 = .ok (.aload_n 3, 1) := by decide +kernel
theorem dX11_called_28 : decode cX11_called 28 = .ok (.ifnull 15, 3) := by decide +kernel
theorem dX11_called_43 : decode cX11_called 43 = .ok (.iconst (-1), 1) := by decide +kernel
theorem dX11_called_44 : decode cX11_called 44 = .ok (.ireturn, 1) := by decide +kernel
set_option maxHeartbeats 1000000 in
set_option maxRecDepth 100000 in
/-- called without a program: NONE -/
theorem c_called (l : Launch) (G : pT) (h0 : Nat) (k1 : Nat) (k2 : Nat) (k3 : Nat) (k4 : Nat) (k5 : Nat) (k6 : Nat) (x : Int32) (y : Int32) : PM l G pX0 yX11_called cX11_called 6 (some .int) ({ frames := 3, cells := 0, slots := 0, locals := 81 }) [.ref h0, .int x, .int y] [(h0, .inr (8, [.ref k1, .int 0, .ref k2, .ref k3, .ref k4, .ref k5, .ref k6, .null]))] (fun (v : Option Value) (u : (Nat → Nat) × (Nat → Nat → Int32) × (Nat → Nat → Int64)) => v = some (.int (-1))) (fun u => []) := by
  intro sz
  refine Met.ofW (cc := cX11_called) (maxL := 6) (ret := (some .int)) (by decide) rfl ?_
  intro p e s m args below meth c s₁ B hml hv
  obtain ⟨rfl, hsz, hP, hD0, hE, hX⟩ := hv
  have hx := B.exec
  have hb := B.bytes
  have hr := B.returns
  have hts := atoms_spec (ws := Cond.code yX11_called cX11_called 6 (some .int) :: pw) B.pre
  have hq : ∀ w ∈ pw, w.before _ s = true := fun w h => hts w (List.mem_cons_of_mem _ h)
  have hown : s.vm.findClass RX11 = some m.cls := findClass_of_methodNamed B.named
  have hlocks := B.notSynchronized
  subst hsz
  have hD := hD0.self (sz := s.heap.size)
  have hA : ∀ q : Nat, s.heap.size ≤ q → va_A [(h0, .inr (8, [.ref k1, .int 0, .ref k2, .ref k3, .ref k4, .ref k5, .ref k6, .null]))] s.heap.size q := fun q h => Or.inr h
  have hP : va_P G.1 pCl [(h0, .inr (8, [.ref k1, .int 0, .ref k2, .ref k3, .ref k4, .ref k5, .ref k6, .null]))] s.heap := hP
  generalize va_A [(h0, .inr (8, [.ref k1, .int 0, .ref k2, .ref k3, .ref k4, .ref k5, .ref k6, .null]))] s.heap.size = A at hD hE hA ⊢
  have hS : va_S A s.heap s.heap [] := va_S.rf
  have hl := lv_entry ([.ref h0, .int x, .int y]) (n := 6) (Nat.le_of_ble_eq_true rfl)
  rw [lg_entry_eq]
  generalize (lg_sl ([.ref h0, .int x, .int y]) ++ List.replicate (6 - (lg_sl ([.ref h0, .int x, .int y])).length) Slot.unset).toArray = ls at hl ⊢
  have hl : lv_has ls 6 [(0, .ref h0), (1, .int x), (2, .int y)] := hl
  refine lv_aload_n hx hb dX11_called_0 rfl (lv_at hl 0 rfl) ?_
  refine lv_iload_n hx hb dX11_called_1 rfl (lv_at hl 1 rfl) ?_
  refine pc_V (G := G) (As := [.int x]) (rest := []) (wr := []) hx hb hml hown hq hE hX pX0_al hP hD hS hA hl.1 (c_declared l G h0 k1 k2 k3 k4 k5 k6 x) (gV pw_28 pw_384 pw_385 pw_370 pw_383) hV_X11_declared 0 8 rfl rfl rfl [0] [] rfl rfl (by decide) (by decide) (by decide) rfl (Nat.le_of_ble_eq_true rfl) dX11_called_2 ⟨Nat.le_of_ble_eq_true rfl, Nat.le_of_ble_eq_true rfl⟩ ⟨Nat.le_of_ble_eq_true rfl, Nat.le_of_ble_eq_true rfl⟩ (fun v3 u1 H locs hw2 hP hD hS => ?_)
  obtain rfl : v3 = some (.null) := hw2
  have hP : va_P G.1 pCl [(h0, .inr (8, [.ref k1, .int 0, .ref k2, .ref k3, .ref k4, .ref k5, .ref k6, .null]))] H := hP
  have hD : va_D A [(h0, .inr (8, [.ref k1, .int 0, .ref k2, .ref k3, .ref k4, .ref k5, .ref k6, .null]))] := hD
  refine W.widen (k := 0) (n := 0) (Nat.le_of_ble_eq_true rfl) (Nat.le_of_ble_eq_true rfl) ?_
  refine W.eq (g2 := F0 m 5 ls [.null]) rfl ?_
  refine lv_astore_nN (lv' := [(3, .null), (0, .ref h0), (1, .int x), (2, .int y)]) hx hb dX11_called_5 rfl hl (by decide) rfl (fun ls hl => ?_)
  refine lv_aload_n hx hb dX11_called_6 rfl (lv_at hl 1 rfl) ?_
  refine va_get (D := G.1) (ci := 8) (v := .null) (C := RX11) (T := TX11) (N := 8) hx hb hq pin_wsX110 hown hE.1.1 hP 0 rfl rfl 7 (by decide) (hq _ pw_21) (fun _ h9 => h9) rfl dX11_called_7 ?_
  refine lv_ifnonnullN hx hb dX11_called_10 ?_
  refine lv_null hx hb dX11_called_13 ?_
  refine lv_goto (tgt := 25) hx hb dX11_called_14 (by decide) ?_
  refine lv_astoreN (lv' := [(4, .null), (3, .null), (0, .ref h0), (1, .int x), (2, .int y)]) hx hb dX11_called_25 hl (by decide) rfl (fun ls hl => ?_)
  refine lv_aload_nN hx hb dX11_called_27 rfl (lv_at hl 1 rfl) ?_
  refine lv_ifnullN (tgt := 43) hx hb dX11_called_28 (by decide) ?_
  refine lv_iconst (v := (-1)) hx hb dX11_called_43 (by decide) ?_
  refine W.widen (k := 0) (n := 0) (Nat.le_of_ble_eq_true rfl) (Nat.le_of_ble_eq_true rfl) ?_
  exact W.iret (v := (-1)) hx hb hr (fun t ht hW => ⟨⟨_, ((fun _ => 0), (fun _ => fun _ => 0), (fun _ => fun _ => 0)), rfl, rfl, by rw [ht]; exact hP.sub [] rfl, hD.sub [] (by decide) rfl⟩, hS.F ht⟩) hS.2.2 dX11_called_44
theorem dX5_takeInput_0 : decode cX5_takeInput 0 = .ok (.aload_n 0, 1) := by decide +kernel
theorem dX5_takeInput_1 : decode cX5_takeInput 1 = .ok (.getfield 39, 3) := by decide +kernel
theorem dX5_takeInput_4 : decode cX5_takeInput 4 = .ok (.sipush 200, 3) := by decide +kernel
theorem dX5_takeInput_7 : decode cX5_takeInput 7 = .ok (.if_icmp .lt 5, 3) := by decide +kernel
theorem dX5_takeInput_12 : decode cX5_takeInput 12 = .ok (.aload_n 0, 1) := by decide +kernel
theorem dX5_takeInput_13 : decode cX5_takeInput 13 = .ok (.getfield 30, 3) := by decide +kernel
theorem dX5_takeInput_16 : decode cX5_takeInput 16 = .ok (.aload_n 0, 1) := by decide +kernel
theorem dX5_takeInput_17 : decode cX5_takeInput 17 = .ok (.getfield 39, 3) := by decide +kernel
theorem dX5_takeInput_20 : decode cX5_takeInput 20 = .ok (.iload_n 1, 1) := by decide +kernel
theorem dX5_takeInput_21 : decode cX5_takeInput 21 = .ok (.iastore, 1) := by decide +kernel
theorem dX5_takeInput_22 : decode cX5_takeInput 22 = .ok (.aload_n 0, 1) := by decide +kernel
theorem dX5_takeInput_23 : decode cX5_takeInput 23 = .ok (.dup, 1) := by decide +kernel
theorem dX5_takeInput_24 : decode cX5_takeInput 24 = .ok (.getfield 39, 3) := by decide +kernel
theorem dX5_takeInput_27 : decode cX5_takeInput 27 = .ok (.iconst 1, 1) := by decide +kernel
theorem dX5_takeInput_28 : decode cX5_takeInput 28 = .ok (.iadd, 1) := by decide +kernel
theorem dX5_takeInput_29 : decode cX5_takeInput 29 = .ok (.putfield 39, 3) := by decide +kernel
theorem dX5_takeInput_32 : decode cX5_takeInput 32 = .ok (.aload_n 0, 1) := by decide +kernel
theorem dX5_takeInput_33 : decode cX5_takeInput 33 = .ok (.getfield 39, 3) := by decide +kernel
theorem dX5_takeInput_36 : decode cX5_takeInput 36 = .ok (.ireturn, 1) := by decide +kernel
set_option maxHeartbeats 1000000 in
set_option maxRecDepth 100000 in
/-- takeInput, the first -/
theorem c_takeInput (l : Launch) (G : pT) (k6 : Nat) (m1 : Nat) (m2 : Nat) (m3 : Nat) (m4 : Nat) (m5 : Nat) (m6 : Nat) (m7 : Nat) (f : Nat → Int32) (x : Int32) : PM l G pX0 yX5_takeInput cX5_takeInput 2 (some .int) ({ frames := 2, cells := 0, slots := 0, locals := 60 }) [.ref k6, .int x] [(k6, .inr (4, [.ref m1, .ref m2, .ref m3, .ref m4, .ref m5, .int 0, .ref m6, .ref m7, .null, .null, .int 0, .int 0, .int 0, .int 0, .long 0, .int 0, .int 0, .int 0, .int 0])), (m5, .inl (G.2.1 0, 200, .inl f))] (fun (v : Option Value) (u : (Nat → Nat) × (Nat → Nat → Int32) × (Nat → Nat → Int64)) => v = some (.int 1)) (fun u => []) := by
  intro sz
  refine Met.ofW (cc := cX5_takeInput) (maxL := 2) (ret := (some .int)) (by decide) rfl ?_
  intro p e s m args below meth c s₁ B hml hv
  obtain ⟨rfl, hsz, hP, hD0, hE, hX⟩ := hv
  have hx := B.exec
  have hb := B.bytes
  have hr := B.returns
  have hts := atoms_spec (ws := Cond.code yX5_takeInput cX5_takeInput 2 (some .int) :: pw) B.pre
  have hq : ∀ w ∈ pw, w.before _ s = true := fun w h => hts w (List.mem_cons_of_mem _ h)
  have hown : s.vm.findClass RX5 = some m.cls := findClass_of_methodNamed B.named
  have hlocks := B.notSynchronized
  subst hsz
  have hD := hD0.self (sz := s.heap.size)
  have hA : ∀ q : Nat, s.heap.size ≤ q → va_A [(k6, .inr (4, [.ref m1, .ref m2, .ref m3, .ref m4, .ref m5, .int 0, .ref m6, .ref m7, .null, .null, .int 0, .int 0, .int 0, .int 0, .long 0, .int 0, .int 0, .int 0, .int 0])), (m5, .inl (G.2.1 0, 200, .inl f))] s.heap.size q := fun q h => Or.inr h
  have hP : va_P G.1 pCl [(k6, .inr (4, [.ref m1, .ref m2, .ref m3, .ref m4, .ref m5, .int 0, .ref m6, .ref m7, .null, .null, .int 0, .int 0, .int 0, .int 0, .long 0, .int 0, .int 0, .int 0, .int 0])), (m5, .inl (G.2.1 0, 200, .inl f))] s.heap := hP
  generalize va_A [(k6, .inr (4, [.ref m1, .ref m2, .ref m3, .ref m4, .ref m5, .int 0, .ref m6, .ref m7, .null, .null, .int 0, .int 0, .int 0, .int 0, .long 0, .int 0, .int 0, .int 0, .int 0])), (m5, .inl (G.2.1 0, 200, .inl f))] s.heap.size = A at hD hE hA ⊢
  have hS : va_S A s.heap s.heap [] := va_S.rf
  have hl := lv_entry ([.ref k6, .int x]) (n := 2) (Nat.le_of_ble_eq_true rfl)
  rw [lg_entry_eq]
  generalize (lg_sl ([.ref k6, .int x]) ++ List.replicate (2 - (lg_sl ([.ref k6, .int x])).length) Slot.unset).toArray = ls at hl ⊢
  have hl : lv_has ls 2 [(0, .ref k6), (1, .int x)] := hl
  refine lv_aload_n hx hb dX5_takeInput_0 rfl (lv_at hl 0 rfl) ?_
  refine va_get (D := G.1) (ci := 4) (v := .int 0) (C := RX5) (T := TX5) (N := 19) hx hb hq pin_wsX50 hown hE.1.1 hP 0 rfl rfl 5 (by decide) (hq _ pw_116) (fun _ h9 => h9) rfl dX5_takeInput_1 ?_
  refine lv_sipush (v := 200) hx hb dX5_takeInput_4 (by decide) ?_
  refine lv_icmp_lt (tgt := 12) hx hb dX5_takeInput_7 (by decide) (fun c1 => ?_) (fun c1 => absurd c1 (by decide))
  refine lv_aload_n hx hb dX5_takeInput_12 rfl (lv_at hl 0 rfl) ?_
  refine va_get (D := G.1) (ci := 4) (v := .ref m5) (C := RX5) (T := TX5) (N := 19) hx hb hq pin_wsX50 hown hE.1.1 hP 0 rfl rfl 4 (by decide) (hq _ pw_113) (fun _ h9 => h9) rfl dX5_takeInput_13 ?_
  refine lv_aload_n hx hb dX5_takeInput_16 rfl (lv_at hl 0 rfl) ?_
  refine va_get (D := G.1) (ci := 4) (v := .int 0) (C := RX5) (T := TX5) (N := 19) hx hb hq pin_wsX50 hown hE.1.1 hP 0 rfl rfl 5 (by decide) (hq _ pw_116) (fun _ h9 => h9) rfl dX5_takeInput_17 ?_
  refine lv_iload_n hx hb dX5_takeInput_20 rfl (lv_at hl 1 rfl) ?_
  refine va_iast hx hb hE.1.1 hP hD hS 1 0 rfl rfl (by unfold vp_in; decide) dX5_takeInput_21 (fun H locs hP hD hS => ?_)
  have hP : va_P G.1 pCl [(k6, .inr (4, [.ref m1, .ref m2, .ref m3, .ref m4, .ref m5, .int 0, .ref m6, .ref m7, .null, .null, .int 0, .int 0, .int 0, .int 0, .long 0, .int 0, .int 0, .int 0, .int 0])), (m5, .inl (G.2.1 0, 200, .inl (upd f (Int32.toNatClampNeg 0) x)))] H := hP
  have hD : va_D A [(k6, .inr (4, [.ref m1, .ref m2, .ref m3, .ref m4, .ref m5, .int 0, .ref m6, .ref m7, .null, .null, .int 0, .int 0, .int 0, .int 0, .long 0, .int 0, .int 0, .int 0, .int 0])), (m5, .inl (G.2.1 0, 200, .inl (upd f (Int32.toNatClampNeg 0) x)))] := hD
  generalize (upd f (Int32.toNatClampNeg 0) x) = f2 at hP hD
  refine lv_aload_n hx hb dX5_takeInput_22 rfl (lv_at hl 0 rfl) ?_
  refine lv_dup hx hb dX5_takeInput_23 rfl ?_
  refine va_get (D := G.1) (ci := 4) (v := .int 0) (C := RX5) (T := TX5) (N := 19) hx hb hq pin_wsX50 hown hE.1.1 hP 0 rfl rfl 5 (by decide) (hq _ pw_116) (fun _ h9 => h9) rfl dX5_takeInput_24 ?_
  refine lv_iconst (v := 1) hx hb dX5_takeInput_27 (by decide) ?_
  refine lv_iadd hx hb dX5_takeInput_28 ?_
  refine lv_topi (fun x3 e4 => ?_)
  obtain rfl : x3 = 1 := e4.trans (by decide)
  refine va_put (D := G.1) (ci := 4) (v := .int 1) (ty := .int) (C := RX5) (T := TX5) (N := 19) hx hb hq pin_wsX50 tyX5 tyX5_ok nmX5 hown hE.1.1 hP hD hS 0 rfl rfl 5 (by decide) (hq _ pw_116) (fun _ h9 => h9) rfl (by decide +kernel) rfl rfl (Nat.le_of_ble_eq_true rfl) dX5_takeInput_29 (fun H locs hP hD hS => ?_)
  have hP : va_P G.1 pCl [(k6, .inr (4, [.ref m1, .ref m2, .ref m3, .ref m4, .ref m5, .int 1, .ref m6, .ref m7, .null, .null, .int 0, .int 0, .int 0, .int 0, .long 0, .int 0, .int 0, .int 0, .int 0])), (m5, .inl (G.2.1 0, 200, .inl f2))] H := hP
  have hD : va_D A [(k6, .inr (4, [.ref m1, .ref m2, .ref m3, .ref m4, .ref m5, .int 1, .ref m6, .ref m7, .null, .null, .int 0, .int 0, .int 0, .int 0, .long 0, .int 0, .int 0, .int 0, .int 0])), (m5, .inl (G.2.1 0, 200, .inl f2))] := hD
  refine lv_aload_n hx hb dX5_takeInput_32 rfl (lv_at hl 0 rfl) ?_
  refine va_get (D := G.1) (ci := 4) (v := .int 1) (C := RX5) (T := TX5) (N := 19) hx hb hq pin_wsX50 hown hE.1.1 hP 0 rfl rfl 5 (by decide) (hq _ pw_116) (fun _ h9 => h9) rfl dX5_takeInput_33 ?_
  refine W.widen (k := 0) (n := 0) (Nat.le_of_ble_eq_true rfl) (Nat.le_of_ble_eq_true rfl) ?_
  exact W.iret (v := 1) hx hb hr (fun t ht hW => ⟨⟨_, ((fun _ => 0), (fun _ => fun _ => 0), (fun _ => fun _ => 0)), rfl, rfl, by rw [ht]; exact hP.sub [] rfl, hD.sub [] (by decide) rfl⟩, hS.F ht⟩) hS.2.2 dX5_takeInput_36
theorem dX11_input_0 : decode cX11_input 0 = .ok (.aload_n 0, 1) := by decide +kernel
theorem dX11_input_1 : decode cX11_input 1 = .ok (.getfield 50, 3) := by decide +kernel
theorem dX11_input_4 : decode cX11_input 4 = .ok (.iload_n 1, 1) := by decide +kernel
theorem dX11_input_5 : decode cX11_input 5 = .ok (.invokevirtual 159, 3) := by decide +kernel
theorem dX11_input_8 : decode cX11_input 8 = .ok (.ireturn, 1) := by decide +kernel
theorem hV_X5_takeInput : yX5_takeInput.cls = RX5 ∧ yX5_takeInput.cls ≠ "java/lang/invoke/MethodHandle" ∧ yX5_takeInput.cls ≠ "java/lang/invoke/VarHandle" ∧ (parseMethodDescriptor yX5_takeInput.desc).map (fun d => d.parameters.length) = some 1 := by decide +kernel
set_option maxHeartbeats 1000000 in
set_option maxRecDepth 100000 in
/-- input on a fresh object: 1 -/
theorem c_input (l : Launch) (G : pT) (h0 : Nat) (k1 : Nat) (k2 : Nat) (k3 : Nat) (k4 : Nat) (k5 : Nat) (k6 : Nat) (m1 : Nat) (m2 : Nat) (m3 : Nat) (m4 : Nat) (m5 : Nat) (m6 : Nat) (m7 : Nat) (f : Nat → Int32) (x : Int32) : PM l G pX0 yX11_input cX11_input 2 (some .int) ({ frames := 3, cells := 0, slots := 0, locals := 81 }) [.ref h0, .int x] [(h0, .inr (8, [.ref k1, .int 0, .ref k2, .ref k3, .ref k4, .ref k5, .ref k6, .null])), (k6, .inr (4, [.ref m1, .ref m2, .ref m3, .ref m4, .ref m5, .int 0, .ref m6, .ref m7, .null, .null, .int 0, .int 0, .int 0, .int 0, .long 0, .int 0, .int 0, .int 0, .int 0])), (m5, .inl (G.2.1 0, 200, .inl f))] (fun (v : Option Value) (u : (Nat → Nat) × (Nat → Nat → Int32) × (Nat → Nat → Int64)) => v = some (.int 1)) (fun u => []) := by
  intro sz
  refine Met.ofW (cc := cX11_input) (maxL := 2) (ret := (some .int)) (by decide) rfl ?_
  intro p e s m args below meth c s₁ B hml hv
  obtain ⟨rfl, hsz, hP, hD0, hE, hX⟩ := hv
  have hx := B.exec
  have hb := B.bytes
  have hr := B.returns
  have hts := atoms_spec (ws := Cond.code yX11_input cX11_input 2 (some .int) :: pw) B.pre
  have hq : ∀ w ∈ pw, w.before _ s = true := fun w h => hts w (List.mem_cons_of_mem _ h)
  have hown : s.vm.findClass RX11 = some m.cls := findClass_of_methodNamed B.named
  have hlocks := B.notSynchronized
  subst hsz
  have hD := hD0.self (sz := s.heap.size)
  have hA : ∀ q : Nat, s.heap.size ≤ q → va_A [(h0, .inr (8, [.ref k1, .int 0, .ref k2, .ref k3, .ref k4, .ref k5, .ref k6, .null])), (k6, .inr (4, [.ref m1, .ref m2, .ref m3, .ref m4, .ref m5, .int 0, .ref m6, .ref m7, .null, .null, .int 0, .int 0, .int 0, .int 0, .long 0, .int 0, .int 0, .int 0, .int 0])), (m5, .inl (G.2.1 0, 200, .inl f))] s.heap.size q := fun q h => Or.inr h
  have hP : va_P G.1 pCl [(h0, .inr (8, [.ref k1, .int 0, .ref k2, .ref k3, .ref k4, .ref k5, .ref k6, .null])), (k6, .inr (4, [.ref m1, .ref m2, .ref m3, .ref m4, .ref m5, .int 0, .ref m6, .ref m7, .null, .null, .int 0, .int 0, .int 0, .int 0, .long 0, .int 0, .int 0, .int 0, .int 0])), (m5, .inl (G.2.1 0, 200, .inl f))] s.heap := hP
  generalize va_A [(h0, .inr (8, [.ref k1, .int 0, .ref k2, .ref k3, .ref k4, .ref k5, .ref k6, .null])), (k6, .inr (4, [.ref m1, .ref m2, .ref m3, .ref m4, .ref m5, .int 0, .ref m6, .ref m7, .null, .null, .int 0, .int 0, .int 0, .int 0, .long 0, .int 0, .int 0, .int 0, .int 0])), (m5, .inl (G.2.1 0, 200, .inl f))] s.heap.size = A at hD hE hA ⊢
  have hS : va_S A s.heap s.heap [] := va_S.rf
  have hl := lv_entry ([.ref h0, .int x]) (n := 2) (Nat.le_of_ble_eq_true rfl)
  rw [lg_entry_eq]
  generalize (lg_sl ([.ref h0, .int x]) ++ List.replicate (2 - (lg_sl ([.ref h0, .int x])).length) Slot.unset).toArray = ls at hl ⊢
  have hl : lv_has ls 2 [(0, .ref h0), (1, .int x)] := hl
  refine lv_aload_n hx hb dX11_input_0 rfl (lv_at hl 0 rfl) ?_
  refine va_get (D := G.1) (ci := 8) (v := .ref k6) (C := RX11) (T := TX11) (N := 8) hx hb hq pin_wsX110 hown hE.1.1 hP 0 rfl rfl 6 (by decide) (hq _ pw_16) (fun _ h9 => h9) rfl dX11_input_1 ?_
  refine lv_iload_n hx hb dX11_input_4 rfl (lv_at hl 1 rfl) ?_
  refine pc_V (G := G) (As := [.int x]) (rest := []) (wr := [(h0, .inr (8, [.ref k1, .int 0, .ref k2, .ref k3, .ref k4, .ref k5, .ref k6, .null]))]) hx hb hml hown hq hE hX pX0_al hP hD hS hA hl.1 (c_takeInput l G k6 m1 m2 m3 m4 m5 m6 m7 f x) (gV pw_39 pw_465 pw_466 pw_463 pw_464) hV_X5_takeInput 1 4 rfl rfl rfl [1, 2] [0] rfl rfl (by decide) (by decide) (by decide) rfl (Nat.le_of_ble_eq_true rfl) dX11_input_5 ⟨Nat.le_of_ble_eq_true rfl, Nat.le_of_ble_eq_true rfl⟩ ⟨Nat.le_of_ble_eq_true rfl, Nat.le_of_ble_eq_true rfl⟩ (fun v3 u1 H locs hw2 hP hD hS => ?_)
  obtain rfl : v3 = some (.int 1) := hw2
  have hP : va_P G.1 pCl [(h0, .inr (8, [.ref k1, .int 0, .ref k2, .ref k3, .ref k4, .ref k5, .ref k6, .null]))] H := hP
  have hD : va_D A [(h0, .inr (8, [.ref k1, .int 0, .ref k2, .ref k3, .ref k4, .ref k5, .ref k6, .null]))] := hD
  refine W.widen (k := 0) (n := 0) (Nat.le_of_ble_eq_true rfl) (Nat.le_of_ble_eq_true rfl) ?_
  refine W.eq (g2 := F0 m 8 ls [.int 1]) rfl ?_
  refine W.widen (k := 0) (n := 0) (Nat.le_of_ble_eq_true rfl) (Nat.le_of_ble_eq_true rfl) ?_
  exact W.iret (v := 1) hx hb hr (fun t ht hW => ⟨⟨_, ((fun _ => 0), (fun _ => fun _ => 0), (fun _ => fun _ => 0)), rfl, rfl, by rw [ht]; exact hP.sub [] rfl, hD.sub [] (by decide) rfl⟩, hS.F ht⟩) hS.2.2 dX11_input_8
theorem dX11_forget_0 : decode cX11_forget 0 = .ok (.aload_n 0, 1) := by decide +kernel
theorem dX11_forget_1 : decode cX11_forget 1 = .ok (.getfield 50, 3) := by decide +kernel
theorem dX11_forget_4 : decode cX11_forget 4 = .ok (.iconst 0, 1) := by decide +kernel
theorem dX11_forget_5 : decode cX11_forget 5 = .ok (.putfield 163, 3) := by decide +kernel
theorem dX11_forget_8 : decode cX11_forget 8 = .ok (.return_, 1) := by decide +kernel
set_option maxHeartbeats 1000000 in
set_option maxRecDepth 100000 in
/-- forget -/
theorem c_forget (l : Launch) (G : pT) (h0 : Nat) (k1 : Nat) (k2 : Nat) (k3 : Nat) (k4 : Nat) (k5 : Nat) (k6 : Nat) (m1 : Nat) (m2 : Nat) (m3 : Nat) (m4 : Nat) (m5 : Nat) (m6 : Nat) (m7 : Nat) : PM l G pX0 yX11_forget cX11_forget 1 none ({ frames := 2, cells := 0, slots := 0, locals := 60 }) [.ref h0] [(h0, .inr (8, [.ref k1, .int 0, .ref k2, .ref k3, .ref k4, .ref k5, .ref k6, .null])), (k6, .inr (4, [.ref m1, .ref m2, .ref m3, .ref m4, .ref m5, .int 0, .ref m6, .ref m7, .null, .null, .int 0, .int 0, .int 0, .int 0, .long 0, .int 0, .int 0, .int 0, .int 0]))] (fun (v : Option Value) (u : (Nat → Nat) × (Nat → Nat → Int32) × (Nat → Nat → Int64)) => v = none) (fun u => []) := by
  intro sz
  refine Met.ofW (cc := cX11_forget) (maxL := 1) (ret := none) (by decide) rfl ?_
  intro p e s m args below meth c s₁ B hml hv
  obtain ⟨rfl, hsz, hP, hD0, hE, hX⟩ := hv
  have hx := B.exec
  have hb := B.bytes
  have hr := B.returns
  have hts := atoms_spec (ws := Cond.code yX11_forget cX11_forget 1 none :: pw) B.pre
  have hq : ∀ w ∈ pw, w.before _ s = true := fun w h => hts w (List.mem_cons_of_mem _ h)
  have hown : s.vm.findClass RX11 = some m.cls := findClass_of_methodNamed B.named
  have hlocks := B.notSynchronized
  subst hsz
  have hD := hD0.self (sz := s.heap.size)
  have hA : ∀ q : Nat, s.heap.size ≤ q → va_A [(h0, .inr (8, [.ref k1, .int 0, .ref k2, .ref k3, .ref k4, .ref k5, .ref k6, .null])), (k6, .inr (4, [.ref m1, .ref m2, .ref m3, .ref m4, .ref m5, .int 0, .ref m6, .ref m7, .null, .null, .int 0, .int 0, .int 0, .int 0, .long 0, .int 0, .int 0, .int 0, .int 0]))] s.heap.size q := fun q h => Or.inr h
  have hP : va_P G.1 pCl [(h0, .inr (8, [.ref k1, .int 0, .ref k2, .ref k3, .ref k4, .ref k5, .ref k6, .null])), (k6, .inr (4, [.ref m1, .ref m2, .ref m3, .ref m4, .ref m5, .int 0, .ref m6, .ref m7, .null, .null, .int 0, .int 0, .int 0, .int 0, .long 0, .int 0, .int 0, .int 0, .int 0]))] s.heap := hP
  generalize va_A [(h0, .inr (8, [.ref k1, .int 0, .ref k2, .ref k3, .ref k4, .ref k5, .ref k6, .null])), (k6, .inr (4, [.ref m1, .ref m2, .ref m3, .ref m4, .ref m5, .int 0, .ref m6, .ref m7, .null, .null, .int 0, .int 0, .int 0, .int 0, .long 0, .int 0, .int 0, .int 0, .int 0]))] s.heap.size = A at hD hE hA ⊢
  have hS : va_S A s.heap s.heap [] := va_S.rf
  have hl := lv_entry ([.ref h0]) (n := 1) (Nat.le_of_ble_eq_true rfl)
  rw [lg_entry_eq]
  generalize (lg_sl ([.ref h0]) ++ List.replicate (1 - (lg_sl ([.ref h0])).length) Slot.unset).toArray = ls at hl ⊢
  have hl : lv_has ls 1 [(0, .ref h0)] := hl
  refine lv_aload_n hx hb dX11_forget_0 rfl (lv_at hl 0 rfl) ?_
  refine va_get (D := G.1) (ci := 8) (v := .ref k6) (C := RX11) (T := TX11) (N := 8) hx hb hq pin_wsX110 hown hE.1.1 hP 0 rfl rfl 6 (by decide) (hq _ pw_16) (fun _ h9 => h9) rfl dX11_forget_1 ?_
  refine lv_iconst (v := 0) hx hb dX11_forget_4 (by decide) ?_
  refine va_put (D := G.1) (ci := 4) (v := .int 0) (ty := .int) (C := RX5) (T := TX5) (N := 19) hx hb hq pin_wsX50 tyX5 tyX5_ok nmX5 hown hE.1.1 hP hD hS 1 rfl rfl 5 (by decide) (hq _ pw_40) (fun _ h9 => h9) rfl (by decide +kernel) rfl rfl (Nat.le_of_ble_eq_true rfl) dX11_forget_5 (fun H locs hP hD hS => ?_)
  have hP : va_P G.1 pCl [(h0, .inr (8, [.ref k1, .int 0, .ref k2, .ref k3, .ref k4, .ref k5, .ref k6, .null])), (k6, .inr (4, [.ref m1, .ref m2, .ref m3, .ref m4, .ref m5, .int 0, .ref m6, .ref m7, .null, .null, .int 0, .int 0, .int 0, .int 0, .long 0, .int 0, .int 0, .int 0, .int 0]))] H := hP
  have hD : va_D A [(h0, .inr (8, [.ref k1, .int 0, .ref k2, .ref k3, .ref k4, .ref k5, .ref k6, .null])), (k6, .inr (4, [.ref m1, .ref m2, .ref m3, .ref m4, .ref m5, .int 0, .ref m6, .ref m7, .null, .null, .int 0, .int 0, .int 0, .int 0, .long 0, .int 0, .int 0, .int 0, .int 0]))] := hD
  refine W.widen (k := 0) (n := 0) (Nat.le_of_ble_eq_true rfl) (Nat.le_of_ble_eq_true rfl) ?_
  exact W.vret hx hb hr (fun t ht hW => ⟨⟨_, ((fun _ => 0), (fun _ => fun _ => 0), (fun _ => fun _ => 0)), rfl, rfl, by rw [ht]; exact hP.sub [] rfl, hD.sub [] (by decide) rfl⟩, hS.F ht⟩) hS.2.2 dX11_forget_8
theorem dX11_result_0 : decode cX11_result 0 = .ok (.aload_n 0, 1) := by decide +kernel
theorem dX11_result_1 : decode cX11_result 1 = .ok (.getfield 50, 3) := by decide +kernel
theorem dX11_result_4 : decode cX11_result 4 = .ok (.getfield 183, 3) := by decide +kernel
theorem dX11_result_7 : decode cX11_result 7 = .ok (.ireturn, 1) := by decide +kernel
set_option maxHeartbeats 1000000 in
set_option maxRecDepth 100000 in
/-- result without a run: 0 -/
theorem c_result (l : Launch) (G : pT) (h0 : Nat) (k1 : Nat) (k2 : Nat) (k3 : Nat) (k4 : Nat) (k5 : Nat) (k6 : Nat) (m1 : Nat) (m2 : Nat) (m3 : Nat) (m4 : Nat) (m5 : Nat) (m6 : Nat) (m7 : Nat) : PM l G pX0 yX11_result cX11_result 1 (some .int) ({ frames := 2, cells := 0, slots := 0, locals := 60 }) [.ref h0] [(h0, .inr (8, [.ref k1, .int 0, .ref k2, .ref k3, .ref k4, .ref k5, .ref k6, .null])), (k6, .inr (4, [.ref m1, .ref m2, .ref m3, .ref m4, .ref m5, .int 0, .ref m6, .ref m7, .null, .null, .int 0, .int 0, .int 0, .int 0, .long 0, .int 0, .int 0, .int 0, .int 0]))] (fun (v : Option Value) (u : (Nat → Nat) × (Nat → Nat → Int32) × (Nat → Nat → Int64)) => v = some (.int 0)) (fun u => []) := by
  intro sz
  refine Met.ofW (cc := cX11_result) (maxL := 1) (ret := (some .int)) (by decide) rfl ?_
  intro p e s m args below meth c s₁ B hml hv
  obtain ⟨rfl, hsz, hP, hD0, hE, hX⟩ := hv
  have hx := B.exec
  have hb := B.bytes
  have hr := B.returns
  have hts := atoms_spec (ws := Cond.code yX11_result cX11_result 1 (some .int) :: pw) B.pre
  have hq : ∀ w ∈ pw, w.before _ s = true := fun w h => hts w (List.mem_cons_of_mem _ h)
  have hown : s.vm.findClass RX11 = some m.cls := findClass_of_methodNamed B.named
  have hlocks := B.notSynchronized
  subst hsz
  have hD := hD0.self (sz := s.heap.size)
  have hA : ∀ q : Nat, s.heap.size ≤ q → va_A [(h0, .inr (8, [.ref k1, .int 0, .ref k2, .ref k3, .ref k4, .ref k5, .ref k6, .null])), (k6, .inr (4, [.ref m1, .ref m2, .ref m3, .ref m4, .ref m5, .int 0, .ref m6, .ref m7, .null, .null, .int 0, .int 0, .int 0, .int 0, .long 0, .int 0, .int 0, .int 0, .int 0]))] s.heap.size q := fun q h => Or.inr h
  have hP : va_P G.1 pCl [(h0, .inr (8, [.ref k1, .int 0, .ref k2, .ref k3, .ref k4, .ref k5, .ref k6, .null])), (k6, .inr (4, [.ref m1, .ref m2, .ref m3, .ref m4, .ref m5, .int 0, .ref m6, .ref m7, .null, .null, .int 0, .int 0, .int 0, .int 0, .long 0, .int 0, .int 0, .int 0, .int 0]))] s.heap := hP
  generalize va_A [(h0, .inr (8, [.ref k1, .int 0, .ref k2, .ref k3, .ref k4, .ref k5, .ref k6, .null])), (k6, .inr (4, [.ref m1, .ref m2, .ref m3, .ref m4, .ref m5, .int 0, .ref m6, .ref m7, .null, .null, .int 0, .int 0, .int 0, .int 0, .long 0, .int 0, .int 0, .int 0, .int 0]))] s.heap.size = A at hD hE hA ⊢
  have hS : va_S A s.heap s.heap [] := va_S.rf
  have hl := lv_entry ([.ref h0]) (n := 1) (Nat.le_of_ble_eq_true rfl)
  rw [lg_entry_eq]
  generalize (lg_sl ([.ref h0]) ++ List.replicate (1 - (lg_sl ([.ref h0])).length) Slot.unset).toArray = ls at hl ⊢
  have hl : lv_has ls 1 [(0, .ref h0)] := hl
  refine lv_aload_n hx hb dX11_result_0 rfl (lv_at hl 0 rfl) ?_
  refine va_get (D := G.1) (ci := 8) (v := .ref k6) (C := RX11) (T := TX11) (N := 8) hx hb hq pin_wsX110 hown hE.1.1 hP 0 rfl rfl 6 (by decide) (hq _ pw_16) (fun _ h9 => h9) rfl dX11_result_1 ?_
  refine va_get (D := G.1) (ci := 4) (v := .int 0) (C := RX5) (T := TX5) (N := 19) hx hb hq pin_wsX50 hown hE.1.1 hP 1 rfl rfl 17 (by decide) (hq _ pw_43) (fun _ h9 => h9) rfl dX11_result_4 ?_
  refine W.widen (k := 0) (n := 0) (Nat.le_of_ble_eq_true rfl) (Nat.le_of_ble_eq_true rfl) ?_
  exact W.iret (v := 0) hx hb hr (fun t ht hW => ⟨⟨_, ((fun _ => 0), (fun _ => fun _ => 0), (fun _ => fun _ => 0)), rfl, rfl, by rw [ht]; exact hP.sub [] rfl, hD.sub [] (by decide) rfl⟩, hS.F ht⟩) hS.2.2 dX11_result_7
theorem dX11_refusals_0 : decode cX11_refusals 0 = .ok (.aload_n 0, 1) := by decide +kernel
theorem dX11_refusals_1 : decode cX11_refusals 1 = .ok (.getfield 50, 3) := by decide +kernel
theorem dX11_refusals_4 : decode cX11_refusals 4 = .ok (.getfield 201, 3) := by decide +kernel
theorem dX11_refusals_7 : decode cX11_refusals 7 = .ok (.ireturn, 1) := by decide +kernel
set_option maxHeartbeats 1000000 in
set_option maxRecDepth 100000 in
/-- refusals: 0 -/
theorem c_refusals (l : Launch) (G : pT) (h0 : Nat) (k1 : Nat) (k2 : Nat) (k3 : Nat) (k4 : Nat) (k5 : Nat) (k6 : Nat) (m1 : Nat) (m2 : Nat) (m3 : Nat) (m4 : Nat) (m5 : Nat) (m6 : Nat) (m7 : Nat) : PM l G pX0 yX11_refusals cX11_refusals 1 (some .int) ({ frames := 2, cells := 0, slots := 0, locals := 60 }) [.ref h0] [(h0, .inr (8, [.ref k1, .int 0, .ref k2, .ref k3, .ref k4, .ref k5, .ref k6, .null])), (k6, .inr (4, [.ref m1, .ref m2, .ref m3, .ref m4, .ref m5, .int 0, .ref m6, .ref m7, .null, .null, .int 0, .int 0, .int 0, .int 0, .long 0, .int 0, .int 0, .int 0, .int 0]))] (fun (v : Option Value) (u : (Nat → Nat) × (Nat → Nat → Int32) × (Nat → Nat → Int64)) => v = some (.int 0)) (fun u => []) := by
  intro sz
  refine Met.ofW (cc := cX11_refusals) (maxL := 1) (ret := (some .int)) (by decide) rfl ?_
  intro p e s m args below meth c s₁ B hml hv
  obtain ⟨rfl, hsz, hP, hD0, hE, hX⟩ := hv
  have hx := B.exec
  have hb := B.bytes
  have hr := B.returns
  have hts := atoms_spec (ws := Cond.code yX11_refusals cX11_refusals 1 (some .int) :: pw) B.pre
  have hq : ∀ w ∈ pw, w.before _ s = true := fun w h => hts w (List.mem_cons_of_mem _ h)
  have hown : s.vm.findClass RX11 = some m.cls := findClass_of_methodNamed B.named
  have hlocks := B.notSynchronized
  subst hsz
  have hD := hD0.self (sz := s.heap.size)
  have hA : ∀ q : Nat, s.heap.size ≤ q → va_A [(h0, .inr (8, [.ref k1, .int 0, .ref k2, .ref k3, .ref k4, .ref k5, .ref k6, .null])), (k6, .inr (4, [.ref m1, .ref m2, .ref m3, .ref m4, .ref m5, .int 0, .ref m6, .ref m7, .null, .null, .int 0, .int 0, .int 0, .int 0, .long 0, .int 0, .int 0, .int 0, .int 0]))] s.heap.size q := fun q h => Or.inr h
  have hP : va_P G.1 pCl [(h0, .inr (8, [.ref k1, .int 0, .ref k2, .ref k3, .ref k4, .ref k5, .ref k6, .null])), (k6, .inr (4, [.ref m1, .ref m2, .ref m3, .ref m4, .ref m5, .int 0, .ref m6, .ref m7, .null, .null, .int 0, .int 0, .int 0, .int 0, .long 0, .int 0, .int 0, .int 0, .int 0]))] s.heap := hP
  generalize va_A [(h0, .inr (8, [.ref k1, .int 0, .ref k2, .ref k3, .ref k4, .ref k5, .ref k6, .null])), (k6, .inr (4, [.ref m1, .ref m2, .ref m3, .ref m4, .ref m5, .int 0, .ref m6, .ref m7, .null, .null, .int 0, .int 0, .int 0, .int 0, .long 0, .int 0, .int 0, .int 0, .int 0]))] s.heap.size = A at hD hE hA ⊢
  have hS : va_S A s.heap s.heap [] := va_S.rf
  have hl := lv_entry ([.ref h0]) (n := 1) (Nat.le_of_ble_eq_true rfl)
  rw [lg_entry_eq]
  generalize (lg_sl ([.ref h0]) ++ List.replicate (1 - (lg_sl ([.ref h0])).length) Slot.unset).toArray = ls at hl ⊢
  have hl : lv_has ls 1 [(0, .ref h0)] := hl
  refine lv_aload_n hx hb dX11_refusals_0 rfl (lv_at hl 0 rfl) ?_
  refine va_get (D := G.1) (ci := 8) (v := .ref k6) (C := RX11) (T := TX11) (N := 8) hx hb hq pin_wsX110 hown hE.1.1 hP 0 rfl rfl 6 (by decide) (hq _ pw_16) (fun _ h9 => h9) rfl dX11_refusals_1 ?_
  refine va_get (D := G.1) (ci := 4) (v := .int 0) (C := RX5) (T := TX5) (N := 19) hx hb hq pin_wsX50 hown hE.1.1 hP 1 rfl rfl 18 (by decide) (hq _ pw_50) (fun _ h9 => h9) rfl dX11_refusals_4 ?_
  refine W.widen (k := 0) (n := 0) (Nat.le_of_ble_eq_true rfl) (Nat.le_of_ble_eq_true rfl) ?_
  exact W.iret (v := 0) hx hb hr (fun t ht hW => ⟨⟨_, ((fun _ => 0), (fun _ => fun _ => 0), (fun _ => fun _ => 0)), rfl, rfl, by rw [ht]; exact hP.sub [] rfl, hD.sub [] (by decide) rfl⟩, hS.F ht⟩) hS.2.2 dX11_refusals_7
theorem dX5_uncaught_0 : decode cX5_uncaught 0 = .ok (.aload_n 0, 1) := by decide +kernel
theorem dX5_uncaught_1 : decode cX5_uncaught 1 = .ok (.getfield 43, 3) := by decide +kernel
theorem dX5_uncaught_4 : decode cX5_uncaught 4 = .ok (.lconst 0, 1) := by decide +kernel
theorem dX5_uncaught_5 : decode cX5_uncaught 5 = .ok (.lcmp, 1) := by decide +kernel
theorem dX5_uncaught_6 : decode cX5_uncaught 6 = .ok (.ifCond .eq 10, 3) := by decide +kernel
theorem dX5_uncaught_16 : decode cX5_uncaught 16 = .ok (.aconst_null, 1) := by decide +kernel
theorem dX5_uncaught_17 : decode cX5_uncaught 17 = .ok (.goto 21, 3) := by decide +kernel
theorem dX5_uncaught_38 : decode cX5_uncaught 38 = .ok (.astore_n 2, 1) := by decide +kernel
theorem dX5_uncaught_39 : decode cX5_uncaught 39 = .ok (.aload_n 2, 1) := by decide +kernel
theorem dX5_uncaught_40 : decode cX5_uncaught 40 = .ok (.ifnull 20, 3) := by decide +kernel
theorem dX5_uncaught_60 : decode cX5_uncaught 60 = .ok (.iconst (-1), 1) := by decide +kernel
theorem dX5_uncaught_61 : decode cX5_uncaught 61 = .ok (.ireturn, 1) := by decide +kernel
set_option maxHeartbeats 1000000 in
set_option maxRecDepth 100000 in
/-- uncaught without a run: NONE -/
theorem c_uncaught (l : Launch) (G : pT) (k6 : Nat) (m1 : Nat) (m2 : Nat) (m3 : Nat) (m4 : Nat) (m5 : Nat) (m6 : Nat) (m7 : Nat) (x : Int32) : PM l G pX0 yX5_uncaught cX5_uncaught 5 (some .int) ({ frames := 2, cells := 0, slots := 0, locals := 60 }) [.ref k6, .int x] [(k6, .inr (4, [.ref m1, .ref m2, .ref m3, .ref m4, .ref m5, .int 0, .ref m6, .ref m7, .null, .null, .int 0, .int 0, .int 0, .int 0, .long 0, .int 0, .int 0, .int 0, .int 0]))] (fun (v : Option Value) (u : (Nat → Nat) × (Nat → Nat → Int32) × (Nat → Nat → Int64)) => v = some (.int (-1))) (fun u => []) := by
  intro sz
  refine Met.ofW (cc := cX5_uncaught) (maxL := 5) (ret := (some .int)) (by decide) rfl ?_
  intro p e s m args below meth c s₁ B hml hv
  obtain ⟨rfl, hsz, hP, hD0, hE, hX⟩ := hv
  have hx := B.exec
  have hb := B.bytes
  have hr := B.returns
  have hts := atoms_spec (ws := Cond.code yX5_uncaught cX5_uncaught 5 (some .int) :: pw) B.pre
  have hq : ∀ w ∈ pw, w.before _ s = true := fun w h => hts w (List.mem_cons_of_mem _ h)
  have hown : s.vm.findClass RX5 = some m.cls := findClass_of_methodNamed B.named
  have hlocks := B.notSynchronized
  subst hsz
  have hD := hD0.self (sz := s.heap.size)
  have hA : ∀ q : Nat, s.heap.size ≤ q → va_A [(k6, .inr (4, [.ref m1, .ref m2, .ref m3, .ref m4, .ref m5, .int 0, .ref m6, .ref m7, .null, .null, .int 0, .int 0, .int 0, .int 0, .long 0, .int 0, .int 0, .int 0, .int 0]))] s.heap.size q := fun q h => Or.inr h
  have hP : va_P G.1 pCl [(k6, .inr (4, [.ref m1, .ref m2, .ref m3, .ref m4, .ref m5, .int 0, .ref m6, .ref m7, .null, .null, .int 0, .int 0, .int 0, .int 0, .long 0, .int 0, .int 0, .int 0, .int 0]))] s.heap := hP
  generalize va_A [(k6, .inr (4, [.ref m1, .ref m2, .ref m3, .ref m4, .ref m5, .int 0, .ref m6, .ref m7, .null, .null, .int 0, .int 0, .int 0, .int 0, .long 0, .int 0, .int 0, .int 0, .int 0]))] s.heap.size = A at hD hE hA ⊢
  have hS : va_S A s.heap s.heap [] := va_S.rf
  have hl := lv_entry ([.ref k6, .int x]) (n := 5) (Nat.le_of_ble_eq_true rfl)
  rw [lg_entry_eq]
  generalize (lg_sl ([.ref k6, .int x]) ++ List.replicate (5 - (lg_sl ([.ref k6, .int x])).length) Slot.unset).toArray = ls at hl ⊢
  have hl : lv_has ls 5 [(0, .ref k6), (1, .int x)] := hl
  refine lv_aload_n hx hb dX5_uncaught_0 rfl (lv_at hl 0 rfl) ?_
  refine va_get (D := G.1) (ci := 4) (v := .long 0) (C := RX5) (T := TX5) (N := 19) hx hb hq pin_wsX50 hown hE.1.1 hP 0 rfl rfl 14 (by decide) (hq _ pw_117) (fun _ h9 => h9) rfl dX5_uncaught_1 ?_
  refine lv_lconst (v := 0) hx hb dX5_uncaught_4 (by decide) ?_
  refine W.lcmp hx hb dX5_uncaught_5 ?_
  refine lv_topi (fun x1 e2 => ?_)
  obtain rfl : x1 = 0 := e2.trans (by decide)
  refine lv_if_eq (tgt := 16) hx hb dX5_uncaught_6 (by decide) (fun c3 => ?_) (fun c3 => absurd c3 (by decide))
  refine lv_null hx hb dX5_uncaught_16 ?_
  refine lv_goto (tgt := 38) hx hb dX5_uncaught_17 (by decide) ?_
  refine lv_astore_nN (lv' := [(2, .null), (0, .ref k6), (1, .int x)]) hx hb dX5_uncaught_38 rfl hl (by decide) rfl (fun ls hl => ?_)
  refine lv_aload_nN hx hb dX5_uncaught_39 rfl (lv_at hl 0 rfl) ?_
  refine lv_ifnullN (tgt := 60) hx hb dX5_uncaught_40 (by decide) ?_
  refine lv_iconst (v := (-1)) hx hb dX5_uncaught_60 (by decide) ?_
  refine W.widen (k := 0) (n := 0) (Nat.le_of_ble_eq_true rfl) (Nat.le_of_ble_eq_true rfl) ?_
  exact W.iret (v := (-1)) hx hb hr (fun t ht hW => ⟨⟨_, ((fun _ => 0), (fun _ => fun _ => 0), (fun _ => fun _ => 0)), rfl, rfl, by rw [ht]; exact hP.sub [] rfl, hD.sub [] (by decide) rfl⟩, hS.F ht⟩) hS.2.2 dX5_uncaught_61
theorem dX11_thrown_0 : decode cX11_thrown 0 = .ok (.aload_n 0, 1) := by decide +kernel
theorem dX11_thrown_1 : decode cX11_thrown 1 = .ok (.getfield 50, 3) := by decide +kernel
theorem dX11_thrown_4 : decode cX11_thrown 4 = .ok (.iload_n 1, 1) := by decide +kernel
theorem dX11_thrown_5 : decode cX11_thrown 5 = .ok (.invokevirtual 189, 3) := by decide +kernel
theorem dX11_thrown_8 : decode cX11_thrown 8 = .ok (.ireturn, 1) := by decide +kernel
theorem hV_X5_uncaught : yX5_uncaught.cls = RX5 ∧ yX5_uncaught.cls ≠ "java/lang/invoke/MethodHandle" ∧ yX5_uncaught.cls ≠ "java/lang/invoke/VarHandle" ∧ (parseMethodDescriptor yX5_uncaught.desc).map (fun d => d.parameters.length) = some 1 := by decide +kernel
set_option maxHeartbeats 1000000 in
set_option maxRecDepth 100000 in
/-- thrown without a run: NONE -/
theorem c_thrown (l : Launch) (G : pT) (h0 : Nat) (k1 : Nat) (k2 : Nat) (k3 : Nat) (k4 : Nat) (k5 : Nat) (k6 : Nat) (m1 : Nat) (m2 : Nat) (m3 : Nat) (m4 : Nat) (m5 : Nat) (m6 : Nat) (m7 : Nat) (x : Int32) : PM l G pX0 yX11_thrown cX11_thrown 2 (some .int) ({ frames := 3, cells := 0, slots := 0, locals := 84 }) [.ref h0, .int x] [(h0, .inr (8, [.ref k1, .int 0, .ref k2, .ref k3, .ref k4, .ref k5, .ref k6, .null])), (k6, .inr (4, [.ref m1, .ref m2, .ref m3, .ref m4, .ref m5, .int 0, .ref m6, .ref m7, .null, .null, .int 0, .int 0, .int 0, .int 0, .long 0, .int 0, .int 0, .int 0, .int 0]))] (fun (v : Option Value) (u : (Nat → Nat) × (Nat → Nat → Int32) × (Nat → Nat → Int64)) => v = some (.int (-1))) (fun u => []) := by
  intro sz
  refine Met.ofW (cc := cX11_thrown) (maxL := 2) (ret := (some .int)) (by decide) rfl ?_
  intro p e s m args below meth c s₁ B hml hv
  obtain ⟨rfl, hsz, hP, hD0, hE, hX⟩ := hv
  have hx := B.exec
  have hb := B.bytes
  have hr := B.returns
  have hts := atoms_spec (ws := Cond.code yX11_thrown cX11_thrown 2 (some .int) :: pw) B.pre
  have hq : ∀ w ∈ pw, w.before _ s = true := fun w h => hts w (List.mem_cons_of_mem _ h)
  have hown : s.vm.findClass RX11 = some m.cls := findClass_of_methodNamed B.named
  have hlocks := B.notSynchronized
  subst hsz
  have hD := hD0.self (sz := s.heap.size)
  have hA : ∀ q : Nat, s.heap.size ≤ q → va_A [(h0, .inr (8, [.ref k1, .int 0, .ref k2, .ref k3, .ref k4, .ref k5, .ref k6, .null])), (k6, .inr (4, [.ref m1, .ref m2, .ref m3, .ref m4, .ref m5, .int 0, .ref m6, .ref m7, .null, .null, .int 0, .int 0, .int 0, .int 0, .long 0, .int 0, .int 0, .int 0, .int 0]))] s.heap.size q := fun q h => Or.inr h
  have hP : va_P G.1 pCl [(h0, .inr (8, [.ref k1, .int 0, .ref k2, .ref k3, .ref k4, .ref k5, .ref k6, .null])), (k6, .inr (4, [.ref m1, .ref m2, .ref m3, .ref m4, .ref m5, .int 0, .ref m6, .ref m7, .null, .null, .int 0, .int 0, .int 0, .int 0, .long 0, .int 0, .int 0, .int 0, .int 0]))] s.heap := hP
  generalize va_A [(h0, .inr (8, [.ref k1, .int 0, .ref k2, .ref k3, .ref k4, .ref k5, .ref k6, .null])), (k6, .inr (4, [.ref m1, .ref m2, .ref m3, .ref m4, .ref m5, .int 0, .ref m6, .ref m7, .null, .null, .int 0, .int 0, .int 0, .int 0, .long 0, .int 0, .int 0, .int 0, .int 0]))] s.heap.size = A at hD hE hA ⊢
  have hS : va_S A s.heap s.heap [] := va_S.rf
  have hl := lv_entry ([.ref h0, .int x]) (n := 2) (Nat.le_of_ble_eq_true rfl)
  rw [lg_entry_eq]
  generalize (lg_sl ([.ref h0, .int x]) ++ List.replicate (2 - (lg_sl ([.ref h0, .int x])).length) Slot.unset).toArray = ls at hl ⊢
  have hl : lv_has ls 2 [(0, .ref h0), (1, .int x)] := hl
  refine lv_aload_n hx hb dX11_thrown_0 rfl (lv_at hl 0 rfl) ?_
  refine va_get (D := G.1) (ci := 8) (v := .ref k6) (C := RX11) (T := TX11) (N := 8) hx hb hq pin_wsX110 hown hE.1.1 hP 0 rfl rfl 6 (by decide) (hq _ pw_16) (fun _ h9 => h9) rfl dX11_thrown_1 ?_
  refine lv_iload_n hx hb dX11_thrown_4 rfl (lv_at hl 1 rfl) ?_
  refine pc_V (G := G) (As := [.int x]) (rest := []) (wr := [(h0, .inr (8, [.ref k1, .int 0, .ref k2, .ref k3, .ref k4, .ref k5, .ref k6, .null]))]) hx hb hml hown hq hE hX pX0_al hP hD hS hA hl.1 (c_uncaught l G k6 m1 m2 m3 m4 m5 m6 m7 x) (gV pw_45 pw_474 pw_475 pw_463 pw_473) hV_X5_uncaught 1 4 rfl rfl rfl [1] [0] rfl rfl (by decide) (by decide) (by decide) rfl (Nat.le_of_ble_eq_true rfl) dX11_thrown_5 ⟨Nat.le_of_ble_eq_true rfl, Nat.le_of_ble_eq_true rfl⟩ ⟨Nat.le_of_ble_eq_true rfl, Nat.le_of_ble_eq_true rfl⟩ (fun v3 u1 H locs hw2 hP hD hS => ?_)
  obtain rfl : v3 = some (.int (-1)) := hw2
  have hP : va_P G.1 pCl [(h0, .inr (8, [.ref k1, .int 0, .ref k2, .ref k3, .ref k4, .ref k5, .ref k6, .null]))] H := hP
  have hD : va_D A [(h0, .inr (8, [.ref k1, .int 0, .ref k2, .ref k3, .ref k4, .ref k5, .ref k6, .null]))] := hD
  refine W.widen (k := 0) (n := 0) (Nat.le_of_ble_eq_true rfl) (Nat.le_of_ble_eq_true rfl) ?_
  refine W.eq (g2 := F0 m 8 ls [.int (-1)]) rfl ?_
  refine W.widen (k := 0) (n := 0) (Nat.le_of_ble_eq_true rfl) (Nat.le_of_ble_eq_true rfl) ?_
  exact W.iret (v := (-1)) hx hb hr (fun t ht hW => ⟨⟨_, ((fun _ => 0), (fun _ => fun _ => 0), (fun _ => fun _ => 0)), rfl, rfl, by rw [ht]; exact hP.sub [] rfl, hD.sub [] (by decide) rfl⟩, hS.F ht⟩) hS.2.2 dX11_thrown_8
