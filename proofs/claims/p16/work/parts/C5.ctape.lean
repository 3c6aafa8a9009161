theorem fitN (x : Int32) : fits .byte (.int (vp_nar .byte x)) = true := by
  rw [vp_nar_byte]
  exact pk_fb _
def Nng (f : Nat → Int32) : Prop := ∀ j : Nat, j < 10000 → ∃ k : Nat, f j = nI k ∧ k ≤ 6000
theorem Nng.set {f : Nat → Int32} {i k : Nat} (h : Nng f) (hk : k ≤ 6000) : Nng (upd f i (nI k)) := fun j hj => by
  by_cases e : j = i
  · subst e; exact ⟨k, upd_eq, hk⟩
  · rw [show upd f i (nI k) j = f j from if_neg e]; exact h j hj
theorem mx_n {x y n : Nat} (hx : x ≤ n) (hy : y ≤ n) : ∃ k : Nat, (if nI x < nI y then nI y else nI x) = nI k ∧ k ≤ n := by
  by_cases q : nI x < nI y
  · exact ⟨y, if_pos q, hy⟩
  · exact ⟨x, if_neg q, hx⟩
theorem dX11_append_0 : decode cX11_append 0 = .ok (.bipush 24, 2) := by decide +kernel
theorem dX11_append_2 : decode cX11_append 2 = .ok (.istore_n 2, 1) := by decide +kernel
theorem dX11_append_3 : decode cX11_append 3 = .ok (.iload_n 2, 1) := by decide +kernel
theorem dX11_append_4 : decode cX11_append 4 = .ok (.ifCond .lt 44, 3) := by decide +kernel
theorem dX11_append_7 : decode cX11_append 7 = .ok (.aload_n 0, 1) := by decide +kernel
theorem dX11_append_8 : decode cX11_append 8 = .ok (.getfield 54, 3) := by decide +kernel
theorem dX11_append_11 : decode cX11_append 11 = .ok (.aload_n 0, 1) := by decide +kernel
theorem dX11_append_12 : decode cX11_append 12 = .ok (.getfield 9, 3) := by decide +kernel
theorem dX11_append_15 : decode cX11_append 15 = .ok (.arraylength, 1) := by decide +kernel
theorem dX11_append_16 : decode cX11_append 16 = .ok (.if_icmp .ge 26, 3) := by decide +kernel
theorem dX11_append_19 : decode cX11_append 19 = .ok (.aload_n 0, 1) := by decide +kernel
theorem dX11_append_20 : decode cX11_append 20 = .ok (.getfield 9, 3) := by decide +kernel
theorem dX11_append_23 : decode cX11_append 23 = .ok (.aload_n 0, 1) := by decide +kernel
theorem dX11_append_24 : decode cX11_append 24 = .ok (.getfield 54, 3) := by decide +kernel
theorem dX11_append_27 : decode cX11_append 27 = .ok (.iload_n 1, 1) := by decide +kernel
theorem dX11_append_28 : decode cX11_append 28 = .ok (.iload_n 2, 1) := by decide +kernel
theorem dX11_append_29 : decode cX11_append 29 = .ok (.iushr, 1) := by decide +kernel
theorem dX11_append_30 : decode cX11_append 30 = .ok (.i2b, 1) := by decide +kernel
theorem dX11_append_31 : decode cX11_append 31 = .ok (.bastore, 1) := by decide +kernel
theorem dX11_append_32 : decode cX11_append 32 = .ok (.aload_n 0, 1) := by decide +kernel
theorem dX11_append_33 : decode cX11_append 33 = .ok (.dup, 1) := by decide +kernel
theorem dX11_append_34 : decode cX11_append 34 = .ok (.getfield 54, 3) := by decide +kernel
theorem dX11_append_37 : decode cX11_append 37 = .ok (.iconst 1, 1) := by decide +kernel
theorem dX11_append_38 : decode cX11_append 38 = .ok (.iadd, 1) := by decide +kernel
theorem dX11_append_39 : decode cX11_append 39 = .ok (.putfield 54, 3) := by decide +kernel
theorem dX11_append_42 : decode cX11_append 42 = .ok (.iinc 2 (-8), 3) := by decide +kernel
theorem dX11_append_45 : decode cX11_append 45 = .ok (.goto (-42), 3) := by decide +kernel
theorem dX11_append_48 : decode cX11_append 48 = .ok (.return_, 1) := by decide +kernel
set_option maxHeartbeats 2000000 in
set_option maxRecDepth 100000 in
theorem K_append (l : Launch) (G : pT) (h0 : Nat) (a : Nat → Nat) (F : Nat → Int32) (R : Nat → Value) (Z : Int64) (B : Nat → Nat → Int32) (J : Nat → Nat → Int64) (T : Nat → Nat) (Pi : Nat → va_E → Prop) (w : va_W) (x : Int32) (tl : Nat) (htl : tl + 4 ≤ 5000) (hft : sb_Fit (B 0)) (hO : OKW G h0 a (upd F 0 (nI tl)) R Z B J T Pi w) : PM l G pX0 yX11_append cX11_append 3 none ({ frames := 2, cells := 0, slots := 0, locals := 60 }) [.ref h0, .int x] w (fun (v : Option Value) (u : va_W × ((Nat → Int32))) => v = none ∧ (sb_Fit u.2) ∧ (OKW G h0 a (upd F 0 (nI (tl + 4))) R Z (updA B 0 u.2) J T Pi u.1)) (fun u => u.1) := by
  intro sz
  refine Met.ofW (cc := cX11_append) (maxL := 3) (ret := none) (by decide) rfl ?_
  intro p e s m args below meth c s₁ B9 hml hv
  obtain ⟨rfl, hsz, hP, hD0, hE, hX⟩ := hv
  have hx := B9.exec
  have hb := B9.bytes
  have hr := B9.returns
  have hts := atoms_spec (ws := Cond.code yX11_append cX11_append 3 none :: pw) B9.pre
  have hq : ∀ w ∈ pw, w.before _ s = true := fun w h => hts w (List.mem_cons_of_mem _ h)
  have hown : s.vm.findClass RX11 = some m.cls := findClass_of_methodNamed B9.named
  have hlocks := B9.notSynchronized
  subst hsz
  have hD := hD0.self (sz := s.heap.size)
  have hA : ∀ q : Nat, s.heap.size ≤ q → va_A w s.heap.size q := fun q h => Or.inr h
  generalize va_A w s.heap.size = A at hD hE hA ⊢
  have hS : va_S A s.heap s.heap [] := va_S.rf
  have hl := lv_entry ([.ref h0, .int x]) (n := 3) (Nat.le_of_ble_eq_true rfl)
  rw [lg_entry_eq]
  generalize (lg_sl ([.ref h0, .int x]) ++ List.replicate (3 - (lg_sl ([.ref h0, .int x])).length) Slot.unset).toArray = ls at hl ⊢
  have hl : lv_has ls 3 [(0, .ref h0), (1, .int x)] := hl
  refine lv_bipush (v := 24) hx hb dX11_append_0 (by decide) ?_
  refine lv_istore_n (lv' := [(2, .int 24), (0, .ref h0), (1, .int x)]) hx hb dX11_append_2 rfl hl (by decide) rfl (fun ls hl => ?_)
  refine lv_iload_n hx hb dX11_append_3 rfl (lv_at hl 0 rfl) ?_
  refine lv_if_lt (tgt := 48) hx hb dX11_append_4 (by decide) (fun c1 => absurd c1 (by decide)) (fun c1 => ?_)
  refine lv_aload_n hx hb dX11_append_7 rfl (lv_at hl 1 rfl) ?_
  refine c_get (v := .int (nI tl)) (C := RX11) (Tc := TX11) (N := 8) (ci := 8) hx hb hq pin_wsX110 hown hE hP hO 0 (sg_0 G h0 a _ _ _ _ _) rfl 1 (by decide) (hq _ pw_1334) (fun _ h9 => h9) rfl dX11_append_8 ?_
  refine lv_aload_n hx hb dX11_append_11 rfl (lv_at hl 1 rfl) ?_
  refine c_get (v := .ref (a 0)) (C := RX11) (Tc := TX11) (N := 8) (ci := 8) hx hb hq pin_wsX110 hown hE hP hO 0 (sg_0 G h0 a _ _ _ _ _) rfl 0 (by decide) (hq _ pw_1306) (fun _ h9 => h9) rfl dX11_append_12 ?_
  refine c_len (n := 0) (t0 := 1) (v := 5000) hx hb hE hP hO 1 (sg_1 G h0 a _ _ _ _ _) rfl rfl dX11_append_15 ?_
  refine lv_icmp_ge (tgt := 42) hx hb dX11_append_16 (by decide) (fun c2 => (by have n3 : 5000 ≤ tl := (nI_leI (a := 5000) (b := tl) (by omega) (by omega)).mp c2; omega)) (fun c2 => ?_)
  refine lv_aload_n hx hb dX11_append_19 rfl (lv_at hl 1 rfl) ?_
  refine c_get (v := .ref (a 0)) (C := RX11) (Tc := TX11) (N := 8) (ci := 8) hx hb hq pin_wsX110 hown hE hP hO 0 (sg_0 G h0 a _ _ _ _ _) rfl 0 (by decide) (hq _ pw_1306) (fun _ h9 => h9) rfl dX11_append_20 ?_
  refine lv_aload_n hx hb dX11_append_23 rfl (lv_at hl 1 rfl) ?_
  refine c_get (v := .int (nI tl)) (C := RX11) (Tc := TX11) (N := 8) (ci := 8) hx hb hq pin_wsX110 hown hE hP hO 0 (sg_0 G h0 a _ _ _ _ _) rfl 1 (by decide) (hq _ pw_1334) (fun _ h9 => h9) rfl dX11_append_24 ?_
  refine lv_iload_n hx hb dX11_append_27 rfl (lv_at hl 2 rfl) ?_
  refine lv_iload_n hx hb dX11_append_28 rfl (lv_at hl 0 rfl) ?_
  refine lv_iushr hx hb dX11_append_29 rfl ?_
  refine lv_topi (fun x4 e5 => ?_)
  refine lv_i2b hx hb dX11_append_30 rfl ?_
  refine lv_topi (fun x6 e7 => ?_)
  refine c_stb (f := (B 0)) (n := 5000) (t0 := 1) hx hb hE hP hD hS hO 1 (sg_1 G h0 a _ _ _ _ _) rfl (vp_in_nI (by omega) (by decide)) (sb_0 G h0 a _ _ _ _ _ _) dX11_append_31 (fun H locs w hP hD hS hO => ?_)
  rw [(nI_clamp (show tl < 2 ^ 31 by omega))] at hO
  refine lv_aload_n hx hb dX11_append_32 rfl (lv_at hl 1 rfl) ?_
  refine lv_dup hx hb dX11_append_33 rfl ?_
  refine c_get (v := .int (nI tl)) (C := RX11) (Tc := TX11) (N := 8) (ci := 8) hx hb hq pin_wsX110 hown hE hP hO 0 (sg_0 G h0 a _ _ _ _ _) rfl 1 (by decide) (hq _ pw_1334) (fun _ h9 => h9) rfl dX11_append_34 ?_
  refine lv_iconst (v := 1) hx hb dX11_append_37 (by decide) ?_
  refine lv_iadd hx hb dX11_append_38 ?_
  refine lv_topi (fun x8 e9 => ?_)
  obtain rfl : x8 = nI (tl + 1) := e9.trans (nI_add (tl) (1))
  refine c_put (v := .int (nI (tl + 1))) (ty := .int) (C := RX11) (Tc := TX11) (N := 8) (ci := 8) hx hb hq pin_wsX110 tyX11 tyX11_ok nmX11 hown hE hP hD hS hO 0 (sg_0 G h0 a _ _ _ _ _) rfl 1 (by decide) (hq _ pw_1334) (fun _ h9 => h9) rfl (by decide +kernel) rfl rfl (Nat.le_of_ble_eq_true rfl) (sf_0 G h0 a _ _ _ _ _ (nI (tl + 1))) dX11_append_39 (fun H locs w hP hD hS hO => ?_)
  refine lv_iinc (v := 16) (lv' := [(2, .int 16), (0, .ref h0), (1, .int x)]) hx hb dX11_append_42 hl (k := 0) rfl (by decide) (by decide) rfl (fun ls hl => ?_)
  refine lv_goto (tgt := 3) hx hb dX11_append_45 (by decide) ?_
  refine lv_iload_n hx hb dX11_append_3 rfl (lv_at hl 0 rfl) ?_
  refine lv_if_lt (tgt := 48) hx hb dX11_append_4 (by decide) (fun c10 => absurd c10 (by decide)) (fun c10 => ?_)
  refine lv_aload_n hx hb dX11_append_7 rfl (lv_at hl 1 rfl) ?_
  refine c_get (v := .int (nI (tl + 1))) (C := RX11) (Tc := TX11) (N := 8) (ci := 8) hx hb hq pin_wsX110 hown hE hP hO 0 (sg_0 G h0 a _ _ _ _ _) rfl 1 (by decide) (hq _ pw_1334) (fun _ h9 => h9) rfl dX11_append_8 ?_
  refine lv_aload_n hx hb dX11_append_11 rfl (lv_at hl 1 rfl) ?_
  refine c_get (v := .ref (a 0)) (C := RX11) (Tc := TX11) (N := 8) (ci := 8) hx hb hq pin_wsX110 hown hE hP hO 0 (sg_0 G h0 a _ _ _ _ _) rfl 0 (by decide) (hq _ pw_1306) (fun _ h9 => h9) rfl dX11_append_12 ?_
  refine c_len (n := 0) (t0 := 1) (v := 5000) hx hb hE hP hO 1 (sg_1 G h0 a _ _ _ _ _) rfl rfl dX11_append_15 ?_
  refine lv_icmp_ge (tgt := 42) hx hb dX11_append_16 (by decide) (fun c11 => (by have n12 : 5000 ≤ (tl + 1) := (nI_leI (a := 5000) (b := (tl + 1)) (by omega) (by omega)).mp c11; omega)) (fun c11 => ?_)
  refine lv_aload_n hx hb dX11_append_19 rfl (lv_at hl 1 rfl) ?_
  refine c_get (v := .ref (a 0)) (C := RX11) (Tc := TX11) (N := 8) (ci := 8) hx hb hq pin_wsX110 hown hE hP hO 0 (sg_0 G h0 a _ _ _ _ _) rfl 0 (by decide) (hq _ pw_1306) (fun _ h9 => h9) rfl dX11_append_20 ?_
  refine lv_aload_n hx hb dX11_append_23 rfl (lv_at hl 1 rfl) ?_
  refine c_get (v := .int (nI (tl + 1))) (C := RX11) (Tc := TX11) (N := 8) (ci := 8) hx hb hq pin_wsX110 hown hE hP hO 0 (sg_0 G h0 a _ _ _ _ _) rfl 1 (by decide) (hq _ pw_1334) (fun _ h9 => h9) rfl dX11_append_24 ?_
  refine lv_iload_n hx hb dX11_append_27 rfl (lv_at hl 2 rfl) ?_
  refine lv_iload_n hx hb dX11_append_28 rfl (lv_at hl 0 rfl) ?_
  refine lv_iushr hx hb dX11_append_29 rfl ?_
  refine lv_topi (fun x13 e14 => ?_)
  refine lv_i2b hx hb dX11_append_30 rfl ?_
  refine lv_topi (fun x15 e16 => ?_)
  refine c_stb (f := (upd (B 0) tl (vp_nar .byte x6))) (n := 5000) (t0 := 1) hx hb hE hP hD hS hO 1 (sg_1 G h0 a _ _ _ _ _) rfl (vp_in_nI (by omega) (by decide)) (sb_0 G h0 a _ _ _ _ _ _) dX11_append_31 (fun H locs w hP hD hS hO => ?_)
  rw [(nI_clamp (show (tl + 1) < 2 ^ 31 by omega))] at hO
  refine lv_aload_n hx hb dX11_append_32 rfl (lv_at hl 1 rfl) ?_
  refine lv_dup hx hb dX11_append_33 rfl ?_
  refine c_get (v := .int (nI (tl + 1))) (C := RX11) (Tc := TX11) (N := 8) (ci := 8) hx hb hq pin_wsX110 hown hE hP hO 0 (sg_0 G h0 a _ _ _ _ _) rfl 1 (by decide) (hq _ pw_1334) (fun _ h9 => h9) rfl dX11_append_34 ?_
  refine lv_iconst (v := 1) hx hb dX11_append_37 (by decide) ?_
  refine lv_iadd hx hb dX11_append_38 ?_
  refine lv_topi (fun x17 e18 => ?_)
  obtain rfl : x17 = nI ((tl + 1) + 1) := e18.trans (nI_add ((tl + 1)) (1))
  refine c_put (v := .int (nI ((tl + 1) + 1))) (ty := .int) (C := RX11) (Tc := TX11) (N := 8) (ci := 8) hx hb hq pin_wsX110 tyX11 tyX11_ok nmX11 hown hE hP hD hS hO 0 (sg_0 G h0 a _ _ _ _ _) rfl 1 (by decide) (hq _ pw_1334) (fun _ h9 => h9) rfl (by decide +kernel) rfl rfl (Nat.le_of_ble_eq_true rfl) (sf_0 G h0 a _ _ _ _ _ (nI ((tl + 1) + 1))) dX11_append_39 (fun H locs w hP hD hS hO => ?_)
  refine lv_iinc (v := 8) (lv' := [(2, .int 8), (0, .ref h0), (1, .int x)]) hx hb dX11_append_42 hl (k := 0) rfl (by decide) (by decide) rfl (fun ls hl => ?_)
  refine lv_goto (tgt := 3) hx hb dX11_append_45 (by decide) ?_
  refine lv_iload_n hx hb dX11_append_3 rfl (lv_at hl 0 rfl) ?_
  refine lv_if_lt (tgt := 48) hx hb dX11_append_4 (by decide) (fun c19 => absurd c19 (by decide)) (fun c19 => ?_)
  refine lv_aload_n hx hb dX11_append_7 rfl (lv_at hl 1 rfl) ?_
  refine c_get (v := .int (nI ((tl + 1) + 1))) (C := RX11) (Tc := TX11) (N := 8) (ci := 8) hx hb hq pin_wsX110 hown hE hP hO 0 (sg_0 G h0 a _ _ _ _ _) rfl 1 (by decide) (hq _ pw_1334) (fun _ h9 => h9) rfl dX11_append_8 ?_
  refine lv_aload_n hx hb dX11_append_11 rfl (lv_at hl 1 rfl) ?_
  refine c_get (v := .ref (a 0)) (C := RX11) (Tc := TX11) (N := 8) (ci := 8) hx hb hq pin_wsX110 hown hE hP hO 0 (sg_0 G h0 a _ _ _ _ _) rfl 0 (by decide) (hq _ pw_1306) (fun _ h9 => h9) rfl dX11_append_12 ?_
  refine c_len (n := 0) (t0 := 1) (v := 5000) hx hb hE hP hO 1 (sg_1 G h0 a _ _ _ _ _) rfl rfl dX11_append_15 ?_
  refine lv_icmp_ge (tgt := 42) hx hb dX11_append_16 (by decide) (fun c20 => (by have n21 : 5000 ≤ ((tl + 1) + 1) := (nI_leI (a := 5000) (b := ((tl + 1) + 1)) (by omega) (by omega)).mp c20; omega)) (fun c20 => ?_)
  refine lv_aload_n hx hb dX11_append_19 rfl (lv_at hl 1 rfl) ?_
  refine c_get (v := .ref (a 0)) (C := RX11) (Tc := TX11) (N := 8) (ci := 8) hx hb hq pin_wsX110 hown hE hP hO 0 (sg_0 G h0 a _ _ _ _ _) rfl 0 (by decide) (hq _ pw_1306) (fun _ h9 => h9) rfl dX11_append_20 ?_
  refine lv_aload_n hx hb dX11_append_23 rfl (lv_at hl 1 rfl) ?_
  refine c_get (v := .int (nI ((tl + 1) + 1))) (C := RX11) (Tc := TX11) (N := 8) (ci := 8) hx hb hq pin_wsX110 hown hE hP hO 0 (sg_0 G h0 a _ _ _ _ _) rfl 1 (by decide) (hq _ pw_1334) (fun _ h9 => h9) rfl dX11_append_24 ?_
  refine lv_iload_n hx hb dX11_append_27 rfl (lv_at hl 2 rfl) ?_
  refine lv_iload_n hx hb dX11_append_28 rfl (lv_at hl 0 rfl) ?_
  refine lv_iushr hx hb dX11_append_29 rfl ?_
  refine lv_topi (fun x22 e23 => ?_)
  refine lv_i2b hx hb dX11_append_30 rfl ?_
  refine lv_topi (fun x24 e25 => ?_)
  refine c_stb (f := (upd (upd (B 0) tl (vp_nar .byte x6)) (tl + 1) (vp_nar .byte x15))) (n := 5000) (t0 := 1) hx hb hE hP hD hS hO 1 (sg_1 G h0 a _ _ _ _ _) rfl (vp_in_nI (by omega) (by decide)) (sb_0 G h0 a _ _ _ _ _ _) dX11_append_31 (fun H locs w hP hD hS hO => ?_)
  rw [(nI_clamp (show ((tl + 1) + 1) < 2 ^ 31 by omega))] at hO
  refine lv_aload_n hx hb dX11_append_32 rfl (lv_at hl 1 rfl) ?_
  refine lv_dup hx hb dX11_append_33 rfl ?_
  refine c_get (v := .int (nI ((tl + 1) + 1))) (C := RX11) (Tc := TX11) (N := 8) (ci := 8) hx hb hq pin_wsX110 hown hE hP hO 0 (sg_0 G h0 a _ _ _ _ _) rfl 1 (by decide) (hq _ pw_1334) (fun _ h9 => h9) rfl dX11_append_34 ?_
  refine lv_iconst (v := 1) hx hb dX11_append_37 (by decide) ?_
  refine lv_iadd hx hb dX11_append_38 ?_
  refine lv_topi (fun x26 e27 => ?_)
  obtain rfl : x26 = nI (((tl + 1) + 1) + 1) := e27.trans (nI_add (((tl + 1) + 1)) (1))
  refine c_put (v := .int (nI (((tl + 1) + 1) + 1))) (ty := .int) (C := RX11) (Tc := TX11) (N := 8) (ci := 8) hx hb hq pin_wsX110 tyX11 tyX11_ok nmX11 hown hE hP hD hS hO 0 (sg_0 G h0 a _ _ _ _ _) rfl 1 (by decide) (hq _ pw_1334) (fun _ h9 => h9) rfl (by decide +kernel) rfl rfl (Nat.le_of_ble_eq_true rfl) (sf_0 G h0 a _ _ _ _ _ (nI (((tl + 1) + 1) + 1))) dX11_append_39 (fun H locs w hP hD hS hO => ?_)
  refine lv_iinc (v := 0) (lv' := [(2, .int 0), (0, .ref h0), (1, .int x)]) hx hb dX11_append_42 hl (k := 0) rfl (by decide) (by decide) rfl (fun ls hl => ?_)
  refine lv_goto (tgt := 3) hx hb dX11_append_45 (by decide) ?_
  refine lv_iload_n hx hb dX11_append_3 rfl (lv_at hl 0 rfl) ?_
  refine lv_if_lt (tgt := 48) hx hb dX11_append_4 (by decide) (fun c28 => absurd c28 (by decide)) (fun c28 => ?_)
  refine lv_aload_n hx hb dX11_append_7 rfl (lv_at hl 1 rfl) ?_
  refine c_get (v := .int (nI (((tl + 1) + 1) + 1))) (C := RX11) (Tc := TX11) (N := 8) (ci := 8) hx hb hq pin_wsX110 hown hE hP hO 0 (sg_0 G h0 a _ _ _ _ _) rfl 1 (by decide) (hq _ pw_1334) (fun _ h9 => h9) rfl dX11_append_8 ?_
  refine lv_aload_n hx hb dX11_append_11 rfl (lv_at hl 1 rfl) ?_
  refine c_get (v := .ref (a 0)) (C := RX11) (Tc := TX11) (N := 8) (ci := 8) hx hb hq pin_wsX110 hown hE hP hO 0 (sg_0 G h0 a _ _ _ _ _) rfl 0 (by decide) (hq _ pw_1306) (fun _ h9 => h9) rfl dX11_append_12 ?_
  refine c_len (n := 0) (t0 := 1) (v := 5000) hx hb hE hP hO 1 (sg_1 G h0 a _ _ _ _ _) rfl rfl dX11_append_15 ?_
  refine lv_icmp_ge (tgt := 42) hx hb dX11_append_16 (by decide) (fun c29 => (by have n30 : 5000 ≤ (((tl + 1) + 1) + 1) := (nI_leI (a := 5000) (b := (((tl + 1) + 1) + 1)) (by omega) (by omega)).mp c29; omega)) (fun c29 => ?_)
  refine lv_aload_n hx hb dX11_append_19 rfl (lv_at hl 1 rfl) ?_
  refine c_get (v := .ref (a 0)) (C := RX11) (Tc := TX11) (N := 8) (ci := 8) hx hb hq pin_wsX110 hown hE hP hO 0 (sg_0 G h0 a _ _ _ _ _) rfl 0 (by decide) (hq _ pw_1306) (fun _ h9 => h9) rfl dX11_append_20 ?_
  refine lv_aload_n hx hb dX11_append_23 rfl (lv_at hl 1 rfl) ?_
  refine c_get (v := .int (nI (((tl + 1) + 1) + 1))) (C := RX11) (Tc := TX11) (N := 8) (ci := 8) hx hb hq pin_wsX110 hown hE hP hO 0 (sg_0 G h0 a _ _ _ _ _) rfl 1 (by decide) (hq _ pw_1334) (fun _ h9 => h9) rfl dX11_append_24 ?_
  refine lv_iload_n hx hb dX11_append_27 rfl (lv_at hl 2 rfl) ?_
  refine lv_iload_n hx hb dX11_append_28 rfl (lv_at hl 0 rfl) ?_
  refine lv_iushr hx hb dX11_append_29 rfl ?_
  refine lv_topi (fun x31 e32 => ?_)
  refine lv_i2b hx hb dX11_append_30 rfl ?_
  refine lv_topi (fun x33 e34 => ?_)
  refine c_stb (f := (upd (upd (upd (B 0) tl (vp_nar .byte x6)) (tl + 1) (vp_nar .byte x15)) ((tl + 1) + 1) (vp_nar .byte x24))) (n := 5000) (t0 := 1) hx hb hE hP hD hS hO 1 (sg_1 G h0 a _ _ _ _ _) rfl (vp_in_nI (by omega) (by decide)) (sb_0 G h0 a _ _ _ _ _ _) dX11_append_31 (fun H locs w hP hD hS hO => ?_)
  rw [(nI_clamp (show (((tl + 1) + 1) + 1) < 2 ^ 31 by omega))] at hO
  refine lv_aload_n hx hb dX11_append_32 rfl (lv_at hl 1 rfl) ?_
  refine lv_dup hx hb dX11_append_33 rfl ?_
  refine c_get (v := .int (nI (((tl + 1) + 1) + 1))) (C := RX11) (Tc := TX11) (N := 8) (ci := 8) hx hb hq pin_wsX110 hown hE hP hO 0 (sg_0 G h0 a _ _ _ _ _) rfl 1 (by decide) (hq _ pw_1334) (fun _ h9 => h9) rfl dX11_append_34 ?_
  refine lv_iconst (v := 1) hx hb dX11_append_37 (by decide) ?_
  refine lv_iadd hx hb dX11_append_38 ?_
  refine lv_topi (fun x35 e36 => ?_)
  obtain rfl : x35 = nI ((((tl + 1) + 1) + 1) + 1) := e36.trans (nI_add ((((tl + 1) + 1) + 1)) (1))
  refine c_put (v := .int (nI ((((tl + 1) + 1) + 1) + 1))) (ty := .int) (C := RX11) (Tc := TX11) (N := 8) (ci := 8) hx hb hq pin_wsX110 tyX11 tyX11_ok nmX11 hown hE hP hD hS hO 0 (sg_0 G h0 a _ _ _ _ _) rfl 1 (by decide) (hq _ pw_1334) (fun _ h9 => h9) rfl (by decide +kernel) rfl rfl (Nat.le_of_ble_eq_true rfl) (sf_0 G h0 a _ _ _ _ _ (nI ((((tl + 1) + 1) + 1) + 1))) dX11_append_39 (fun H locs w hP hD hS hO => ?_)
  refine lv_iinc (v := (-8)) (lv' := [(2, .int (-8)), (0, .ref h0), (1, .int x)]) hx hb dX11_append_42 hl (k := 0) rfl (by decide) (by decide) rfl (fun ls hl => ?_)
  refine lv_goto (tgt := 3) hx hb dX11_append_45 (by decide) ?_
  refine lv_iload_n hx hb dX11_append_3 rfl (lv_at hl 0 rfl) ?_
  refine lv_if_lt (tgt := 48) hx hb dX11_append_4 (by decide) (fun c37 => ?_) (fun c37 => absurd c37 (by decide))
  have hz38 : sb_Fit (upd (upd (upd (upd (B 0) tl (vp_nar .byte x6)) (tl + 1) (vp_nar .byte x15)) ((tl + 1) + 1) (vp_nar .byte x24)) (((tl + 1) + 1) + 1) (vp_nar .byte x33)) := (sb_fitU (sb_fitU (sb_fitU (sb_fitU hft (fitN _)) (fitN _)) (fitN _)) (fitN _))
  have hO : OKW G h0 a (upd F 0 (nI (tl + 4))) R Z (updA B 0 (upd (upd (upd (upd (B 0) tl (vp_nar .byte x6)) (tl + 1) (vp_nar .byte x15)) ((tl + 1) + 1) (vp_nar .byte x24)) (((tl + 1) + 1) + 1) (vp_nar .byte x33))) J T Pi w := hO.to rfl
  exact W.vret hx hb hr (fun t99 ht99 hW99 => ⟨⟨_, (w, (upd (upd (upd (upd (B 0) tl (vp_nar .byte x6)) (tl + 1) (vp_nar .byte x15)) ((tl + 1) + 1) (vp_nar .byte x24)) (((tl + 1) + 1) + 1) (vp_nar .byte x33))), rfl, ⟨rfl, hz38, hO⟩, by rw [ht99]; exact hP, hD⟩, hS.F ht99⟩) hS.2.2 dX11_append_48
theorem dX11_feed_0 : decode cX11_feed 0 = .ok (.aload_n 0, 1) := by decide +kernel
theorem dX11_feed_1 : decode cX11_feed 1 = .ok (.getfield 54, 3) := by decide +kernel
theorem dX11_feed_4 : decode cX11_feed 4 = .ok (.bipush 20, 2) := by decide +kernel
theorem dX11_feed_6 : decode cX11_feed 6 = .ok (.iadd, 1) := by decide +kernel
theorem dX11_feed_7 : decode cX11_feed 7 = .ok (.sipush 5000, 3) := by decide +kernel
theorem dX11_feed_10 : decode cX11_feed 10 = .ok (.if_icmp .le 5, 3) := by decide +kernel
theorem dX11_feed_15 : decode cX11_feed 15 = .ok (.aload_n 0, 1) := by decide +kernel
theorem dX11_feed_16 : decode cX11_feed 16 = .ok (.iload_n 1, 1) := by decide +kernel
theorem dX11_feed_17 : decode cX11_feed 17 = .ok (.invokevirtual 58, 3) := by decide +kernel
theorem dX11_feed_20 : decode cX11_feed 20 = .ok (.aload_n 0, 1) := by decide +kernel
theorem dX11_feed_21 : decode cX11_feed 21 = .ok (.iload_n 2, 1) := by decide +kernel
theorem dX11_feed_22 : decode cX11_feed 22 = .ok (.invokevirtual 58, 3) := by decide +kernel
theorem dX11_feed_25 : decode cX11_feed 25 = .ok (.aload_n 0, 1) := by decide +kernel
theorem dX11_feed_26 : decode cX11_feed 26 = .ok (.iload_n 3, 1) := by decide +kernel
theorem dX11_feed_27 : decode cX11_feed 27 = .ok (.invokevirtual 58, 3) := by decide +kernel
theorem dX11_feed_30 : decode cX11_feed 30 = .ok (.aload_n 0, 1) := by decide +kernel
theorem dX11_feed_31 : decode cX11_feed 31 = .ok (.iload 4, 2) := by decide +kernel
theorem dX11_feed_33 : decode cX11_feed 33 = .ok (.invokevirtual 58, 3) := by decide +kernel
theorem dX11_feed_36 : decode cX11_feed 36 = .ok (.aload_n 0, 1) := by decide +kernel
theorem dX11_feed_37 : decode cX11_feed 37 = .ok (.iload 5, 2) := by decide +kernel
theorem dX11_feed_39 : decode cX11_feed 39 = .ok (.invokevirtual 58, 3) := by decide +kernel
theorem dX11_feed_42 : decode cX11_feed 42 = .ok (.aload_n 0, 1) := by decide +kernel
theorem dX11_feed_43 : decode cX11_feed 43 = .ok (.getfield 54, 3) := by decide +kernel
theorem dX11_feed_46 : decode cX11_feed 46 = .ok (.ireturn, 1) := by decide +kernel
theorem dX11_feed_13 : decode cX11_feed 13 = .ok (.iconst (-1), 1) := by decide +kernel
theorem dX11_feed_14 : decode cX11_feed 14 = .ok (.ireturn, 1) := by decide +kernel
theorem hV_X11_append : yX11_append.cls = RX11 ∧ yX11_append.cls ≠ "java/lang/invoke/MethodHandle" ∧ yX11_append.cls ≠ "java/lang/invoke/VarHandle" ∧ (parseMethodDescriptor yX11_append.desc).map (fun d => d.parameters.length) = some 1 := by decide +kernel
set_option maxHeartbeats 2000000 in
set_option maxRecDepth 100000 in
theorem K_feed (l : Launch) (G : pT) (h0 : Nat) (a : Nat → Nat) (F : Nat → Int32) (R : Nat → Value) (Z : Int64) (B : Nat → Nat → Int32) (J : Nat → Nat → Int64) (T : Nat → Nat) (Pi : Nat → va_E → Prop) (w : va_W) (x1 : Int32) (x2 : Int32) (x3 : Int32) (x4 : Int32) (x5 : Int32) (tl : Nat) (htl : tl ≤ 5000) (hft : sb_Fit (B 0)) (hO : OKW G h0 a (upd F 0 (nI tl)) R Z B J T Pi w) : PM l G pX0 yX11_feed cX11_feed 6 (some .int) ({ frames := 3, cells := 0, slots := 0, locals := 82 }) [.ref h0, .int x1, .int x2, .int x3, .int x4, .int x5] w (fun (v : Option Value) (u : va_W × (Nat × (Nat → Int32))) => v = some (.int (fdR tl)) ∧ (u.2.1 ≤ 5000) ∧ (nI u.2.1 = fdT tl) ∧ (sb_Fit u.2.2) ∧ (OKW G h0 a (upd F 0 (nI u.2.1)) R Z (updA B 0 u.2.2) J T Pi u.1)) (fun u => u.1) := by
  intro sz
  refine Met.ofW (cc := cX11_feed) (maxL := 6) (ret := (some .int)) (by decide) rfl ?_
  intro p e s m args below meth c s₁ B9 hml hv
  obtain ⟨rfl, hsz, hP, hD0, hE, hX⟩ := hv
  have hx := B9.exec
  have hb := B9.bytes
  have hr := B9.returns
  have hts := atoms_spec (ws := Cond.code yX11_feed cX11_feed 6 (some .int) :: pw) B9.pre
  have hq : ∀ w ∈ pw, w.before _ s = true := fun w h => hts w (List.mem_cons_of_mem _ h)
  have hown : s.vm.findClass RX11 = some m.cls := findClass_of_methodNamed B9.named
  have hlocks := B9.notSynchronized
  subst hsz
  have hD := hD0.self (sz := s.heap.size)
  have hA : ∀ q : Nat, s.heap.size ≤ q → va_A w s.heap.size q := fun q h => Or.inr h
  generalize va_A w s.heap.size = A at hD hE hA ⊢
  have hS : va_S A s.heap s.heap [] := va_S.rf
  have hl := lv_entry ([.ref h0, .int x1, .int x2, .int x3, .int x4, .int x5]) (n := 6) (Nat.le_of_ble_eq_true rfl)
  rw [lg_entry_eq]
  generalize (lg_sl ([.ref h0, .int x1, .int x2, .int x3, .int x4, .int x5]) ++ List.replicate (6 - (lg_sl ([.ref h0, .int x1, .int x2, .int x3, .int x4, .int x5])).length) Slot.unset).toArray = ls at hl ⊢
  have hl : lv_has ls 6 [(0, .ref h0), (1, .int x1), (2, .int x2), (3, .int x3), (4, .int x4), (5, .int x5)] := hl
  refine lv_aload_n hx hb dX11_feed_0 rfl (lv_at hl 0 rfl) ?_
  refine c_get (v := .int (nI tl)) (C := RX11) (Tc := TX11) (N := 8) (ci := 8) hx hb hq pin_wsX110 hown hE hP hO 0 (sg_0 G h0 a _ _ _ _ _) rfl 1 (by decide) (hq _ pw_1334) (fun _ h9 => h9) rfl dX11_feed_1 ?_
  refine lv_bipush (v := 20) hx hb dX11_feed_4 (by decide) ?_
  refine lv_iadd hx hb dX11_feed_6 ?_
  refine lv_topi (fun x6 e7 => ?_)
  obtain rfl : x6 = nI (tl + 20) := e7.trans (nI_add (tl) (20))
  refine lv_sipush (v := 5000) hx hb dX11_feed_7 (by decide) ?_
  refine lv_icmp_le (tgt := 15) hx hb dX11_feed_10 (by decide) (fun c8 => ?_) (fun c8 => ?_)
  · have n9 : (tl + 20) ≤ 5000 := (nI_leI (a := (tl + 20)) (b := 5000) (by omega) (by omega)).mp c8
    refine lv_aload_n hx hb dX11_feed_15 rfl (lv_at hl 0 rfl) ?_
    refine lv_iload_n hx hb dX11_feed_16 rfl (lv_at hl 1 rfl) ?_
    have hO : OKW G h0 a (upd (upd F 0 (nI tl)) 0 (nI tl)) R Z B J T Pi w := hO.to rfl
    obtain ⟨_, qr13, hqr14⟩ := hO.2.1 0 _ (sg_0 G h0 a _ _ _ _ _)
    refine pc_V0 (G := G) (As := [.int x1]) (rest := []) hx hb hml hown hq hE hX pX0_al hP hD hS hA hl.1 (K_append l G h0 a (upd F 0 (nI tl)) R Z B J T Pi w x1 tl (by omega) hft hO) (gV pw_1336 pw_1337 pw_1338 pw_1339 pw_1333) hV_X11_append qr13 8 hqr14 rfl rfl rfl (Nat.le_of_ble_eq_true rfl) dX11_feed_17 ⟨Nat.le_of_ble_eq_true rfl, Nat.le_of_ble_eq_true rfl⟩ ⟨Nat.le_of_ble_eq_true rfl, Nat.le_of_ble_eq_true rfl⟩ (fun v12 u10 H locs hw11 hP hD hS => ?_)
    obtain ⟨w, f15⟩ := u10
    obtain ⟨hw11, h16, hO⟩ := hw11
    have h16 : sb_Fit f15 := h16
    obtain rfl : v12 = none := hw11
    have hO : OKW G h0 a (upd F 0 (nI (tl + 4))) R Z (updA B 0 f15) J T Pi w := hO.to rfl
    refine W.widen (k := 0) (n := 0) (Nat.le_of_ble_eq_true rfl) (Nat.le_of_ble_eq_true rfl) ?_
    refine W.eq (g2 := F0 m 20 ls []) rfl ?_
    refine lv_aload_n hx hb dX11_feed_20 rfl (lv_at hl 0 rfl) ?_
    refine lv_iload_n hx hb dX11_feed_21 rfl (lv_at hl 2 rfl) ?_
    have hO : OKW G h0 a (upd (upd F 0 (nI (tl + 4))) 0 (nI (tl + 4))) R Z (updA B 0 f15) J T Pi w := hO.to rfl
    obtain ⟨_, qr20, hqr21⟩ := hO.2.1 0 _ (sg_0 G h0 a _ _ _ _ _)
    refine pc_V0 (G := G) (As := [.int x2]) (rest := []) hx hb hml hown hq hE hX pX0_al hP hD hS hA hl.1 (K_append l G h0 a (upd F 0 (nI (tl + 4))) R Z (updA B 0 f15) J T Pi w x2 (tl + 4) (by omega) h16 hO) (gV pw_1336 pw_1337 pw_1338 pw_1339 pw_1333) hV_X11_append qr20 8 hqr21 rfl rfl rfl (Nat.le_of_ble_eq_true rfl) dX11_feed_22 ⟨Nat.le_of_ble_eq_true rfl, Nat.le_of_ble_eq_true rfl⟩ ⟨Nat.le_of_ble_eq_true rfl, Nat.le_of_ble_eq_true rfl⟩ (fun v19 u17 H locs hw18 hP hD hS => ?_)
    obtain ⟨w, f22⟩ := u17
    obtain ⟨hw18, h23, hO⟩ := hw18
    have h23 : sb_Fit f22 := h23
    obtain rfl : v19 = none := hw18
    have hO : OKW G h0 a (upd F 0 (nI ((tl + 4) + 4))) R Z (updA B 0 f22) J T Pi w := hO.to rfl
    refine W.widen (k := 0) (n := 0) (Nat.le_of_ble_eq_true rfl) (Nat.le_of_ble_eq_true rfl) ?_
    refine W.eq (g2 := F0 m 25 ls []) rfl ?_
    refine lv_aload_n hx hb dX11_feed_25 rfl (lv_at hl 0 rfl) ?_
    refine lv_iload_n hx hb dX11_feed_26 rfl (lv_at hl 3 rfl) ?_
    have hO : OKW G h0 a (upd (upd F 0 (nI ((tl + 4) + 4))) 0 (nI ((tl + 4) + 4))) R Z (updA B 0 f22) J T Pi w := hO.to rfl
    obtain ⟨_, qr27, hqr28⟩ := hO.2.1 0 _ (sg_0 G h0 a _ _ _ _ _)
    refine pc_V0 (G := G) (As := [.int x3]) (rest := []) hx hb hml hown hq hE hX pX0_al hP hD hS hA hl.1 (K_append l G h0 a (upd F 0 (nI ((tl + 4) + 4))) R Z (updA B 0 f22) J T Pi w x3 ((tl + 4) + 4) (by omega) h23 hO) (gV pw_1336 pw_1337 pw_1338 pw_1339 pw_1333) hV_X11_append qr27 8 hqr28 rfl rfl rfl (Nat.le_of_ble_eq_true rfl) dX11_feed_27 ⟨Nat.le_of_ble_eq_true rfl, Nat.le_of_ble_eq_true rfl⟩ ⟨Nat.le_of_ble_eq_true rfl, Nat.le_of_ble_eq_true rfl⟩ (fun v26 u24 H locs hw25 hP hD hS => ?_)
    obtain ⟨w, f29⟩ := u24
    obtain ⟨hw25, h30, hO⟩ := hw25
    have h30 : sb_Fit f29 := h30
    obtain rfl : v26 = none := hw25
    have hO : OKW G h0 a (upd F 0 (nI (((tl + 4) + 4) + 4))) R Z (updA B 0 f29) J T Pi w := hO.to rfl
    refine W.widen (k := 0) (n := 0) (Nat.le_of_ble_eq_true rfl) (Nat.le_of_ble_eq_true rfl) ?_
    refine W.eq (g2 := F0 m 30 ls []) rfl ?_
    refine lv_aload_n hx hb dX11_feed_30 rfl (lv_at hl 0 rfl) ?_
    refine lv_iload hx hb dX11_feed_31 (lv_at hl 4 rfl) ?_
    have hO : OKW G h0 a (upd (upd F 0 (nI (((tl + 4) + 4) + 4))) 0 (nI (((tl + 4) + 4) + 4))) R Z (updA B 0 f29) J T Pi w := hO.to rfl
    obtain ⟨_, qr34, hqr35⟩ := hO.2.1 0 _ (sg_0 G h0 a _ _ _ _ _)
    refine pc_V0 (G := G) (As := [.int x4]) (rest := []) hx hb hml hown hq hE hX pX0_al hP hD hS hA hl.1 (K_append l G h0 a (upd F 0 (nI (((tl + 4) + 4) + 4))) R Z (updA B 0 f29) J T Pi w x4 (((tl + 4) + 4) + 4) (by omega) h30 hO) (gV pw_1336 pw_1337 pw_1338 pw_1339 pw_1333) hV_X11_append qr34 8 hqr35 rfl rfl rfl (Nat.le_of_ble_eq_true rfl) dX11_feed_33 ⟨Nat.le_of_ble_eq_true rfl, Nat.le_of_ble_eq_true rfl⟩ ⟨Nat.le_of_ble_eq_true rfl, Nat.le_of_ble_eq_true rfl⟩ (fun v33 u31 H locs hw32 hP hD hS => ?_)
    obtain ⟨w, f36⟩ := u31
    obtain ⟨hw32, h37, hO⟩ := hw32
    have h37 : sb_Fit f36 := h37
    obtain rfl : v33 = none := hw32
    have hO : OKW G h0 a (upd F 0 (nI ((((tl + 4) + 4) + 4) + 4))) R Z (updA B 0 f36) J T Pi w := hO.to rfl
    refine W.widen (k := 0) (n := 0) (Nat.le_of_ble_eq_true rfl) (Nat.le_of_ble_eq_true rfl) ?_
    refine W.eq (g2 := F0 m 36 ls []) rfl ?_
    refine lv_aload_n hx hb dX11_feed_36 rfl (lv_at hl 0 rfl) ?_
    refine lv_iload hx hb dX11_feed_37 (lv_at hl 5 rfl) ?_
    have hO : OKW G h0 a (upd (upd F 0 (nI ((((tl + 4) + 4) + 4) + 4))) 0 (nI ((((tl + 4) + 4) + 4) + 4))) R Z (updA B 0 f36) J T Pi w := hO.to rfl
    obtain ⟨_, qr41, hqr42⟩ := hO.2.1 0 _ (sg_0 G h0 a _ _ _ _ _)
    refine pc_V0 (G := G) (As := [.int x5]) (rest := []) hx hb hml hown hq hE hX pX0_al hP hD hS hA hl.1 (K_append l G h0 a (upd F 0 (nI ((((tl + 4) + 4) + 4) + 4))) R Z (updA B 0 f36) J T Pi w x5 ((((tl + 4) + 4) + 4) + 4) (by omega) h37 hO) (gV pw_1336 pw_1337 pw_1338 pw_1339 pw_1333) hV_X11_append qr41 8 hqr42 rfl rfl rfl (Nat.le_of_ble_eq_true rfl) dX11_feed_39 ⟨Nat.le_of_ble_eq_true rfl, Nat.le_of_ble_eq_true rfl⟩ ⟨Nat.le_of_ble_eq_true rfl, Nat.le_of_ble_eq_true rfl⟩ (fun v40 u38 H locs hw39 hP hD hS => ?_)
    obtain ⟨w, f43⟩ := u38
    obtain ⟨hw39, h44, hO⟩ := hw39
    have h44 : sb_Fit f43 := h44
    obtain rfl : v40 = none := hw39
    have hO : OKW G h0 a (upd F 0 (nI (((((tl + 4) + 4) + 4) + 4) + 4))) R Z (updA B 0 f43) J T Pi w := hO.to rfl
    refine W.widen (k := 0) (n := 0) (Nat.le_of_ble_eq_true rfl) (Nat.le_of_ble_eq_true rfl) ?_
    refine W.eq (g2 := F0 m 42 ls []) rfl ?_
    refine lv_aload_n hx hb dX11_feed_42 rfl (lv_at hl 0 rfl) ?_
    refine c_get (v := .int (nI (((((tl + 4) + 4) + 4) + 4) + 4))) (C := RX11) (Tc := TX11) (N := 8) (ci := 8) hx hb hq pin_wsX110 hown hE hP hO 0 (sg_0 G h0 a _ _ _ _ _) rfl 1 (by decide) (hq _ pw_1334) (fun _ h9 => h9) rfl dX11_feed_43 ?_
    have hz45 : (((((tl + 4) + 4) + 4) + 4) + 4) ≤ 5000 := (by omega)
    have hz46 : nI (((((tl + 4) + 4) + 4) + 4) + 4) = fdT tl := (show _ = fdT tl from (if_pos (by omega)).symm)
    have hz47 : sb_Fit f43 := h44
    have hO : OKW G h0 a (upd F 0 (nI (((((tl + 4) + 4) + 4) + 4) + 4))) R Z (updA B 0 f43) J T Pi w := hO.to rfl
    exact W.iret (v := (nI (((((tl + 4) + 4) + 4) + 4) + 4))) hx hb hr (fun t99 ht99 hW99 => ⟨⟨_, (w, ((((((tl + 4) + 4) + 4) + 4) + 4), f43)), rfl, ⟨(congrArg (fun z => some (Value.int z)) (show _ = fdR tl from (if_pos (by omega)).symm)), hz45, hz46, hz47, hO⟩, by rw [ht99]; exact hP, hD⟩, hS.F ht99⟩) hS.2.2 dX11_feed_46
  · have n48 : ¬ ((tl + 20) ≤ 5000) := fun h9 => c8 ((nI_leI (a := (tl + 20)) (b := 5000) (by omega) (by omega)).mpr h9)
    refine lv_iconst (v := (-1)) hx hb dX11_feed_13 (by decide) ?_
    have hz49 : tl ≤ 5000 := (by omega)
    have hz50 : nI tl = fdT tl := (show _ = fdT tl from (if_neg (by omega)).symm)
    have hz51 : sb_Fit (B 0) := hft
    have hO : OKW G h0 a (upd F 0 (nI tl)) R Z (updA B 0 (B 0)) J T Pi w := hO.to rfl
    exact W.iret (v := (-1)) hx hb hr (fun t99 ht99 hW99 => ⟨⟨_, (w, (tl, (B 0))), rfl, ⟨(congrArg (fun z => some (Value.int z)) (show _ = fdR tl from (if_neg (by omega)).symm)), hz49, hz50, hz51, hO⟩, by rw [ht99]; exact hP, hD⟩, hS.F ht99⟩) hS.2.2 dX11_feed_14
theorem dX11_back_0 : decode cX11_back 0 = .ok (.iload_n 1, 1) := by decide +kernel
theorem dX11_back_1 : decode cX11_back 1 = .ok (.ifCond .lt 11, 3) := by decide +kernel
theorem dX11_back_12 : decode cX11_back 12 = .ok (.iconst (-1), 1) := by decide +kernel
theorem dX11_back_13 : decode cX11_back 13 = .ok (.ireturn, 1) := by decide +kernel
theorem dX11_back_4 : decode cX11_back 4 = .ok (.iload_n 1, 1) := by decide +kernel
theorem dX11_back_5 : decode cX11_back 5 = .ok (.aload_n 0, 1) := by decide +kernel
theorem dX11_back_6 : decode cX11_back 6 = .ok (.getfield 54, 3) := by decide +kernel
theorem dX11_back_9 : decode cX11_back 9 = .ok (.if_icmp .le 5, 3) := by decide +kernel
theorem dX11_back_14 : decode cX11_back 14 = .ok (.aload_n 0, 1) := by decide +kernel
theorem dX11_back_15 : decode cX11_back 15 = .ok (.dup, 1) := by decide +kernel
theorem dX11_back_16 : decode cX11_back 16 = .ok (.getfield 54, 3) := by decide +kernel
theorem dX11_back_19 : decode cX11_back 19 = .ok (.iload_n 1, 1) := by decide +kernel
theorem dX11_back_20 : decode cX11_back 20 = .ok (.isub, 1) := by decide +kernel
theorem dX11_back_21 : decode cX11_back 21 = .ok (.putfield 54, 3) := by decide +kernel
theorem dX11_back_24 : decode cX11_back 24 = .ok (.aload_n 0, 1) := by decide +kernel
theorem dX11_back_25 : decode cX11_back 25 = .ok (.getfield 54, 3) := by decide +kernel
theorem dX11_back_28 : decode cX11_back 28 = .ok (.ireturn, 1) := by decide +kernel
set_option maxHeartbeats 2000000 in
set_option maxRecDepth 100000 in
theorem K_back (l : Launch) (G : pT) (h0 : Nat) (a : Nat → Nat) (F : Nat → Int32) (R : Nat → Value) (Z : Int64) (B : Nat → Nat → Int32) (J : Nat → Nat → Int64) (T : Nat → Nat) (Pi : Nat → va_E → Prop) (w : va_W) (x : Int32) (tl : Nat) (htl : tl ≤ 5000) (hO : OKW G h0 a (upd F 0 (nI tl)) R Z B J T Pi w) : PM l G pX0 yX11_back cX11_back 2 (some .int) ({ frames := 2, cells := 0, slots := 0, locals := 60 }) [.ref h0, .int x] w (fun (v : Option Value) (u : va_W × (Nat × Int32)) => v = some (.int u.2.2) ∧ (u.2.1 ≤ 5000) ∧ (nI u.2.1 = bkT x tl) ∧ (u.2.2 = bkR x tl) ∧ (OKW G h0 a (upd F 0 (nI u.2.1)) R Z B J T Pi u.1)) (fun u => u.1) := by
  intro sz
  refine Met.ofW (cc := cX11_back) (maxL := 2) (ret := (some .int)) (by decide) rfl ?_
  intro p e s m args below meth c s₁ B9 hml hv
  obtain ⟨rfl, hsz, hP, hD0, hE, hX⟩ := hv
  have hx := B9.exec
  have hb := B9.bytes
  have hr := B9.returns
  have hts := atoms_spec (ws := Cond.code yX11_back cX11_back 2 (some .int) :: pw) B9.pre
  have hq : ∀ w ∈ pw, w.before _ s = true := fun w h => hts w (List.mem_cons_of_mem _ h)
  have hown : s.vm.findClass RX11 = some m.cls := findClass_of_methodNamed B9.named
  have hlocks := B9.notSynchronized
  subst hsz
  have hD := hD0.self (sz := s.heap.size)
  have hA : ∀ q : Nat, s.heap.size ≤ q → va_A w s.heap.size q := fun q h => Or.inr h
  generalize va_A w s.heap.size = A at hD hE hA ⊢
  have hS : va_S A s.heap s.heap [] := va_S.rf
  have hl := lv_entry ([.ref h0, .int x]) (n := 2) (Nat.le_of_ble_eq_true rfl)
  rw [lg_entry_eq]
  generalize (lg_sl ([.ref h0, .int x]) ++ List.replicate (2 - (lg_sl ([.ref h0, .int x])).length) Slot.unset).toArray = ls at hl ⊢
  have hl : lv_has ls 2 [(0, .ref h0), (1, .int x)] := hl
  refine lv_iload_n hx hb dX11_back_0 rfl (lv_at hl 1 rfl) ?_
  refine lv_if_lt (tgt := 12) hx hb dX11_back_1 (by decide) (fun c1 => ?_) (fun c1 => ?_)
  · refine lv_iconst (v := (-1)) hx hb dX11_back_12 (by decide) ?_
    have hz2 : tl ≤ 5000 := (by omega)
    have hz3 : nI tl = bkT x tl := (show _ = bkT x tl from (if_pos (Or.inl c1)).symm)
    have hz4 : ((-1) : Int32) = bkR x tl := (show _ = bkR x tl from (if_pos (Or.inl c1)).symm)
    have hO : OKW G h0 a (upd F 0 (nI tl)) R Z B J T Pi w := hO.to rfl
    exact W.iret (v := (-1)) hx hb hr (fun t99 ht99 hW99 => ⟨⟨_, (w, (tl, ((-1) : Int32))), rfl, ⟨rfl, hz2, hz3, hz4, hO⟩, by rw [ht99]; exact hP, hD⟩, hS.F ht99⟩) hS.2.2 dX11_back_13
  · obtain ⟨j9, ht_j9, hb_j9⟩ := nI_nn2 c1
    rw [ht_j9] at hl
    refine lv_iload_n hx hb dX11_back_4 rfl (lv_at hl 1 rfl) ?_
    refine lv_aload_n hx hb dX11_back_5 rfl (lv_at hl 0 rfl) ?_
    refine c_get (v := .int (nI tl)) (C := RX11) (Tc := TX11) (N := 8) (ci := 8) hx hb hq pin_wsX110 hown hE hP hO 0 (sg_0 G h0 a _ _ _ _ _) rfl 1 (by decide) (hq _ pw_1334) (fun _ h9 => h9) rfl dX11_back_6 ?_
    refine lv_icmp_le (tgt := 14) hx hb dX11_back_9 (by decide) (fun c5 => ?_) (fun c5 => ?_)
    · have n6 : j9 ≤ tl := (nI_leI (a := j9) (b := tl) (by omega) (by omega)).mp c5
      refine lv_aload_n hx hb dX11_back_14 rfl (lv_at hl 0 rfl) ?_
      refine lv_dup hx hb dX11_back_15 rfl ?_
      refine c_get (v := .int (nI tl)) (C := RX11) (Tc := TX11) (N := 8) (ci := 8) hx hb hq pin_wsX110 hown hE hP hO 0 (sg_0 G h0 a _ _ _ _ _) rfl 1 (by decide) (hq _ pw_1334) (fun _ h9 => h9) rfl dX11_back_16 ?_
      refine lv_iload_n hx hb dX11_back_19 rfl (lv_at hl 1 rfl) ?_
      refine lv_isub hx hb dX11_back_20 ?_
      refine lv_topi (fun x7 e8 => ?_)
      obtain rfl : x7 = nI (tl - j9) := e8.trans (nI_subN (a := j9) (b := tl) (by omega))
      refine c_put (v := .int (nI (tl - j9))) (ty := .int) (C := RX11) (Tc := TX11) (N := 8) (ci := 8) hx hb hq pin_wsX110 tyX11 tyX11_ok nmX11 hown hE hP hD hS hO 0 (sg_0 G h0 a _ _ _ _ _) rfl 1 (by decide) (hq _ pw_1334) (fun _ h9 => h9) rfl (by decide +kernel) rfl rfl (Nat.le_of_ble_eq_true rfl) (sf_0 G h0 a _ _ _ _ _ (nI (tl - j9))) dX11_back_21 (fun H locs w hP hD hS hO => ?_)
      refine lv_aload_n hx hb dX11_back_24 rfl (lv_at hl 0 rfl) ?_
      refine c_get (v := .int (nI (tl - j9))) (C := RX11) (Tc := TX11) (N := 8) (ci := 8) hx hb hq pin_wsX110 hown hE hP hO 0 (sg_0 G h0 a _ _ _ _ _) rfl 1 (by decide) (hq _ pw_1334) (fun _ h9 => h9) rfl dX11_back_25 ?_
      have hz9 : (tl - j9) ≤ 5000 := (by omega)
      have hz10 : nI (tl - j9) = bkT x tl := (by rw [show bkT x tl = nI tl - x from (if_neg (fun q => q.elim c1 (fun z => by rw [ht_j9] at z; have z1 := (nI_ltI (a := tl) (b := j9) (by omega) (by omega)).mp z; omega))), ht_j9]; exact (nI_subN (by omega)).symm)
      have hz11 : (nI (tl - j9)) = bkR x tl := (by rw [show bkR x tl = nI tl - x from (if_neg (fun q => q.elim c1 (fun z => by rw [ht_j9] at z; have z1 := (nI_ltI (a := tl) (b := j9) (by omega) (by omega)).mp z; omega))), ht_j9]; exact (nI_subN (by omega)).symm)
      have hO : OKW G h0 a (upd F 0 (nI (tl - j9))) R Z B J T Pi w := hO.to rfl
      exact W.iret (v := (nI (tl - j9))) hx hb hr (fun t99 ht99 hW99 => ⟨⟨_, (w, ((tl - j9), (nI (tl - j9)))), rfl, ⟨rfl, hz9, hz10, hz11, hO⟩, by rw [ht99]; exact hP, hD⟩, hS.F ht99⟩) hS.2.2 dX11_back_28
    · have n12 : ¬ (j9 ≤ tl) := fun h9 => c5 ((nI_leI (a := j9) (b := tl) (by omega) (by omega)).mpr h9)
      refine lv_iconst (v := (-1)) hx hb dX11_back_12 (by decide) ?_
      have hz13 : tl ≤ 5000 := (by omega)
      have hz14 : nI tl = bkT x tl := (show _ = bkT x tl from (if_pos (Or.inr (by rw [ht_j9]; exact (nI_ltI (a := tl) (b := j9) (by omega) (by omega)).mpr (by omega)))).symm)
      have hz15 : ((-1) : Int32) = bkR x tl := (show _ = bkR x tl from (if_pos (Or.inr (by rw [ht_j9]; exact (nI_ltI (a := tl) (b := j9) (by omega) (by omega)).mpr (by omega)))).symm)
      have hO : OKW G h0 a (upd F 0 (nI tl)) R Z B J T Pi w := hO.to rfl
      exact W.iret (v := (-1)) hx hb hr (fun t99 ht99 hW99 => ⟨⟨_, (w, (tl, ((-1) : Int32))), rfl, ⟨rfl, hz13, hz14, hz15, hO⟩, by rw [ht99]; exact hP, hD⟩, hS.F ht99⟩) hS.2.2 dX11_back_13
