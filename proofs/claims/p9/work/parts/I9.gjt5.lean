set_option maxHeartbeats 2000000 in
set_option maxRecDepth 100000 in
theorem M_uncaughtZ (l : Launch) (G : pT) (h0 : Nat) (a : Nat → Nat) (F : Nat → Int32) (R : Nat → Value) (Z : Int64) (B : Nat → Nat → Int32) (J : Nat → Nat → Int64) (T : Nat → Nat) (Pi : Nat → va_E → Prop) (w : va_W) (x : Int32) (hz0 : Z = 0) (hO : OKW G h0 a F R Z B J T Pi w) : PM l G pX0 yX5_uncaught cX5_uncaught 5 (some .int) ({ frames := 2, cells := 0, slots := 0, locals := 60 }) [.ref (a 5), .int x] w (fun (v : Option Value) (u : va_W × (Int32)) => v = some (.int u.2) ∧ (OKW G h0 a F R Z B J T Pi u.1)) (fun u => u.1) := by
  intro sz
  refine Met.ofW (cc := cX5_uncaught) (maxL := 5) (ret := (some .int)) (by decide) rfl ?_
  intro p e s m args below meth c s₁ B9 hml hv
  obtain ⟨rfl, hsz, hP, hD0, hE, hX⟩ := hv
  have hx := B9.exec
  have hb := B9.bytes
  have hr := B9.returns
  have hts := atoms_spec (ws := Cond.code yX5_uncaught cX5_uncaught 5 (some .int) :: pw) B9.pre
  have hq : ∀ w ∈ pw, w.before _ s = true := fun w h => hts w (List.mem_cons_of_mem _ h)
  have hown : s.vm.findClass RX5 = some m.cls := findClass_of_methodNamed B9.named
  have hlocks := B9.notSynchronized
  subst hsz
  have hD := hD0.self (sz := s.heap.size)
  have hA : ∀ q : Nat, s.heap.size ≤ q → va_A w s.heap.size q := fun q h => Or.inr h
  generalize va_A w s.heap.size = A at hD hE hA ⊢
  have hS : va_S A s.heap s.heap [] := va_S.rf
  have hl := lv_entry ([.ref (a 5), .int x]) (n := 5) (Nat.le_of_ble_eq_true rfl)
  rw [lg_entry_eq]
  generalize (lg_sl ([.ref (a 5), .int x]) ++ List.replicate (5 - (lg_sl ([.ref (a 5), .int x])).length) Slot.unset).toArray = ls at hl ⊢
  have hl : lv_has ls 5 [(0, .ref (a 5)), (1, .int x)] := hl
  rcases hz0 with rfl
  · skip
    refine lv_aload_n hx hb dX5_uncaught_0 rfl (lv_at hl 0 rfl) ?_
    refine c_get (v := .long 0) (C := RX5) (Tc := TX5) (N := 19) (ci := 4) hx hb hq pin_wsX50 hown hE hP hO 28 (sg_28 G h0 a _ _ _ _ _) rfl 14 (by decide) (hq _ pw_485) (fun _ h9 => h9) rfl dX5_uncaught_1 ?_
    refine lv_lconst (v := 0) hx hb dX5_uncaught_4 (by decide) ?_
    refine W.lcmp hx hb dX5_uncaught_5 ?_
    refine lv_topi (fun x1 e2 => ?_)
    obtain rfl : x1 = 0 := e2.trans (by decide)
    refine lv_if_eq (tgt := 16) hx hb dX5_uncaught_6 (by decide) (fun c3 => ?_) (fun c3 => absurd c3 (by decide))
    refine lv_null hx hb dX5_uncaught_16 ?_
    refine lv_goto (tgt := 38) hx hb dX5_uncaught_17 (by decide) ?_
    refine lv_astore_nN (lv' := [(2, .null), (0, .ref (a 5)), (1, .int x)]) hx hb dX5_uncaught_38 rfl hl (by decide) rfl (fun ls hl => ?_)
    refine lv_aload_nN hx hb dX5_uncaught_39 rfl (lv_at hl 0 rfl) ?_
    refine lv_ifnullN (tgt := 60) hx hb dX5_uncaught_40 (by decide) ?_
    refine lv_iconst (v := (-1)) hx hb dX5_uncaught_60 (by decide) ?_
    have hO : OKW G h0 a F R 0 B J T Pi w := hO.to rfl
    exact W.iret (v := (-1)) hx hb hr (fun t99 ht99 hW99 => ⟨⟨_, (w, ((-1) : Int32)), rfl, ⟨rfl, hO⟩, by rw [ht99]; exact hP, hD⟩, hS.F ht99⟩) hS.2.2 dX5_uncaught_61
set_option maxHeartbeats 2000000 in
set_option maxRecDepth 100000 in
theorem J_thrownZ (l : Launch) (G : pT) (h0 : Nat) (a : Nat → Nat) (F : Nat → Int32) (R : Nat → Value) (Z : Int64) (B : Nat → Nat → Int32) (J : Nat → Nat → Int64) (T : Nat → Nat) (Pi : Nat → va_E → Prop) (w : va_W) (x : Int32) (hz0 : Z = 0) (hO : OKW G h0 a F R Z B J T Pi w) : PM l G pX0 yX11_thrown cX11_thrown 2 (some .int) ({ frames := 3, cells := 0, slots := 0, locals := 84 }) [.ref h0, .int x] w (fun (v : Option Value) (u : va_W × (Int32)) => v = some (.int u.2) ∧ (OKW G h0 a F R Z B J T Pi u.1)) (fun u => u.1) := by
  intro sz
  refine Met.ofW (cc := cX11_thrown) (maxL := 2) (ret := (some .int)) (by decide) rfl ?_
  intro p e s m args below meth c s₁ B9 hml hv
  obtain ⟨rfl, hsz, hP, hD0, hE, hX⟩ := hv
  have hx := B9.exec
  have hb := B9.bytes
  have hr := B9.returns
  have hts := atoms_spec (ws := Cond.code yX11_thrown cX11_thrown 2 (some .int) :: pw) B9.pre
  have hq : ∀ w ∈ pw, w.before _ s = true := fun w h => hts w (List.mem_cons_of_mem _ h)
  have hown : s.vm.findClass RX11 = some m.cls := findClass_of_methodNamed B9.named
  have hlocks := B9.notSynchronized
  subst hsz
  have hD := hD0.self (sz := s.heap.size)
  have hA : ∀ q : Nat, s.heap.size ≤ q → va_A w s.heap.size q := fun q h => Or.inr h
  generalize va_A w s.heap.size = A at hD hE hA ⊢
  have hS : va_S A s.heap s.heap [] := va_S.rf
  have hl := lv_entry ([.ref h0, .int x]) (n := 2) (Nat.le_of_ble_eq_true rfl)
  rw [lg_entry_eq]
  generalize (lg_sl ([.ref h0, .int x]) ++ List.replicate (2 - (lg_sl ([.ref h0, .int x])).length) Slot.unset).toArray = ls at hl ⊢
  have hl : lv_has ls 2 [(0, .ref h0), (1, .int x)] := hl
  refine lv_aload_n hx hb dX11_thrown_0 rfl (lv_at hl 0 rfl) ?_
  refine c_get (v := .ref (a 5)) (C := RX11) (Tc := TX11) (N := 8) (ci := 8) hx hb hq pin_wsX110 hown hE hP hO 0 (sg_0 G h0 a _ _ _ _ _) rfl 6 (by decide) (hq _ pw_1321) (fun _ h9 => h9) rfl dX11_thrown_1 ?_
  refine lv_iload_n hx hb dX11_thrown_4 rfl (lv_at hl 1 rfl) ?_
  have hO : OKW G h0 a F R Z B J T Pi w := hO.to rfl
  obtain ⟨_, qr4, hqr5⟩ := hO.2.1 28 _ (sg_28 G h0 a _ _ _ _ _)
  refine pc_V0 (G := G) (As := [.int x]) (rest := []) hx hb hml hown hq hE hX pX0_al hP hD hS hA hl.1 (M_uncaughtZ l G h0 a F R Z B J T Pi w x hz0 hO) (gV pw_1416 pw_1417 pw_1418 pw_539 pw_498) hV_X5_uncaught qr4 4 hqr5 rfl rfl rfl (Nat.le_of_ble_eq_true rfl) dX11_thrown_5 ⟨Nat.le_of_ble_eq_true rfl, Nat.le_of_ble_eq_true rfl⟩ ⟨Nat.le_of_ble_eq_true rfl, Nat.le_of_ble_eq_true rfl⟩ (fun v3 u1 H locs hw2 hP hD hS => ?_)
  obtain ⟨w, r6⟩ := u1
  obtain ⟨hw2, hO⟩ := hw2
  obtain rfl : v3 = some (.int r6) := hw2
  have hO : OKW G h0 a F R Z B J T Pi w := hO.to rfl
  refine W.widen (k := 0) (n := 0) (Nat.le_of_ble_eq_true rfl) (Nat.le_of_ble_eq_true rfl) ?_
  refine W.eq (g2 := F0 m 8 ls [.int r6]) rfl ?_
  have hO : OKW G h0 a F R Z B J T Pi w := hO.to rfl
  exact W.iret (v := r6) hx hb hr (fun t99 ht99 hW99 => ⟨⟨_, (w, r6), rfl, ⟨rfl, hO⟩, by rw [ht99]; exact hP, hD⟩, hS.F ht99⟩) hS.2.2 dX11_thrown_8
