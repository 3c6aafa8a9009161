theorem VaT.decl {K K2 : PK} {q dr x : Nat} {F : Nat → Option Nat} {v : Int32} {g g1 : Nat → Nat → Nat} (hx : ∀ p : Nat, ¬ K.1 p = 0 → Sm K K2 p ∧ ∀ i : Nat, g1 i p = g i p) (hn : ∀ p : Nat, K.1 p = 0 → K2.1 p = 0 ∨ p = q ∨ K2.1 p = 5) (hq : K2.1 q = 4) : VaT K (kI (kE K2 dr F) 24 x v) := fun kd ro sz a => NwT.puti (show NwT kd sz ro ro K (kE K2 dr F) a a from NwT.ext (K1 := K) NwT.nil (fun p hp => ⟨(hx p hp).1.1, fun _ f => (hx p hp).1.2.1 f⟩) (fun p h0 h1 => by
  rcases hn p h0 with w | w | w
  · have z : K2.1 p = 1 := h1
    rw [w] at z; exact absurd z (by decide)
  · have z : K2.1 p = 1 := h1
    rw [w, hq] at z; exact absurd z (by decide)
  · have z : K2.1 p = 1 := h1
    rw [w] at z; exact absurd z (by decide))) (by decide)
theorem dX9_addDecl_0 : decode cX9_addDecl 0 = .ok (.new 15, 3) := by decide +kernel
theorem dX9_addDecl_3 : decode cX9_addDecl 3 = .ok (.dup, 1) := by decide +kernel
theorem dX9_addDecl_4 : decode cX9_addDecl 4 = .ok (.aload_n 0, 1) := by decide +kernel
theorem dX9_addDecl_5 : decode cX9_addDecl 5 = .ok (.getfield 33, 3) := by decide +kernel
theorem dX9_addDecl_8 : decode cX9_addDecl 8 = .ok (.aload_n 0, 1) := by decide +kernel
theorem dX9_addDecl_9 : decode cX9_addDecl 9 = .ok (.getfield 9, 3) := by decide +kernel
theorem dX9_addDecl_12 : decode cX9_addDecl 12 = .ok (.iload_n 1, 1) := by decide +kernel
theorem dX9_addDecl_13 : decode cX9_addDecl 13 = .ok (.invokevirtual 41, 3) := by decide +kernel
theorem dX9_addDecl_16 : decode cX9_addDecl 16 = .ok (.iload_n 1, 1) := by decide +kernel
theorem dX9_addDecl_17 : decode cX9_addDecl 17 = .ok (.iload_n 2, 1) := by decide +kernel
theorem dX9_addDecl_18 : decode cX9_addDecl 18 = .ok (.invokespecial 30, 3) := by decide +kernel
theorem dX9_addDecl_21 : decode cX9_addDecl 21 = .ok (.astore_n 3, 1) := by decide +kernel
theorem dX9_addDecl_22 : decode cX9_addDecl 22 = .ok (.aload_n 0, 1) := by decide +kernel
theorem dX9_addDecl_23 : decode cX9_addDecl 23 = .ok (.getfield 33, 3) := by decide +kernel
theorem dX9_addDecl_26 : decode cX9_addDecl 26 = .ok (.aload_n 0, 1) := by decide +kernel
theorem dX9_addDecl_27 : decode cX9_addDecl 27 = .ok (.getfield 17, 3) := by decide +kernel
theorem dX9_addDecl_30 : decode cX9_addDecl 30 = .ok (.arraylength, 1) := by decide +kernel
theorem dX9_addDecl_31 : decode cX9_addDecl 31 = .ok (.if_icmp .ge 23, 3) := by decide +kernel
theorem dX9_addDecl_34 : decode cX9_addDecl 34 = .ok (.aload_n 0, 1) := by decide +kernel
theorem dX9_addDecl_35 : decode cX9_addDecl 35 = .ok (.getfield 17, 3) := by decide +kernel
theorem dX9_addDecl_38 : decode cX9_addDecl 38 = .ok (.aload_n 0, 1) := by decide +kernel
theorem dX9_addDecl_39 : decode cX9_addDecl 39 = .ok (.getfield 33, 3) := by decide +kernel
theorem dX9_addDecl_42 : decode cX9_addDecl 42 = .ok (.aload_n 3, 1) := by decide +kernel
theorem dX9_addDecl_43 : decode cX9_addDecl 43 = .ok (.aastore, 1) := by decide +kernel
theorem dX9_addDecl_44 : decode cX9_addDecl 44 = .ok (.aload_n 0, 1) := by decide +kernel
theorem dX9_addDecl_45 : decode cX9_addDecl 45 = .ok (.dup, 1) := by decide +kernel
theorem dX9_addDecl_46 : decode cX9_addDecl 46 = .ok (.getfield 33, 3) := by decide +kernel
theorem dX9_addDecl_49 : decode cX9_addDecl 49 = .ok (.iconst 1, 1) := by decide +kernel
theorem dX9_addDecl_50 : decode cX9_addDecl 50 = .ok (.iadd, 1) := by decide +kernel
theorem dX9_addDecl_51 : decode cX9_addDecl 51 = .ok (.putfield 33, 3) := by decide +kernel
theorem dX9_addDecl_54 : decode cX9_addDecl 54 = .ok (.aload_n 3, 1) := by decide +kernel
theorem dX9_addDecl_55 : decode cX9_addDecl 55 = .ok (.areturn, 1) := by decide +kernel
theorem hS_X2_init : yX2_init.cls ≠ "java/lang/invoke/MethodHandle" ∧ yX2_init.cls ≠ "java/lang/invoke/VarHandle" ∧ (parseMethodDescriptor yX2_init.desc).map (fun d => d.parameters.length) = some 4 := by decide +kernel
set_option maxHeartbeats 8000000 in
set_option maxRecDepth 100000 in
theorem G_addDecl (l : Launch) (G : pT) (h0 : Nat) (a : Nat → Nat) (F : Nat → Int32) (R : Nat → Value) (Z : Int64) (B : Nat → Nat → Int32) (J : Nat → Nat → Int64) (K : PK) (w : va_W) (pq : Nat) (dr : Nat) (ml : Nat) (nd : Nat) (nm : Nat) (cp : Nat) (it : Nat → Nat) (s9 : Nat) (x : Int32) (x4 : Nat) (sz : Nat) (g : Nat → Nat → Nat) (hsz : sz ≤ 5000) (hwp : WPr G K g) (hps : PgS G K g (a 1) pq dr ml nd nm cp it s9) (hpz : PzK G K g nm it none) (hnd : nd + 1 ≤ 37) (hx4 : x4 ≤ 1) (hO : OKP G h0 a (upd F 2 (nI sz)) R Z B J K w) : PM l G pX0 yX9_addDecl cX9_addDecl 4 (some (.object "JinjaTongue$Decl")) ({ frames := 6, cells := 5, slots := 25, locals := 144 }) [.ref pq, .int x, .int (nI x4)] w (fun (v : Option Value) (u : va_W × (Nat × PK × (Nat → Nat → Nat))) => v = some (.ref u.2.1) ∧ (WPr G u.2.2.1 u.2.2.2) ∧ (PgS G u.2.2.1 u.2.2.2 (a 1) pq dr ml (nd + 1) nm cp it s9) ∧ (u.2.2.1.1 u.2.1 = 4) ∧ (u.2.2.2 5 u.2.1 = 0) ∧ (PzK G u.2.2.1 u.2.2.2 nm it none) ∧ (VaT K u.2.2.1) ∧ (OKP G h0 a (upd F 2 (nI sz)) R Z B J u.2.2.1 u.1)) (fun u => u.1) := by
  intro sz
  refine Met.ofW (cc := cX9_addDecl) (maxL := 4) (ret := (some (.object "JinjaTongue$Decl"))) (by decide) rfl ?_
  intro p e s m args below meth c s₁ B9 hml hv
  obtain ⟨rfl, hsz, hP, hD0, hE, hX⟩ := hv
  have hx := B9.exec
  have hb := B9.bytes
  have hr := B9.returns
  have hts := atoms_spec (ws := Cond.code yX9_addDecl cX9_addDecl 4 (some (.object "JinjaTongue$Decl")) :: pw) B9.pre
  have hq : ∀ w ∈ pw, w.before _ s = true := fun w h => hts w (List.mem_cons_of_mem _ h)
  have hown : s.vm.findClass RX9 = some m.cls := findClass_of_methodNamed B9.named
  have hlocks := B9.notSynchronized
  subst hsz
  have hD := hD0.self (sz := s.heap.size)
  have hA : ∀ q : Nat, s.heap.size ≤ q → va_A w s.heap.size q := fun q h => Or.inr h
  generalize va_A w s.heap.size = A at hD hE hA ⊢
  have hS : va_S A s.heap s.heap [] := va_S.rf
  have hl := lv_entry ([.ref pq, .int x, .int (nI x4)]) (n := 4) (Nat.le_of_ble_eq_true rfl)
  rw [lg_entry_eq]
  generalize (lg_sl ([.ref pq, .int x, .int (nI x4)]) ++ List.replicate (4 - (lg_sl ([.ref pq, .int x, .int (nI x4)])).length) Slot.unset).toArray = ls at hl ⊢
  have hl : lv_has ls 4 [(0, .ref pq), (1, .int x), (2, .int (nI x4))] := hl
  have hp1 := hps.1.1
  have hp2 := hps.1.2.1
  have hp3 := hps.1.2.2.1
  have hp4 := hps.1.2.2.2.1
  have hp5 := hps.1.2.2.2.2.1
  have hp6 := hps.1.2.2.2.2.2.1
  have hp8 := hps.1.2.2.2.2.2.2.2.1
  have hp9 := hps.1.2.2.2.2.2.2.2.2
  refine p_new (s9 := 4) (C := RX2) (T := TX2) (N := 13) (ci := 2) (fs := [.int 0, .int 0, .int 0, .int 0, .int 0, .int 0, .int 0, .null, .null, .null, .long 0, .null, .null]) hx hb hq pin_wsX20 tyX2 tyX2_ok hown (hq _ pw_782) (hq _ pw_783) (hq _ pw_146) hE hP hD hS hA hO rfl nw_X2 (by decide) (fun q => by rw [rep_4 (show (kN K q 4 0).1 q = 4 from if_pos rfl)]; unfold fsDecl kN; simp only [if_true]; rfl) (by show 0 + 1 ≤ 5; omega) (by show 0 + 13 ≤ 25; omega) dX9_addDecl_0 (fun q1 H w hq2 hP hD hS hO => ?_)
  have hf3 : (kN K q1 4 0).1 pq = 7 := (if_neg (fun z => by have z2 := hp1; rw [z, hq2] at z2; exact absurd z2 (by decide))).trans hp1
  have hf4 : (kN K q1 4 0).2.2.1 18 pq = some (a 1) := (if_neg (fun z => by have z2 := hp1; rw [z, hq2] at z2; exact absurd z2 (by decide))).trans hp2
  have hf5 : (kN K q1 4 0).2.2.1 14 pq = some dr := (if_neg (fun z => by have z2 := hp1; rw [z, hq2] at z2; exact absurd z2 (by decide))).trans hp3
  have hf6 : (kN K q1 4 0).1 dr = 8 := (if_neg (fun z => by have z2 := hp4; rw [z, hq2] at z2; exact absurd z2 (by decide))).trans hp4
  have hf7 : (kN K q1 4 0).2.2.1 15 pq = some ml := (if_neg (fun z => by have z2 := hp1; rw [z, hq2] at z2; exact absurd z2 (by decide))).trans hp5
  have hf8 : (kN K q1 4 0).1 ml = 5 := (if_neg (fun z => by have z2 := hp6; rw [z, hq2] at z2; exact absurd z2 (by decide))).trans hp6
  have hf9 : (kN K q1 4 0).2.1 24 pq = (nI nd) := (if_neg (fun z => by have z2 := hp1; rw [z, hq2] at z2; exact absurd z2 (by decide))).trans hp8
  have hf10 : (kN K q1 4 0).1 q1 = 4 := if_pos rfl
  refine W.widen (k := 1) (n := 13) (by show 0 + 1 ≤ 1; omega) (by show 0 + 13 ≤ 13; omega) ?_
  refine lv_dup hx hb dX9_addDecl_3 rfl ?_
  refine lv_aload_n hx hb dX9_addDecl_4 rfl (lv_at hl 0 rfl) ?_
  refine p_get (v := .int (nI nd)) (C := RX9) (Tc := TX9) (N := 5) (ci := 6) hx hb hq pin_wsX90 hown hE hP hO (by rw [hf3]; decide) (rep_7 hf3) rfl 2 (by decide) (hq _ pw_14) (fun _ h9 => h9) (congrArg (fun z => some (Value.int z)) hf9) dX9_addDecl_5 ?_
  refine lv_aload_n hx hb dX9_addDecl_8 rfl (lv_at hl 0 rfl) ?_
  refine p_get (v := .ref (a 1)) (C := RX9) (Tc := TX9) (N := 5) (ci := 6) hx hb hq pin_wsX90 hown hE hP hO (by rw [hf3]; decide) (rep_7 hf3) rfl 0 (by decide) (hq _ pw_784) (fun _ h9 => h9) (congrArg (fun z => some (va_rf z)) hf4) dX9_addDecl_9 ?_
  refine lv_iload_n hx hb dX9_addDecl_12 rfl (lv_at hl 1 rfl) ?_
  have hO : OKW G h0 a (upd (upd F 2 (nI sz)) 2 (nI sz)) R Z B J ((kN K q1 4 0).1) (fun q99 x99 => x99 = rep G a (kN K q1 4 0) q99) w := hO.to rfl
  obtain ⟨_, qr14, hqr15⟩ := hO.2.1 2 _ (sg_2 G h0 a _ _ _ _ _)
  refine pc_V0 (G := G) (As := [.int x]) (rest := [.int (nI nd), .ref q1, .ref q1]) hx hb hml hown hq hE hX pX0_al hP hD hS hA hl.1 (K_valueAt l G h0 a (upd F 2 (nI sz)) R Z B J ((kN K q1 4 0).1) (fun q99 x99 => x99 = rep G a (kN K q1 4 0) q99) w x sz (by omega) hO) (gV pw_785 pw_57 pw_58 pw_59 pw_39) hV_X10_valueAt qr14 7 hqr15 rfl rfl rfl (Nat.le_of_ble_eq_true rfl) dX9_addDecl_13 ⟨(by show 1 + 0 ≤ 5; omega), (by show 13 + 0 ≤ 25; omega)⟩ ⟨Nat.le_of_ble_eq_true rfl, Nat.le_of_ble_eq_true rfl⟩ (fun v13 u11 H locs hw12 hP hD hS => ?_)
  obtain ⟨w, r16⟩ := u11
  obtain ⟨hw12, hO⟩ := hw12
  obtain rfl : v13 = some (.int r16) := hw12
  have hO : OKP G h0 a (upd F 2 (nI sz)) R Z B J (kN K q1 4 0) w := hO.to rfl
  refine W.widen (k := 1) (n := 13) (by show 1 + 0 ≤ 1; omega) (by show 13 + 0 ≤ 13; omega) ?_
  refine W.eq (g2 := F0 m 16 ls [.int r16, .int (nI nd), .ref q1, .ref q1]) rfl ?_
  refine lv_iload_n hx hb dX9_addDecl_16 rfl (lv_at hl 1 rfl) ?_
  refine lv_iload_n hx hb dX9_addDecl_17 rfl (lv_at hl 2 rfl) ?_
  have hO : OKP G h0 a (upd F 2 (nI sz)) R Z B J (kN K q1 4 0) w := hO.to rfl
  obtain ⟨qr20, hqr21⟩ := p_recv hO (by rw [hf10]; decide) (rep_4 hf10)
  refine pc_I0 (G := G) (As := [.int (nI nd), .int r16, .int x, .int (nI x4)]) (rest := [.ref q1]) hx hb hml hown hq hE hX pX0_al hP hD hS hA hl.1 (D_init l G h0 a (upd F 2 (nI sz)) R Z B J (kN K q1 4 0) w q1 (nI nd) r16 x x4 hf10 hx4 hO) pw_786 pw_787 pw_146 pw_410 rfl hS_X2_init rfl (Nat.le_of_ble_eq_true rfl) dX9_addDecl_18 ⟨(by show 1 + 4 ≤ 5; omega), (by show 13 + 12 ≤ 25; omega)⟩ ⟨Nat.le_of_ble_eq_true rfl, Nat.le_of_ble_eq_true rfl⟩ (fun v19 u17 H locs hw18 hP hD hS => ?_)
  obtain ⟨w, f22, f23, f24, f25⟩ := u17
  obtain ⟨hw18, h26, h27, h28, h29, hO⟩ := hw18
  have h26 : (kI (kI (kI (kI (kI (kN K q1 4 0) 15 q1 (nI nd)) 16 q1 r16) 17 q1 x) 18 q1 (nI x4)) 19 q1 (-1)).1 f22 = 0 := h26
  have h27 : (addL G (kI (kI (kI (kI (kI (kN K q1 4 0) 15 q1 (nI nd)) 16 q1 r16) 17 q1 x) 18 q1 (nI x4)) 19 q1 (-1)) q1 8 f22).1 f23 = 0 := h27
  have h28 : (addL G (addL G (kI (kI (kI (kI (kI (kN K q1 4 0) 15 q1 (nI nd)) 16 q1 r16) 17 q1 x) 18 q1 (nI x4)) 19 q1 (-1)) q1 8 f22) q1 9 f23).1 f24 = 0 := h28
  have h29 : (addL G (addL G (addL G (kI (kI (kI (kI (kI (kN K q1 4 0) 15 q1 (nI nd)) 16 q1 r16) 17 q1 x) 18 q1 (nI x4)) 19 q1 (-1)) q1 8 f22) q1 9 f23) q1 11 f24).1 f25 = 0 := h29
  obtain rfl : v19 = none := hw18
  have hO : OKP G h0 a (upd F 2 (nI sz)) R Z B J (addL G (addL G (addL G (addL G (kI (kI (kI (kI (kI (kN K q1 4 0) 15 q1 (nI nd)) 16 q1 r16) 17 q1 x) 18 q1 (nI x4)) 19 q1 (-1)) q1 8 f22) q1 9 f23) q1 11 f24) q1 12 f25) w := hO.to rfl
  refine W.widen (k := 5) (n := (13 + 12)) (by show 1 + 4 ≤ 5; omega) (by show 13 + 12 ≤ (13 + 12); omega) ?_
  refine W.eq (g2 := F0 m 21 ls [.ref q1]) rfl ?_
  change OKP G h0 a (upd F 2 (nI sz)) R Z B J (mkD G K q1 (nI nd) r16 x (nI x4) f22 f23 f24 f25) w at hO
  have hmd := WPr.decl (x1 := (nI nd)) (x2 := r16) (x3 := x) (x4 := (nI x4)) (bt := 0) hwp hq2 h26 h27 h28 h29 (fun z => absurd z (by decide))
  obtain ⟨K30, hK31⟩ : ∃ z : PK, z = (mkD G K q1 (nI nd) r16 x (nI x4) f22 f23 f24 f25) := ⟨_, rfl⟩
  rw [← hK31] at hO
  rw [← hK31] at hmd
  obtain ⟨hm1, hm2, hm3, hm4, hm5, hm6, hm7, hm8, hm9, hmg, hm10⟩ := hmd
  have hf32 : K30.1 pq = 7 := (hm2 pq (by rw [hp1]; decide)).1.1.trans hp1
  have hf33 : K30.1 dr = 8 := (hm2 dr (by rw [hp4]; decide)).1.1.trans hp4
  have hf34 : K30.1 ml = 5 := (hm2 ml (by rw [hp6]; decide)).1.1.trans hp6
  have hf35 : K30.2.2.1 18 pq = some (a 1) := ((hm2 pq (by rw [hp1]; decide)).1.2.2.1 18).trans hp2
  have hf36 : K30.2.2.1 14 pq = some dr := ((hm2 pq (by rw [hp1]; decide)).1.2.2.1 14).trans hp3
  have hf37 : K30.2.2.1 15 pq = some ml := ((hm2 pq (by rw [hp1]; decide)).1.2.2.1 15).trans hp5
  have hf38 : K30.2.1 24 pq = nI nd := ((hm2 pq (by rw [hp1]; decide)).1.2.1 24).trans hp8
  refine lv_astore_n (lv' := [(3, .ref q1), (0, .ref pq), (1, .int x), (2, .int (nI x4))]) hx hb dX9_addDecl_21 rfl hl (by decide) rfl (fun ls hl => ?_)
  refine lv_aload_n hx hb dX9_addDecl_22 rfl (lv_at hl 1 rfl) ?_
  refine p_get (v := .int (nI nd)) (C := RX9) (Tc := TX9) (N := 5) (ci := 6) hx hb hq pin_wsX90 hown hE hP hO (by rw [hf32]; decide) (rep_7 hf32) rfl 2 (by decide) (hq _ pw_14) (fun _ h9 => h9) (congrArg (fun z => some (Value.int z)) hf38) dX9_addDecl_23 ?_
  refine lv_aload_n hx hb dX9_addDecl_26 rfl (lv_at hl 1 rfl) ?_
  refine p_get (v := .ref dr) (C := RX9) (Tc := TX9) (N := 5) (ci := 6) hx hb hq pin_wsX90 hown hE hP hO (by rw [hf32]; decide) (rep_7 hf32) rfl 1 (by decide) (hq _ pw_15) (fun _ h9 => h9) (congrArg (fun z => some (va_rf z)) hf36) dX9_addDecl_27 ?_
  refine p_alen8 hx hb hE hP hO hf33 dX9_addDecl_30 ?_
  refine lv_icmp_ge (tgt := 54) hx hb dX9_addDecl_31 (by decide) (fun c39 => (by have n40 : 37 ≤ nd := (nI_leI (a := 37) (b := nd) (by omega) (by omega)).mp c39; omega)) (fun c39 => ?_)
  refine lv_aload_n hx hb dX9_addDecl_34 rfl (lv_at hl 1 rfl) ?_
  refine p_get (v := .ref dr) (C := RX9) (Tc := TX9) (N := 5) (ci := 6) hx hb hq pin_wsX90 hown hE hP hO (by rw [hf32]; decide) (rep_7 hf32) rfl 1 (by decide) (hq _ pw_15) (fun _ h9 => h9) (congrArg (fun z => some (va_rf z)) hf36) dX9_addDecl_35 ?_
  refine lv_aload_n hx hb dX9_addDecl_38 rfl (lv_at hl 1 rfl) ?_
  refine p_get (v := .int (nI nd)) (C := RX9) (Tc := TX9) (N := 5) (ci := 6) hx hb hq pin_wsX90 hown hE hP hO (by rw [hf32]; decide) (rep_7 hf32) rfl 2 (by decide) (hq _ pw_14) (fun _ h9 => h9) (congrArg (fun z => some (Value.int z)) hf38) dX9_addDecl_39 ?_
  refine lv_aload_n hx hb dX9_addDecl_42 rfl (lv_at hl 0 rfl) ?_
  refine p_ast8 (Tc := TX2) (N := 13) (ci := 2) hx hb hE hP hD hS hO hf33 (by rw [hm3]; decide) (rep_4 hm3) rfl (vp_in_nI (by omega) (by omega)) dX9_addDecl_43 (fun H locs w hP hD hS hO => ?_)
  rw [nI_clamp (show nd < 2 ^ 31 by omega)] at hO
  obtain ⟨K41, hK42⟩ : ∃ z : PK, z = (kE K30 dr (va_up (K30.2.2.2.2.1 dr) nd (some q1))) := ⟨_, rfl⟩
  rw [← hK42] at hO
  have hf43 : K41.1 q1 = 4 := (by rw [hK42]; exact hm3)
  have hf44 : K41.1 pq = 7 := (by rw [hK42]; exact hf32)
  have hf45 : K41.1 dr = 8 := (by rw [hK42]; exact hf33)
  have hf46 : K41.1 ml = 5 := (by rw [hK42]; exact hf34)
  have hf47 : K41.2.2.1 18 pq = some (a 1) := (by rw [hK42]; exact hf35)
  have hf48 : K41.2.2.1 14 pq = some dr := (by rw [hK42]; exact hf36)
  have hf49 : K41.2.2.1 15 pq = some ml := (by rw [hK42]; exact hf37)
  have hf50 : K41.2.1 24 pq = (nI nd) := (by rw [hK42]; exact hf38)
  refine lv_aload_n hx hb dX9_addDecl_44 rfl (lv_at hl 1 rfl) ?_
  refine lv_dup hx hb dX9_addDecl_45 rfl ?_
  refine p_get (v := .int (nI nd)) (C := RX9) (Tc := TX9) (N := 5) (ci := 6) hx hb hq pin_wsX90 hown hE hP hO (by rw [hf44]; decide) (rep_7 hf44) rfl 2 (by decide) (hq _ pw_14) (fun _ h9 => h9) (congrArg (fun z => some (Value.int z)) hf50) dX9_addDecl_46 ?_
  refine lv_iconst (v := 1) hx hb dX9_addDecl_49 (by decide) ?_
  refine lv_iadd hx hb dX9_addDecl_50 ?_
  refine lv_topi (fun x51 e52 => ?_)
  obtain rfl : x51 = nI (nd + 1) := e52.trans (nI_add (nd) (1))
  refine p_put (v := .int (nI (nd + 1))) (ty := .int) (C := RX9) (Tc := TX9) (N := 5) (ci := 6) (K' := (kI K41 24 pq (nI (nd + 1)))) hx hb hq pin_wsX90 tyX9 tyX9_ok nmX9 hown hE hP hD hS hO (by rw [hf44]; decide) (rep_7 hf44) rfl 2 (by decide) (hq _ pw_14) (fun _ h9 => h9) rfl (by decide +kernel) rfl rfl (Nat.le_of_ble_eq_true rfl) rfl (by rw [rep_7 (show (kI K41 24 pq (nI (nd + 1))).1 pq = 7 from hf44), pi_24] <;> rfl) (fun p9 hp9 => rep_kI hp9) dX9_addDecl_51 (fun H locs w hP hD hS hO => ?_)
  obtain ⟨K53, hK54⟩ : ∃ z : PK, z = (kI K41 24 pq (nI (nd + 1))) := ⟨_, rfl⟩
  rw [← hK54] at hO
  have hf55 : K53.1 q1 = 4 := (by rw [hK54]; exact hf43)
  have hf56 : K53.1 pq = 7 := (by rw [hK54]; exact hf44)
  have hf57 : K53.1 dr = 8 := (by rw [hK54]; exact hf45)
  have hf58 : K53.1 ml = 5 := (by rw [hK54]; exact hf46)
  have hf59 : K53.2.2.1 18 pq = some (a 1) := (by rw [hK54]; exact hf47)
  have hf60 : K53.2.2.1 14 pq = some dr := (by rw [hK54]; exact hf48)
  have hf61 : K53.2.2.1 15 pq = some ml := (by rw [hK54]; exact hf49)
  have hf62 : K53.2.1 24 pq = (nI (nd + 1)) := by rw [hK54]; exact kI_eq
  refine lv_aload_n hx hb dX9_addDecl_54 rfl (lv_at hl 0 rfl) ?_
  have hpu := PgS.push hps hwp hm2 hm10 hm1 hnd hm3 ⟨hm4, hmg.1.trans (show 0 = bti nd by unfold bti; rw [if_neg (by omega), if_neg (by omega)])⟩ ⟨hm6, hm8⟩ ⟨hm7, hm9⟩ hmg.2
  rw [← hK42, ← hK54] at hpu
  have hpz9 : PzK G K53 (gD g q1 f22 f23 f24 f25 0) nm it none := by rw [hK54, hK42]; exact PzK.kI (PzK.kE (PzK.push hpz hwp hm2 hm10 hm3 ⟨hm6, hm8⟩ ⟨hm7, hm9⟩) ((hm2 dr (by rw [hp4]; decide)).1.1.trans hp4)) (by decide)
  have hva9 : VaT K K53 := by rw [hK54, hK42]; exact VaT.decl hm2 hm10 hm3
  have hz63 : WPr G K53 (gD g q1 f22 f23 f24 f25 0) := hpu.2
  have hz64 : PgS G K53 (gD g q1 f22 f23 f24 f25 0) (a 1) pq dr ml (nd + 1) nm cp it s9 := hpu.1
  have hz65 : K53.1 q1 = 4 := hf55
  have hz66 : (gD g q1 f22 f23 f24 f25 0) 5 q1 = 0 := hmg.1
  have hz67 : PzK G K53 (gD g q1 f22 f23 f24 f25 0) nm it none := hpz9
  have hz68 : VaT K K53 := hva9
  have hO : OKP G h0 a (upd F 2 (nI sz)) R Z B J K53 w := hO.to rfl
  refine W.widen (k := 5) (n := 25) (by omega) (by omega) ?_
  exact W.aret (v := .ref q1) hx hb hr (Or.inl ⟨_, rfl⟩) (Or.inr ⟨_, rfl⟩) (fun t99 ht99 hW99 => ⟨⟨_, (w, (q1, K53, (gD g q1 f22 f23 f24 f25 0))), rfl, ⟨rfl, hz63, hz64, hz65, hz66, hz67, hz68, hO⟩, by rw [ht99]; exact hP, hD⟩, hS.F ht99⟩) hS.2.2 dX9_addDecl_55
