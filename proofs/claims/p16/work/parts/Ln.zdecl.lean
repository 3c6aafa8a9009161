set_option maxHeartbeats 2000000 in
set_option maxRecDepth 100000 in
theorem Y_declare (l : Launch) (G : pT) (h0 : Nat) (a : Nat → Nat) (F : Nat → Int32) (R : Nat → Value) (Z : Int64) (B : Nat → Nat → Int32) (J : Nat → Nat → Int64) (T : Nat → Nat) (Pi : Nat → va_E → Prop) (w : va_W) (x1 : Int32) (t9 : Nat) (vr : Nat) (hd : Nat) (dp : Nat) (sz : Nat) (nd : Nat) (c0 : Nat) (as9 : Int32) (sl : Nat → Nat) (hsz : sz ≤ 5000) (hvr : vr ≤ 30) (hhd : hd + 1 ≤ 1000) (hdp : dp ≤ 1000) (hen : EnV (B 26) (B 27) nd vr hd c0 sl) (htv : TyV nd t9) (hao : AsO as9) (hO : OKW G h0 a (upd (upd (upd (upd (upd F 2 (nI sz)) 7 (nI hd)) 8 (nI dp)) 12 (nI vr)) 13 as9) R Z B J T Pi w) (hl0 : l.stackTraces = false) : PBn l G pX0 yX0_declare cX0_declare 4 (some .int) ({ frames := 7, cells := 1, slots := 6, locals := 122 }) [.ref (a 4), .int x1, .int (nI t9)] w (fun (v : Option Value) (u : va_W × (Nat × Int32 × (Nat → Int32))) => v = some (.int (nI vr)) ∧ (vr + 1 ≤ 30) ∧ (u.2.1 ≤ 1000) ∧ (dp ≤ u.2.1 ∧ hd + 1 ≤ u.2.1 ∧ (u.2.1 = dp ∨ u.2.1 = hd + 1)) ∧ (AsO u.2.2.1 ∧ (u.2.2.1 = -1 ↔ as9 = -1)) ∧ (OKW G h0 a (upd (upd (upd (upd (upd F 2 (nI sz)) 7 (nI (hd + 1))) 8 (nI u.2.1)) 12 (nI (vr + 1))) 13 u.2.2.1) R Z (updA (updA (updA B 25 u.2.2.2) 26 (upd (B 26) vr (nI t9))) 27 (upd (B 27) vr (nI hd))) J T Pi u.1)) (fun u => u.1) (fun (u : va_W × (Nat × Int32 × (Nat → Int32))) => 0) (fun (u : va_W × (Nat × Int32 × (Nat → Int32))) => 0) (fun (u : va_W × (Nat → Int32) × (Nat → Value) × (Nat → Nat → Int32)) => ThQ G h0 a (upd (upd (upd (upd (upd F 2 (nI sz)) 7 (nI hd)) 8 (nI dp)) 12 (nI vr)) 13 as9) R Z B J u) (fun u => u.1) := by
  intro sz
  refine vx_ofW (cc := cX0_declare) (maxL := 4) (ret := (some .int)) (by decide) rfl ?_
  intro p e s m args below meth c s₁ B9 hml hnt hv
  obtain ⟨rfl, hsz, hP, hD0, hE, hX⟩ := hv
  have hx := B9.exec
  have hb := B9.bytes
  have hr := B9.returns
  have hts := atoms_spec (ws := Cond.code yX0_declare cX0_declare 4 (some .int) :: pw) B9.pre
  have hq : ∀ w ∈ pw, w.before _ s = true := fun w h => hts w (List.mem_cons_of_mem _ h)
  have hown : s.vm.findClass RX0 = some m.cls := findClass_of_methodNamed B9.named
  have hlocks := B9.notSynchronized
  subst hsz
  have hD := hD0.self (sz := s.heap.size)
  have hA : ∀ q : Nat, s.heap.size ≤ q → va_A w s.heap.size q := fun q h => Or.inr h
  generalize va_A w s.heap.size = A at hD hE hA ⊢
  have hS : va_S A s.heap s.heap [] := va_S.rf
  have hl := lv_entry ([.ref (a 4), .int x1, .int (nI t9)]) (n := 4) (Nat.le_of_ble_eq_true rfl)
  rw [lg_entry_eq]
  generalize (lg_sl ([.ref (a 4), .int x1, .int (nI t9)]) ++ List.replicate (4 - (lg_sl ([.ref (a 4), .int x1, .int (nI t9)])).length) Slot.unset).toArray = ls at hl ⊢
  have hl : lv_has ls 4 [(0, .ref (a 4)), (1, .int x1), (2, .int (nI t9))] := hl
  refine lv_aload_n hx hb dX0_declare_0 rfl (lv_at hl 0 rfl) ?_
  refine c_get (v := .ref (a 1)) (C := RX0) (Tc := TX0) (N := 13) (ci := 0) hx hb hq pin_wsX00 hown hE hP hO 24 (sg_24 G h0 a _ _ _ _ _) rfl 0 (by decide) (hq _ pw_4) (fun _ h9 => h9) rfl dX0_declare_1 ?_
  refine lv_iload_n hx hb dX0_declare_4 rfl (lv_at hl 1 rfl) ?_
  have hO : OKW G h0 a (upd (upd (upd (upd (upd (upd F 2 (nI sz)) 7 (nI hd)) 8 (nI dp)) 12 (nI vr)) 13 as9) 2 (nI sz)) R Z B J T Pi w := hO.to rfl
  obtain ⟨_, qr4, hqr5⟩ := hO.2.1 2 _ (sg_2 G h0 a _ _ _ _ _)
  refine pc_V0 (G := G) (As := [.int x1]) (rest := []) hx hb hml hown hq hE hX pX0_al hP hD hS hA hl.1 (Y_valueAt l G h0 a (upd (upd (upd (upd (upd F 2 (nI sz)) 7 (nI hd)) 8 (nI dp)) 12 (nI vr)) 13 as9) R Z B J T Pi w x1 sz (by omega) hO) (gV pw_56 pw_57 pw_58 pw_59 pw_39) hV_X10_valueAt qr4 7 hqr5 rfl rfl rfl (Nat.le_of_ble_eq_true rfl) dX0_declare_5 ⟨(by show 0 + 0 ≤ 1; omega), (by show 0 + 0 ≤ 6; omega)⟩ ⟨Nat.le_of_ble_eq_true rfl, Nat.le_of_ble_eq_true rfl⟩ (fun v3 u1 H locs hw2 hP hD hS => ?_)
  obtain ⟨w, _⟩ := u1
  obtain ⟨hw2, hO⟩ := hw2
  obtain rfl : v3 = some (.int (tkN ((B 9)) sz (-1) x1)) := hw2
  have hO : OKW G h0 a (upd (upd (upd (upd (upd F 2 (nI sz)) 7 (nI hd)) 8 (nI dp)) 12 (nI vr)) 13 as9) R Z B J T Pi w := hO.to rfl
  refine W.widen (k := 0) (n := 0) (Nat.le_of_ble_eq_true rfl) (Nat.le_of_ble_eq_true rfl) ?_
  refine W.eq (g2 := F0 m 8 ls [.int (tkN ((B 9)) sz (-1) x1)]) rfl ?_
  refine lv_istore_n (lv' := [(3, .int (tkN ((B 9)) sz (-1) x1)), (0, .ref (a 4)), (1, .int x1), (2, .int (nI t9))]) hx hb dX0_declare_8 rfl hl (by decide) rfl (fun ls hl => ?_)
  refine lv_aload_n hx hb dX0_declare_9 rfl (lv_at hl 1 rfl) ?_
  refine c_get (v := .int (nI vr)) (C := RX0) (Tc := TX0) (N := 13) (ci := 0) hx hb hq pin_wsX00 hown hE hP hO 24 (sg_24 G h0 a _ _ _ _ _) rfl 5 (by decide) (hq _ pw_42) (fun _ h9 => h9) rfl dX0_declare_10 ?_
  refine lv_bipush (v := 30) hx hb dX0_declare_13 (by decide) ?_
  refine lv_icmp_ge (tgt := 27) hx hb dX0_declare_15 (by decide) (fun c6 => ?_) (fun c6 => ?_)
  · have n7 : 30 ≤ vr := (nI_leI (a := 30) (b := vr) (by omega) (by omega)).mp c6
    refine lv_aload_n hx hb dX0_declare_27 rfl (lv_at hl 1 rfl) ?_
    refine c_get (v := .ref (a 1)) (C := RX0) (Tc := TX0) (N := 13) (ci := 0) hx hb hq pin_wsX00 hown hE hP hO 24 (sg_24 G h0 a _ _ _ _ _) rfl 0 (by decide) (hq _ pw_4) (fun _ h9 => h9) rfl dX0_declare_28 ?_
    refine lv_bipush (v := 14) hx hb dX0_declare_31 (by decide) ?_
    refine lv_iload_n hx hb dX0_declare_33 rfl (lv_at hl 2 rfl) ?_
    have hO : OKW G h0 a (upd (upd (upd (upd (upd (upd F 2 (nI sz)) 7 (nI hd)) 8 (nI dp)) 12 (nI vr)) 13 as9) 2 (nI sz)) R Z B J T Pi w := hO.to rfl
    obtain ⟨_, qr11, hqr12⟩ := hO.2.1 2 _ (sg_2 G h0 a _ _ _ _ _)
    refine pn_V0 (G := G) (As := [.int 14, .int x1]) (rest := []) hx hb hml hown hq hE hX pX0_al hP hD hS hA hl.1 (K_fail l G h0 a (upd (upd (upd (upd (upd F 2 (nI sz)) 7 (nI hd)) 8 (nI dp)) 12 (nI vr)) 13 as9) R Z B J T Pi w 14 x1 sz (by omega) hO hl0) (gV pw_64 pw_65 pw_66 pw_59 pw_43) hV_X10_fail qr11 7 hqr12 rfl rfl rfl (Nat.le_of_ble_eq_true rfl) dX0_declare_34 ⟨(by show 0 + 1 ≤ 1; omega), (by show 0 + 6 ≤ 6; omega)⟩ ⟨Nat.le_of_ble_eq_true rfl, Nat.le_of_ble_eq_true rfl⟩ (fun v10 u8 H locs hw9 hP hD hS => hw9.elim) (fun ux ce9 q9 H9 locs9 hux hP9 hD9 hS9 hce hcv hcl => pb_out ux (ThQ.up (Thx.same Thx.rfl rfl) RhX.rfl hux) hnt hlocks hce hcv hcl hP9 hD9 hS9 (by show 0 + 1 ≤ 1; omega) (by show 0 + 6 ≤ 6; omega))
  · have n13 : ¬ (30 ≤ vr) := fun h9 => c6 ((nI_leI (a := 30) (b := vr) (by omega) (by omega)).mpr h9)
    refine lv_aload_n hx hb dX0_declare_18 rfl (lv_at hl 1 rfl) ?_
    refine lv_iload_n hx hb dX0_declare_19 rfl (lv_at hl 0 rfl) ?_
    have hO : OKW G h0 a (upd (upd (upd (upd (upd (upd F 2 (nI sz)) 7 (nI hd)) 8 (nI dp)) 12 (nI vr)) 13 as9) 12 (nI vr)) R Z B J T Pi w := hO.to rfl
    obtain ⟨_, qr17, hqr18⟩ := hO.2.1 24 _ (sg_24 G h0 a _ _ _ _ _)
    refine pc_V0 (G := G) (As := [.int (tkN ((B 9)) sz (-1) x1)]) (rest := []) hx hb hml hown hq hE hX pX0_al hP hD hS hA hl.1 (B_variable l G h0 a (upd (upd (upd (upd (upd F 2 (nI sz)) 7 (nI hd)) 8 (nI dp)) 12 (nI vr)) 13 as9) R Z B J T Pi w (tkN ((B 9)) sz (-1) x1) vr (by omega) hO) (gV pw_60 pw_61 pw_62 pw_63 pw_41) hV_X0_variable qr17 0 hqr18 rfl rfl rfl (Nat.le_of_ble_eq_true rfl) dX0_declare_20 ⟨(by show 0 + 0 ≤ 1; omega), (by show 0 + 0 ≤ 6; omega)⟩ ⟨Nat.le_of_ble_eq_true rfl, Nat.le_of_ble_eq_true rfl⟩ (fun v16 u14 H locs hw15 hP hD hS => ?_)
    obtain ⟨w, r19⟩ := u14
    obtain ⟨hw15, h20, hO⟩ := hw15
    have h20 : VrQ vr r19 := h20
    obtain rfl : v16 = some (.int r19) := hw15
    have hO : OKW G h0 a (upd (upd (upd (upd (upd F 2 (nI sz)) 7 (nI hd)) 8 (nI dp)) 12 (nI vr)) 13 as9) R Z B J T Pi w := hO.to rfl
    refine W.widen (k := 0) (n := 0) (Nat.le_of_ble_eq_true rfl) (Nat.le_of_ble_eq_true rfl) ?_
    refine W.eq (g2 := F0 m 23 ls [.int r19]) rfl ?_
    refine lv_iconst (v := (-1)) hx hb dX0_declare_23 (by decide) ?_
    refine lv_icmp_eq (tgt := 39) hx hb dX0_declare_24 (by decide) (fun c21 => ?_) (fun c21 => ?_)
    · refine lv_aload_n hx hb dX0_declare_39 rfl (lv_at hl 1 rfl) ?_
      refine c_get (v := .ref (a 25)) (C := RX0) (Tc := TX0) (N := 13) (ci := 0) hx hb hq pin_wsX00 hown hE hP hO 24 (sg_24 G h0 a _ _ _ _ _) rfl 2 (by decide) (hq _ pw_7) (fun _ h9 => h9) rfl dX0_declare_40 ?_
      refine lv_aload_n hx hb dX0_declare_43 rfl (lv_at hl 1 rfl) ?_
      refine c_get (v := .int (nI vr)) (C := RX0) (Tc := TX0) (N := 13) (ci := 0) hx hb hq pin_wsX00 hown hE hP hO 24 (sg_24 G h0 a _ _ _ _ _) rfl 5 (by decide) (hq _ pw_42) (fun _ h9 => h9) rfl dX0_declare_44 ?_
      refine lv_iload_n hx hb dX0_declare_47 rfl (lv_at hl 0 rfl) ?_
      refine c_sti (f := (B 25)) (n := 30) (t0 := 0) hx hb hE hP hD hS hO 25 (sg_25 G h0 a _ _ _ _ _) rfl (vp_in_nI (by omega) (by decide)) (sb_25 G h0 a _ _ _ _ _ _) dX0_declare_48 (fun H locs w hP hD hS hO => ?_)
      rw [(nI_clamp (show vr < 2 ^ 31 by omega))] at hO
      refine lv_aload_n hx hb dX0_declare_49 rfl (lv_at hl 1 rfl) ?_
      refine c_get (v := .ref (a 26)) (C := RX0) (Tc := TX0) (N := 13) (ci := 0) hx hb hq pin_wsX00 hown hE hP hO 24 (sg_24 G h0 a _ _ _ _ _) rfl 3 (by decide) (hq _ pw_8) (fun _ h9 => h9) rfl dX0_declare_50 ?_
      refine lv_aload_n hx hb dX0_declare_53 rfl (lv_at hl 1 rfl) ?_
      refine c_get (v := .int (nI vr)) (C := RX0) (Tc := TX0) (N := 13) (ci := 0) hx hb hq pin_wsX00 hown hE hP hO 24 (sg_24 G h0 a _ _ _ _ _) rfl 5 (by decide) (hq _ pw_42) (fun _ h9 => h9) rfl dX0_declare_54 ?_
      refine lv_iload_n hx hb dX0_declare_57 rfl (lv_at hl 3 rfl) ?_
      refine c_sti (f := (B 26)) (n := 30) (t0 := 0) hx hb hE hP hD hS hO 26 (sg_26 G h0 a _ _ _ _ _) rfl (vp_in_nI (by omega) (by decide)) (sb_26 G h0 a _ _ _ _ _ _) dX0_declare_58 (fun H locs w hP hD hS hO => ?_)
      rw [(nI_clamp (show vr < 2 ^ 31 by omega))] at hO
      refine lv_aload_n hx hb dX0_declare_59 rfl (lv_at hl 1 rfl) ?_
      refine c_get (v := .ref (a 27)) (C := RX0) (Tc := TX0) (N := 13) (ci := 0) hx hb hq pin_wsX00 hown hE hP hO 24 (sg_24 G h0 a _ _ _ _ _) rfl 4 (by decide) (hq _ pw_9) (fun _ h9 => h9) rfl dX0_declare_60 ?_
      refine lv_aload_n hx hb dX0_declare_63 rfl (lv_at hl 1 rfl) ?_
      refine c_get (v := .int (nI vr)) (C := RX0) (Tc := TX0) (N := 13) (ci := 0) hx hb hq pin_wsX00 hown hE hP hO 24 (sg_24 G h0 a _ _ _ _ _) rfl 5 (by decide) (hq _ pw_42) (fun _ h9 => h9) rfl dX0_declare_64 ?_
      refine lv_aload_n hx hb dX0_declare_67 rfl (lv_at hl 1 rfl) ?_
      refine c_get (v := .ref (a 2)) (C := RX0) (Tc := TX0) (N := 13) (ci := 0) hx hb hq pin_wsX00 hown hE hP hO 24 (sg_24 G h0 a _ _ _ _ _) rfl 1 (by decide) (hq _ pw_5) (fun _ h9 => h9) rfl dX0_declare_68 ?_
      refine c_get (v := .int (nI hd)) (C := RX1) (Tc := TX1) (N := 13) (ci := 1) hx hb hq pin_wsX10 hown hE hP hO 13 (sg_13 G h0 a _ _ _ _ _) rfl 11 (by decide) (hq _ pw_54) (fun _ h9 => h9) rfl dX0_declare_71 ?_
      refine c_sti (f := (B 27)) (n := 30) (t0 := 0) hx hb hE hP hD hS hO 27 (sg_27 G h0 a _ _ _ _ _) rfl (vp_in_nI (by omega) (by decide)) (sb_27 G h0 a _ _ _ _ _ _) dX0_declare_74 (fun H locs w hP hD hS hO => ?_)
      rw [(nI_clamp (show vr < 2 ^ 31 by omega))] at hO
      refine lv_aload_n hx hb dX0_declare_75 rfl (lv_at hl 1 rfl) ?_
      refine c_get (v := .ref (a 2)) (C := RX0) (Tc := TX0) (N := 13) (ci := 0) hx hb hq pin_wsX00 hown hE hP hO 24 (sg_24 G h0 a _ _ _ _ _) rfl 1 (by decide) (hq _ pw_5) (fun _ h9 => h9) rfl dX0_declare_76 ?_
      refine lv_iconst (v := 1) hx hb dX0_declare_79 (by decide) ?_
      have hO : OKW G h0 a (upd (upd (upd (upd (upd (upd (upd F 2 (nI sz)) 7 (nI hd)) 8 (nI dp)) 12 (nI vr)) 13 as9) 7 (nI hd)) 8 (nI dp)) R Z (updA (updA (updA B 25 (upd (B 25) vr (tkN ((B 9)) sz (-1) x1))) 26 (upd (B 26) vr (nI t9))) 27 (upd (B 27) vr (nI hd))) J T Pi w := hO.to rfl
      obtain ⟨_, qr25, hqr26⟩ := hO.2.1 13 _ (sg_13 G h0 a _ _ _ _ _)
      refine pc_V0 (G := G) (As := [.int (nI 1)]) (rest := []) hx hb hml hown hq hE hX pX0_al hP hD hS hA hl.1 (Y_hold l G h0 a (upd (upd (upd (upd (upd F 2 (nI sz)) 7 (nI hd)) 8 (nI dp)) 12 (nI vr)) 13 as9) R Z (updA (updA (updA B 25 (upd (B 25) vr (tkN ((B 9)) sz (-1) x1))) 26 (upd (B 26) vr (nI t9))) 27 (upd (B 27) vr (nI hd))) J T Pi w 1 hd dp (by omega) (by omega) hO) (gV pw_67 pw_68 pw_69 pw_70 pw_49) hV_X1_hold qr25 1 hqr26 rfl rfl rfl (Nat.le_of_ble_eq_true rfl) dX0_declare_80 ⟨(by show 0 + 0 ≤ 1; omega), (by show 0 + 0 ≤ 6; omega)⟩ ⟨Nat.le_of_ble_eq_true rfl, Nat.le_of_ble_eq_true rfl⟩ (fun v24 u22 H locs hw23 hP hD hS => ?_)
      obtain ⟨w, dp27⟩ := u22
      obtain ⟨hw23, h28, h29, hO⟩ := hw23
      have h28 : dp27 ≤ 1000 := h28
      have h29 : dp ≤ dp27 ∧ hd + 1 ≤ dp27 ∧ (dp27 = dp ∨ dp27 = hd + 1) := h29
      obtain rfl : v24 = none := hw23
      have hO : OKW G h0 a (upd (upd (upd (upd (upd F 2 (nI sz)) 7 (nI (hd + 1))) 8 (nI dp27)) 12 (nI vr)) 13 as9) R Z (updA (updA (updA B 25 (upd (B 25) vr (tkN ((B 9)) sz (-1) x1))) 26 (upd (B 26) vr (nI t9))) 27 (upd (B 27) vr (nI hd))) J T Pi w := hO.to rfl
      refine W.widen (k := 0) (n := 0) (Nat.le_of_ble_eq_true rfl) (Nat.le_of_ble_eq_true rfl) ?_
      refine W.eq (g2 := F0 m 83 ls []) rfl ?_
      refine lv_aload_n hx hb dX0_declare_83 rfl (lv_at hl 1 rfl) ?_
      refine c_get (v := .int as9) (C := RX0) (Tc := TX0) (N := 13) (ci := 0) hx hb hq pin_wsX00 hown hE hP hO 24 (sg_24 G h0 a _ _ _ _ _) rfl 8 (by decide) (hq _ pw_55) (fun _ h9 => h9) rfl dX0_declare_84 ?_
      refine lv_iconst (v := (-1)) hx hb dX0_declare_87 (by decide) ?_
      refine lv_icmp_eq (tgt := 108) hx hb dX0_declare_88 (by decide) (fun c30 => ?_) (fun c30 => ?_)
      · refine lv_aload_n hx hb dX0_declare_108 rfl (lv_at hl 1 rfl) ?_
        refine lv_dup hx hb dX0_declare_109 rfl ?_
        refine c_get (v := .int (nI vr)) (C := RX0) (Tc := TX0) (N := 13) (ci := 0) hx hb hq pin_wsX00 hown hE hP hO 24 (sg_24 G h0 a _ _ _ _ _) rfl 5 (by decide) (hq _ pw_42) (fun _ h9 => h9) rfl dX0_declare_110 ?_
        refine lv_iconst (v := 1) hx hb dX0_declare_113 (by decide) ?_
        refine lv_iadd hx hb dX0_declare_114 ?_
        refine lv_topi (fun x31 e32 => ?_)
        obtain rfl : x31 = nI (vr + 1) := e32.trans (nI_add (vr) (1))
        refine c_put (v := .int (nI (vr + 1))) (ty := .int) (C := RX0) (Tc := TX0) (N := 13) (ci := 0) hx hb hq pin_wsX00 tyX0 tyX0_ok nmX0 hown hE hP hD hS hO 24 (sg_24 G h0 a _ _ _ _ _) rfl 5 (by decide) (hq _ pw_42) (fun _ h9 => h9) rfl (by decide +kernel) rfl rfl (Nat.le_of_ble_eq_true rfl) (sf_12 G h0 a _ _ _ _ _ (nI (vr + 1))) dX0_declare_115 (fun H locs w hP hD hS hO => ?_)
        refine lv_aload_n hx hb dX0_declare_118 rfl (lv_at hl 1 rfl) ?_
        refine c_get (v := .int (nI (vr + 1))) (C := RX0) (Tc := TX0) (N := 13) (ci := 0) hx hb hq pin_wsX00 hown hE hP hO 24 (sg_24 G h0 a _ _ _ _ _) rfl 5 (by decide) (hq _ pw_42) (fun _ h9 => h9) rfl dX0_declare_119 ?_
        refine lv_iconst (v := 1) hx hb dX0_declare_122 (by decide) ?_
        refine lv_isub hx hb dX0_declare_123 ?_
        refine lv_topi (fun x33 e34 => ?_)
        obtain rfl : x33 = nI ((vr + 1) - 1) := e34.trans (nI_subN (a := 1) (b := (vr + 1)) (by omega))
        refine W_size (fun hz1 hz2 => ?_)
        refine vx_ret ?_
        have hz35 : vr + 1 ≤ 30 := (by omega)
        have hz36 : dp27 ≤ 1000 := (by omega)
        have hz37 : dp ≤ dp27 ∧ hd + 1 ≤ dp27 ∧ (dp27 = dp ∨ dp27 = hd + 1) := h29
        have hz38 : AsO as9 ∧ (as9 = -1 ↔ as9 = -1) := ⟨hao, Iff.rfl⟩
        have hO : OKW G h0 a (upd (upd (upd (upd (upd F 2 (nI sz)) 7 (nI (hd + 1))) 8 (nI dp27)) 12 (nI (vr + 1))) 13 as9) R Z (updA (updA (updA B 25 (upd (B 25) vr (tkN ((B 9)) sz (-1) x1))) 26 (upd (B 26) vr (nI t9))) 27 (upd (B 27) vr (nI hd))) J T Pi w := hO.to rfl
        refine W.widen (k := 1) (n := 6) (by omega) (by omega) ?_
        have hzz1 : H.size ≤ s.heap.size + (0) := (by have z : 0 ≤ 0 := (by omega); omega)
        have hzz2 : hSl H ≤ hSl s.heap + (0) := (by have z : 0 ≤ 0 := (by omega); omega)
        exact W.iret (v := (nI ((vr + 1) - 1))) hx hb hr (fun t99 ht99 hW99 => ⟨⟨_, (w, (dp27, as9, (upd (B 25) vr (tkN ((B 9)) sz (-1) x1)))), rfl, ⟨(congrArg (fun z => some (Value.int z)) (congrArg nI (by omega))), hz35, hz36, hz37, hz38, hO⟩, by rw [ht99]; exact hP, hD, by rw [ht99]; exact hzz1, by rw [ht99]; exact hzz2⟩, hS.F ht99⟩) hS.2.2 dX0_declare_124
      · refine lv_aload_n hx hb dX0_declare_91 rfl (lv_at hl 1 rfl) ?_
        refine lv_dup hx hb dX0_declare_92 rfl ?_
        refine c_get (v := .int as9) (C := RX0) (Tc := TX0) (N := 13) (ci := 0) hx hb hq pin_wsX00 hown hE hP hO 24 (sg_24 G h0 a _ _ _ _ _) rfl 8 (by decide) (hq _ pw_55) (fun _ h9 => h9) rfl dX0_declare_93 ?_
        refine lv_iconst (v := 1) hx hb dX0_declare_96 (by decide) ?_
        refine lv_aload_n hx hb dX0_declare_97 rfl (lv_at hl 1 rfl) ?_
        refine c_get (v := .int (nI vr)) (C := RX0) (Tc := TX0) (N := 13) (ci := 0) hx hb hq pin_wsX00 hown hE hP hO 24 (sg_24 G h0 a _ _ _ _ _) rfl 5 (by decide) (hq _ pw_42) (fun _ h9 => h9) rfl dX0_declare_98 ?_
        refine lv_ishl hx hb dX0_declare_101 ?_
        refine lv_topi (fun x39 e40 => ?_)
        refine lv_iconst (v := (-1)) hx hb dX0_declare_102 (by decide) ?_
        refine lv_ixor hx hb dX0_declare_103 ?_
        refine lv_topi (fun x41 e42 => ?_)
        refine lv_iand hx hb dX0_declare_104 ?_
        refine lv_topi (fun x43 e44 => ?_)
        obtain rfl : x43 = (as9 &&& x41) := e44
        refine c_put (v := .int (as9 &&& x41)) (ty := .int) (C := RX0) (Tc := TX0) (N := 13) (ci := 0) hx hb hq pin_wsX00 tyX0 tyX0_ok nmX0 hown hE hP hD hS hO 24 (sg_24 G h0 a _ _ _ _ _) rfl 8 (by decide) (hq _ pw_55) (fun _ h9 => h9) rfl (by decide +kernel) rfl rfl (Nat.le_of_ble_eq_true rfl) (sf_13 G h0 a _ _ _ _ _ (as9 &&& x41)) dX0_declare_105 (fun H locs w hP hD hS hO => ?_)
        refine lv_aload_n hx hb dX0_declare_108 rfl (lv_at hl 1 rfl) ?_
        refine lv_dup hx hb dX0_declare_109 rfl ?_
        refine c_get (v := .int (nI vr)) (C := RX0) (Tc := TX0) (N := 13) (ci := 0) hx hb hq pin_wsX00 hown hE hP hO 24 (sg_24 G h0 a _ _ _ _ _) rfl 5 (by decide) (hq _ pw_42) (fun _ h9 => h9) rfl dX0_declare_110 ?_
        refine lv_iconst (v := 1) hx hb dX0_declare_113 (by decide) ?_
        refine lv_iadd hx hb dX0_declare_114 ?_
        refine lv_topi (fun x45 e46 => ?_)
        obtain rfl : x45 = nI (vr + 1) := e46.trans (nI_add (vr) (1))
        refine c_put (v := .int (nI (vr + 1))) (ty := .int) (C := RX0) (Tc := TX0) (N := 13) (ci := 0) hx hb hq pin_wsX00 tyX0 tyX0_ok nmX0 hown hE hP hD hS hO 24 (sg_24 G h0 a _ _ _ _ _) rfl 5 (by decide) (hq _ pw_42) (fun _ h9 => h9) rfl (by decide +kernel) rfl rfl (Nat.le_of_ble_eq_true rfl) (sf_12 G h0 a _ _ _ _ _ (nI (vr + 1))) dX0_declare_115 (fun H locs w hP hD hS hO => ?_)
        refine lv_aload_n hx hb dX0_declare_118 rfl (lv_at hl 1 rfl) ?_
        refine c_get (v := .int (nI (vr + 1))) (C := RX0) (Tc := TX0) (N := 13) (ci := 0) hx hb hq pin_wsX00 hown hE hP hO 24 (sg_24 G h0 a _ _ _ _ _) rfl 5 (by decide) (hq _ pw_42) (fun _ h9 => h9) rfl dX0_declare_119 ?_
        refine lv_iconst (v := 1) hx hb dX0_declare_122 (by decide) ?_
        refine lv_isub hx hb dX0_declare_123 ?_
        refine lv_topi (fun x47 e48 => ?_)
        obtain rfl : x47 = nI ((vr + 1) - 1) := e48.trans (nI_subN (a := 1) (b := (vr + 1)) (by omega))
        refine W_size (fun hz1 hz2 => ?_)
        refine vx_ret ?_
        have hz49 : vr + 1 ≤ 30 := (by omega)
        have hz50 : dp27 ≤ 1000 := (by omega)
        have hz51 : dp ≤ dp27 ∧ hd + 1 ≤ dp27 ∧ (dp27 = dp ∨ dp27 = hd + 1) := h29
        have hz52 : AsO (as9 &&& x41) ∧ ((as9 &&& x41) = -1 ↔ as9 = -1) := (by have z9 := AsO.andl (x := x41) hao c30; exact ⟨z9.1, fun e9 => absurd e9 z9.2, fun e9 => absurd e9 c30⟩)
        have hO : OKW G h0 a (upd (upd (upd (upd (upd F 2 (nI sz)) 7 (nI (hd + 1))) 8 (nI dp27)) 12 (nI (vr + 1))) 13 (as9 &&& x41)) R Z (updA (updA (updA B 25 (upd (B 25) vr (tkN ((B 9)) sz (-1) x1))) 26 (upd (B 26) vr (nI t9))) 27 (upd (B 27) vr (nI hd))) J T Pi w := hO.to rfl
        refine W.widen (k := 1) (n := 6) (by omega) (by omega) ?_
        have hzz1 : H.size ≤ s.heap.size + (0) := (by have z : 0 ≤ 0 := (by omega); omega)
        have hzz2 : hSl H ≤ hSl s.heap + (0) := (by have z : 0 ≤ 0 := (by omega); omega)
        exact W.iret (v := (nI ((vr + 1) - 1))) hx hb hr (fun t99 ht99 hW99 => ⟨⟨_, (w, (dp27, (as9 &&& x41), (upd (B 25) vr (tkN ((B 9)) sz (-1) x1)))), rfl, ⟨(congrArg (fun z => some (Value.int z)) (congrArg nI (by omega))), hz49, hz50, hz51, hz52, hO⟩, by rw [ht99]; exact hP, hD, by rw [ht99]; exact hzz1, by rw [ht99]; exact hzz2⟩, hS.F ht99⟩) hS.2.2 dX0_declare_124
    · refine lv_aload_n hx hb dX0_declare_27 rfl (lv_at hl 1 rfl) ?_
      refine c_get (v := .ref (a 1)) (C := RX0) (Tc := TX0) (N := 13) (ci := 0) hx hb hq pin_wsX00 hown hE hP hO 24 (sg_24 G h0 a _ _ _ _ _) rfl 0 (by decide) (hq _ pw_4) (fun _ h9 => h9) rfl dX0_declare_28 ?_
      refine lv_bipush (v := 14) hx hb dX0_declare_31 (by decide) ?_
      refine lv_iload_n hx hb dX0_declare_33 rfl (lv_at hl 2 rfl) ?_
      have hO : OKW G h0 a (upd (upd (upd (upd (upd (upd F 2 (nI sz)) 7 (nI hd)) 8 (nI dp)) 12 (nI vr)) 13 as9) 2 (nI sz)) R Z B J T Pi w := hO.to rfl
      obtain ⟨_, qr56, hqr57⟩ := hO.2.1 2 _ (sg_2 G h0 a _ _ _ _ _)
      refine pn_V0 (G := G) (As := [.int 14, .int x1]) (rest := []) hx hb hml hown hq hE hX pX0_al hP hD hS hA hl.1 (K_fail l G h0 a (upd (upd (upd (upd (upd F 2 (nI sz)) 7 (nI hd)) 8 (nI dp)) 12 (nI vr)) 13 as9) R Z B J T Pi w 14 x1 sz (by omega) hO hl0) (gV pw_64 pw_65 pw_66 pw_59 pw_43) hV_X10_fail qr56 7 hqr57 rfl rfl rfl (Nat.le_of_ble_eq_true rfl) dX0_declare_34 ⟨(by show 0 + 1 ≤ 1; omega), (by show 0 + 6 ≤ 6; omega)⟩ ⟨Nat.le_of_ble_eq_true rfl, Nat.le_of_ble_eq_true rfl⟩ (fun v55 u53 H locs hw54 hP hD hS => hw54.elim) (fun ux ce9 q9 H9 locs9 hux hP9 hD9 hS9 hce hcv hcl => pb_out ux (ThQ.up (Thx.same Thx.rfl rfl) RhX.rfl hux) hnt hlocks hce hcv hcl hP9 hD9 hS9 (by show 0 + 1 ≤ 1; omega) (by show 0 + 6 ≤ 6; omega))
