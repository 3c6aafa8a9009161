theorem BdE.T9 {K K1 : PK} {p : Nat} (h : BdE K K1) (hp : ¬ K.1 p = 0) : K1.2.2.2.2.1 p = K.2.2.2.2.1 p := (h.1 p hp).2.2.2.2.1
set_option maxHeartbeats 16000000 in
set_option maxRecDepth 100000 in
theorem Y_fieldType (l : Launch) (G : pT) (h0 : Nat) (a : Nat → Nat) (F : Nat → Int32) (R : Nat → Value) (Z : Int64) (B : Nat → Nat → Int32) (J : Nat → Nat → Int64) (K : PK) (w : va_W) (d0 : Nat) (q : Nat) (sz : Nat) (dr : Nat) (nd : Nat) (c9 : Nat) (g : Nat → Nat → Nat) (pb : PNb) (hsz : sz ≤ 5000) (hd0 : K.1 d0 = 4) (hqT : K.1 q = 1) (hkq : ¬ K.2.1 0 q = 36) (hc9 : c9 < nd) (hrw : K.2.2.2.2.1 dr c9 = some d0) (hna : NaB pb G K (B 11) dr nd sz) (hO : OKP G h0 a (upd F 2 (nI sz)) R Z B J K w) (hl0 : l.stackTraces = false) : PBn l G pX0 yX0_fieldType cX0_fieldType 4 (some .int) ({ frames := 7, cells := 1, slots := 6, locals := 146 }) [.ref (a 4), .ref d0, .ref q] w (fun (v : Option Value) (u : va_W × (PK × Nat × Nat)) => v = some (.int (nI u.2.2.1)) ∧ (BdE K u.2.1) ∧ (BeF K u.2.1) ∧ (BeL K u.2.1 none) ∧ (BeI K u.2.1 g q) ∧ (u.2.1.2.1 5 q = nI u.2.2.2) ∧ (u.2.2.2 < pb.2.1 c9 ∧ u.2.2.2 < 5000) ∧ (pb.2.2.1 c9 u.2.2.2 = tyc u.2.2.1) ∧ (TyV nd u.2.2.1) ∧ (u.2.2.1 < 128) ∧ (OKP G h0 a (upd F 2 (nI sz)) R Z B J u.2.1 u.1)) (fun u => u.1) (fun (u : va_W × (PK × Nat × Nat)) => 0) (fun (u : va_W × (PK × Nat × Nat)) => 0) (fun (u : va_W × (Nat → Int32) × (Nat → Value) × (Nat → Nat → Int32)) => ThQ G h0 a (upd F 2 (nI sz)) R Z B J u) (fun u => u.1) := by
  intro sz
  refine vx_ofW (cc := cX0_fieldType) (maxL := 4) (ret := (some .int)) (by decide) rfl ?_
  intro p e s m args below meth c s₁ B9 hml hnt hv
  obtain ⟨rfl, hsz, hP, hD0, hE, hX⟩ := hv
  have hx := B9.exec
  have hb := B9.bytes
  have hr := B9.returns
  have hts := atoms_spec (ws := Cond.code yX0_fieldType cX0_fieldType 4 (some .int) :: pw) B9.pre
  have hq : ∀ w ∈ pw, w.before _ s = true := fun w h => hts w (List.mem_cons_of_mem _ h)
  have hown : s.vm.findClass RX0 = some m.cls := findClass_of_methodNamed B9.named
  have hlocks := B9.notSynchronized
  subst hsz
  have hD := hD0.self (sz := s.heap.size)
  have hA : ∀ q : Nat, s.heap.size ≤ q → va_A w s.heap.size q := fun q h => Or.inr h
  generalize va_A w s.heap.size = A at hD hE hA ⊢
  have hS : va_S A s.heap s.heap [] := va_S.rf
  have hl := lv_entry ([.ref (a 4), .ref d0, .ref q]) (n := 4) (Nat.le_of_ble_eq_true rfl)
  rw [lg_entry_eq]
  generalize (lg_sl ([.ref (a 4), .ref d0, .ref q]) ++ List.replicate (4 - (lg_sl ([.ref (a 4), .ref d0, .ref q])).length) Slot.unset).toArray = ls at hl ⊢
  have hl : lv_has ls 4 [(0, .ref (a 4)), (1, .ref d0), (2, .ref q)] := hl
  obtain ⟨lq, nl, cp9, itl, hlq, hlc, hnl, hfn, hfd⟩ := (hna.2 c9 d0 hc9 hrw).1
  refine lv_aload_n hx hb dX0_fieldType_0 rfl (lv_at hl 1 rfl) ?_
  refine lv_ifnonnull (tgt := 8) hx hb dX0_fieldType_1 (by decide) ?_
  refine lv_aload_n hx hb dX0_fieldType_8 rfl (lv_at hl 1 rfl) ?_
  refine lv_aload_n hx hb dX0_fieldType_9 rfl (lv_at hl 0 rfl) ?_
  refine c_get (v := .ref (a 1)) (C := RX0) (Tc := TX0) (N := 13) (ci := 0) hx hb hq pin_wsX00 hown hE hP hO 24 (sg_24 G h0 a _ _ _ _ _) rfl 0 (by decide) (hq _ pw_4) (fun _ h9 => h9) rfl dX0_fieldType_10 ?_
  refine lv_aload_n hx hb dX0_fieldType_13 rfl (lv_at hl 2 rfl) ?_
  refine p_get (v := .int (K.2.1 1 q)) (C := RX7) (Tc := TX7) (N := 11) (ci := 13) hx hb hq pin_wsX70 hown hE hP hO (by rw [hqT]; decide) (rep_1 hqT) rfl 1 (by decide) (hq _ pw_81) (fun _ h9 => h9) rfl dX0_fieldType_14 ?_
  have hO : OKW G h0 a (upd (upd F 2 (nI sz)) 2 (nI sz)) R Z B J K.1 (fun q99 x99 => x99 = rep G a K q99) w := hO.to rfl
  obtain ⟨_, qr4, hqr5⟩ := hO.2.1 2 _ (sg_2 G h0 a _ _ _ _ _)
  refine pc_V0 (G := G) (As := [.int (K.2.1 1 q)]) (rest := [.ref d0]) hx hb hml hown hq hE hX pX0_al hP hD hS hA hl.1 (Y_valueAt l G h0 a (upd F 2 (nI sz)) R Z B J K.1 (fun q99 x99 => x99 = rep G a K q99) w (K.2.1 1 q) sz (by omega) hO) (gV pw_56 pw_57 pw_58 pw_59 pw_39) hV_X10_valueAt qr4 7 hqr5 rfl rfl rfl (Nat.le_of_ble_eq_true rfl) dX0_fieldType_17 ⟨(by show 0 + 0 ≤ 1; omega), (by show 0 + 0 ≤ 6; omega)⟩ ⟨Nat.le_of_ble_eq_true rfl, Nat.le_of_ble_eq_true rfl⟩ (fun v3 u1 H locs hw2 hP hD hS => ?_)
  obtain ⟨w, _⟩ := u1
  obtain ⟨hw2, hO⟩ := hw2
  obtain rfl : v3 = some (.int (tkN ((B 9)) sz (-1) (K.2.1 1 q))) := hw2
  have hO : OKP G h0 a (upd F 2 (nI sz)) R Z B J K w := hO.to rfl
  refine W.widen (k := 0) (n := 0) (Nat.le_of_ble_eq_true rfl) (Nat.le_of_ble_eq_true rfl) ?_
  refine W.eq (g2 := F0 m 20 ls [.int (tkN ((B 9)) sz (-1) (K.2.1 1 q)), .ref d0]) rfl ?_
  have hO : OKP G h0 a (upd F 2 (nI sz)) R Z B J K w := hO.to rfl
  obtain ⟨qr9, hqr10⟩ := p_recv hO (by rw [hd0]; decide) (rep_4 hd0)
  refine pc_V0 (G := G) (As := [.int (tkN ((B 9)) sz (-1) (K.2.1 1 q))]) (rest := []) hx hb hml hown hq hE hX pX0_al hP hD hS hA hl.1 (Y_fieldOf l G h0 a (upd F 2 (nI sz)) R Z B J K w d0 lq nl cp9 itl (tkN ((B 9)) sz (-1) (K.2.1 1 q)) hd0 hlq hlc hnl hO) (gV pw_143 pw_144 pw_145 pw_146 pw_141) hV_X2_fieldOf qr9 2 hqr10 rfl rfl rfl (Nat.le_of_ble_eq_true rfl) dX0_fieldType_20 ⟨(by show 0 + 0 ≤ 1; omega), (by show 0 + 0 ≤ 6; omega)⟩ ⟨Nat.le_of_ble_eq_true rfl, Nat.le_of_ble_eq_true rfl⟩ (fun v8 u6 H locs hw7 hP hD hS => ?_)
  obtain ⟨w, o11⟩ := u6
  obtain ⟨hw7, h12, hO⟩ := hw7
  have h12 : ∀ d : Nat, o11 = some d → ∃ i9 : Nat, i9 < nl ∧ itl i9 = d ∧ K.2.1 3 d = (tkN ((B 9)) sz (-1) (K.2.1 1 q)) := h12
  obtain rfl : v8 = some ((va_rf o11)) := hw7
  have hO : OKP G h0 a (upd F 2 (nI sz)) R Z B J K w := hO.to rfl
  refine W.widen (k := 0) (n := 0) (Nat.le_of_ble_eq_true rfl) (Nat.le_of_ble_eq_true rfl) ?_
  refine W.eq (g2 := F0 m 23 ls [(va_rf o11)]) rfl ?_
  rcases o11 with _ | d13
  · have hl : lv_has ls 4 [(0, .ref (a 4)), (1, .ref d0), (2, .ref q)] := hl
    refine W.eq (g2 := F0 m 23 ls [.null]) rfl ?_
    refine lv_astore_nN (lv' := [(3, .null), (0, .ref (a 4)), (1, .ref d0), (2, .ref q)]) hx hb dX0_fieldType_23 rfl hl (by decide) rfl (fun ls hl => ?_)
    refine lv_aload_nN hx hb dX0_fieldType_24 rfl (lv_at hl 0 rfl) ?_
    refine lv_ifnonnullN hx hb dX0_fieldType_25 ?_
    refine lv_aload_n hx hb dX0_fieldType_28 rfl (lv_at hl 1 rfl) ?_
    refine c_get (v := .ref (a 1)) (C := RX0) (Tc := TX0) (N := 13) (ci := 0) hx hb hq pin_wsX00 hown hE hP hO 24 (sg_24 G h0 a _ _ _ _ _) rfl 0 (by decide) (hq _ pw_4) (fun _ h9 => h9) rfl dX0_fieldType_29 ?_
    refine lv_bipush (v := 10) hx hb dX0_fieldType_32 (by decide) ?_
    refine lv_aload_n hx hb dX0_fieldType_34 rfl (lv_at hl 3 rfl) ?_
    refine p_get (v := .int (K.2.1 1 q)) (C := RX7) (Tc := TX7) (N := 11) (ci := 13) hx hb hq pin_wsX70 hown hE hP hO (by rw [hqT]; decide) (rep_1 hqT) rfl 1 (by decide) (hq _ pw_81) (fun _ h9 => h9) rfl dX0_fieldType_35 ?_
    have hO : OKW G h0 a (upd (upd F 2 (nI sz)) 2 (nI sz)) R Z B J K.1 (fun q99 x99 => x99 = rep G a K q99) w := hO.to rfl
    obtain ⟨_, qr17, hqr18⟩ := hO.2.1 2 _ (sg_2 G h0 a _ _ _ _ _)
    refine pn_V0 (G := G) (As := [.int 10, .int (K.2.1 1 q)]) (rest := []) hx hb hml hown hq hE hX pX0_al hP hD hS hA hl.1 (K_fail l G h0 a (upd F 2 (nI sz)) R Z B J K.1 (fun q99 x99 => x99 = rep G a K q99) w 10 (K.2.1 1 q) sz (by omega) hO hl0) (gV pw_64 pw_65 pw_66 pw_59 pw_43) hV_X10_fail qr17 7 hqr18 rfl rfl rfl (Nat.le_of_ble_eq_true rfl) dX0_fieldType_38 ⟨(by show 0 + 1 ≤ 1; omega), (by show 0 + 6 ≤ 6; omega)⟩ ⟨Nat.le_of_ble_eq_true rfl, Nat.le_of_ble_eq_true rfl⟩ (fun v16 u14 H locs hw15 hP hD hS => hw15.elim) (fun ux ce9 q9 H9 locs9 hux hP9 hD9 hS9 hce hcv hcl => pb_out ux (ThQ.up (Thx.same Thx.rfl rfl) RhX.rfl hux) hnt hlocks hce hcv hcl hP9 hD9 hS9 (by show 0 + 1 ≤ 1; omega) (by show 0 + 6 ≤ 6; omega))
  · have hl : lv_has ls 4 [(0, .ref (a 4)), (1, .ref d0), (2, .ref q)] := hl
    refine W.eq (g2 := F0 m 23 ls [.ref d13]) rfl ?_
    obtain ⟨i9, hi9, hd9, _⟩ := h12 d13 rfl
    have hfT : K.1 d13 = 1 := by rw [← hd9]; exact hlc.T hi9
    have hf5 : K.2.1 5 d13 = nI i9 := by rw [← hd9]; exact (hfd i9 hi9).2.1
    obtain ⟨fx, hfx⟩ : ∃ z : Int32, K.2.1 2 d13 = z := ⟨_, rfl⟩
    have hft : pb.2.2.1 c9 i9 = tyc (tyN (B 11) sz fx) := by rw [← hfx, ← hd9]; exact (hfd i9 hi9).2.2
    refine lv_astore_n (lv' := [(3, .ref d13), (0, .ref (a 4)), (1, .ref d0), (2, .ref q)]) hx hb dX0_fieldType_23 rfl hl (by decide) rfl (fun ls hl => ?_)
    refine lv_aload_n hx hb dX0_fieldType_24 rfl (lv_at hl 0 rfl) ?_
    refine lv_ifnonnull (tgt := 44) hx hb dX0_fieldType_25 (by decide) ?_
    refine lv_aload_n hx hb dX0_fieldType_44 rfl (lv_at hl 3 rfl) ?_
    refine lv_aload_n hx hb dX0_fieldType_45 rfl (lv_at hl 0 rfl) ?_
    refine p_get (v := .int (nI i9)) (C := RX7) (Tc := TX7) (N := 11) (ci := 13) hx hb hq pin_wsX70 hown hE hP hO (by rw [hfT]; decide) (rep_1 hfT) rfl 5 (by decide) (hq _ pw_142) (fun _ h9 => h9) (congrArg (fun z => some (Value.int z)) hf5) dX0_fieldType_46 ?_
    refine p_put (v := .int (nI i9)) (ty := .int) (C := RX7) (Tc := TX7) (N := 11) (ci := 13) (K' := (kI K 5 q (nI i9))) hx hb hq pin_wsX70 tyX7 tyX7_ok nmX7 hown hE hP hD hS hO (by rw [hqT]; decide) (rep_1 hqT) rfl 5 (by decide) (hq _ pw_142) (fun _ h9 => h9) rfl (by decide +kernel) rfl rfl (Nat.le_of_ble_eq_true rfl) rfl (by rw [rep_1 (show (kI K 5 q (nI i9)).1 q = 1 from hqT), pi_5] <;> rfl) (fun p9 hp9 => rep_kI hp9) dX0_fieldType_49 (fun H locs w hP hD hS hO => ?_)
    obtain ⟨K19, hK20⟩ : ∃ z : PK, z = (kI K 5 q (nI i9)) := ⟨_, rfl⟩
    rw [← hK20] at hO
    have hf21 : K19.1 q = 1 := (by rw [hK20]; exact hqT)
    have hf22 : K19.1 d0 = 4 := (by rw [hK20]; exact hd0)
    have hf23 : K19.1 d13 = 1 := (by rw [hK20]; exact hfT)
    have hf24 : K19.2.1 2 d13 = fx := (by rw [hK20]; exact (kI_of (by decide)).trans hfx)
    have hf25 : K19.2.1 5 q = (nI i9) := by rw [hK20]; exact kI_eq
    refine lv_aload_n hx hb dX0_fieldType_52 rfl (lv_at hl 1 rfl) ?_
    refine c_get (v := .ref (a 1)) (C := RX0) (Tc := TX0) (N := 13) (ci := 0) hx hb hq pin_wsX00 hown hE hP hO 24 (sg_24 G h0 a _ _ _ _ _) rfl 0 (by decide) (hq _ pw_4) (fun _ h9 => h9) rfl dX0_fieldType_53 ?_
    refine lv_aload_n hx hb dX0_fieldType_56 rfl (lv_at hl 0 rfl) ?_
    refine p_get (v := .int fx) (C := RX7) (Tc := TX7) (N := 11) (ci := 13) hx hb hq pin_wsX70 hown hE hP hO (by rw [hf23]; decide) (rep_1 hf23) rfl 2 (by decide) (hq _ pw_82) (fun _ h9 => h9) (congrArg (fun z => some (Value.int z)) hf24) dX0_fieldType_57 ?_
    have hO : OKW G h0 a (upd (upd F 2 (nI sz)) 2 (nI sz)) R Z B J K19.1 (fun q99 x99 => x99 = rep G a K19 q99) w := hO.to rfl
    obtain ⟨_, qr29, hqr30⟩ := hO.2.1 2 _ (sg_2 G h0 a _ _ _ _ _)
    refine pc_V0 (G := G) (As := [.int fx]) (rest := []) hx hb hml hown hq hE hX pX0_al hP hD hS hA hl.1 (Y_typeAt l G h0 a (upd F 2 (nI sz)) R Z B J K19.1 (fun q99 x99 => x99 = rep G a K19 q99) w fx sz nd (by omega) hna.1.2.1 hO) (gV pw_92 pw_93 pw_94 pw_59 pw_36) hV_X10_typeAt qr29 7 hqr30 rfl rfl rfl (Nat.le_of_ble_eq_true rfl) dX0_fieldType_60 ⟨(by show 0 + 0 ≤ 1; omega), (by show 0 + 0 ≤ 6; omega)⟩ ⟨Nat.le_of_ble_eq_true rfl, Nat.le_of_ble_eq_true rfl⟩ (fun v28 u26 H locs hw27 hP hD hS => ?_)
    obtain ⟨w, _⟩ := u26
    obtain ⟨hw27, hO⟩ := hw27
    obtain rfl : v28 = some (.int (nI (tyN ((B 11)) sz fx))) := hw27
    have hO : OKP G h0 a (upd F 2 (nI sz)) R Z B J K19 w := hO.to rfl
    refine W.widen (k := 0) (n := 0) (Nat.le_of_ble_eq_true rfl) (Nat.le_of_ble_eq_true rfl) ?_
    refine W.eq (g2 := F0 m 63 ls [.int (nI (tyN ((B 11)) sz fx))]) rfl ?_
    refine W_size (fun hz1 hz2 => ?_)
    refine vx_ret ?_
    have hz31 : BdE K K19 := (by rw [hK20]; exact BdE.kI (Or.inl rfl))
    have hz32 : BeF K K19 := (by rw [hK20]; exact BeF.put hkq)
    have hz33 : BeL K K19 none := (by rw [hK20]; exact BeL.put hqT)
    have hz34 : BeI K K19 g q := (by rw [hK20]; exact BeI.put)
    have hz35 : K19.2.1 5 q = nI i9 := (by rw [hK20]; exact kI_eq)
    have hz36 : i9 < pb.2.1 c9 ∧ i9 < 5000 := ⟨by rw [hfn]; exact hi9, by omega⟩
    have hz37 : pb.2.2.1 c9 i9 = tyc (tyN ((B 11)) sz fx) := hft
    have hz38 : TyV nd (tyN ((B 11)) sz fx) := (hna.1.2.1.V (by omega))
    have hz39 : (tyN ((B 11)) sz fx) < 128 := ((hna.1.2.1.V (by omega)).lt hna.1.1)
    have hO : OKP G h0 a (upd F 2 (nI sz)) R Z B J K19 w := hO.to rfl
    refine W.widen (k := 1) (n := 6) (by omega) (by omega) ?_
    have hzz1 : H.size ≤ s.heap.size + (0) := (by have z : 0 ≤ 0 := (by omega); omega)
    have hzz2 : hSl H ≤ hSl s.heap + (0) := (by have z : 0 ≤ 0 := (by omega); omega)
    exact W.iret (v := (nI (tyN ((B 11)) sz fx))) hx hb hr (fun t99 ht99 hW99 => ⟨⟨_, (w, (K19, (tyN ((B 11)) sz fx), i9)), rfl, ⟨rfl, hz31, hz32, hz33, hz34, hz35, hz36, hz37, hz38, hz39, hO⟩, by rw [ht99]; exact hP, hD, by rw [ht99]; exact hzz1, by rw [ht99]; exact hzz2⟩, hS.F ht99⟩) hS.2.2 dX0_fieldType_63
set_option maxHeartbeats 24000000 in
set_option maxRecDepth 100000 in
theorem Y_ownField (l : Launch) (G : pT) (h0 : Nat) (a : Nat → Nat) (F : Nat → Int32) (R : Nat → Value) (Z : Int64) (B : Nat → Nat → Int32) (J : Nat → Nat → Int64) (K : PK) (w : va_W) (pq : Nat) (dr : Nat) (ml : Nat) (nd : Nat) (nm : Nat) (cp : Nat) (it : Nat → Nat) (s9 : Nat) (q : Nat) (mq : Nat) (cs : Nat) (vr : Nat) (sz : Nat) (n : Nat) (g : Nat → Nat → Nat) (rk : Nat → Nat) (pb : PNb) (Ag : Nat → AS) (pd : Nat → Prop) (sl : Nat → Nat) (os : List Nat) (m9 : Nat) (sn : Nat) (lo : Nat) (hd : Nat) (c0 : Nat) (as9 : Int32) (okA : Prop) (hsz : sz ≤ 5000) (hwp : WPr G K g) (hps : PgT G K g (a 1) pq dr ml nd nm cp it s9) (hrk : RkO K rk) (hcs : cs ≤ 10000) (hvr : vr ≤ 30) (hng : Nng (B 18)) (hmq : K.1 mq = 3) (hqT : K.1 q = 1) (hqL : 1 ≤ g 0 q ∧ g 0 q ≤ n) (hek : EkA pb K g (B 7) (B 11) sz) (hcO : OwC K dr mq c0) (hna : NaB pb G K (B 11) dr nd sz) (hen : EnV (B 26) (B 27) nd vr hd c0 sl) (hem : okA → EmB pb B Ag pd m9 sn lo cs as9 hd sl os) (hrm : cs + 2 * tlE g q ≤ 10000) (hop : os.length + ndE g q ≤ 248) (hlf : 1 ≤ tlE g q ∧ 1 ≤ ndE g q) (hkq : K.2.1 0 q = 5) (hO : OKP G h0 a (upd (upd (upd (upd (upd F 2 (nI sz)) 5 (nI cs)) 7 (nI hd)) 12 (nI vr)) 13 as9) (updR (updR R 2 (.ref pq)) 3 (.ref mq)) Z B J K w) (hl0 : l.stackTraces = false) : PBn l G pX0 yX0_ownField cX0_ownField 2 (some .int) ({ frames := (5 * n + 33), cells := 1, slots := 6, locals := (200 * n + 560) }) [.ref (a 4), .ref q] w (fun (v : Option Value) (u : va_W × (PK × (Nat → Nat → Int32) × Nat × Int32 × Int32 × Int32 × Nat × (Nat → AS) × Nat)) => v = some (.int (nI u.2.2.2.2.2.2.2.1)) ∧ (SmW B u.2.2.1 cs) ∧ (BdE K u.2.1) ∧ (BeF K u.2.1) ∧ (BeL K u.2.1 none) ∧ (BeI K u.2.1 g q) ∧ (Bth B u.2.2.1) ∧ (BeR B u.2.2.1) ∧ (u.2.2.2.2.2.2.2.1 < 128) ∧ (cs ≤ u.2.2.2.1 ∧ u.2.2.2.1 + 1 ≤ cs + 2 * tlE g q) ∧ (AsE as9 u.2.2.2.2.1) ∧ (okA → EvB pb B u.2.2.1 Ag u.2.2.2.2.2.2.2.2.1 pd m9 sn lo cs u.2.2.2.1 as9 u.2.2.2.2.1 hd sl (c0 :: os)) ∧ (u.2.1.2.1 5 q = nI u.2.2.2.2.2.2.2.2.2 ∧ u.2.2.2.2.2.2.2.2.2 < 5000) ∧ (u.2.2.2.2.2.2.2.2.2 < pb.2.1 c0 ∧ pb.2.2.1 c0 u.2.2.2.2.2.2.2.2.2 = tyc u.2.2.2.2.2.2.2.1) ∧ (TyV nd u.2.2.2.2.2.2.2.1) ∧ (OKP G h0 a (upd (upd (upd (upd (upd (upd (upd F 2 (nI sz)) 5 (nI u.2.2.2.1)) 7 (nI hd)) 12 (nI vr)) 13 u.2.2.2.2.1) 14 u.2.2.2.2.2.1) 15 u.2.2.2.2.2.2.1) (updR (updR R 2 (.ref pq)) 3 (.ref mq)) Z u.2.2.1 J u.2.1 u.1)) (fun u => u.1) (fun (u : va_W × (PK × (Nat → Nat → Int32) × Nat × Int32 × Int32 × Int32 × Nat × (Nat → AS) × Nat)) => 0) (fun (u : va_W × (PK × (Nat → Nat → Int32) × Nat × Int32 × Int32 × Int32 × Nat × (Nat → AS) × Nat)) => 0) (fun (u : va_W × (Nat → Int32) × (Nat → Value) × (Nat → Nat → Int32)) => ThQ G h0 a (upd (upd (upd (upd (upd F 2 (nI sz)) 5 (nI cs)) 7 (nI hd)) 12 (nI vr)) 13 as9) (updR (updR R 2 (.ref pq)) 3 (.ref mq)) Z B J u) (fun u => u.1) := by
  intro sz
  refine vx_ofW (cc := cX0_ownField) (maxL := 2) (ret := (some .int)) (by decide) rfl ?_
  intro p e s m args below meth c s₁ B9 hml hnt hv
  obtain ⟨rfl, hsz, hP, hD0, hE, hX⟩ := hv
  have hx := B9.exec
  have hb := B9.bytes
  have hr := B9.returns
  have hts := atoms_spec (ws := Cond.code yX0_ownField cX0_ownField 2 (some .int) :: pw) B9.pre
  have hq : ∀ w ∈ pw, w.before _ s = true := fun w h => hts w (List.mem_cons_of_mem _ h)
  have hown : s.vm.findClass RX0 = some m.cls := findClass_of_methodNamed B9.named
  have hlocks := B9.notSynchronized
  subst hsz
  have hD := hD0.self (sz := s.heap.size)
  have hA : ∀ q : Nat, s.heap.size ≤ q → va_A w s.heap.size q := fun q h => Or.inr h
  generalize va_A w s.heap.size = A at hD hE hA ⊢
  have hS : va_S A s.heap s.heap [] := va_S.rf
  have hl := lv_entry ([.ref (a 4), .ref q]) (n := 2) (Nat.le_of_ble_eq_true rfl)
  rw [lg_entry_eq]
  generalize (lg_sl ([.ref (a 4), .ref q]) ++ List.replicate (2 - (lg_sl ([.ref (a 4), .ref q])).length) Slot.unset).toArray = ls at hl ⊢
  have hl : lv_has ls 2 [(0, .ref (a 4)), (1, .ref q)] := hl
  have hpg := hps.1
  have hp1 := hpg.1
  have hp2 := hpg.2.1
  have hp3 := hpg.2.2.1
  have hp4 := hpg.2.2.2.1
  have hp5 := hpg.2.2.2.2.1
  have hp6 := hpg.2.2.2.2.2.1
  have hp8 := hpg.2.2.2.2.2.2.2.1
  have hp9 := hpg.2.2.2.2.2.2.2.2
  have hdr0 : ¬ K.1 dr = 0 := by rw [hp4]; decide
  have hcO9 := hcO
  obtain ⟨dO, hdO, htO, hrO, hnO⟩ := hcO9
  have hev0 : okA → EvQ pb.1 pb.2.1 pb.2.2.1 pb.2.2.2 (B 16) (B 17) (B 18) (B 19) (B 16) (B 17) (B 18) (B 19) Ag Ag pd m9 sn lo cs cs as9 as9 hd sl os := fun z => EvB.nil (hem z)
  refine lv_aload_n hx hb dX0_ownField_0 rfl (lv_at hl 0 rfl) ?_
  refine c_get (v := .ref (a 2)) (C := RX0) (Tc := TX0) (N := 13) (ci := 0) hx hb hq pin_wsX00 hown hE hP hO 24 (sg_24 G h0 a _ _ _ _ _) rfl 1 (by decide) (hq _ pw_5) (fun _ h9 => h9) rfl dX0_ownField_1 ?_
  refine lv_iconst (v := 2) hx hb dX0_ownField_4 (by decide) ?_
  refine lv_iconst (v := 0) hx hb dX0_ownField_5 (by decide) ?_
  refine lv_iconst (v := 0) hx hb dX0_ownField_6 (by decide) ?_
  have hO : OKW G h0 a (upd (upd (upd (upd (upd (upd (upd F 2 (nI sz)) 5 (nI cs)) 7 (nI hd)) 12 (nI vr)) 13 as9) 5 (nI cs)) 7 (nI hd)) (updR (updR R 2 (.ref pq)) 3 (.ref mq)) Z B J K.1 (fun q99 x99 => x99 = rep G a K q99) w := hO.to rfl
  obtain ⟨_, qr4, hqr5⟩ := hO.2.1 13 _ (sg_13 G h0 a _ _ _ _ _)
  refine pc_V0 (G := G) (As := [.int 2, .int 0, .int 0]) (rest := []) hx hb hml hown hq hE hX pX0_al hP hD hS hA hl.1 (Y_emit l G h0 a (upd (upd (upd (upd (upd F 2 (nI sz)) 5 (nI cs)) 7 (nI hd)) 12 (nI vr)) 13 as9) (updR (updR R 2 (.ref pq)) 3 (.ref mq)) Z B J K.1 (fun q99 x99 => x99 = rep G a K q99) w 2 0 0 cs hd (by omega) hO) (gV pw_129 pw_130 pw_131 pw_70 pw_115) hV_X1_emit qr4 1 hqr5 rfl rfl rfl (Nat.le_of_ble_eq_true rfl) dX0_ownField_7 ⟨(by show 0 + 0 ≤ 1; omega), (by show 0 + 0 ≤ 6; omega)⟩ ⟨(by show 2 + 1 ≤ (5 * n + 33); omega), (by show 8 + (4 + 11) + 60 ≤ (200 * n + 560); omega)⟩ (fun v3 u1 H locs hw2 hP hD hS => ?_)
  obtain ⟨w, _⟩ := u1
  obtain ⟨hw2, hO⟩ := hw2
  obtain rfl : v3 = none := hw2
  have hO : OKP G h0 a (upd (upd (upd (upd (upd F 2 (nI sz)) 5 (nI (cs + 1))) 7 (nI hd)) 12 (nI vr)) 13 as9) (updR (updR R 2 (.ref pq)) 3 (.ref mq)) Z (updA (updA (updA (updA B 16 (upd ((B 16)) cs 2)) 17 (upd ((B 17)) cs 0)) 18 (upd ((B 18)) cs 0)) 19 (upd ((B 19)) cs (nI hd))) J K w := hO.to rfl
  refine W.widen (k := 0) (n := 0) (Nat.le_of_ble_eq_true rfl) (Nat.le_of_ble_eq_true rfl) ?_
  refine W.eq (g2 := F0 m 10 ls []) rfl ?_
  have hsw6 : ∀ x9 : Nat, x9 < cs → (upd ((B 16)) cs 2) x9 = B 16 x9 := fun x9 hx9 => (if_neg (by omega)).trans ((fun _ _ => rfl) x9 hx9)
  have hsw7 : ∀ x9 : Nat, x9 < cs → (upd ((B 17)) cs 0) x9 = B 17 x9 := fun x9 hx9 => (if_neg (by omega)).trans ((fun _ _ => rfl) x9 hx9)
  have hsw8 : ∀ x9 : Nat, x9 < cs → (upd ((B 18)) cs 0) x9 = B 18 x9 := fun x9 hx9 => (if_neg (by omega)).trans ((fun _ _ => rfl) x9 hx9)
  have hsw9 : ∀ x9 : Nat, x9 < cs → (upd ((B 19)) cs (nI hd)) x9 = B 19 x9 := fun x9 hx9 => (if_neg (by omega)).trans ((fun _ _ => rfl) x9 hx9)
  obtain ⟨Ag10, hev11⟩ : ∃ A5 : Nat → AS, okA → EvQ pb.1 pb.2.1 pb.2.2.1 pb.2.2.2 (B 16) (B 17) (B 18) (B 19) (upd ((B 16)) cs 2) (upd ((B 17)) cs 0) (upd ((B 18)) cs 0) (upd ((B 19)) cs (nI hd)) Ag A5 pd m9 sn lo cs (cs + 1) as9 as9 hd sl (c0 :: os) := ⟨(upS Ag (cs + 1) (rcA as9, hd, sl, (c0 :: os))), fun z => (hev0 z).trans (EmS.load0 (hev0 z).1 (by show os.length ≤ 248; omega) hen.1.2.1 (Nat.lt_of_lt_of_le Nat.zero_lt_one hen.1.1) (by have z9 := hen.1.2.2; have z8 := hna.1.1; omega))⟩
  have hng9 : Nng (upd ((B 18)) cs 0) := Nng.set hng (k := 0) (by omega)
  have hng12 := hng9
  refine lv_aload_n hx hb dX0_ownField_10 rfl (lv_at hl 0 rfl) ?_
  refine lv_aload_n hx hb dX0_ownField_11 rfl (lv_at hl 0 rfl) ?_
  refine c_get (v := .ref mq) (C := RX0) (Tc := TX0) (N := 13) (ci := 0) hx hb hq pin_wsX00 hown hE hP hO 24 (sg_24 G h0 a _ _ _ _ _) rfl 7 (by decide) (hq _ pw_72) (fun _ h9 => h9) rfl dX0_ownField_12 ?_
  refine p_get (v := .ref dO) (C := RX6) (Tc := TX6) (N := 12) (ci := 12) hx hb hq pin_wsX60 hown hE hP hO (by rw [hmq]; decide) (rep_3 hmq) rfl 0 (by decide) (hq _ pw_161) (fun _ h9 => h9) (congrArg (fun z => some (va_rf z)) hdO) dX0_ownField_15 ?_
  refine lv_aload_n hx hb dX0_ownField_18 rfl (lv_at hl 1 rfl) ?_
  have hO : OKP G h0 a (upd (upd (upd (upd (upd (upd (upd F 2 (nI sz)) 5 (nI cs)) 7 (nI hd)) 12 (nI vr)) 13 as9) 5 (nI (cs + 1))) 2 (nI sz)) (updR (updR R 2 (.ref pq)) 3 (.ref mq)) Z (updA (updA (updA (updA B 16 (upd ((B 16)) cs 2)) 17 (upd ((B 17)) cs 0)) 18 (upd ((B 18)) cs 0)) 19 (upd ((B 19)) cs (nI hd))) J K w := hO.to rfl
  obtain ⟨_, qr16, hqr17⟩ := hO.2.1 24 _ (sg_24 G h0 a _ _ _ _ _)
  refine pn_V0 (G := G) (As := [.ref dO, .ref q]) (rest := []) hx hb hml hown hq hE hX pX0_al hP hD hS hA hl.1 (Y_fieldType l G h0 a (upd (upd (upd (upd (upd (upd F 2 (nI sz)) 5 (nI cs)) 7 (nI hd)) 12 (nI vr)) 13 as9) 5 (nI (cs + 1))) (updR (updR R 2 (.ref pq)) 3 (.ref mq)) Z (updA (updA (updA (updA B 16 (upd ((B 16)) cs 2)) 17 (upd ((B 17)) cs 0)) 18 (upd ((B 18)) cs 0)) 19 (upd ((B 19)) cs (nI hd))) J K w dO q sz dr nd c0 g pb (by omega) htO hqT (by rw [BdE.I BdE.rfl (by rw [hqT]; decide) (by decide) (by decide), hkq]; decide) hen.1.2.2 (by rw [(BdE.T9 BdE.rfl hdr0)]; exact hrO) (NaB.be BdE.rfl BeF.rfl hwp hps.2.1 hdr0 ((BeR.up (k := 19) (f := (upd ((B 19)) cs (nI hd))) (BeR.up (k := 18) (f := (upd ((B 18)) cs 0)) (BeR.up (k := 17) (f := (upd ((B 17)) cs 0)) (BeR.up (k := 16) (f := (upd ((B 16)) cs 2)) BeR.rfl (by omega)) (by omega)) (by omega)) (by omega)) 11 (by decide)) hna) hO hl0) (gV pw_162 pw_163 pw_164 pw_63 pw_147) hV_X0_fieldType qr16 0 hqr17 rfl rfl rfl (Nat.le_of_ble_eq_true rfl) dX0_ownField_19 ⟨(by show 0 + 1 ≤ 1; omega), (by show 0 + 6 ≤ 6; omega)⟩ ⟨(by show 7 + 1 ≤ (5 * n + 33); omega), (by show 8 + (4 + 11) + 146 ≤ (200 * n + 560); omega)⟩ (fun v15 u13 H locs hw14 hP hD hS => ?_) (fun ux ce9 q9 H9 locs9 hux hP9 hD9 hS9 hce hcv hcl => pb_out ux (ThQ.up (Thx.same (Thx.b (Thx.b8 (Thx.b (Thx.b (Thx.f Thx.rfl (by omega)) (by omega) (by decide)) (by omega) (by decide)) hng12) (by omega) (by decide)) rfl) RhX.rfl hux) hnt hlocks hce hcv hcl hP9 hD9 hS9 (by show 0 + 1 ≤ 1; omega) (by show 0 + 6 ≤ 6; omega))
  obtain ⟨w, K18, t19, n20⟩ := u13
  obtain ⟨hw14, h21, h22, h23, h24, h25, h26, h27, h28, h29, hO⟩ := hw14
  have h21 : BdE K K18 := h21
  have h22 : BeF K K18 := h22
  have h23 : BeL K K18 none := h23
  have h24 : BeI K K18 g q := h24
  have h25 : K18.2.1 5 q = nI n20 := h25
  have h26 : n20 < pb.2.1 c0 ∧ n20 < 5000 := h26
  have h27 : pb.2.2.1 c0 n20 = tyc t19 := h27
  have h28 : TyV nd t19 := h28
  have h29 : t19 < 128 := h29
  obtain rfl : v15 = some (.int (nI t19)) := hw14
  have hf30 : K18.1 pq = 7 := (BdE.T h21 hp1 (by decide))
  have hf31 : K18.2.2.1 18 pq = some (a 1) := (BdE.C h21 (by rw [hp1]; decide) 18).trans hp2
  have hf32 : K18.2.2.1 14 pq = some dr := (BdE.C h21 (by rw [hp1]; decide) 14).trans hp3
  have hf33 : K18.1 dr = 8 := (BdE.T h21 hp4 (by decide))
  have hf34 : K18.2.2.1 15 pq = some ml := (BdE.C h21 (by rw [hp1]; decide) 15).trans hp5
  have hf35 : K18.1 ml = 5 := (BdE.T h21 hp6 (by decide))
  have hf36 : K18.2.1 24 pq = (nI nd) := (BdE.I h21 (by rw [hp1]; decide) (by decide) (by decide)).trans hp8
  have hf37 : K18.1 q = 1 := (BdE.T h21 hqT (by decide))
  have hf38 : K18.1 mq = 3 := (BdE.T h21 hmq (by decide))
  have hf39 : K18.2.1 15 dO = (nI c0) := (BdE.I h21 (by rw [htO]; decide) (by decide) (by decide)).trans hnO
  have hf40 : K18.2.2.1 5 mq = some dO := (BdE.C h21 (by rw [hmq]; decide) 5).trans hdO
  have hf41 : K18.1 dO = 4 := (BdE.T h21 htO (by decide))
  have hO : OKP G h0 a (upd (upd (upd (upd (upd F 2 (nI sz)) 5 (nI (cs + 1))) 7 (nI hd)) 12 (nI vr)) 13 as9) (updR (updR R 2 (.ref pq)) 3 (.ref mq)) Z (updA (updA (updA (updA B 16 (upd ((B 16)) cs 2)) 17 (upd ((B 17)) cs 0)) 18 (upd ((B 18)) cs 0)) 19 (upd ((B 19)) cs (nI hd))) J K18 w := hO.to rfl
  refine W.widen (k := 0) (n := 0) (by show 0 + 0 ≤ 0; omega) (by show 0 + 0 ≤ 0; omega) ?_
  refine W.eq (g2 := F0 m 22 ls [.int (nI t19)]) rfl ?_
  have hbe42 := BdE.trans BdE.rfl h21
  have hbf43 := BeF.trans BeF.rfl h22 BdE.rfl
  have hbl44 := BeL.trans BeL.rfl h23 BdE.rfl
  have hbi45 := BeI.trans BeI.rfl h24 BdE.rfl InE.rfl
  refine W_size (fun hz1 hz2 => ?_)
  refine vx_ret ?_
  have hz46 : SmW B (updA (updA (updA (updA B 16 (upd ((B 16)) cs 2)) 17 (upd ((B 17)) cs 0)) 18 (upd ((B 18)) cs 0)) 19 (upd ((B 19)) cs (nI hd))) cs := (fun x9 hx9 => ⟨hsw6 x9 hx9, hsw7 x9 hx9, hsw8 x9 hx9, hsw9 x9 hx9⟩)
  have hz47 : BdE K K18 := hbe42
  have hz48 : BeF K K18 := hbf43
  have hz49 : BeL K K18 none := hbl44
  have hz50 : BeI K K18 g q := hbi45
  have hz51 : Bth B (updA (updA (updA (updA B 16 (upd ((B 16)) cs 2)) 17 (upd ((B 17)) cs 0)) 18 (upd ((B 18)) cs 0)) 19 (upd ((B 19)) cs (nI hd))) := (show Thx (upd (upd (upd (upd (upd F 2 (nI sz)) 5 (nI cs)) 7 (nI hd)) 12 (nI vr)) 13 as9) (upd (upd (upd (upd (upd (upd F 2 (nI sz)) 5 (nI cs)) 7 (nI hd)) 12 (nI vr)) 13 as9) 5 (nI (cs + 1))) B (updA (updA (updA (updA B 16 (upd ((B 16)) cs 2)) 17 (upd ((B 17)) cs 0)) 18 (upd ((B 18)) cs 0)) 19 (upd ((B 19)) cs (nI hd))) from (Thx.b (Thx.b8 (Thx.b (Thx.b (Thx.f Thx.rfl (by omega)) (by omega) (by decide)) (by omega) (by decide)) hng12) (by omega) (by decide))).2
  have hz52 : BeR B (updA (updA (updA (updA B 16 (upd ((B 16)) cs 2)) 17 (upd ((B 17)) cs 0)) 18 (upd ((B 18)) cs 0)) 19 (upd ((B 19)) cs (nI hd))) := (BeR.up (k := 19) (f := (upd ((B 19)) cs (nI hd))) (BeR.up (k := 18) (f := (upd ((B 18)) cs 0)) (BeR.up (k := 17) (f := (upd ((B 17)) cs 0)) (BeR.up (k := 16) (f := (upd ((B 16)) cs 2)) BeR.rfl (by omega)) (by omega)) (by omega)) (by omega))
  have hz53 : t19 < 128 := (by omega)
  have hz54 : cs ≤ (cs + 1) ∧ (cs + 1) + 1 ≤ cs + 2 * tlE g q := (by omega)
  have hz55 : AsE as9 as9 := AsE.rfl
  have hz56 : okA → EvB pb B (updA (updA (updA (updA B 16 (upd ((B 16)) cs 2)) 17 (upd ((B 17)) cs 0)) 18 (upd ((B 18)) cs 0)) 19 (upd ((B 19)) cs (nI hd))) Ag Ag10 pd m9 sn lo cs (cs + 1) as9 as9 hd sl (c0 :: os) := hev11
  have hz57 : K18.2.1 5 q = nI n20 ∧ n20 < 5000 := ⟨h25, h26.2⟩
  have hz58 : n20 < pb.2.1 c0 ∧ pb.2.2.1 c0 n20 = tyc t19 := ⟨h26.1, h27⟩
  have hz59 : TyV nd t19 := h28
  have hO : OKP G h0 a (upd (upd (upd (upd (upd (upd (upd F 2 (nI sz)) 5 (nI (cs + 1))) 7 (nI hd)) 12 (nI vr)) 13 as9) 14 (F 14)) 15 (F 15)) (updR (updR R 2 (.ref pq)) 3 (.ref mq)) Z (updA (updA (updA (updA B 16 (upd ((B 16)) cs 2)) 17 (upd ((B 17)) cs 0)) 18 (upd ((B 18)) cs 0)) 19 (upd ((B 19)) cs (nI hd))) J K18 w := hO.to rfl
  refine W.widen (k := 1) (n := 6) (by omega) (by omega) ?_
  have hzz1 : H.size ≤ s.heap.size + (0) := (by have z : 0 ≤ 0 := (by omega); omega)
  have hzz2 : hSl H ≤ hSl s.heap + (0) := (by have z : 0 ≤ 0 := (by omega); omega)
  exact W.iret (v := (nI t19)) hx hb hr (fun t99 ht99 hW99 => ⟨⟨_, (w, (K18, (updA (updA (updA (updA B 16 (upd ((B 16)) cs 2)) 17 (upd ((B 17)) cs 0)) 18 (upd ((B 18)) cs 0)) 19 (upd ((B 19)) cs (nI hd))), (cs + 1), as9, (F 14), (F 15), t19, Ag10, n20)), rfl, ⟨rfl, hz46, hz47, hz48, hz49, hz50, hz51, hz52, hz53, hz54, hz55, hz56, hz57, hz58, hz59, hO⟩, by rw [ht99]; exact hP, hD, by rw [ht99]; exact hzz1, by rw [ht99]; exact hzz2⟩, hS.F ht99⟩) hS.2.2 dX0_ownField_22
