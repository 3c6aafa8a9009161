set_option maxHeartbeats 24000000 in
set_option maxRecDepth 100000 in
theorem Y_truth (l : Launch) (G : pT) (h0 : Nat) (a : Nat → Nat) (F : Nat → Int32) (R : Nat → Value) (Z : Int64) (B : Nat → Nat → Int32) (J : Nat → Nat → Int64) (K : PK) (w : va_W) (pq : Nat) (dr : Nat) (ml : Nat) (nd : Nat) (nm : Nat) (cp : Nat) (it : Nat → Nat) (s9 : Nat) (q : Nat) (mq : Nat) (cs : Nat) (vr : Nat) (sz : Nat) (n : Nat) (b9 : Nat) (g : Nat → Nat → Nat) (rk : Nat → Nat) (pb : PNb) (Ag : Nat → AS) (pd : Nat → Prop) (sl : Nat → Nat) (os : List Nat) (m9 : Nat) (sn : Nat) (lo : Nat) (hd : Nat) (c0 : Nat) (as9 : Int32) (okA : Prop) (hsz : sz ≤ 5000) (hwp : WPr G K g) (hps : PgT G K g (a 1) pq dr ml nd nm cp it s9) (hrk : RkO K rk) (hcs : cs ≤ 10000) (hvr : vr ≤ 30) (hng : Nng (B 18)) (hmq : K.1 mq = 3) (hqT : K.1 q = 1) (hqL : 1 ≤ g 0 q ∧ g 0 q ≤ n) (hek : EkA pb K g (B 7) (B 11) sz) (hcO : OwC K dr mq c0) (hna : NaB pb G K (B 11) dr nd sz) (hen : EnV (B 26) (B 27) nd vr hd c0 sl) (hem : okA → EmB pb B Ag pd m9 sn lo cs as9 hd sl os) (hrm : cs + 2 * tlE g q ≤ 10000) (hop : os.length + ndE g q ≤ 248) (hlf : 1 ≤ tlE g q ∧ 1 ≤ ndE g q) (hb9 : b9 ≤ 1) (hO : OKP G h0 a (upd (upd (upd (upd (upd F 2 (nI sz)) 5 (nI cs)) 7 (nI hd)) 12 (nI vr)) 13 as9) (updR (updR R 2 (.ref pq)) 3 (.ref mq)) Z B J K w) (hl0 : l.stackTraces = false) : PBn l G pX0 yX0_truth cX0_truth 2 (some .int) ({ frames := (5 * n + 33), cells := 1, slots := 6, locals := (200 * n + 560) }) [.ref (a 4), .int (nI b9)] w (fun (v : Option Value) (u : va_W × (PK × (Nat → Nat → Int32) × Nat × Int32 × Int32 × Int32 × Nat × (Nat → AS) × Nat)) => v = some (.int (nI u.2.2.2.2.2.2.2.1)) ∧ (SmW B u.2.2.1 cs) ∧ (BdE K u.2.1) ∧ (BeF K u.2.1) ∧ (BeL K u.2.1 none) ∧ (BeI K u.2.1 g q) ∧ (Bth B u.2.2.1) ∧ (BeR B u.2.2.1) ∧ (u.2.2.2.2.2.2.2.1 < 128) ∧ (cs ≤ u.2.2.2.1 ∧ u.2.2.2.1 + 0 ≤ cs + 2 * tlE g q) ∧ (AsE as9 u.2.2.2.2.1 ∧ AsE as9 u.2.2.2.2.2.1 ∧ AsE as9 u.2.2.2.2.2.2.1) ∧ (okA → VaQ pb B u.2.2.1 Ag u.2.2.2.2.2.2.2.2.1 pd m9 sn lo cs u.2.2.2.1 as9 u.2.2.2.2.1 u.2.2.2.2.2.1 u.2.2.2.2.2.2.1 hd sl os u.2.2.2.2.2.2.2.1 u.2.2.2.2.2.2.2.2.2 (K.2.1 0 q)) ∧ (OKP G h0 a (upd (upd (upd (upd (upd (upd (upd F 2 (nI sz)) 5 (nI u.2.2.2.1)) 7 (nI hd)) 12 (nI vr)) 13 u.2.2.2.2.1) 14 u.2.2.2.2.2.1) 15 u.2.2.2.2.2.2.1) (updR (updR R 2 (.ref pq)) 3 (.ref mq)) Z u.2.2.1 J u.2.1 u.1)) (fun u => u.1) (fun (u : va_W × (PK × (Nat → Nat → Int32) × Nat × Int32 × Int32 × Int32 × Nat × (Nat → AS) × Nat)) => 0) (fun (u : va_W × (PK × (Nat → Nat → Int32) × Nat × Int32 × Int32 × Int32 × Nat × (Nat → AS) × Nat)) => 0) (fun (u : va_W × (Nat → Int32) × (Nat → Value) × (Nat → Nat → Int32)) => ThQ G h0 a (upd (upd (upd (upd (upd F 2 (nI sz)) 5 (nI cs)) 7 (nI hd)) 12 (nI vr)) 13 as9) (updR (updR R 2 (.ref pq)) 3 (.ref mq)) Z B J u) (fun u => u.1) := by
  intro sz
  refine vx_ofW (cc := cX0_truth) (maxL := 2) (ret := (some .int)) (by decide) rfl ?_
  intro p e s m args below meth c s₁ B9 hml hnt hv
  obtain ⟨rfl, hsz, hP, hD0, hE, hX⟩ := hv
  have hx := B9.exec
  have hb := B9.bytes
  have hr := B9.returns
  have hts := atoms_spec (ws := Cond.code yX0_truth cX0_truth 2 (some .int) :: pw) B9.pre
  have hq : ∀ w ∈ pw, w.before _ s = true := fun w h => hts w (List.mem_cons_of_mem _ h)
  have hown : s.vm.findClass RX0 = some m.cls := findClass_of_methodNamed B9.named
  have hlocks := B9.notSynchronized
  subst hsz
  have hD := hD0.self (sz := s.heap.size)
  have hA : ∀ q : Nat, s.heap.size ≤ q → va_A w s.heap.size q := fun q h => Or.inr h
  generalize va_A w s.heap.size = A at hD hE hA ⊢
  have hS : va_S A s.heap s.heap [] := va_S.rf
  have hl := lv_entry ([.ref (a 4), .int (nI b9)]) (n := 2) (Nat.le_of_ble_eq_true rfl)
  rw [lg_entry_eq]
  generalize (lg_sl ([.ref (a 4), .int (nI b9)]) ++ List.replicate (2 - (lg_sl ([.ref (a 4), .int (nI b9)])).length) Slot.unset).toArray = ls at hl ⊢
  have hl : lv_has ls 2 [(0, .ref (a 4)), (1, .int (nI b9))] := hl
  have hpg := hps.1
  have hp1 := hpg.1
  have hp2 := hpg.2.1
  have hp3 := hpg.2.2.1
  have hp4 := hpg.2.2.2.1
  have hp5 := hpg.2.2.2.2.1
  have hp6 := hpg.2.2.2.2.2.1
  have hp8 := hpg.2.2.2.2.2.2.2.1
  have hp9 := hpg.2.2.2.2.2.2.2.2
  have hdr0 : ¬ K.1 dr = 0 := by rw [hp4]; decide
  have hev0 : okA → EvQ pb.1 pb.2.1 pb.2.2.1 pb.2.2.2 (B 16) (B 17) (B 18) (B 19) (B 16) (B 17) (B 18) (B 19) Ag Ag pd m9 sn lo cs cs as9 as9 hd sl os := fun z => EvB.nil (hem z)
  refine lv_aload_n hx hb dX0_truth_0 rfl (lv_at hl 0 rfl) ?_
  refine lv_iload_n hx hb dX0_truth_1 rfl (lv_at hl 1 rfl) ?_
  refine lv_if_eq (tgt := 12) hx hb dX0_truth_2 (by decide) (fun c1 => ?_) (fun c1 => ?_)
  · have n2 : b9 = 0 := (nI_eq (a := b9) (b := 0) (by omega) (by omega)).mp c1
    refine lv_iconst (v := (-1)) hx hb dX0_truth_12 (by decide) ?_
    refine c_put (v := .int (-1)) (ty := .int) (C := RX0) (Tc := TX0) (N := 13) (ci := 0) hx hb hq pin_wsX00 tyX0 tyX0_ok nmX0 hown hE hP hD hS hO 24 (sg_24 G h0 a _ _ _ _ _) rfl 9 (by decide) (hq _ pw_156) (fun _ h9 => h9) rfl (by decide +kernel) rfl rfl (Nat.le_of_ble_eq_true rfl) (sf_14 G h0 a _ _ _ _ _ (-1)) dX0_truth_13 (fun H locs w hP hD hS hO => ?_)
    refine lv_aload_n hx hb dX0_truth_16 rfl (lv_at hl 0 rfl) ?_
    refine lv_iload_n hx hb dX0_truth_17 rfl (lv_at hl 1 rfl) ?_
    refine lv_if_eq (tgt := 25) hx hb dX0_truth_18 (by decide) (fun c3 => ?_) (fun c3 => (by have n4 : ¬ (b9 = 0) := fun h9 => c3 ((nI_eq (a := b9) (b := 0) (by omega) (by omega)).mpr h9); omega))
    refine lv_aload_n hx hb dX0_truth_25 rfl (lv_at hl 0 rfl) ?_
    refine c_get (v := .int as9) (C := RX0) (Tc := TX0) (N := 13) (ci := 0) hx hb hq pin_wsX00 hown hE hP hO 24 (sg_24 G h0 a _ _ _ _ _) rfl 8 (by decide) (hq _ pw_55) (fun _ h9 => h9) rfl dX0_truth_26 ?_
    refine c_put (v := .int as9) (ty := .int) (C := RX0) (Tc := TX0) (N := 13) (ci := 0) hx hb hq pin_wsX00 tyX0 tyX0_ok nmX0 hown hE hP hD hS hO 24 (sg_24 G h0 a _ _ _ _ _) rfl 10 (by decide) (hq _ pw_157) (fun _ h9 => h9) rfl (by decide +kernel) rfl rfl (Nat.le_of_ble_eq_true rfl) (sf_15 G h0 a _ _ _ _ _ as9) dX0_truth_29 (fun H locs w hP hD hS hO => ?_)
    refine lv_aload_n hx hb dX0_truth_32 rfl (lv_at hl 0 rfl) ?_
    refine lv_iconst (v := 1) hx hb dX0_truth_33 (by decide) ?_
    refine lv_iload_n hx hb dX0_truth_34 rfl (lv_at hl 1 rfl) ?_
    refine lv_if_eq (tgt := 42) hx hb dX0_truth_35 (by decide) (fun c5 => ?_) (fun c5 => (by have n6 : ¬ (b9 = 0) := fun h9 => c5 ((nI_eq (a := b9) (b := 0) (by omega) (by omega)).mpr h9); omega))
    refine lv_iconst (v := 0) hx hb dX0_truth_42 (by decide) ?_
    refine lv_bipush (v := 61) hx hb dX0_truth_43 (by decide) ?_
    have hO : OKW G h0 a (upd (upd (upd (upd (upd (upd (upd (upd (upd F 2 (nI sz)) 5 (nI cs)) 7 (nI hd)) 12 (nI vr)) 13 as9) 14 (-1)) 15 as9) 5 (nI cs)) 7 (nI hd)) (updR (updR R 2 (.ref pq)) 3 (.ref mq)) Z B J K.1 (fun q99 x99 => x99 = rep G a K q99) w := hO.to rfl
    obtain ⟨_, qr10, hqr11⟩ := hO.2.1 24 _ (sg_24 G h0 a _ _ _ _ _)
    refine pc_V0 (G := G) (As := [.int 1, .int 0, .int 61]) (rest := []) hx hb hml hown hq hE hX pX0_al hP hD hS hA hl.1 (Y_give l G h0 a (upd (upd (upd (upd (upd (upd (upd F 2 (nI sz)) 5 (nI cs)) 7 (nI hd)) 12 (nI vr)) 13 as9) 14 (-1)) 15 as9) (updR (updR R 2 (.ref pq)) 3 (.ref mq)) Z B J K.1 (fun q99 x99 => x99 = rep G a K q99) w 1 0 61 cs hd (by omega) hO) (gV pw_158 pw_159 pw_160 pw_63 pw_128) hV_X0_give qr10 0 hqr11 rfl rfl rfl (Nat.le_of_ble_eq_true rfl) dX0_truth_45 ⟨(by show 0 + 0 ≤ 1; omega), (by show 0 + 0 ≤ 6; omega)⟩ ⟨(by show 3 + 1 ≤ (5 * n + 33); omega), (by show 8 + (4 + 11) + 83 ≤ (200 * n + 560); omega)⟩ (fun v9 u7 H locs hw8 hP hD hS => ?_)
    obtain ⟨w, _⟩ := u7
    obtain ⟨hw8, hO⟩ := hw8
    obtain rfl : v9 = some (.int 61) := hw8
    have hO : OKP G h0 a (upd (upd (upd (upd (upd (upd (upd F 2 (nI sz)) 5 (nI (cs + 1))) 7 (nI hd)) 12 (nI vr)) 13 as9) 14 (-1)) 15 as9) (updR (updR R 2 (.ref pq)) 3 (.ref mq)) Z (updA (updA (updA (updA B 16 (upd ((B 16)) cs 1)) 17 (upd ((B 17)) cs 0)) 18 (upd ((B 18)) cs 0)) 19 (upd ((B 19)) cs (nI hd))) J K w := hO.to rfl
    refine W.widen (k := 0) (n := 0) (Nat.le_of_ble_eq_true rfl) (Nat.le_of_ble_eq_true rfl) ?_
    refine W.eq (g2 := F0 m 48 ls [.int 61]) rfl ?_
    have hsw12 : ∀ x9 : Nat, x9 < cs → (upd ((B 16)) cs 1) x9 = B 16 x9 := fun x9 hx9 => (if_neg (by omega)).trans ((fun _ _ => rfl) x9 hx9)
    have hsw13 : ∀ x9 : Nat, x9 < cs → (upd ((B 17)) cs 0) x9 = B 17 x9 := fun x9 hx9 => (if_neg (by omega)).trans ((fun _ _ => rfl) x9 hx9)
    have hsw14 : ∀ x9 : Nat, x9 < cs → (upd ((B 18)) cs 0) x9 = B 18 x9 := fun x9 hx9 => (if_neg (by omega)).trans ((fun _ _ => rfl) x9 hx9)
    have hsw15 : ∀ x9 : Nat, x9 < cs → (upd ((B 19)) cs (nI hd)) x9 = B 19 x9 := fun x9 hx9 => (if_neg (by omega)).trans ((fun _ _ => rfl) x9 hx9)
    obtain ⟨Ag16, hev17⟩ : ∃ A5 : Nat → AS, okA → EvQ pb.1 pb.2.1 pb.2.2.1 pb.2.2.2 (B 16) (B 17) (B 18) (B 19) (upd ((B 16)) cs 1) (upd ((B 17)) cs 0) (upd ((B 18)) cs 0) (upd ((B 19)) cs (nI hd)) Ag A5 pd m9 sn lo cs (cs + 1) as9 as9 hd sl (162 :: os) := ⟨(upS Ag (cs + 1) (rcA as9, hd, sl, (162 :: os))), fun z => (hev0 z).trans (EmS.const (hev0 z).1 (by show os.length ≤ 248; omega) (fun S => VT.t0))⟩
    have hng9 : Nng (upd ((B 18)) cs 0) := Nng.set hng (k := 0) (by omega)
    have hng18 := hng9
    refine W_size (fun hz1 hz2 => ?_)
    refine vx_ret ?_
    have hz19 : SmW B (updA (updA (updA (updA B 16 (upd ((B 16)) cs 1)) 17 (upd ((B 17)) cs 0)) 18 (upd ((B 18)) cs 0)) 19 (upd ((B 19)) cs (nI hd))) cs := (fun x9 hx9 => ⟨hsw12 x9 hx9, hsw13 x9 hx9, hsw14 x9 hx9, hsw15 x9 hx9⟩)
    have hz20 : BdE K K := BdE.rfl
    have hz21 : BeF K K := BeF.rfl
    have hz22 : BeL K K none := BeL.rfl
    have hz23 : BeI K K g q := BeI.rfl
    have hz24 : Bth B (updA (updA (updA (updA B 16 (upd ((B 16)) cs 1)) 17 (upd ((B 17)) cs 0)) 18 (upd ((B 18)) cs 0)) 19 (upd ((B 19)) cs (nI hd))) := (show Thx (upd (upd (upd (upd (upd F 2 (nI sz)) 5 (nI cs)) 7 (nI hd)) 12 (nI vr)) 13 as9) (upd (upd (upd (upd (upd (upd (upd (upd F 2 (nI sz)) 5 (nI cs)) 7 (nI hd)) 12 (nI vr)) 13 as9) 5 (nI (cs + 1))) 14 (-1)) 15 as9) B (updA (updA (updA (updA B 16 (upd ((B 16)) cs 1)) 17 (upd ((B 17)) cs 0)) 18 (upd ((B 18)) cs 0)) 19 (upd ((B 19)) cs (nI hd))) from (Thx.b (Thx.b8 (Thx.b (Thx.b (Thx.f (Thx.f (Thx.f Thx.rfl (by omega)) (by omega)) (by omega)) (by omega) (by decide)) (by omega) (by decide)) hng18) (by omega) (by decide))).2
    have hz25 : BeR B (updA (updA (updA (updA B 16 (upd ((B 16)) cs 1)) 17 (upd ((B 17)) cs 0)) 18 (upd ((B 18)) cs 0)) 19 (upd ((B 19)) cs (nI hd))) := (BeR.up (k := 19) (f := (upd ((B 19)) cs (nI hd))) (BeR.up (k := 18) (f := (upd ((B 18)) cs 0)) (BeR.up (k := 17) (f := (upd ((B 17)) cs 0)) (BeR.up (k := 16) (f := (upd ((B 16)) cs 1)) BeR.rfl (by omega)) (by omega)) (by omega)) (by omega))
    have hz26 : 61 < 128 := (by omega)
    have hz27 : cs ≤ (cs + 1) ∧ (cs + 1) + 0 ≤ cs + 2 * tlE g q := (by omega)
    have hz28 : AsE as9 as9 ∧ AsE as9 ((-1) : Int32) ∧ AsE as9 as9 := ⟨AsE.rfl, AsE.m1, AsE.rfl⟩
    have hz29 : okA → VaQ pb B (updA (updA (updA (updA B 16 (upd ((B 16)) cs 1)) 17 (upd ((B 17)) cs 0)) 18 (upd ((B 18)) cs 0)) 19 (upd ((B 19)) cs (nI hd))) Ag Ag16 pd m9 sn lo cs (cs + 1) as9 as9 ((-1) : Int32) as9 hd sl os 61 162 (K.2.1 0 q) := (fun z => Or.inr ⟨by rw [rsO_ne (by omega)]; exact hev17 z, UTb.false rfl, by omega⟩)
    have hO : OKP G h0 a (upd (upd (upd (upd (upd (upd (upd F 2 (nI sz)) 5 (nI (cs + 1))) 7 (nI hd)) 12 (nI vr)) 13 as9) 14 ((-1) : Int32)) 15 as9) (updR (updR R 2 (.ref pq)) 3 (.ref mq)) Z (updA (updA (updA (updA B 16 (upd ((B 16)) cs 1)) 17 (upd ((B 17)) cs 0)) 18 (upd ((B 18)) cs 0)) 19 (upd ((B 19)) cs (nI hd))) J K w := hO.to rfl
    refine W.widen (k := 1) (n := 6) (by omega) (by omega) ?_
    have hzz1 : H.size ≤ s.heap.size + (0) := (by have z : 0 ≤ 0 := (by omega); omega)
    have hzz2 : hSl H ≤ hSl s.heap + (0) := (by have z : 0 ≤ 0 := (by omega); omega)
    exact W.iret (v := 61) hx hb hr (fun t99 ht99 hW99 => ⟨⟨_, (w, (K, (updA (updA (updA (updA B 16 (upd ((B 16)) cs 1)) 17 (upd ((B 17)) cs 0)) 18 (upd ((B 18)) cs 0)) 19 (upd ((B 19)) cs (nI hd))), (cs + 1), as9, ((-1) : Int32), as9, 61, Ag16, 162)), rfl, ⟨rfl, hz19, hz20, hz21, hz22, hz23, hz24, hz25, hz26, hz27, hz28, hz29, hO⟩, by rw [ht99]; exact hP, hD, by rw [ht99]; exact hzz1, by rw [ht99]; exact hzz2⟩, hS.F ht99⟩) hS.2.2 dX0_truth_48
  · have n30 : ¬ (b9 = 0) := fun h9 => c1 ((nI_eq (a := b9) (b := 0) (by omega) (by omega)).mpr h9)
    refine lv_aload_n hx hb dX0_truth_5 rfl (lv_at hl 0 rfl) ?_
    refine c_get (v := .int as9) (C := RX0) (Tc := TX0) (N := 13) (ci := 0) hx hb hq pin_wsX00 hown hE hP hO 24 (sg_24 G h0 a _ _ _ _ _) rfl 8 (by decide) (hq _ pw_55) (fun _ h9 => h9) rfl dX0_truth_6 ?_
    refine lv_goto (tgt := 13) hx hb dX0_truth_9 (by decide) ?_
    refine c_put (v := .int as9) (ty := .int) (C := RX0) (Tc := TX0) (N := 13) (ci := 0) hx hb hq pin_wsX00 tyX0 tyX0_ok nmX0 hown hE hP hD hS hO 24 (sg_24 G h0 a _ _ _ _ _) rfl 9 (by decide) (hq _ pw_156) (fun _ h9 => h9) rfl (by decide +kernel) rfl rfl (Nat.le_of_ble_eq_true rfl) (sf_14 G h0 a _ _ _ _ _ as9) dX0_truth_13 (fun H locs w hP hD hS hO => ?_)
    refine lv_aload_n hx hb dX0_truth_16 rfl (lv_at hl 0 rfl) ?_
    refine lv_iload_n hx hb dX0_truth_17 rfl (lv_at hl 1 rfl) ?_
    refine lv_if_eq (tgt := 25) hx hb dX0_truth_18 (by decide) (fun c31 => (by have n32 : b9 = 0 := (nI_eq (a := b9) (b := 0) (by omega) (by omega)).mp c31; omega)) (fun c31 => ?_)
    refine lv_iconst (v := (-1)) hx hb dX0_truth_21 (by decide) ?_
    refine lv_goto (tgt := 29) hx hb dX0_truth_22 (by decide) ?_
    refine c_put (v := .int (-1)) (ty := .int) (C := RX0) (Tc := TX0) (N := 13) (ci := 0) hx hb hq pin_wsX00 tyX0 tyX0_ok nmX0 hown hE hP hD hS hO 24 (sg_24 G h0 a _ _ _ _ _) rfl 10 (by decide) (hq _ pw_157) (fun _ h9 => h9) rfl (by decide +kernel) rfl rfl (Nat.le_of_ble_eq_true rfl) (sf_15 G h0 a _ _ _ _ _ (-1)) dX0_truth_29 (fun H locs w hP hD hS hO => ?_)
    refine lv_aload_n hx hb dX0_truth_32 rfl (lv_at hl 0 rfl) ?_
    refine lv_iconst (v := 1) hx hb dX0_truth_33 (by decide) ?_
    refine lv_iload_n hx hb dX0_truth_34 rfl (lv_at hl 1 rfl) ?_
    refine lv_if_eq (tgt := 42) hx hb dX0_truth_35 (by decide) (fun c33 => (by have n34 : b9 = 0 := (nI_eq (a := b9) (b := 0) (by omega) (by omega)).mp c33; omega)) (fun c33 => ?_)
    refine lv_iconst (v := 1) hx hb dX0_truth_38 (by decide) ?_
    refine lv_goto (tgt := 43) hx hb dX0_truth_39 (by decide) ?_
    refine lv_bipush (v := 61) hx hb dX0_truth_43 (by decide) ?_
    have hO : OKW G h0 a (upd (upd (upd (upd (upd (upd (upd (upd (upd F 2 (nI sz)) 5 (nI cs)) 7 (nI hd)) 12 (nI vr)) 13 as9) 14 as9) 15 (-1)) 5 (nI cs)) 7 (nI hd)) (updR (updR R 2 (.ref pq)) 3 (.ref mq)) Z B J K.1 (fun q99 x99 => x99 = rep G a K q99) w := hO.to rfl
    obtain ⟨_, qr38, hqr39⟩ := hO.2.1 24 _ (sg_24 G h0 a _ _ _ _ _)
    refine pc_V0 (G := G) (As := [.int 1, .int 1, .int 61]) (rest := []) hx hb hml hown hq hE hX pX0_al hP hD hS hA hl.1 (Y_give l G h0 a (upd (upd (upd (upd (upd (upd (upd F 2 (nI sz)) 5 (nI cs)) 7 (nI hd)) 12 (nI vr)) 13 as9) 14 as9) 15 (-1)) (updR (updR R 2 (.ref pq)) 3 (.ref mq)) Z B J K.1 (fun q99 x99 => x99 = rep G a K q99) w 1 1 61 cs hd (by omega) hO) (gV pw_158 pw_159 pw_160 pw_63 pw_128) hV_X0_give qr38 0 hqr39 rfl rfl rfl (Nat.le_of_ble_eq_true rfl) dX0_truth_45 ⟨(by show 0 + 0 ≤ 1; omega), (by show 0 + 0 ≤ 6; omega)⟩ ⟨(by show 3 + 1 ≤ (5 * n + 33); omega), (by show 8 + (4 + 11) + 83 ≤ (200 * n + 560); omega)⟩ (fun v37 u35 H locs hw36 hP hD hS => ?_)
    obtain ⟨w, _⟩ := u35
    obtain ⟨hw36, hO⟩ := hw36
    obtain rfl : v37 = some (.int 61) := hw36
    have hO : OKP G h0 a (upd (upd (upd (upd (upd (upd (upd F 2 (nI sz)) 5 (nI (cs + 1))) 7 (nI hd)) 12 (nI vr)) 13 as9) 14 as9) 15 (-1)) (updR (updR R 2 (.ref pq)) 3 (.ref mq)) Z (updA (updA (updA (updA B 16 (upd ((B 16)) cs 1)) 17 (upd ((B 17)) cs 1)) 18 (upd ((B 18)) cs 0)) 19 (upd ((B 19)) cs (nI hd))) J K w := hO.to rfl
    refine W.widen (k := 0) (n := 0) (Nat.le_of_ble_eq_true rfl) (Nat.le_of_ble_eq_true rfl) ?_
    refine W.eq (g2 := F0 m 48 ls [.int 61]) rfl ?_
    have hsw40 : ∀ x9 : Nat, x9 < cs → (upd ((B 16)) cs 1) x9 = B 16 x9 := fun x9 hx9 => (if_neg (by omega)).trans ((fun _ _ => rfl) x9 hx9)
    have hsw41 : ∀ x9 : Nat, x9 < cs → (upd ((B 17)) cs 1) x9 = B 17 x9 := fun x9 hx9 => (if_neg (by omega)).trans ((fun _ _ => rfl) x9 hx9)
    have hsw42 : ∀ x9 : Nat, x9 < cs → (upd ((B 18)) cs 0) x9 = B 18 x9 := fun x9 hx9 => (if_neg (by omega)).trans ((fun _ _ => rfl) x9 hx9)
    have hsw43 : ∀ x9 : Nat, x9 < cs → (upd ((B 19)) cs (nI hd)) x9 = B 19 x9 := fun x9 hx9 => (if_neg (by omega)).trans ((fun _ _ => rfl) x9 hx9)
    obtain ⟨Ag44, hev45⟩ : ∃ A5 : Nat → AS, okA → EvQ pb.1 pb.2.1 pb.2.2.1 pb.2.2.2 (B 16) (B 17) (B 18) (B 19) (upd ((B 16)) cs 1) (upd ((B 17)) cs 1) (upd ((B 18)) cs 0) (upd ((B 19)) cs (nI hd)) Ag A5 pd m9 sn lo cs (cs + 1) as9 as9 hd sl (161 :: os) := ⟨(upS Ag (cs + 1) (rcA as9, hd, sl, (161 :: os))), fun z => (hev0 z).trans (EmS.const (hev0 z).1 (by show os.length ≤ 248; omega) (fun S => VT.tru1))⟩
    have hng9 : Nng (upd ((B 18)) cs 0) := Nng.set hng (k := 0) (by omega)
    have hng46 := hng9
    refine W_size (fun hz1 hz2 => ?_)
    refine vx_ret ?_
    have hz47 : SmW B (updA (updA (updA (updA B 16 (upd ((B 16)) cs 1)) 17 (upd ((B 17)) cs 1)) 18 (upd ((B 18)) cs 0)) 19 (upd ((B 19)) cs (nI hd))) cs := (fun x9 hx9 => ⟨hsw40 x9 hx9, hsw41 x9 hx9, hsw42 x9 hx9, hsw43 x9 hx9⟩)
    have hz48 : BdE K K := BdE.rfl
    have hz49 : BeF K K := BeF.rfl
    have hz50 : BeL K K none := BeL.rfl
    have hz51 : BeI K K g q := BeI.rfl
    have hz52 : Bth B (updA (updA (updA (updA B 16 (upd ((B 16)) cs 1)) 17 (upd ((B 17)) cs 1)) 18 (upd ((B 18)) cs 0)) 19 (upd ((B 19)) cs (nI hd))) := (show Thx (upd (upd (upd (upd (upd F 2 (nI sz)) 5 (nI cs)) 7 (nI hd)) 12 (nI vr)) 13 as9) (upd (upd (upd (upd (upd (upd (upd (upd F 2 (nI sz)) 5 (nI cs)) 7 (nI hd)) 12 (nI vr)) 13 as9) 5 (nI (cs + 1))) 14 as9) 15 (-1)) B (updA (updA (updA (updA B 16 (upd ((B 16)) cs 1)) 17 (upd ((B 17)) cs 1)) 18 (upd ((B 18)) cs 0)) 19 (upd ((B 19)) cs (nI hd))) from (Thx.b (Thx.b8 (Thx.b (Thx.b (Thx.f (Thx.f (Thx.f Thx.rfl (by omega)) (by omega)) (by omega)) (by omega) (by decide)) (by omega) (by decide)) hng46) (by omega) (by decide))).2
    have hz53 : BeR B (updA (updA (updA (updA B 16 (upd ((B 16)) cs 1)) 17 (upd ((B 17)) cs 1)) 18 (upd ((B 18)) cs 0)) 19 (upd ((B 19)) cs (nI hd))) := (BeR.up (k := 19) (f := (upd ((B 19)) cs (nI hd))) (BeR.up (k := 18) (f := (upd ((B 18)) cs 0)) (BeR.up (k := 17) (f := (upd ((B 17)) cs 1)) (BeR.up (k := 16) (f := (upd ((B 16)) cs 1)) BeR.rfl (by omega)) (by omega)) (by omega)) (by omega))
    have hz54 : 61 < 128 := (by omega)
    have hz55 : cs ≤ (cs + 1) ∧ (cs + 1) + 0 ≤ cs + 2 * tlE g q := (by omega)
    have hz56 : AsE as9 as9 ∧ AsE as9 as9 ∧ AsE as9 ((-1) : Int32) := ⟨AsE.rfl, AsE.rfl, AsE.m1⟩
    have hz57 : okA → VaQ pb B (updA (updA (updA (updA B 16 (upd ((B 16)) cs 1)) 17 (upd ((B 17)) cs 1)) 18 (upd ((B 18)) cs 0)) 19 (upd ((B 19)) cs (nI hd))) Ag Ag44 pd m9 sn lo cs (cs + 1) as9 as9 as9 ((-1) : Int32) hd sl os 61 161 (K.2.1 0 q) := (fun z => Or.inr ⟨by rw [rsO_ne (by omega)]; exact hev45 z, UTb.true rfl, by omega⟩)
    have hO : OKP G h0 a (upd (upd (upd (upd (upd (upd (upd F 2 (nI sz)) 5 (nI (cs + 1))) 7 (nI hd)) 12 (nI vr)) 13 as9) 14 as9) 15 ((-1) : Int32)) (updR (updR R 2 (.ref pq)) 3 (.ref mq)) Z (updA (updA (updA (updA B 16 (upd ((B 16)) cs 1)) 17 (upd ((B 17)) cs 1)) 18 (upd ((B 18)) cs 0)) 19 (upd ((B 19)) cs (nI hd))) J K w := hO.to rfl
    refine W.widen (k := 1) (n := 6) (by omega) (by omega) ?_
    have hzz1 : H.size ≤ s.heap.size + (0) := (by have z : 0 ≤ 0 := (by omega); omega)
    have hzz2 : hSl H ≤ hSl s.heap + (0) := (by have z : 0 ≤ 0 := (by omega); omega)
    exact W.iret (v := 61) hx hb hr (fun t99 ht99 hW99 => ⟨⟨_, (w, (K, (updA (updA (updA (updA B 16 (upd ((B 16)) cs 1)) 17 (upd ((B 17)) cs 1)) 18 (upd ((B 18)) cs 0)) 19 (upd ((B 19)) cs (nI hd))), (cs + 1), as9, as9, ((-1) : Int32), 61, Ag44, 161)), rfl, ⟨rfl, hz47, hz48, hz49, hz50, hz51, hz52, hz53, hz54, hz55, hz56, hz57, hO⟩, by rw [ht99]; exact hP, hD, by rw [ht99]; exact hzz1, by rw [ht99]; exact hzz2⟩, hS.F ht99⟩) hS.2.2 dX0_truth_48
set_option maxHeartbeats 24000000 in
set_option maxRecDepth 100000 in
theorem Y_negation (l : Launch) (G : pT) (h0 : Nat) (a : Nat → Nat) (F : Nat → Int32) (R : Nat → Value) (Z : Int64) (B : Nat → Nat → Int32) (J : Nat → Nat → Int64) (K : PK) (w : va_W) (pq : Nat) (dr : Nat) (ml : Nat) (nd : Nat) (nm : Nat) (cp : Nat) (it : Nat → Nat) (s9 : Nat) (q : Nat) (mq : Nat) (cs : Nat) (vr : Nat) (sz : Nat) (n : Nat) (q1 : Nat) (g : Nat → Nat → Nat) (rk : Nat → Nat) (pb : PNb) (Ag : Nat → AS) (pd : Nat → Prop) (sl : Nat → Nat) (os : List Nat) (m9 : Nat) (sn : Nat) (lo : Nat) (hd : Nat) (c0 : Nat) (as9 : Int32) (okA : Prop) (hsz : sz ≤ 5000) (hwp : WPr G K g) (hps : PgT G K g (a 1) pq dr ml nd nm cp it s9) (hrk : RkO K rk) (hcs : cs ≤ 10000) (hvr : vr ≤ 30) (hng : Nng (B 18)) (hmq : K.1 mq = 3) (hqT : K.1 q = 1) (hqL : 1 ≤ g 0 q ∧ g 0 q ≤ n) (hek : EkA pb K g (B 7) (B 11) sz) (hcO : OwC K dr mq c0) (hna : NaB pb G K (B 11) dr nd sz) (hen : EnV (B 26) (B 27) nd vr hd c0 sl) (hem : okA → EmB pb B Ag pd m9 sn lo cs as9 hd sl os) (hrm : cs + 2 * tlE g q ≤ 10000) (hop : os.length + ndE g q ≤ 248) (hlf : 1 ≤ tlE g q ∧ 1 ≤ ndE g q) (hc0 : K.2.2.1 0 q = some q1) (ht0 : K.1 q1 = 1) (hv0 : 1 ≤ g 0 q1 ∧ g 0 q1 + 1 ≤ n) (hlf0 : 1 ≤ tlE g q1 ∧ 1 ≤ ndE g q1) (hin0 : InE g q q1) (htl : tlE g q1 + 1 ≤ tlE g q) (hnd0 : ndE g q1 ≤ ndE g q) (ihv : IhY l G n) (hO : OKP G h0 a (upd (upd (upd (upd (upd F 2 (nI sz)) 5 (nI cs)) 7 (nI hd)) 12 (nI vr)) 13 as9) (updR (updR R 2 (.ref pq)) 3 (.ref mq)) Z B J K w) (hl0 : l.stackTraces = false) : PBn l G pX0 yX0_negation cX0_negation 3 (some .int) ({ frames := (5 * n + 33), cells := 1, slots := 6, locals := (200 * n + 560) }) [.ref (a 4), .ref q] w (fun (v : Option Value) (u : va_W × (PK × (Nat → Nat → Int32) × Nat × Int32 × Int32 × Int32 × Nat × (Nat → AS) × Nat)) => v = some (.int (nI u.2.2.2.2.2.2.2.1)) ∧ (SmW B u.2.2.1 cs) ∧ (BdE K u.2.1) ∧ (BeF K u.2.1) ∧ (BeL K u.2.1 none) ∧ (BeI K u.2.1 g q) ∧ (Bth B u.2.2.1) ∧ (BeR B u.2.2.1) ∧ (u.2.2.2.2.2.2.2.1 < 128) ∧ (cs ≤ u.2.2.2.1 ∧ u.2.2.2.1 + 0 ≤ cs + 2 * tlE g q) ∧ (AsE as9 u.2.2.2.2.1 ∧ AsE as9 u.2.2.2.2.2.1 ∧ AsE as9 u.2.2.2.2.2.2.1) ∧ (okA → VaQ pb B u.2.2.1 Ag u.2.2.2.2.2.2.2.2.1 pd m9 sn lo cs u.2.2.2.1 as9 u.2.2.2.2.1 u.2.2.2.2.2.1 u.2.2.2.2.2.2.1 hd sl os u.2.2.2.2.2.2.2.1 u.2.2.2.2.2.2.2.2.2 (K.2.1 0 q)) ∧ (OKP G h0 a (upd (upd (upd (upd (upd (upd (upd F 2 (nI sz)) 5 (nI u.2.2.2.1)) 7 (nI hd)) 12 (nI vr)) 13 u.2.2.2.2.1) 14 u.2.2.2.2.2.1) 15 u.2.2.2.2.2.2.1) (updR (updR R 2 (.ref pq)) 3 (.ref mq)) Z u.2.2.1 J u.2.1 u.1)) (fun u => u.1) (fun (u : va_W × (PK × (Nat → Nat → Int32) × Nat × Int32 × Int32 × Int32 × Nat × (Nat → AS) × Nat)) => 0) (fun (u : va_W × (PK × (Nat → Nat → Int32) × Nat × Int32 × Int32 × Int32 × Nat × (Nat → AS) × Nat)) => 0) (fun (u : va_W × (Nat → Int32) × (Nat → Value) × (Nat → Nat → Int32)) => ThQ G h0 a (upd (upd (upd (upd (upd F 2 (nI sz)) 5 (nI cs)) 7 (nI hd)) 12 (nI vr)) 13 as9) (updR (updR R 2 (.ref pq)) 3 (.ref mq)) Z B J u) (fun u => u.1) := by
  intro sz
  refine vx_ofW (cc := cX0_negation) (maxL := 3) (ret := (some .int)) (by decide) rfl ?_
  intro p e s m args below meth c s₁ B9 hml hnt hv
  obtain ⟨rfl, hsz, hP, hD0, hE, hX⟩ := hv
  have hx := B9.exec
  have hb := B9.bytes
  have hr := B9.returns
  have hts := atoms_spec (ws := Cond.code yX0_negation cX0_negation 3 (some .int) :: pw) B9.pre
  have hq : ∀ w ∈ pw, w.before _ s = true := fun w h => hts w (List.mem_cons_of_mem _ h)
  have hown : s.vm.findClass RX0 = some m.cls := findClass_of_methodNamed B9.named
  have hlocks := B9.notSynchronized
  subst hsz
  have hD := hD0.self (sz := s.heap.size)
  have hA : ∀ q : Nat, s.heap.size ≤ q → va_A w s.heap.size q := fun q h => Or.inr h
  generalize va_A w s.heap.size = A at hD hE hA ⊢
  have hS : va_S A s.heap s.heap [] := va_S.rf
  have hl := lv_entry ([.ref (a 4), .ref q]) (n := 3) (Nat.le_of_ble_eq_true rfl)
  rw [lg_entry_eq]
  generalize (lg_sl ([.ref (a 4), .ref q]) ++ List.replicate (3 - (lg_sl ([.ref (a 4), .ref q])).length) Slot.unset).toArray = ls at hl ⊢
  have hl : lv_has ls 3 [(0, .ref (a 4)), (1, .ref q)] := hl
  have hpg := hps.1
  have hp1 := hpg.1
  have hp2 := hpg.2.1
  have hp3 := hpg.2.2.1
  have hp4 := hpg.2.2.2.1
  have hp5 := hpg.2.2.2.2.1
  have hp6 := hpg.2.2.2.2.2.1
  have hp8 := hpg.2.2.2.2.2.2.2.1
  have hp9 := hpg.2.2.2.2.2.2.2.2
  have hdr0 : ¬ K.1 dr = 0 := by rw [hp4]; decide
  have hev0 : okA → EvQ pb.1 pb.2.1 pb.2.2.1 pb.2.2.2 (B 16) (B 17) (B 18) (B 19) (B 16) (B 17) (B 18) (B 19) Ag Ag pd m9 sn lo cs cs as9 as9 hd sl os := fun z => EvB.nil (hem z)
  refine lv_aload_n hx hb dX0_negation_0 rfl (lv_at hl 0 rfl) ?_
  refine lv_aload_n hx hb dX0_negation_1 rfl (lv_at hl 1 rfl) ?_
  refine p_get (v := .ref q1) (C := RX7) (Tc := TX7) (N := 11) (ci := 13) hx hb hq pin_wsX70 hown hE hP hO (by rw [hqT]; decide) (rep_1 hqT) rfl 6 (by decide) (hq _ pw_180) (fun _ h9 => h9) (congrArg (fun z => some (va_rf z)) hc0) dX0_negation_2 ?_
  refine lv_aload_n hx hb dX0_negation_5 rfl (lv_at hl 0 rfl) ?_
  refine lv_aload_n hx hb dX0_negation_6 rfl (lv_at hl 1 rfl) ?_
  refine p_get (v := .ref q1) (C := RX7) (Tc := TX7) (N := 11) (ci := 13) hx hb hq pin_wsX70 hown hE hP hO (by rw [hqT]; decide) (rep_1 hqT) rfl 6 (by decide) (hq _ pw_180) (fun _ h9 => h9) (congrArg (fun z => some (va_rf z)) hc0) dX0_negation_7 ?_
  have hO : OKP G h0 a (upd (upd (upd (upd (upd (upd (upd (upd (upd (upd F 2 (nI sz)) 5 (nI cs)) 7 (nI hd)) 12 (nI vr)) 13 as9) 2 (nI sz)) 5 (nI cs)) 7 (nI hd)) 12 (nI vr)) 13 as9) (updR (updR (updR (updR R 2 (.ref pq)) 3 (.ref mq)) 2 (.ref pq)) 3 (.ref mq)) Z B J K w := hO.to rfl
  obtain ⟨_, qr4, hqr5⟩ := hO.2.1 24 _ (sg_24 G h0 a _ _ _ _ _)
  refine pn_V0 (G := G) (As := [.ref q1]) (rest := [.ref q1, .ref (a 4)]) hx hb hml hown hq hE hX pX0_al hP hD hS hA hl.1 ((ihv (by omega)) h0 a (upd (upd (upd (upd (upd F 2 (nI sz)) 5 (nI cs)) 7 (nI hd)) 12 (nI vr)) 13 as9) (updR (updR R 2 (.ref pq)) 3 (.ref mq)) Z B J K w pq dr ml nd nm cp it s9 q1 mq cs vr sz g rk pb Ag pd sl os m9 sn lo hd c0 as9 okA (by omega) (BdE.wp BdE.rfl hwp) (BdE.pt BdE.rfl hwp hps) (BdE.rko BdE.rfl hrk) (by omega) (by omega) hng hmq ht0 ⟨hv0.1, (by have z9 := hv0; omega)⟩ (EkA.be BdE.rfl (BeR.rfl 7 (by decide)) (BeR.rfl 11 (by decide)) hek) (OwC.be BdE.rfl hmq hdr0 hcO) (NaB.be BdE.rfl BeF.rfl hwp hps.2.1 hdr0 (BeR.rfl 11 (by decide)) hna) (EnV.of (BeR.rfl 26 (by decide)) (BeR.rfl 27 (by decide)) hen) (fun z => (hev0 z).1) (by omega) (by show os.length + ndE g q1 ≤ 248; omega) hlf0 hO hl0) (gV pw_173 pw_174 pw_175 pw_63 pw_224) hV_X0_value qr4 0 hqr5 rfl rfl rfl (Nat.le_of_ble_eq_true rfl) dX0_negation_10 ⟨(by show 0 + 1 ≤ 1; omega), (by show 0 + 6 ≤ 6; omega)⟩ ⟨(by show (5 * (n - 1) + 34) + 1 ≤ (5 * n + 33); omega), (by show 8 + (3 + 11) + (200 * (n - 1) + 600) ≤ (200 * n + 560); omega)⟩ (fun v3 u1 H locs hw2 hP hD hS => ?_) (fun ux ce9 q9 H9 locs9 hux hP9 hD9 hS9 hce hcv hcl => pb_out ux (ThQ.up (Thx.same (Thx.same (Thx.same (Thx.same (Thx.same Thx.rfl rfl) rfl) rfl) rfl) rfl) (show RhX (updR (updR R 2 (.ref pq)) 3 (.ref mq)) (updR (updR (updR (updR R 2 (.ref pq)) 3 (.ref mq)) 2 (.ref pq)) 3 (.ref mq)) from fun k9 hk9 => by unfold updR; simp only [show ¬ k9 = 1 by omega, show ¬ k9 = 2 by omega, show ¬ k9 = 3 by omega, show ¬ k9 = 4 by omega, if_false]) hux) hnt hlocks hce hcv hcl hP9 hD9 hS9 (by show 0 + 1 ≤ 1; omega) (by show 0 + 6 ≤ 6; omega))
  obtain ⟨w, K6, B7, cs8, as10, wt11, wf12, t13, Ag14, u15⟩ := u1
  obtain ⟨hw2, h16, h17, h18, h19, h20, h21, h22, h23, h24, h25, h26, h27, hO⟩ := hw2
  have h16 : SmW B B7 cs := h16
  have h17 : BdE K K6 := h17
  have h18 : BeF K K6 := h18
  have h19 : BeL K K6 none := h19
  have h20 : BeI K K6 g q1 := h20
  have h21 : Bth B B7 := h21
  have h22 : BeR B B7 := h22
  have h23 : t13 < 128 := h23
  have h24 : cs ≤ cs8 ∧ cs8 + 0 ≤ cs + 2 * tlE g q1 := h24
  have h25 : AsE as9 as10 ∧ AsE as9 wt11 ∧ AsE as9 wf12 := h25
  have h26 : okA → VaQ pb B B7 Ag Ag14 pd m9 sn lo cs cs8 as9 as10 wt11 wf12 hd sl os t13 u15 (K.2.1 0 q1) := h26
  have h27 : CaK (K.2.1 0 q1) → cs8 + 2 ≤ cs + 2 * tlE g q1 := h27
  obtain rfl : v3 = some (.int (nI t13)) := hw2
  have hf28 : K6.1 pq = 7 := (BdE.T h17 hp1 (by decide))
  have hf29 : K6.2.2.1 18 pq = some (a 1) := (BdE.C h17 (by rw [hp1]; decide) 18).trans hp2
  have hf30 : K6.2.2.1 14 pq = some dr := (BdE.C h17 (by rw [hp1]; decide) 14).trans hp3
  have hf31 : K6.1 dr = 8 := (BdE.T h17 hp4 (by decide))
  have hf32 : K6.2.2.1 15 pq = some ml := (BdE.C h17 (by rw [hp1]; decide) 15).trans hp5
  have hf33 : K6.1 ml = 5 := (BdE.T h17 hp6 (by decide))
  have hf34 : K6.2.1 24 pq = (nI nd) := (BdE.I h17 (by rw [hp1]; decide) (by decide) (by decide)).trans hp8
  have hf35 : K6.1 q = 1 := (BdE.T h17 hqT (by decide))
  have hf36 : K6.1 mq = 3 := (BdE.T h17 hmq (by decide))
  have hf37 : K6.2.2.1 0 q = some q1 := (BdE.C h17 (by rw [hqT]; decide) 0).trans hc0
  have hf38 : K6.1 q1 = 1 := (BdE.T h17 ht0 (by decide))
  have hO : OKP G h0 a (upd (upd (upd (upd (upd (upd (upd F 2 (nI sz)) 5 (nI cs8)) 7 (nI hd)) 12 (nI vr)) 13 as10) 14 wt11) 15 wf12) (updR (updR R 2 (.ref pq)) 3 (.ref mq)) Z B7 J K6 w := hO.to rfl
  refine W.widen (k := 0) (n := 0) (by show 0 + 0 ≤ 0; omega) (by show 0 + 0 ≤ 0; omega) ?_
  refine W.eq (g2 := F0 m 13 ls [.int (nI t13), .ref q1, .ref (a 4)]) rfl ?_
  have hbe39 := BdE.trans BdE.rfl h17
  have hbb40 : Bth B B7 := Bth.trans (show Thx (upd (upd (upd (upd (upd F 2 (nI sz)) 5 (nI cs)) 7 (nI hd)) 12 (nI vr)) 13 as9) (upd (upd (upd (upd (upd F 2 (nI sz)) 5 (nI cs)) 7 (nI hd)) 12 (nI vr)) 13 as9) B B from Thx.rfl).2 h21
  have hng41 : Nng (B7 18) := h21.2 hng
  have hsw42 : ∀ x9 : Nat, x9 < cs → (B7 16) x9 = B 16 x9 := fun x9 hx9 => ((h16 x9 (by omega)).1).trans ((fun _ _ => rfl) x9 hx9)
  have hsw43 : ∀ x9 : Nat, x9 < cs → (B7 17) x9 = B 17 x9 := fun x9 hx9 => ((h16 x9 (by omega)).2.1).trans ((fun _ _ => rfl) x9 hx9)
  have hsw44 : ∀ x9 : Nat, x9 < cs → (B7 18) x9 = B 18 x9 := fun x9 hx9 => ((h16 x9 (by omega)).2.2.1).trans ((fun _ _ => rfl) x9 hx9)
  have hsw45 : ∀ x9 : Nat, x9 < cs → (B7 19) x9 = B 19 x9 := fun x9 hx9 => ((h16 x9 (by omega)).2.2.2).trans ((fun _ _ => rfl) x9 hx9)
  have hbf46 := BeF.trans BeF.rfl h18 BdE.rfl
  have hbl49 := BeL.trans BeL.rfl h19 BdE.rfl
  have hbi50 := BeI.trans BeI.rfl h20 BdE.rfl hin0
  have hbr47 : BeR B B7 := BeR.trans BeR.rfl h22
  have hpt48 : (okA ∧ ¬ t13 = 63) → EvQ pb.1 pb.2.1 pb.2.2.1 pb.2.2.2 (B 16) (B 17) (B 18) (B 19) (B7 16) (B7 17) (B7 18) (B7 19) Ag Ag14 pd m9 sn lo cs cs8 as9 as10 hd sl (u15 :: os) ∧ UTb u15 (nI t13) as10 wt11 wf12 := fun z => VaQ.part (B1 := B) (hev0 z.1) (h26 z.1) h23 z.2
  have hev51 := fun z => (hpt48 z).1
  have has52 : AsE as9 as10 ∧ AsE as9 wt11 ∧ AsE as9 wf12 := ⟨AsE.trans AsE.rfl h25.1, AsE.trans AsE.rfl h25.2.1, AsE.trans AsE.rfl h25.2.2⟩
  refine lv_bipush (v := 61) hx hb dX0_negation_13 (by decide) ?_
  have hO : OKP G h0 a (upd (upd (upd (upd (upd (upd (upd (upd (upd (upd F 2 (nI sz)) 5 (nI cs)) 7 (nI hd)) 12 (nI vr)) 13 as9) 5 (nI cs8)) 13 as10) 14 wt11) 15 wf12) 2 (nI sz)) (updR (updR (updR R 2 (.ref pq)) 3 (.ref mq)) 2 (.ref pq)) Z B7 J K6 w := hO.to rfl
  obtain ⟨_, qr56, hqr57⟩ := hO.2.1 24 _ (sg_24 G h0 a _ _ _ _ _)
  refine pn_V0 (G := G) (As := [.ref q1, .int (nI t13), .int (nI 61)]) (rest := []) hx hb hml hown hq hE hX pX0_al hP hD hS hA hl.1 (Y_fit l G h0 a (upd (upd (upd (upd (upd (upd (upd (upd (upd F 2 (nI sz)) 5 (nI cs)) 7 (nI hd)) 12 (nI vr)) 13 as9) 5 (nI cs8)) 13 as10) 14 wt11) 15 wf12) (updR (updR R 2 (.ref pq)) 3 (.ref mq)) Z B7 J K6 w pq dr ml nd q1 sz t13 61 g pb (by omega) (BdE.pt hbe39 hwp hps).1 (BdE.pt hbe39 hwp hps).2.1 hf38 (by omega) hna.1.1 (NaB.be hbe39 hbf46 hwp hps.2.1 hdr0 (hbr47 11 (by decide)) hna).1.2.2 hO hl0) (gV pw_176 pw_177 pw_178 pw_63 pw_114) hV_X0_fit qr56 0 hqr57 rfl rfl rfl (Nat.le_of_ble_eq_true rfl) dX0_negation_15 ⟨(by show 0 + 1 ≤ 1; omega), (by show 0 + 6 ≤ 6; omega)⟩ ⟨(by show 7 + 1 ≤ (5 * n + 33); omega), (by show 8 + (4 + 11) + 122 ≤ (200 * n + 560); omega)⟩ (fun v55 u53 H locs hw54 hP hD hS => ?_) (fun ux ce9 q9 H9 locs9 hux hP9 hD9 hS9 hce hcv hcl => pb_out ux (ThQ.up (Thx.same (Thx.f (Thx.f (Thx.f (Thx.f (Bth.thx hbb40) (by omega)) (by omega)) (by omega)) (by omega)) rfl) (show RhX (updR (updR R 2 (.ref pq)) 3 (.ref mq)) (updR (updR (updR R 2 (.ref pq)) 3 (.ref mq)) 2 (.ref pq)) from fun k9 hk9 => by unfold updR; simp only [show ¬ k9 = 1 by omega, show ¬ k9 = 2 by omega, show ¬ k9 = 3 by omega, show ¬ k9 = 4 by omega, if_false]) hux) hnt hlocks hce hcv hcl hP9 hD9 hS9 (by show 0 + 1 ≤ 1; omega) (by show 0 + 6 ≤ 6; omega))
  obtain ⟨w, _⟩ := u53
  obtain ⟨hw54, h58, hO⟩ := hw54
  have h58 : FtQ pb t13 61 := h58
  obtain rfl : v55 = none := hw54
  have hO : OKP G h0 a (upd (upd (upd (upd (upd (upd (upd F 2 (nI sz)) 5 (nI cs8)) 7 (nI hd)) 12 (nI vr)) 13 as10) 14 wt11) 15 wf12) (updR (updR R 2 (.ref pq)) 3 (.ref mq)) Z B7 J K6 w := hO.to rfl
  refine W.widen (k := 0) (n := 0) (by show 0 + 0 ≤ 0; omega) (by show 0 + 0 ≤ 0; omega) ?_
  refine W.eq (g2 := F0 m 18 ls []) rfl ?_
  refine lv_aload_n hx hb dX0_negation_18 rfl (lv_at hl 0 rfl) ?_
  refine c_get (v := .int wt11) (C := RX0) (Tc := TX0) (N := 13) (ci := 0) hx hb hq pin_wsX00 hown hE hP hO 24 (sg_24 G h0 a _ _ _ _ _) rfl 9 (by decide) (hq _ pw_156) (fun _ h9 => h9) rfl dX0_negation_19 ?_
  refine lv_istore_n (lv' := [(2, .int wt11), (0, .ref (a 4)), (1, .ref q)]) hx hb dX0_negation_22 rfl hl (by decide) rfl (fun ls hl => ?_)
  refine lv_aload_n hx hb dX0_negation_23 rfl (lv_at hl 1 rfl) ?_
  refine lv_aload_n hx hb dX0_negation_24 rfl (lv_at hl 1 rfl) ?_
  refine c_get (v := .int wf12) (C := RX0) (Tc := TX0) (N := 13) (ci := 0) hx hb hq pin_wsX00 hown hE hP hO 24 (sg_24 G h0 a _ _ _ _ _) rfl 10 (by decide) (hq _ pw_157) (fun _ h9 => h9) rfl dX0_negation_25 ?_
  refine c_put (v := .int wf12) (ty := .int) (C := RX0) (Tc := TX0) (N := 13) (ci := 0) hx hb hq pin_wsX00 tyX0 tyX0_ok nmX0 hown hE hP hD hS hO 24 (sg_24 G h0 a _ _ _ _ _) rfl 9 (by decide) (hq _ pw_156) (fun _ h9 => h9) rfl (by decide +kernel) rfl rfl (Nat.le_of_ble_eq_true rfl) (sf_14 G h0 a _ _ _ _ _ wf12) dX0_negation_28 (fun H locs w hP hD hS hO => ?_)
  refine lv_aload_n hx hb dX0_negation_31 rfl (lv_at hl 1 rfl) ?_
  refine lv_iload_n hx hb dX0_negation_32 rfl (lv_at hl 0 rfl) ?_
  refine c_put (v := .int wt11) (ty := .int) (C := RX0) (Tc := TX0) (N := 13) (ci := 0) hx hb hq pin_wsX00 tyX0 tyX0_ok nmX0 hown hE hP hD hS hO 24 (sg_24 G h0 a _ _ _ _ _) rfl 10 (by decide) (hq _ pw_157) (fun _ h9 => h9) rfl (by decide +kernel) rfl rfl (Nat.le_of_ble_eq_true rfl) (sf_15 G h0 a _ _ _ _ _ wt11) dX0_negation_33 (fun H locs w hP hD hS hO => ?_)
  refine lv_aload_n hx hb dX0_negation_36 rfl (lv_at hl 1 rfl) ?_
  refine lv_bipush (v := 11) hx hb dX0_negation_37 (by decide) ?_
  refine lv_bipush (v := 53) hx hb dX0_negation_39 (by decide) ?_
  refine lv_bipush (v := 61) hx hb dX0_negation_41 (by decide) ?_
  have hut59 := fun z : okA => (hpt48 ⟨z, h58.1⟩).2
  have hev60 := fun z : okA => hev51 ⟨z, h58.1⟩
  have hO : OKW G h0 a (upd (upd (upd (upd (upd (upd (upd (upd (upd F 2 (nI sz)) 5 (nI cs8)) 7 (nI hd)) 12 (nI vr)) 13 as10) 14 wf12) 15 wt11) 5 (nI cs8)) 7 (nI hd)) (updR (updR R 2 (.ref pq)) 3 (.ref mq)) Z B7 J K6.1 (fun q99 x99 => x99 = rep G a K6 q99) w := hO.to rfl
  obtain ⟨_, qr64, hqr65⟩ := hO.2.1 24 _ (sg_24 G h0 a _ _ _ _ _)
  refine pc_V0 (G := G) (As := [.int 11, .int 53, .int 61]) (rest := []) hx hb hml hown hq hE hX pX0_al hP hD hS hA hl.1 (Y_give l G h0 a (upd (upd (upd (upd (upd (upd (upd F 2 (nI sz)) 5 (nI cs8)) 7 (nI hd)) 12 (nI vr)) 13 as10) 14 wf12) 15 wt11) (updR (updR R 2 (.ref pq)) 3 (.ref mq)) Z B7 J K6.1 (fun q99 x99 => x99 = rep G a K6 q99) w 11 53 61 cs8 hd (by omega) hO) (gV pw_158 pw_159 pw_160 pw_63 pw_128) hV_X0_give qr64 0 hqr65 rfl rfl rfl (Nat.le_of_ble_eq_true rfl) dX0_negation_43 ⟨(by show 0 + 0 ≤ 1; omega), (by show 0 + 0 ≤ 6; omega)⟩ ⟨(by show 3 + 1 ≤ (5 * n + 33); omega), (by show 8 + (4 + 11) + 83 ≤ (200 * n + 560); omega)⟩ (fun v63 u61 H locs hw62 hP hD hS => ?_)
  obtain ⟨w, _⟩ := u61
  obtain ⟨hw62, hO⟩ := hw62
  obtain rfl : v63 = some (.int 61) := hw62
  have hO : OKP G h0 a (upd (upd (upd (upd (upd (upd (upd F 2 (nI sz)) 5 (nI (cs8 + 1))) 7 (nI hd)) 12 (nI vr)) 13 as10) 14 wf12) 15 wt11) (updR (updR R 2 (.ref pq)) 3 (.ref mq)) Z (updA (updA (updA (updA B7 16 (upd ((B7 16)) cs8 11)) 17 (upd ((B7 17)) cs8 53)) 18 (upd ((B7 18)) cs8 0)) 19 (upd ((B7 19)) cs8 (nI hd))) J K6 w := hO.to rfl
  refine W.widen (k := 0) (n := 0) (Nat.le_of_ble_eq_true rfl) (Nat.le_of_ble_eq_true rfl) ?_
  refine W.eq (g2 := F0 m 46 ls [.int 61]) rfl ?_
  have hsw66 : ∀ x9 : Nat, x9 < cs → (upd ((B7 16)) cs8 11) x9 = B 16 x9 := fun x9 hx9 => (if_neg (by omega)).trans (hsw42 x9 hx9)
  have hsw67 : ∀ x9 : Nat, x9 < cs → (upd ((B7 17)) cs8 53) x9 = B 17 x9 := fun x9 hx9 => (if_neg (by omega)).trans (hsw43 x9 hx9)
  have hsw68 : ∀ x9 : Nat, x9 < cs → (upd ((B7 18)) cs8 0) x9 = B 18 x9 := fun x9 hx9 => (if_neg (by omega)).trans (hsw44 x9 hx9)
  have hsw69 : ∀ x9 : Nat, x9 < cs → (upd ((B7 19)) cs8 (nI hd)) x9 = B 19 x9 := fun x9 hx9 => (if_neg (by omega)).trans (hsw45 x9 hx9)
  obtain ⟨Ag70, hev71⟩ : ∃ A5 : Nat → AS, okA → EvQ pb.1 pb.2.1 pb.2.2.1 pb.2.2.2 (B 16) (B 17) (B 18) (B 19) (upd ((B7 16)) cs8 11) (upd ((B7 17)) cs8 53) (upd ((B7 18)) cs8 0) (upd ((B7 19)) cs8 (nI hd)) Ag A5 pd m9 sn lo cs (cs8 + 1) as9 as10 hd sl ((flp u15) :: os) := ⟨(upS Ag14 (cs8 + 1) (rcA as10, hd, sl, ((flp u15) :: os))), fun z => (hev60 z).trans (EmS.pref (hev60 z).1 (by show os.length + 1 ≤ 248; omega) (Or.inr ⟨rfl, (UTb.turn9 (hut59 z) h23 h58).2.1, rfl⟩))⟩
  have hng9 : Nng (upd ((B7 18)) cs8 0) := Nng.set hng41 (k := 0) (by omega)
  have hng72 := hng9
  refine W_size (fun hz1 hz2 => ?_)
  refine vx_ret ?_
  have hz73 : SmW B (updA (updA (updA (updA B7 16 (upd ((B7 16)) cs8 11)) 17 (upd ((B7 17)) cs8 53)) 18 (upd ((B7 18)) cs8 0)) 19 (upd ((B7 19)) cs8 (nI hd))) cs := (fun x9 hx9 => ⟨hsw66 x9 hx9, hsw67 x9 hx9, hsw68 x9 hx9, hsw69 x9 hx9⟩)
  have hz74 : BdE K K6 := hbe39
  have hz75 : BeF K K6 := hbf46
  have hz76 : BeL K K6 none := hbl49
  have hz77 : BeI K K6 g q := hbi50
  have hz78 : Bth B (updA (updA (updA (updA B7 16 (upd ((B7 16)) cs8 11)) 17 (upd ((B7 17)) cs8 53)) 18 (upd ((B7 18)) cs8 0)) 19 (upd ((B7 19)) cs8 (nI hd))) := (show Thx (upd (upd (upd (upd (upd F 2 (nI sz)) 5 (nI cs)) 7 (nI hd)) 12 (nI vr)) 13 as9) (upd (upd (upd (upd (upd (upd (upd (upd (upd F 2 (nI sz)) 5 (nI cs)) 7 (nI hd)) 12 (nI vr)) 13 as9) 5 (nI (cs8 + 1))) 13 as10) 14 wf12) 15 wt11) B (updA (updA (updA (updA B7 16 (upd ((B7 16)) cs8 11)) 17 (upd ((B7 17)) cs8 53)) 18 (upd ((B7 18)) cs8 0)) 19 (upd ((B7 19)) cs8 (nI hd))) from (Thx.b (Thx.b8 (Thx.b (Thx.b (Thx.f (Thx.f (Thx.f (Thx.f (Bth.thx hbb40) (by omega)) (by omega)) (by omega)) (by omega)) (by omega) (by decide)) (by omega) (by decide)) hng72) (by omega) (by decide))).2
  have hz79 : BeR B (updA (updA (updA (updA B7 16 (upd ((B7 16)) cs8 11)) 17 (upd ((B7 17)) cs8 53)) 18 (upd ((B7 18)) cs8 0)) 19 (upd ((B7 19)) cs8 (nI hd))) := (BeR.up (k := 19) (f := (upd ((B7 19)) cs8 (nI hd))) (BeR.up (k := 18) (f := (upd ((B7 18)) cs8 0)) (BeR.up (k := 17) (f := (upd ((B7 17)) cs8 53)) (BeR.up (k := 16) (f := (upd ((B7 16)) cs8 11)) hbr47 (by omega)) (by omega)) (by omega)) (by omega))
  have hz80 : 61 < 128 := (by omega)
  have hz81 : cs ≤ (cs8 + 1) ∧ (cs8 + 1) + 0 ≤ cs + 2 * tlE g q := (by omega)
  have hz82 : AsE as9 as10 ∧ AsE as9 wf12 ∧ AsE as9 wt11 := ⟨has52.1, has52.2.2, has52.2.1⟩
  have hz83 : okA → VaQ pb B (updA (updA (updA (updA B7 16 (upd ((B7 16)) cs8 11)) 17 (upd ((B7 17)) cs8 53)) 18 (upd ((B7 18)) cs8 0)) 19 (upd ((B7 19)) cs8 (nI hd))) Ag Ag70 pd m9 sn lo cs (cs8 + 1) as9 as10 wf12 wt11 hd sl os 61 (flp u15) (K.2.1 0 q) := (fun z => Or.inr ⟨by rw [rsO_ne (UTb.turn9 (hut59 z) h23 h58).2.2]; exact hev71 z, (UTb.turn9 (hut59 z) h23 h58).1, by omega⟩)
  have hO : OKP G h0 a (upd (upd (upd (upd (upd (upd (upd F 2 (nI sz)) 5 (nI (cs8 + 1))) 7 (nI hd)) 12 (nI vr)) 13 as10) 14 wf12) 15 wt11) (updR (updR R 2 (.ref pq)) 3 (.ref mq)) Z (updA (updA (updA (updA B7 16 (upd ((B7 16)) cs8 11)) 17 (upd ((B7 17)) cs8 53)) 18 (upd ((B7 18)) cs8 0)) 19 (upd ((B7 19)) cs8 (nI hd))) J K6 w := hO.to rfl
  refine W.widen (k := 1) (n := 6) (by omega) (by omega) ?_
  have hzz1 : H.size ≤ s.heap.size + (0) := (by have z : 0 ≤ 0 := (by omega); omega)
  have hzz2 : hSl H ≤ hSl s.heap + (0) := (by have z : 0 ≤ 0 := (by omega); omega)
  exact W.iret (v := 61) hx hb hr (fun t99 ht99 hW99 => ⟨⟨_, (w, (K6, (updA (updA (updA (updA B7 16 (upd ((B7 16)) cs8 11)) 17 (upd ((B7 17)) cs8 53)) 18 (upd ((B7 18)) cs8 0)) 19 (upd ((B7 19)) cs8 (nI hd))), (cs8 + 1), as10, wf12, wt11, 61, Ag70, (flp u15))), rfl, ⟨rfl, hz73, hz74, hz75, hz76, hz77, hz78, hz79, hz80, hz81, hz82, hz83, hO⟩, by rw [ht99]; exact hP, hD, by rw [ht99]; exact hzz1, by rw [ht99]; exact hzz2⟩, hS.F ht99⟩) hS.2.2 dX0_negation_46
set_option maxHeartbeats 24000000 in
set_option maxRecDepth 100000 in
theorem Y_shortened (l : Launch) (G : pT) (h0 : Nat) (a : Nat → Nat) (F : Nat → Int32) (R : Nat → Value) (Z : Int64) (B : Nat → Nat → Int32) (J : Nat → Nat → Int64) (K : PK) (w : va_W) (pq : Nat) (dr : Nat) (ml : Nat) (nd : Nat) (nm : Nat) (cp : Nat) (it : Nat → Nat) (s9 : Nat) (q : Nat) (mq : Nat) (cs : Nat) (vr : Nat) (sz : Nat) (n : Nat) (q1 : Nat) (q2 : Nat) (b9 : Nat) (g : Nat → Nat → Nat) (rk : Nat → Nat) (pb : PNb) (Ag : Nat → AS) (pd : Nat → Prop) (sl : Nat → Nat) (os : List Nat) (m9 : Nat) (sn : Nat) (lo : Nat) (hd : Nat) (c0 : Nat) (as9 : Int32) (okA : Prop) (hsz : sz ≤ 5000) (hwp : WPr G K g) (hps : PgT G K g (a 1) pq dr ml nd nm cp it s9) (hrk : RkO K rk) (hcs : cs ≤ 10000) (hvr : vr ≤ 30) (hng : Nng (B 18)) (hmq : K.1 mq = 3) (hqT : K.1 q = 1) (hqL : 1 ≤ g 0 q ∧ g 0 q ≤ n) (hek : EkA pb K g (B 7) (B 11) sz) (hcO : OwC K dr mq c0) (hna : NaB pb G K (B 11) dr nd sz) (hen : EnV (B 26) (B 27) nd vr hd c0 sl) (hem : okA → EmB pb B Ag pd m9 sn lo cs as9 hd sl os) (hrm : cs + 2 * tlE g q ≤ 10000) (hop : os.length + ndE g q ≤ 248) (hlf : 1 ≤ tlE g q ∧ 1 ≤ ndE g q) (hc0 : K.2.2.1 0 q = some q1) (ht0 : K.1 q1 = 1) (hv0 : 1 ≤ g 0 q1 ∧ g 0 q1 + 1 ≤ n) (hlf0 : 1 ≤ tlE g q1 ∧ 1 ≤ ndE g q1) (hin0 : InE g q q1) (hc1 : K.2.2.1 1 q = some q2) (ht1 : K.1 q2 = 1) (hv1 : 1 ≤ g 0 q2 ∧ g 0 q2 + 1 ≤ n) (hlf1 : 1 ≤ tlE g q2 ∧ 1 ≤ ndE g q2) (hin1 : InE g q q2) (htl : tlE g q1 + tlE g q2 + 1 ≤ tlE g q) (hnd0 : ndE g q1 ≤ ndE g q) (hnd1 : ndE g q2 + 1 ≤ ndE g q) (hb9 : b9 ≤ 1) (ihv : IhY l G n) (hO : OKP G h0 a (upd (upd (upd (upd (upd F 2 (nI sz)) 5 (nI cs)) 7 (nI hd)) 12 (nI vr)) 13 as9) (updR (updR R 2 (.ref pq)) 3 (.ref mq)) Z B J K w) (hl0 : l.stackTraces = false) : PBn l G pX0 yX0_shortened cX0_shortened 6 (some .int) ({ frames := (5 * n + 33), cells := 1, slots := 6, locals := (200 * n + 560) }) [.ref (a 4), .ref q, .int (nI b9)] w (fun (v : Option Value) (u : va_W × (PK × (Nat → Nat → Int32) × Nat × Int32 × Int32 × Int32 × Nat × (Nat → AS) × Nat)) => v = some (.int (nI u.2.2.2.2.2.2.2.1)) ∧ (SmW B u.2.2.1 cs) ∧ (BdE K u.2.1) ∧ (BeF K u.2.1) ∧ (BeL K u.2.1 none) ∧ (BeI K u.2.1 g q) ∧ (Bth B u.2.2.1) ∧ (BeR B u.2.2.1) ∧ (u.2.2.2.2.2.2.2.1 < 128) ∧ (cs ≤ u.2.2.2.1 ∧ u.2.2.2.1 + 0 ≤ cs + 2 * tlE g q) ∧ (AsE as9 u.2.2.2.2.1 ∧ AsE as9 u.2.2.2.2.2.1 ∧ AsE as9 u.2.2.2.2.2.2.1) ∧ (okA → VaQ pb B u.2.2.1 Ag u.2.2.2.2.2.2.2.2.1 pd m9 sn lo cs u.2.2.2.1 as9 u.2.2.2.2.1 u.2.2.2.2.2.1 u.2.2.2.2.2.2.1 hd sl os u.2.2.2.2.2.2.2.1 u.2.2.2.2.2.2.2.2.2 (K.2.1 0 q)) ∧ (OKP G h0 a (upd (upd (upd (upd (upd (upd (upd F 2 (nI sz)) 5 (nI u.2.2.2.1)) 7 (nI hd)) 12 (nI vr)) 13 u.2.2.2.2.1) 14 u.2.2.2.2.2.1) 15 u.2.2.2.2.2.2.1) (updR (updR R 2 (.ref pq)) 3 (.ref mq)) Z u.2.2.1 J u.2.1 u.1)) (fun u => u.1) (fun (u : va_W × (PK × (Nat → Nat → Int32) × Nat × Int32 × Int32 × Int32 × Nat × (Nat → AS) × Nat)) => 0) (fun (u : va_W × (PK × (Nat → Nat → Int32) × Nat × Int32 × Int32 × Int32 × Nat × (Nat → AS) × Nat)) => 0) (fun (u : va_W × (Nat → Int32) × (Nat → Value) × (Nat → Nat → Int32)) => ThQ G h0 a (upd (upd (upd (upd (upd F 2 (nI sz)) 5 (nI cs)) 7 (nI hd)) 12 (nI vr)) 13 as9) (updR (updR R 2 (.ref pq)) 3 (.ref mq)) Z B J u) (fun u => u.1) := by
  intro sz
  refine vx_ofW (cc := cX0_shortened) (maxL := 6) (ret := (some .int)) (by decide) rfl ?_
  intro p e s m args below meth c s₁ B9 hml hnt hv
  obtain ⟨rfl, hsz, hP, hD0, hE, hX⟩ := hv
  have hx := B9.exec
  have hb := B9.bytes
  have hr := B9.returns
  have hts := atoms_spec (ws := Cond.code yX0_shortened cX0_shortened 6 (some .int) :: pw) B9.pre
  have hq : ∀ w ∈ pw, w.before _ s = true := fun w h => hts w (List.mem_cons_of_mem _ h)
  have hown : s.vm.findClass RX0 = some m.cls := findClass_of_methodNamed B9.named
  have hlocks := B9.notSynchronized
  subst hsz
  have hD := hD0.self (sz := s.heap.size)
  have hA : ∀ q : Nat, s.heap.size ≤ q → va_A w s.heap.size q := fun q h => Or.inr h
  generalize va_A w s.heap.size = A at hD hE hA ⊢
  have hS : va_S A s.heap s.heap [] := va_S.rf
  have hl := lv_entry ([.ref (a 4), .ref q, .int (nI b9)]) (n := 6) (Nat.le_of_ble_eq_true rfl)
  rw [lg_entry_eq]
  generalize (lg_sl ([.ref (a 4), .ref q, .int (nI b9)]) ++ List.replicate (6 - (lg_sl ([.ref (a 4), .ref q, .int (nI b9)])).length) Slot.unset).toArray = ls at hl ⊢
  have hl : lv_has ls 6 [(0, .ref (a 4)), (1, .ref q), (2, .int (nI b9))] := hl
  have hpg := hps.1
  have hp1 := hpg.1
  have hp2 := hpg.2.1
  have hp3 := hpg.2.2.1
  have hp4 := hpg.2.2.2.1
  have hp5 := hpg.2.2.2.2.1
  have hp6 := hpg.2.2.2.2.2.1
  have hp8 := hpg.2.2.2.2.2.2.2.1
  have hp9 := hpg.2.2.2.2.2.2.2.2
  have hdr0 : ¬ K.1 dr = 0 := by rw [hp4]; decide
  have hev0 : okA → EvQ pb.1 pb.2.1 pb.2.2.1 pb.2.2.2 (B 16) (B 17) (B 18) (B 19) (B 16) (B 17) (B 18) (B 19) Ag Ag pd m9 sn lo cs cs as9 as9 hd sl os := fun z => EvB.nil (hem z)
  refine lv_aload_n hx hb dX0_shortened_0 rfl (lv_at hl 0 rfl) ?_
  refine lv_aload_n hx hb dX0_shortened_1 rfl (lv_at hl 1 rfl) ?_
  refine p_get (v := .ref q1) (C := RX7) (Tc := TX7) (N := 11) (ci := 13) hx hb hq pin_wsX70 hown hE hP hO (by rw [hqT]; decide) (rep_1 hqT) rfl 6 (by decide) (hq _ pw_180) (fun _ h9 => h9) (congrArg (fun z => some (va_rf z)) hc0) dX0_shortened_2 ?_
  refine lv_aload_n hx hb dX0_shortened_5 rfl (lv_at hl 0 rfl) ?_
  refine lv_aload_n hx hb dX0_shortened_6 rfl (lv_at hl 1 rfl) ?_
  refine p_get (v := .ref q1) (C := RX7) (Tc := TX7) (N := 11) (ci := 13) hx hb hq pin_wsX70 hown hE hP hO (by rw [hqT]; decide) (rep_1 hqT) rfl 6 (by decide) (hq _ pw_180) (fun _ h9 => h9) (congrArg (fun z => some (va_rf z)) hc0) dX0_shortened_7 ?_
  have hO : OKP G h0 a (upd (upd (upd (upd (upd (upd (upd (upd (upd (upd F 2 (nI sz)) 5 (nI cs)) 7 (nI hd)) 12 (nI vr)) 13 as9) 2 (nI sz)) 5 (nI cs)) 7 (nI hd)) 12 (nI vr)) 13 as9) (updR (updR (updR (updR R 2 (.ref pq)) 3 (.ref mq)) 2 (.ref pq)) 3 (.ref mq)) Z B J K w := hO.to rfl
  obtain ⟨_, qr4, hqr5⟩ := hO.2.1 24 _ (sg_24 G h0 a _ _ _ _ _)
  refine pn_V0 (G := G) (As := [.ref q1]) (rest := [.ref q1, .ref (a 4)]) hx hb hml hown hq hE hX pX0_al hP hD hS hA hl.1 ((ihv (by omega)) h0 a (upd (upd (upd (upd (upd F 2 (nI sz)) 5 (nI cs)) 7 (nI hd)) 12 (nI vr)) 13 as9) (updR (updR R 2 (.ref pq)) 3 (.ref mq)) Z B J K w pq dr ml nd nm cp it s9 q1 mq cs vr sz g rk pb Ag pd sl os m9 sn lo hd c0 as9 okA (by omega) (BdE.wp BdE.rfl hwp) (BdE.pt BdE.rfl hwp hps) (BdE.rko BdE.rfl hrk) (by omega) (by omega) hng hmq ht0 ⟨hv0.1, (by have z9 := hv0; omega)⟩ (EkA.be BdE.rfl (BeR.rfl 7 (by decide)) (BeR.rfl 11 (by decide)) hek) (OwC.be BdE.rfl hmq hdr0 hcO) (NaB.be BdE.rfl BeF.rfl hwp hps.2.1 hdr0 (BeR.rfl 11 (by decide)) hna) (EnV.of (BeR.rfl 26 (by decide)) (BeR.rfl 27 (by decide)) hen) (fun z => (hev0 z).1) (by omega) (by show os.length + ndE g q1 ≤ 248; omega) hlf0 hO hl0) (gV pw_173 pw_174 pw_175 pw_63 pw_224) hV_X0_value qr4 0 hqr5 rfl rfl rfl (Nat.le_of_ble_eq_true rfl) dX0_shortened_10 ⟨(by show 0 + 1 ≤ 1; omega), (by show 0 + 6 ≤ 6; omega)⟩ ⟨(by show (5 * (n - 1) + 34) + 1 ≤ (5 * n + 33); omega), (by show 8 + (3 + 11) + (200 * (n - 1) + 600) ≤ (200 * n + 560); omega)⟩ (fun v3 u1 H locs hw2 hP hD hS => ?_) (fun ux ce9 q9 H9 locs9 hux hP9 hD9 hS9 hce hcv hcl => pb_out ux (ThQ.up (Thx.same (Thx.same (Thx.same (Thx.same (Thx.same Thx.rfl rfl) rfl) rfl) rfl) rfl) (show RhX (updR (updR R 2 (.ref pq)) 3 (.ref mq)) (updR (updR (updR (updR R 2 (.ref pq)) 3 (.ref mq)) 2 (.ref pq)) 3 (.ref mq)) from fun k9 hk9 => by unfold updR; simp only [show ¬ k9 = 1 by omega, show ¬ k9 = 2 by omega, show ¬ k9 = 3 by omega, show ¬ k9 = 4 by omega, if_false]) hux) hnt hlocks hce hcv hcl hP9 hD9 hS9 (by show 0 + 1 ≤ 1; omega) (by show 0 + 6 ≤ 6; omega))
  obtain ⟨w, K6, B7, cs8, as10, wt11, wf12, t13, Ag14, u15⟩ := u1
  obtain ⟨hw2, h16, h17, h18, h19, h20, h21, h22, h23, h24, h25, h26, h27, hO⟩ := hw2
  have h16 : SmW B B7 cs := h16
  have h17 : BdE K K6 := h17
  have h18 : BeF K K6 := h18
  have h19 : BeL K K6 none := h19
  have h20 : BeI K K6 g q1 := h20
  have h21 : Bth B B7 := h21
  have h22 : BeR B B7 := h22
  have h23 : t13 < 128 := h23
  have h24 : cs ≤ cs8 ∧ cs8 + 0 ≤ cs + 2 * tlE g q1 := h24
  have h25 : AsE as9 as10 ∧ AsE as9 wt11 ∧ AsE as9 wf12 := h25
  have h26 : okA → VaQ pb B B7 Ag Ag14 pd m9 sn lo cs cs8 as9 as10 wt11 wf12 hd sl os t13 u15 (K.2.1 0 q1) := h26
  have h27 : CaK (K.2.1 0 q1) → cs8 + 2 ≤ cs + 2 * tlE g q1 := h27
  obtain rfl : v3 = some (.int (nI t13)) := hw2
  have hf28 : K6.1 pq = 7 := (BdE.T h17 hp1 (by decide))
  have hf29 : K6.2.2.1 18 pq = some (a 1) := (BdE.C h17 (by rw [hp1]; decide) 18).trans hp2
  have hf30 : K6.2.2.1 14 pq = some dr := (BdE.C h17 (by rw [hp1]; decide) 14).trans hp3
  have hf31 : K6.1 dr = 8 := (BdE.T h17 hp4 (by decide))
  have hf32 : K6.2.2.1 15 pq = some ml := (BdE.C h17 (by rw [hp1]; decide) 15).trans hp5
  have hf33 : K6.1 ml = 5 := (BdE.T h17 hp6 (by decide))
  have hf34 : K6.2.1 24 pq = (nI nd) := (BdE.I h17 (by rw [hp1]; decide) (by decide) (by decide)).trans hp8
  have hf35 : K6.1 q = 1 := (BdE.T h17 hqT (by decide))
  have hf36 : K6.1 mq = 3 := (BdE.T h17 hmq (by decide))
  have hf37 : K6.2.2.1 0 q = some q1 := (BdE.C h17 (by rw [hqT]; decide) 0).trans hc0
  have hf38 : K6.1 q1 = 1 := (BdE.T h17 ht0 (by decide))
  have hf39 : K6.2.2.1 1 q = some q2 := (BdE.C h17 (by rw [hqT]; decide) 1).trans hc1
  have hf40 : K6.1 q2 = 1 := (BdE.T h17 ht1 (by decide))
  have hO : OKP G h0 a (upd (upd (upd (upd (upd (upd (upd F 2 (nI sz)) 5 (nI cs8)) 7 (nI hd)) 12 (nI vr)) 13 as10) 14 wt11) 15 wf12) (updR (updR R 2 (.ref pq)) 3 (.ref mq)) Z B7 J K6 w := hO.to rfl
  refine W.widen (k := 0) (n := 0) (by show 0 + 0 ≤ 0; omega) (by show 0 + 0 ≤ 0; omega) ?_
  refine W.eq (g2 := F0 m 13 ls [.int (nI t13), .ref q1, .ref (a 4)]) rfl ?_
  have hbe41 := BdE.trans BdE.rfl h17
  have hbb42 : Bth B B7 := Bth.trans (show Thx (upd (upd (upd (upd (upd F 2 (nI sz)) 5 (nI cs)) 7 (nI hd)) 12 (nI vr)) 13 as9) (upd (upd (upd (upd (upd F 2 (nI sz)) 5 (nI cs)) 7 (nI hd)) 12 (nI vr)) 13 as9) B B from Thx.rfl).2 h21
  have hng43 : Nng (B7 18) := h21.2 hng
  have hsw44 : ∀ x9 : Nat, x9 < cs → (B7 16) x9 = B 16 x9 := fun x9 hx9 => ((h16 x9 (by omega)).1).trans ((fun _ _ => rfl) x9 hx9)
  have hsw45 : ∀ x9 : Nat, x9 < cs → (B7 17) x9 = B 17 x9 := fun x9 hx9 => ((h16 x9 (by omega)).2.1).trans ((fun _ _ => rfl) x9 hx9)
  have hsw46 : ∀ x9 : Nat, x9 < cs → (B7 18) x9 = B 18 x9 := fun x9 hx9 => ((h16 x9 (by omega)).2.2.1).trans ((fun _ _ => rfl) x9 hx9)
  have hsw47 : ∀ x9 : Nat, x9 < cs → (B7 19) x9 = B 19 x9 := fun x9 hx9 => ((h16 x9 (by omega)).2.2.2).trans ((fun _ _ => rfl) x9 hx9)
  have hbf48 := BeF.trans BeF.rfl h18 BdE.rfl
  have hbl51 := BeL.trans BeL.rfl h19 BdE.rfl
  have hbi52 := BeI.trans BeI.rfl h20 BdE.rfl hin0
  have hbr49 : BeR B B7 := BeR.trans BeR.rfl h22
  have hpt50 : (okA ∧ ¬ t13 = 63) → EvQ pb.1 pb.2.1 pb.2.2.1 pb.2.2.2 (B 16) (B 17) (B 18) (B 19) (B7 16) (B7 17) (B7 18) (B7 19) Ag Ag14 pd m9 sn lo cs cs8 as9 as10 hd sl (u15 :: os) ∧ UTb u15 (nI t13) as10 wt11 wf12 := fun z => VaQ.part (B1 := B) (hev0 z.1) (h26 z.1) h23 z.2
  have hev53 := fun z => (hpt50 z).1
  have has54 : AsE as9 as10 ∧ AsE as9 wt11 ∧ AsE as9 wf12 := ⟨AsE.trans AsE.rfl h25.1, AsE.trans AsE.rfl h25.2.1, AsE.trans AsE.rfl h25.2.2⟩
  refine lv_bipush (v := 61) hx hb dX0_shortened_13 (by decide) ?_
  have hO : OKP G h0 a (upd (upd (upd (upd (upd (upd (upd (upd (upd (upd F 2 (nI sz)) 5 (nI cs)) 7 (nI hd)) 12 (nI vr)) 13 as9) 5 (nI cs8)) 13 as10) 14 wt11) 15 wf12) 2 (nI sz)) (updR (updR (updR R 2 (.ref pq)) 3 (.ref mq)) 2 (.ref pq)) Z B7 J K6 w := hO.to rfl
  obtain ⟨_, qr58, hqr59⟩ := hO.2.1 24 _ (sg_24 G h0 a _ _ _ _ _)
  refine pn_V0 (G := G) (As := [.ref q1, .int (nI t13), .int (nI 61)]) (rest := []) hx hb hml hown hq hE hX pX0_al hP hD hS hA hl.1 (Y_fit l G h0 a (upd (upd (upd (upd (upd (upd (upd (upd (upd F 2 (nI sz)) 5 (nI cs)) 7 (nI hd)) 12 (nI vr)) 13 as9) 5 (nI cs8)) 13 as10) 14 wt11) 15 wf12) (updR (updR R 2 (.ref pq)) 3 (.ref mq)) Z B7 J K6 w pq dr ml nd q1 sz t13 61 g pb (by omega) (BdE.pt hbe41 hwp hps).1 (BdE.pt hbe41 hwp hps).2.1 hf38 (by omega) hna.1.1 (NaB.be hbe41 hbf48 hwp hps.2.1 hdr0 (hbr49 11 (by decide)) hna).1.2.2 hO hl0) (gV pw_176 pw_177 pw_178 pw_63 pw_114) hV_X0_fit qr58 0 hqr59 rfl rfl rfl (Nat.le_of_ble_eq_true rfl) dX0_shortened_15 ⟨(by show 0 + 1 ≤ 1; omega), (by show 0 + 6 ≤ 6; omega)⟩ ⟨(by show 7 + 1 ≤ (5 * n + 33); omega), (by show 8 + (4 + 11) + 122 ≤ (200 * n + 560); omega)⟩ (fun v57 u55 H locs hw56 hP hD hS => ?_) (fun ux ce9 q9 H9 locs9 hux hP9 hD9 hS9 hce hcv hcl => pb_out ux (ThQ.up (Thx.same (Thx.f (Thx.f (Thx.f (Thx.f (Bth.thx hbb42) (by omega)) (by omega)) (by omega)) (by omega)) rfl) (show RhX (updR (updR R 2 (.ref pq)) 3 (.ref mq)) (updR (updR (updR R 2 (.ref pq)) 3 (.ref mq)) 2 (.ref pq)) from fun k9 hk9 => by unfold updR; simp only [show ¬ k9 = 1 by omega, show ¬ k9 = 2 by omega, show ¬ k9 = 3 by omega, show ¬ k9 = 4 by omega, if_false]) hux) hnt hlocks hce hcv hcl hP9 hD9 hS9 (by show 0 + 1 ≤ 1; omega) (by show 0 + 6 ≤ 6; omega))
  obtain ⟨w, _⟩ := u55
  obtain ⟨hw56, h60, hO⟩ := hw56
  have h60 : FtQ pb t13 61 := h60
  obtain rfl : v57 = none := hw56
  have hO : OKP G h0 a (upd (upd (upd (upd (upd (upd (upd F 2 (nI sz)) 5 (nI cs8)) 7 (nI hd)) 12 (nI vr)) 13 as10) 14 wt11) 15 wf12) (updR (updR R 2 (.ref pq)) 3 (.ref mq)) Z B7 J K6 w := hO.to rfl
  refine W.widen (k := 0) (n := 0) (by show 0 + 0 ≤ 0; omega) (by show 0 + 0 ≤ 0; omega) ?_
  refine W.eq (g2 := F0 m 18 ls []) rfl ?_
  refine lv_aload_n hx hb dX0_shortened_18 rfl (lv_at hl 0 rfl) ?_
  refine c_get (v := .int wt11) (C := RX0) (Tc := TX0) (N := 13) (ci := 0) hx hb hq pin_wsX00 hown hE hP hO 24 (sg_24 G h0 a _ _ _ _ _) rfl 9 (by decide) (hq _ pw_156) (fun _ h9 => h9) rfl dX0_shortened_19 ?_
  refine lv_istore_n (lv' := [(3, .int wt11), (0, .ref (a 4)), (1, .ref q), (2, .int (nI b9))]) hx hb dX0_shortened_22 rfl hl (by decide) rfl (fun ls hl => ?_)
  refine lv_aload_n hx hb dX0_shortened_23 rfl (lv_at hl 1 rfl) ?_
  refine c_get (v := .int wf12) (C := RX0) (Tc := TX0) (N := 13) (ci := 0) hx hb hq pin_wsX00 hown hE hP hO 24 (sg_24 G h0 a _ _ _ _ _) rfl 10 (by decide) (hq _ pw_157) (fun _ h9 => h9) rfl dX0_shortened_24 ?_
  refine lv_istore (lv' := [(4, .int wf12), (3, .int wt11), (0, .ref (a 4)), (1, .ref q), (2, .int (nI b9))]) hx hb dX0_shortened_27 hl (by decide) rfl (fun ls hl => ?_)
  refine lv_aload_n hx hb dX0_shortened_29 rfl (lv_at hl 2 rfl) ?_
  refine c_get (v := .ref (a 2)) (C := RX0) (Tc := TX0) (N := 13) (ci := 0) hx hb hq pin_wsX00 hown hE hP hO 24 (sg_24 G h0 a _ _ _ _ _) rfl 1 (by decide) (hq _ pw_5) (fun _ h9 => h9) rfl dX0_shortened_30 ?_
  refine lv_iload_n hx hb dX0_shortened_33 rfl (lv_at hl 4 rfl) ?_
  refine lv_if_eq (tgt := 42) hx hb dX0_shortened_34 (by decide) (fun c61 => ?_) (fun c61 => ?_)
  · have n62 : b9 = 0 := (nI_eq (a := b9) (b := 0) (by omega) (by omega)).mp c61
    refine lv_bipush (v := 9) hx hb dX0_shortened_42 (by decide) ?_
    refine lv_iconst (v := (-1)) hx hb dX0_shortened_44 (by decide) ?_
    refine lv_iconst (v := 0) hx hb dX0_shortened_45 (by decide) ?_
    have hut63 := fun z : okA => (hpt50 ⟨z, h60.1⟩).2
    have hev64 := fun z : okA => hev53 ⟨z, h60.1⟩
    have hO : OKW G h0 a (upd (upd (upd (upd (upd (upd (upd (upd (upd F 2 (nI sz)) 5 (nI cs8)) 7 (nI hd)) 12 (nI vr)) 13 as10) 14 wt11) 15 wf12) 5 (nI cs8)) 7 (nI hd)) (updR (updR R 2 (.ref pq)) 3 (.ref mq)) Z B7 J K6.1 (fun q99 x99 => x99 = rep G a K6 q99) w := hO.to rfl
    obtain ⟨_, qr68, hqr69⟩ := hO.2.1 13 _ (sg_13 G h0 a _ _ _ _ _)
    refine pc_V0 (G := G) (As := [.int 9, .int (-1), .int 0]) (rest := []) hx hb hml hown hq hE hX pX0_al hP hD hS hA hl.1 (Y_jump l G h0 a (upd (upd (upd (upd (upd (upd (upd F 2 (nI sz)) 5 (nI cs8)) 7 (nI hd)) 12 (nI vr)) 13 as10) 14 wt11) 15 wf12) (updR (updR R 2 (.ref pq)) 3 (.ref mq)) Z B7 J K6.1 (fun q99 x99 => x99 = rep G a K6 q99) w 9 (-1) 0 cs8 hd (by omega) hO) (gV pw_197 pw_198 pw_199 pw_70 pw_132) hV_X1_jump qr68 1 hqr69 rfl rfl rfl (Nat.le_of_ble_eq_true rfl) dX0_shortened_46 ⟨(by show 0 + 0 ≤ 1; omega), (by show 0 + 0 ≤ 6; omega)⟩ ⟨(by show 3 + 1 ≤ (5 * n + 33); omega), (by show 8 + (4 + 11) + 83 ≤ (200 * n + 560); omega)⟩ (fun v67 u65 H locs hw66 hP hD hS => ?_)
    obtain ⟨w, _⟩ := u65
    obtain ⟨hw66, hO⟩ := hw66
    obtain rfl : v67 = some (.int (nI cs8)) := hw66
    have hO : OKP G h0 a (upd (upd (upd (upd (upd (upd (upd F 2 (nI sz)) 5 (nI (cs8 + 1))) 7 (nI hd)) 12 (nI vr)) 13 as10) 14 wt11) 15 wf12) (updR (updR R 2 (.ref pq)) 3 (.ref mq)) Z (updA (updA (updA (updA B7 16 (upd ((B7 16)) cs8 9)) 17 (upd ((B7 17)) cs8 (-1))) 18 (upd ((B7 18)) cs8 0)) 19 (upd ((B7 19)) cs8 (nI hd))) J K6 w := hO.to rfl
    refine W.widen (k := 0) (n := 0) (Nat.le_of_ble_eq_true rfl) (Nat.le_of_ble_eq_true rfl) ?_
    refine W.eq (g2 := F0 m 49 ls [.int (nI cs8)]) rfl ?_
    have hsw70 : ∀ x9 : Nat, x9 < cs → (upd ((B7 16)) cs8 9) x9 = B 16 x9 := fun x9 hx9 => (if_neg (by omega)).trans (hsw44 x9 hx9)
    have hsw71 : ∀ x9 : Nat, x9 < cs → (upd ((B7 17)) cs8 (-1)) x9 = B 17 x9 := fun x9 hx9 => (if_neg (by omega)).trans (hsw45 x9 hx9)
    have hsw72 : ∀ x9 : Nat, x9 < cs → (upd ((B7 18)) cs8 0) x9 = B 18 x9 := fun x9 hx9 => (if_neg (by omega)).trans (hsw46 x9 hx9)
    have hsw73 : ∀ x9 : Nat, x9 < cs → (upd ((B7 19)) cs8 (nI hd)) x9 = B 19 x9 := fun x9 hx9 => (if_neg (by omega)).trans (hsw47 x9 hx9)
    have hng74 : Nng (upd ((B7 18)) cs8 0) := Nng.set hng43 (k := 0) (by omega)
    have hev75 : okA → EvQ pb.1 pb.2.1 pb.2.2.1 pb.2.2.2 (B 16) (B 17) (B 18) (B 19) (upd ((B7 16)) cs8 9) (upd ((B7 17)) cs8 (-1)) (upd ((B7 18)) cs8 0) (upd ((B7 19)) cs8 (nI hd)) Ag (upS Ag14 (cs8 + 1) (rcA wf12, hd, sl, os)) (fun z => pd z ∨ z = cs8) m9 sn lo cs (cs8 + 1) as9 wf12 hd sl os := fun z => EvQ.pend (k := 9) (hev64 z) (by show os.length + 1 ≤ 248; omega) (by decide) has54.2.2
    have hjl76 : (upd ((B7 17)) cs8 (-1)) cs8 = -1 := if_pos rfl
    refine lv_istore (lv' := [(5, .int (nI cs8)), (4, .int wf12), (3, .int wt11), (0, .ref (a 4)), (1, .ref q), (2, .int (nI b9))]) hx hb dX0_shortened_49 hl (by decide) rfl (fun ls hl => ?_)
    refine lv_aload_n hx hb dX0_shortened_51 rfl (lv_at hl 3 rfl) ?_
    refine lv_iload_n hx hb dX0_shortened_52 rfl (lv_at hl 5 rfl) ?_
    refine lv_if_eq (tgt := 60) hx hb dX0_shortened_53 (by decide) (fun c77 => ?_) (fun c77 => (by have n78 : ¬ (b9 = 0) := fun h9 => c77 ((nI_eq (a := b9) (b := 0) (by omega) (by omega)).mpr h9); omega))
    refine lv_iload hx hb dX0_shortened_60 (lv_at hl 1 rfl) ?_
    refine c_put (v := .int wf12) (ty := .int) (C := RX0) (Tc := TX0) (N := 13) (ci := 0) hx hb hq pin_wsX00 tyX0 tyX0_ok nmX0 hown hE hP hD hS hO 24 (sg_24 G h0 a _ _ _ _ _) rfl 8 (by decide) (hq _ pw_55) (fun _ h9 => h9) rfl (by decide +kernel) rfl rfl (Nat.le_of_ble_eq_true rfl) (sf_13 G h0 a _ _ _ _ _ wf12) dX0_shortened_62 (fun H locs w hP hD hS hO => ?_)
    refine lv_aload_n hx hb dX0_shortened_65 rfl (lv_at hl 3 rfl) ?_
    refine lv_aload_n hx hb dX0_shortened_66 rfl (lv_at hl 4 rfl) ?_
    refine p_get (v := .ref q2) (C := RX7) (Tc := TX7) (N := 11) (ci := 13) hx hb hq pin_wsX70 hown hE hP hO (by rw [hf35]; decide) (rep_1 hf35) rfl 7 (by decide) (hq _ pw_169) (fun _ h9 => h9) (congrArg (fun z => some (va_rf z)) hf39) dX0_shortened_67 ?_
    refine lv_aload_n hx hb dX0_shortened_70 rfl (lv_at hl 3 rfl) ?_
    refine lv_aload_n hx hb dX0_shortened_71 rfl (lv_at hl 4 rfl) ?_
    refine p_get (v := .ref q2) (C := RX7) (Tc := TX7) (N := 11) (ci := 13) hx hb hq pin_wsX70 hown hE hP hO (by rw [hf35]; decide) (rep_1 hf35) rfl 7 (by decide) (hq _ pw_169) (fun _ h9 => h9) (congrArg (fun z => some (va_rf z)) hf39) dX0_shortened_72 ?_
    have hO : OKP G h0 a (upd (upd (upd (upd (upd (upd (upd (upd (upd (upd (upd (upd (upd (upd F 2 (nI sz)) 5 (nI cs)) 7 (nI hd)) 12 (nI vr)) 13 as9) 5 (nI (cs8 + 1))) 13 wf12) 14 wt11) 15 wf12) 2 (nI sz)) 5 (nI (cs8 + 1))) 7 (nI hd)) 12 (nI vr)) 13 wf12) (updR (updR (updR (updR R 2 (.ref pq)) 3 (.ref mq)) 2 (.ref pq)) 3 (.ref mq)) Z (updA (updA (updA (updA B7 16 (upd ((B7 16)) cs8 9)) 17 (upd ((B7 17)) cs8 (-1))) 18 (upd ((B7 18)) cs8 0)) 19 (upd ((B7 19)) cs8 (nI hd))) J K6 w := hO.to rfl
    obtain ⟨_, qr82, hqr83⟩ := hO.2.1 24 _ (sg_24 G h0 a _ _ _ _ _)
    refine pn_V0 (G := G) (As := [.ref q2]) (rest := [.ref q2, .ref (a 4)]) hx hb hml hown hq hE hX pX0_al hP hD hS hA hl.1 ((ihv (by omega)) h0 a (upd (upd (upd (upd (upd (upd (upd (upd (upd F 2 (nI sz)) 5 (nI cs)) 7 (nI hd)) 12 (nI vr)) 13 as9) 5 (nI (cs8 + 1))) 13 wf12) 14 wt11) 15 wf12) (updR (updR R 2 (.ref pq)) 3 (.ref mq)) Z (updA (updA (updA (updA B7 16 (upd ((B7 16)) cs8 9)) 17 (upd ((B7 17)) cs8 (-1))) 18 (upd ((B7 18)) cs8 0)) 19 (upd ((B7 19)) cs8 (nI hd))) J K6 w pq dr ml nd nm cp it s9 q2 mq (cs8 + 1) vr sz g rk pb (upS Ag14 (cs8 + 1) (rcA wf12, hd, sl, os)) (fun z => pd z ∨ z = cs8) sl os m9 sn lo hd c0 wf12 okA (by omega) (BdE.wp hbe41 hwp) (BdE.pt hbe41 hwp hps) (BdE.rko hbe41 hrk) (by omega) (by omega) hng74 hf36 hf40 ⟨hv1.1, (by have z9 := hv1; omega)⟩ (EkA.be hbe41 ((BeR.up (k := 19) (f := (upd ((B7 19)) cs8 (nI hd))) (BeR.up (k := 18) (f := (upd ((B7 18)) cs8 0)) (BeR.up (k := 17) (f := (upd ((B7 17)) cs8 (-1))) (BeR.up (k := 16) (f := (upd ((B7 16)) cs8 9)) hbr49 (by omega)) (by omega)) (by omega)) (by omega)) 7 (by decide)) ((BeR.up (k := 19) (f := (upd ((B7 19)) cs8 (nI hd))) (BeR.up (k := 18) (f := (upd ((B7 18)) cs8 0)) (BeR.up (k := 17) (f := (upd ((B7 17)) cs8 (-1))) (BeR.up (k := 16) (f := (upd ((B7 16)) cs8 9)) hbr49 (by omega)) (by omega)) (by omega)) (by omega)) 11 (by decide)) hek) (OwC.be hbe41 hmq hdr0 hcO) (NaB.be hbe41 hbf48 hwp hps.2.1 hdr0 ((BeR.up (k := 19) (f := (upd ((B7 19)) cs8 (nI hd))) (BeR.up (k := 18) (f := (upd ((B7 18)) cs8 0)) (BeR.up (k := 17) (f := (upd ((B7 17)) cs8 (-1))) (BeR.up (k := 16) (f := (upd ((B7 16)) cs8 9)) hbr49 (by omega)) (by omega)) (by omega)) (by omega)) 11 (by decide)) hna) (EnV.of ((BeR.up (k := 19) (f := (upd ((B7 19)) cs8 (nI hd))) (BeR.up (k := 18) (f := (upd ((B7 18)) cs8 0)) (BeR.up (k := 17) (f := (upd ((B7 17)) cs8 (-1))) (BeR.up (k := 16) (f := (upd ((B7 16)) cs8 9)) hbr49 (by omega)) (by omega)) (by omega)) (by omega)) 26 (by decide)) ((BeR.up (k := 19) (f := (upd ((B7 19)) cs8 (nI hd))) (BeR.up (k := 18) (f := (upd ((B7 18)) cs8 0)) (BeR.up (k := 17) (f := (upd ((B7 17)) cs8 (-1))) (BeR.up (k := 16) (f := (upd ((B7 16)) cs8 9)) hbr49 (by omega)) (by omega)) (by omega)) (by omega)) 27 (by decide)) hen) (fun z => (hev75 z).1) (by omega) (by show os.length + ndE g q2 ≤ 248; omega) hlf1 hO hl0) (gV pw_173 pw_174 pw_175 pw_63 pw_224) hV_X0_value qr82 0 hqr83 rfl rfl rfl (Nat.le_of_ble_eq_true rfl) dX0_shortened_75 ⟨(by show 0 + 1 ≤ 1; omega), (by show 0 + 6 ≤ 6; omega)⟩ ⟨(by show (5 * (n - 1) + 34) + 1 ≤ (5 * n + 33); omega), (by show 8 + (3 + 11) + (200 * (n - 1) + 600) ≤ (200 * n + 560); omega)⟩ (fun v81 u79 H locs hw80 hP hD hS => ?_) (fun ux ce9 q9 H9 locs9 hux hP9 hD9 hS9 hce hcv hcl => pb_out ux (ThQ.up (Thx.same (Thx.same (Thx.same (Thx.same (Thx.same (Thx.b (Thx.b8 (Thx.b (Thx.b (Thx.f (Thx.f (Thx.f (Thx.f (Bth.thx hbb42) (by omega)) (by omega)) (by omega)) (by omega)) (by omega) (by decide)) (by omega) (by decide)) hng74) (by omega) (by decide)) rfl) rfl) rfl) rfl) rfl) (show RhX (updR (updR R 2 (.ref pq)) 3 (.ref mq)) (updR (updR (updR (updR R 2 (.ref pq)) 3 (.ref mq)) 2 (.ref pq)) 3 (.ref mq)) from fun k9 hk9 => by unfold updR; simp only [show ¬ k9 = 1 by omega, show ¬ k9 = 2 by omega, show ¬ k9 = 3 by omega, show ¬ k9 = 4 by omega, if_false]) hux) hnt hlocks hce hcv hcl hP9 hD9 hS9 (by show 0 + 1 ≤ 1; omega) (by show 0 + 6 ≤ 6; omega))
    obtain ⟨w, K84, B85, cs86, as87, wt88, wf89, t90, Ag91, u92⟩ := u79
    obtain ⟨hw80, h93, h94, h95, h96, h97, h98, h99, h100, h101, h102, h103, h104, hO⟩ := hw80
    have h93 : SmW (updA (updA (updA (updA B7 16 (upd ((B7 16)) cs8 9)) 17 (upd ((B7 17)) cs8 (-1))) 18 (upd ((B7 18)) cs8 0)) 19 (upd ((B7 19)) cs8 (nI hd))) B85 (cs8 + 1) := h93
    have h94 : BdE K6 K84 := h94
    have h95 : BeF K6 K84 := h95
    have h96 : BeL K6 K84 none := h96
    have h97 : BeI K6 K84 g q2 := h97
    have h98 : Bth (updA (updA (updA (updA B7 16 (upd ((B7 16)) cs8 9)) 17 (upd ((B7 17)) cs8 (-1))) 18 (upd ((B7 18)) cs8 0)) 19 (upd ((B7 19)) cs8 (nI hd))) B85 := h98
    have h99 : BeR (updA (updA (updA (updA B7 16 (upd ((B7 16)) cs8 9)) 17 (upd ((B7 17)) cs8 (-1))) 18 (upd ((B7 18)) cs8 0)) 19 (upd ((B7 19)) cs8 (nI hd))) B85 := h99
    have h100 : t90 < 128 := h100
    have h101 : (cs8 + 1) ≤ cs86 ∧ cs86 + 0 ≤ (cs8 + 1) + 2 * tlE g q2 := h101
    have h102 : AsE wf12 as87 ∧ AsE wf12 wt88 ∧ AsE wf12 wf89 := h102
    have h103 : okA → VaQ pb (updA (updA (updA (updA B7 16 (upd ((B7 16)) cs8 9)) 17 (upd ((B7 17)) cs8 (-1))) 18 (upd ((B7 18)) cs8 0)) 19 (upd ((B7 19)) cs8 (nI hd))) B85 (upS Ag14 (cs8 + 1) (rcA wf12, hd, sl, os)) Ag91 (fun z => pd z ∨ z = cs8) m9 sn lo (cs8 + 1) cs86 wf12 as87 wt88 wf89 hd sl os t90 u92 (K6.2.1 0 q2) := h103
    have h104 : CaK (K6.2.1 0 q2) → cs86 + 2 ≤ (cs8 + 1) + 2 * tlE g q2 := h104
    obtain rfl : v81 = some (.int (nI t90)) := hw80
    have hf105 : K84.1 pq = 7 := (BdE.T h94 hf28 (by decide))
    have hf106 : K84.2.2.1 18 pq = some (a 1) := (BdE.C h94 (by rw [hf28]; decide) 18).trans hf29
    have hf107 : K84.2.2.1 14 pq = some dr := (BdE.C h94 (by rw [hf28]; decide) 14).trans hf30
    have hf108 : K84.1 dr = 8 := (BdE.T h94 hf31 (by decide))
    have hf109 : K84.2.2.1 15 pq = some ml := (BdE.C h94 (by rw [hf28]; decide) 15).trans hf32
    have hf110 : K84.1 ml = 5 := (BdE.T h94 hf33 (by decide))
    have hf111 : K84.2.1 24 pq = (nI nd) := (BdE.I h94 (by rw [hf28]; decide) (by decide) (by decide)).trans hf34
    have hf112 : K84.1 q = 1 := (BdE.T h94 hf35 (by decide))
    have hf113 : K84.1 mq = 3 := (BdE.T h94 hf36 (by decide))
    have hf114 : K84.2.2.1 0 q = some q1 := (BdE.C h94 (by rw [hf35]; decide) 0).trans hf37
    have hf115 : K84.1 q1 = 1 := (BdE.T h94 hf38 (by decide))
    have hf116 : K84.2.2.1 1 q = some q2 := (BdE.C h94 (by rw [hf35]; decide) 1).trans hf39
    have hf117 : K84.1 q2 = 1 := (BdE.T h94 hf40 (by decide))
    have hO : OKP G h0 a (upd (upd (upd (upd (upd (upd (upd F 2 (nI sz)) 5 (nI cs86)) 7 (nI hd)) 12 (nI vr)) 13 as87) 14 wt88) 15 wf89) (updR (updR R 2 (.ref pq)) 3 (.ref mq)) Z B85 J K84 w := hO.to rfl
    refine W.widen (k := 0) (n := 0) (by show 0 + 0 ≤ 0; omega) (by show 0 + 0 ≤ 0; omega) ?_
    refine W.eq (g2 := F0 m 78 ls [.int (nI t90), .ref q2, .ref (a 4)]) rfl ?_
    have hbe118 := BdE.trans hbe41 h94
    have hbb119 : Bth B B85 := Bth.trans (show Thx (upd (upd (upd (upd (upd F 2 (nI sz)) 5 (nI cs)) 7 (nI hd)) 12 (nI vr)) 13 as9) (upd (upd (upd (upd (upd (upd (upd (upd (upd F 2 (nI sz)) 5 (nI cs)) 7 (nI hd)) 12 (nI vr)) 13 as9) 5 (nI (cs8 + 1))) 13 wf12) 14 wt11) 15 wf12) B (updA (updA (updA (updA B7 16 (upd ((B7 16)) cs8 9)) 17 (upd ((B7 17)) cs8 (-1))) 18 (upd ((B7 18)) cs8 0)) 19 (upd ((B7 19)) cs8 (nI hd))) from (Thx.b (Thx.b8 (Thx.b (Thx.b (Thx.f (Thx.f (Thx.f (Thx.f (Bth.thx hbb42) (by omega)) (by omega)) (by omega)) (by omega)) (by omega) (by decide)) (by omega) (by decide)) hng74) (by omega) (by decide))).2 h98
    have hng120 : Nng (B85 18) := h98.2 hng74
    have hsw121 : ∀ x9 : Nat, x9 < cs → (B85 16) x9 = B 16 x9 := fun x9 hx9 => ((h93 x9 (by omega)).1).trans (hsw70 x9 hx9)
    have hsw122 : ∀ x9 : Nat, x9 < cs → (B85 17) x9 = B 17 x9 := fun x9 hx9 => ((h93 x9 (by omega)).2.1).trans (hsw71 x9 hx9)
    have hsw123 : ∀ x9 : Nat, x9 < cs → (B85 18) x9 = B 18 x9 := fun x9 hx9 => ((h93 x9 (by omega)).2.2.1).trans (hsw72 x9 hx9)
    have hsw124 : ∀ x9 : Nat, x9 < cs → (B85 19) x9 = B 19 x9 := fun x9 hx9 => ((h93 x9 (by omega)).2.2.2).trans (hsw73 x9 hx9)
    have hbf125 := BeF.trans hbf48 h95 hbe41
    have hbl128 := BeL.trans hbl51 h96 hbe41
    have hbi129 := BeI.trans hbi52 h97 hbe41 hin1
    have hbr126 : BeR B B85 := BeR.trans (BeR.up (k := 19) (f := (upd ((B7 19)) cs8 (nI hd))) (BeR.up (k := 18) (f := (upd ((B7 18)) cs8 0)) (BeR.up (k := 17) (f := (upd ((B7 17)) cs8 (-1))) (BeR.up (k := 16) (f := (upd ((B7 16)) cs8 9)) hbr49 (by omega)) (by omega)) (by omega)) (by omega)) h99
    have hpt127 : (okA ∧ ¬ t90 = 63) → EvQ pb.1 pb.2.1 pb.2.2.1 pb.2.2.2 (B 16) (B 17) (B 18) (B 19) (B85 16) (B85 17) (B85 18) (B85 19) Ag Ag91 (fun z => pd z ∨ z = cs8) m9 sn lo cs cs86 as9 as87 hd sl (u92 :: os) ∧ UTb u92 (nI t90) as87 wt88 wf89 := fun z => VaQ.part (B1 := (updA (updA (updA (updA B7 16 (upd ((B7 16)) cs8 9)) 17 (upd ((B7 17)) cs8 (-1))) 18 (upd ((B7 18)) cs8 0)) 19 (upd ((B7 19)) cs8 (nI hd)))) (hev75 z.1) (h103 z.1) h100 z.2
    have hev130 := fun z => (hpt127 z).1
    have has131 : AsE as9 as87 ∧ AsE as9 wt88 ∧ AsE as9 wf89 := ⟨AsE.trans has54.2.2 h102.1, AsE.trans has54.2.2 h102.2.1, AsE.trans has54.2.2 h102.2.2⟩
    have hjl132 : (B85 17) cs8 = -1 := ((h93 cs8 (by omega)).2.1).trans hjl76
    refine lv_bipush (v := 61) hx hb dX0_shortened_78 (by decide) ?_
    have hO : OKP G h0 a (upd (upd (upd (upd (upd (upd (upd (upd (upd (upd F 2 (nI sz)) 5 (nI cs)) 7 (nI hd)) 12 (nI vr)) 13 as9) 5 (nI cs86)) 13 as87) 14 wt88) 15 wf89) 2 (nI sz)) (updR (updR (updR R 2 (.ref pq)) 3 (.ref mq)) 2 (.ref pq)) Z B85 J K84 w := hO.to rfl
    obtain ⟨_, qr136, hqr137⟩ := hO.2.1 24 _ (sg_24 G h0 a _ _ _ _ _)
    refine pn_V0 (G := G) (As := [.ref q2, .int (nI t90), .int (nI 61)]) (rest := []) hx hb hml hown hq hE hX pX0_al hP hD hS hA hl.1 (Y_fit l G h0 a (upd (upd (upd (upd (upd (upd (upd (upd (upd F 2 (nI sz)) 5 (nI cs)) 7 (nI hd)) 12 (nI vr)) 13 as9) 5 (nI cs86)) 13 as87) 14 wt88) 15 wf89) (updR (updR R 2 (.ref pq)) 3 (.ref mq)) Z B85 J K84 w pq dr ml nd q2 sz t90 61 g pb (by omega) (BdE.pt hbe118 hwp hps).1 (BdE.pt hbe118 hwp hps).2.1 hf117 (by omega) hna.1.1 (NaB.be hbe118 hbf125 hwp hps.2.1 hdr0 (hbr126 11 (by decide)) hna).1.2.2 hO hl0) (gV pw_176 pw_177 pw_178 pw_63 pw_114) hV_X0_fit qr136 0 hqr137 rfl rfl rfl (Nat.le_of_ble_eq_true rfl) dX0_shortened_80 ⟨(by show 0 + 1 ≤ 1; omega), (by show 0 + 6 ≤ 6; omega)⟩ ⟨(by show 7 + 1 ≤ (5 * n + 33); omega), (by show 8 + (4 + 11) + 122 ≤ (200 * n + 560); omega)⟩ (fun v135 u133 H locs hw134 hP hD hS => ?_) (fun ux ce9 q9 H9 locs9 hux hP9 hD9 hS9 hce hcv hcl => pb_out ux (ThQ.up (Thx.same (Thx.f (Thx.f (Thx.f (Thx.f (Bth.thx hbb119) (by omega)) (by omega)) (by omega)) (by omega)) rfl) (show RhX (updR (updR R 2 (.ref pq)) 3 (.ref mq)) (updR (updR (updR R 2 (.ref pq)) 3 (.ref mq)) 2 (.ref pq)) from fun k9 hk9 => by unfold updR; simp only [show ¬ k9 = 1 by omega, show ¬ k9 = 2 by omega, show ¬ k9 = 3 by omega, show ¬ k9 = 4 by omega, if_false]) hux) hnt hlocks hce hcv hcl hP9 hD9 hS9 (by show 0 + 1 ≤ 1; omega) (by show 0 + 6 ≤ 6; omega))
    obtain ⟨w, _⟩ := u133
    obtain ⟨hw134, h138, hO⟩ := hw134
    have h138 : FtQ pb t90 61 := h138
    obtain rfl : v135 = none := hw134
    have hO : OKP G h0 a (upd (upd (upd (upd (upd (upd (upd F 2 (nI sz)) 5 (nI cs86)) 7 (nI hd)) 12 (nI vr)) 13 as87) 14 wt88) 15 wf89) (updR (updR R 2 (.ref pq)) 3 (.ref mq)) Z B85 J K84 w := hO.to rfl
    refine W.widen (k := 0) (n := 0) (by show 0 + 0 ≤ 0; omega) (by show 0 + 0 ≤ 0; omega) ?_
    refine W.eq (g2 := F0 m 83 ls []) rfl ?_
    refine lv_aload_n hx hb dX0_shortened_83 rfl (lv_at hl 3 rfl) ?_
    refine c_get (v := .ref (a 2)) (C := RX0) (Tc := TX0) (N := 13) (ci := 0) hx hb hq pin_wsX00 hown hE hP hO 24 (sg_24 G h0 a _ _ _ _ _) rfl 1 (by decide) (hq _ pw_5) (fun _ h9 => h9) rfl dX0_shortened_84 ?_
    refine lv_iload hx hb dX0_shortened_87 (lv_at hl 0 rfl) ?_
    have hO : OKW G h0 a (upd (upd (upd (upd (upd (upd (upd (upd F 2 (nI sz)) 5 (nI cs86)) 7 (nI hd)) 12 (nI vr)) 13 as87) 14 wt88) 15 wf89) 5 (nI cs86)) (updR (updR R 2 (.ref pq)) 3 (.ref mq)) Z B85 J K84.1 (fun q99 x99 => x99 = rep G a K84 q99) w := hO.to rfl
    obtain ⟨_, qr142, hqr143⟩ := hO.2.1 13 _ (sg_13 G h0 a _ _ _ _ _)
    refine pc_V0 (G := G) (As := [.int (nI cs8)]) (rest := []) hx hb hml hown hq hE hX pX0_al hP hD hS hA hl.1 (Y_land l G h0 a (upd (upd (upd (upd (upd (upd (upd F 2 (nI sz)) 5 (nI cs86)) 7 (nI hd)) 12 (nI vr)) 13 as87) 14 wt88) 15 wf89) (updR (updR R 2 (.ref pq)) 3 (.ref mq)) Z B85 J K84.1 (fun q99 x99 => x99 = rep G a K84 q99) w (nI cs8) cs86 ([cs8]) (by omega) (ChnJ.one hjl132 (by omega)) (fun y9 hy9 => by rw [List.mem_singleton.mp hy9]; omega) hO) (gV pw_200 pw_201 pw_202 pw_70 pw_134) hV_X1_land qr142 1 hqr143 rfl rfl rfl (Nat.le_of_ble_eq_true rfl) dX0_shortened_89 ⟨(by show 0 + 0 ≤ 1; omega), (by show 0 + 0 ≤ 6; omega)⟩ ⟨(by show 2 + 1 ≤ (5 * n + 33); omega), (by show 8 + (5 + 11) + 60 ≤ (200 * n + 560); omega)⟩ (fun v141 u139 H locs hw140 hP hD hS => ?_)
    obtain ⟨w, _⟩ := u139
    obtain ⟨hw140, hO⟩ := hw140
    obtain rfl : v141 = none := hw140
    have hO : OKP G h0 a (upd (upd (upd (upd (upd (upd (upd F 2 (nI sz)) 5 (nI cs86)) 7 (nI hd)) 12 (nI vr)) 13 as87) 14 wt88) 15 wf89) (updR (updR R 2 (.ref pq)) 3 (.ref mq)) Z (updA B85 17 (aim ((B85 17)) ([cs8]) cs86)) J K84 w := hO.to rfl
    refine W.widen (k := 0) (n := 0) (Nat.le_of_ble_eq_true rfl) (Nat.le_of_ble_eq_true rfl) ?_
    refine W.eq (g2 := F0 m 92 ls []) rfl ?_
    have hsw144 : ∀ x9 : Nat, x9 < cs → (aim ((B85 17)) ([cs8]) cs86) x9 = B 17 x9 := fun x9 hx9 => (aim_no (fun q9 => by have e9 := List.mem_singleton.mp q9; omega)).trans (hsw122 x9 hx9)
    have hut145 := fun z : okA => (hpt127 ⟨z, h138.1⟩).2
    have hev146 := fun z : okA => hev130 ⟨z, h138.1⟩
    obtain ⟨Ag147, hev148⟩ : ∃ A5 : Nat → AS, okA → EvQ pb.1 pb.2.1 pb.2.2.1 pb.2.2.2 (B 16) (B 17) (B 18) (B 19) (B85 16) (aim ((B85 17)) ([cs8]) cs86) (B85 18) (B85 19) Ag A5 pd m9 sn lo cs cs86 as9 ((wt88 &&& wt11) &&& wf89) hd sl (bcw (wt88 &&& wt11) wf89 :: os) := ⟨(upS Ag91 cs86 (rcA ((wt88 &&& wt11) &&& wf89), hd, sl, (bcw (wt88 &&& wt11) wf89 :: os))), fun z => (EvQ.either (hev64 z) (UTb.tru (hut63 z) h23 h60) (VaQ.ev (h103 z) h100 h138.1) (UTb.tru (hut145 z) h100 h138) (VaQ.st (h103 z) h138.1) (hev146 z) (AsE.and (AsE.and has131.2.1 has54.2.1) has131.2.2))⟩
    refine lv_iload_n hx hb dX0_shortened_92 rfl (lv_at hl 5 rfl) ?_
    refine lv_if_eq (tgt := 110) hx hb dX0_shortened_93 (by decide) (fun c149 => ?_) (fun c149 => (by have n150 : ¬ (b9 = 0) := fun h9 => c149 ((nI_eq (a := b9) (b := 0) (by omega) (by omega)).mpr h9); omega))
    refine lv_aload_n hx hb dX0_shortened_110 rfl (lv_at hl 3 rfl) ?_
    refine lv_dup hx hb dX0_shortened_111 rfl ?_
    refine c_get (v := .int wt88) (C := RX0) (Tc := TX0) (N := 13) (ci := 0) hx hb hq pin_wsX00 hown hE hP hO 24 (sg_24 G h0 a _ _ _ _ _) rfl 9 (by decide) (hq _ pw_156) (fun _ h9 => h9) rfl dX0_shortened_112 ?_
    refine lv_iload_n hx hb dX0_shortened_115 rfl (lv_at hl 2 rfl) ?_
    refine lv_iand hx hb dX0_shortened_116 ?_
    refine lv_topi (fun x151 e152 => ?_)
    obtain rfl : x151 = (wt88 &&& wt11) := e152
    refine c_put (v := .int (wt88 &&& wt11)) (ty := .int) (C := RX0) (Tc := TX0) (N := 13) (ci := 0) hx hb hq pin_wsX00 tyX0 tyX0_ok nmX0 hown hE hP hD hS hO 24 (sg_24 G h0 a _ _ _ _ _) rfl 9 (by decide) (hq _ pw_156) (fun _ h9 => h9) rfl (by decide +kernel) rfl rfl (Nat.le_of_ble_eq_true rfl) (sf_14 G h0 a _ _ _ _ _ (wt88 &&& wt11)) dX0_shortened_117 (fun H locs w hP hD hS hO => ?_)
    refine lv_aload_n hx hb dX0_shortened_120 rfl (lv_at hl 3 rfl) ?_
    refine lv_aload_n hx hb dX0_shortened_121 rfl (lv_at hl 3 rfl) ?_
    refine c_get (v := .int (wt88 &&& wt11)) (C := RX0) (Tc := TX0) (N := 13) (ci := 0) hx hb hq pin_wsX00 hown hE hP hO 24 (sg_24 G h0 a _ _ _ _ _) rfl 9 (by decide) (hq _ pw_156) (fun _ h9 => h9) rfl dX0_shortened_122 ?_
    refine lv_aload_n hx hb dX0_shortened_125 rfl (lv_at hl 3 rfl) ?_
    refine c_get (v := .int wf89) (C := RX0) (Tc := TX0) (N := 13) (ci := 0) hx hb hq pin_wsX00 hown hE hP hO 24 (sg_24 G h0 a _ _ _ _ _) rfl 10 (by decide) (hq _ pw_157) (fun _ h9 => h9) rfl dX0_shortened_126 ?_
    refine lv_iand hx hb dX0_shortened_129 ?_
    refine lv_topi (fun x153 e154 => ?_)
    obtain rfl : x153 = ((wt88 &&& wt11) &&& wf89) := e154
    refine c_put (v := .int ((wt88 &&& wt11) &&& wf89)) (ty := .int) (C := RX0) (Tc := TX0) (N := 13) (ci := 0) hx hb hq pin_wsX00 tyX0 tyX0_ok nmX0 hown hE hP hD hS hO 24 (sg_24 G h0 a _ _ _ _ _) rfl 8 (by decide) (hq _ pw_55) (fun _ h9 => h9) rfl (by decide +kernel) rfl rfl (Nat.le_of_ble_eq_true rfl) (sf_13 G h0 a _ _ _ _ _ ((wt88 &&& wt11) &&& wf89)) dX0_shortened_130 (fun H locs w hP hD hS hO => ?_)
    refine lv_bipush (v := 61) hx hb dX0_shortened_133 (by decide) ?_
    refine W_size (fun hz1 hz2 => ?_)
    refine vx_ret ?_
    have hz155 : SmW B (updA B85 17 (aim ((B85 17)) ([cs8]) cs86)) cs := (fun x9 hx9 => ⟨hsw121 x9 hx9, hsw144 x9 hx9, hsw123 x9 hx9, hsw124 x9 hx9⟩)
    have hz156 : BdE K K84 := hbe118
    have hz157 : BeF K K84 := hbf125
    have hz158 : BeL K K84 none := hbl128
    have hz159 : BeI K K84 g q := hbi129
    have hz160 : Bth B (updA B85 17 (aim ((B85 17)) ([cs8]) cs86)) := (show Thx (upd (upd (upd (upd (upd F 2 (nI sz)) 5 (nI cs)) 7 (nI hd)) 12 (nI vr)) 13 as9) (upd (upd (upd (upd (upd (upd (upd (upd (upd F 2 (nI sz)) 5 (nI cs)) 7 (nI hd)) 12 (nI vr)) 13 as9) 5 (nI cs86)) 13 ((wt88 &&& wt11) &&& wf89)) 14 (wt88 &&& wt11)) 15 wf89) B (updA B85 17 (aim ((B85 17)) ([cs8]) cs86)) from (Thx.b (Thx.f (Thx.f (Thx.f (Thx.f (Bth.thx hbb119) (by omega)) (by omega)) (by omega)) (by omega)) (by omega) (by decide))).2
    have hz161 : BeR B (updA B85 17 (aim ((B85 17)) ([cs8]) cs86)) := (BeR.up (k := 17) (f := (aim ((B85 17)) ([cs8]) cs86)) hbr126 (by omega))
    have hz162 : 61 < 128 := (by omega)
    have hz163 : cs ≤ cs86 ∧ cs86 + 0 ≤ cs + 2 * tlE g q := (by omega)
    have hz164 : AsE as9 ((wt88 &&& wt11) &&& wf89) ∧ AsE as9 (wt88 &&& wt11) ∧ AsE as9 wf89 := ⟨(AsE.and (AsE.and has131.2.1 has54.2.1) has131.2.2), (AsE.and has131.2.1 has54.2.1), has131.2.2⟩
    have hz165 : okA → VaQ pb B (updA B85 17 (aim ((B85 17)) ([cs8]) cs86)) Ag Ag147 pd m9 sn lo cs cs86 as9 ((wt88 &&& wt11) &&& wf89) (wt88 &&& wt11) wf89 hd sl os 61 (bcw (wt88 &&& wt11) wf89) (K.2.1 0 q) := (fun z => Or.inr ⟨by rw [rsO_ne bcw_63]; exact hev148 z, UTb.bcw AsW.and, by omega⟩)
    have hO : OKP G h0 a (upd (upd (upd (upd (upd (upd (upd F 2 (nI sz)) 5 (nI cs86)) 7 (nI hd)) 12 (nI vr)) 13 ((wt88 &&& wt11) &&& wf89)) 14 (wt88 &&& wt11)) 15 wf89) (updR (updR R 2 (.ref pq)) 3 (.ref mq)) Z (updA B85 17 (aim ((B85 17)) ([cs8]) cs86)) J K84 w := hO.to rfl
    refine W.widen (k := 1) (n := 6) (by omega) (by omega) ?_
    have hzz1 : H.size ≤ s.heap.size + (0) := (by have z : 0 ≤ 0 := (by omega); omega)
    have hzz2 : hSl H ≤ hSl s.heap + (0) := (by have z : 0 ≤ 0 := (by omega); omega)
    exact W.iret (v := 61) hx hb hr (fun t99 ht99 hW99 => ⟨⟨_, (w, (K84, (updA B85 17 (aim ((B85 17)) ([cs8]) cs86)), cs86, ((wt88 &&& wt11) &&& wf89), (wt88 &&& wt11), wf89, 61, Ag147, (bcw (wt88 &&& wt11) wf89))), rfl, ⟨rfl, hz155, hz156, hz157, hz158, hz159, hz160, hz161, hz162, hz163, hz164, hz165, hO⟩, by rw [ht99]; exact hP, hD, by rw [ht99]; exact hzz1, by rw [ht99]; exact hzz2⟩, hS.F ht99⟩) hS.2.2 dX0_shortened_135
  · have n166 : ¬ (b9 = 0) := fun h9 => c61 ((nI_eq (a := b9) (b := 0) (by omega) (by omega)).mpr h9)
    refine lv_bipush (v := 8) hx hb dX0_shortened_37 (by decide) ?_
    refine lv_goto (tgt := 44) hx hb dX0_shortened_39 (by decide) ?_
    refine lv_iconst (v := (-1)) hx hb dX0_shortened_44 (by decide) ?_
    refine lv_iconst (v := 0) hx hb dX0_shortened_45 (by decide) ?_
    have hut167 := fun z : okA => (hpt50 ⟨z, h60.1⟩).2
    have hev168 := fun z : okA => hev53 ⟨z, h60.1⟩
    have hO : OKW G h0 a (upd (upd (upd (upd (upd (upd (upd (upd (upd F 2 (nI sz)) 5 (nI cs8)) 7 (nI hd)) 12 (nI vr)) 13 as10) 14 wt11) 15 wf12) 5 (nI cs8)) 7 (nI hd)) (updR (updR R 2 (.ref pq)) 3 (.ref mq)) Z B7 J K6.1 (fun q99 x99 => x99 = rep G a K6 q99) w := hO.to rfl
    obtain ⟨_, qr172, hqr173⟩ := hO.2.1 13 _ (sg_13 G h0 a _ _ _ _ _)
    refine pc_V0 (G := G) (As := [.int 8, .int (-1), .int 0]) (rest := []) hx hb hml hown hq hE hX pX0_al hP hD hS hA hl.1 (Y_jump l G h0 a (upd (upd (upd (upd (upd (upd (upd F 2 (nI sz)) 5 (nI cs8)) 7 (nI hd)) 12 (nI vr)) 13 as10) 14 wt11) 15 wf12) (updR (updR R 2 (.ref pq)) 3 (.ref mq)) Z B7 J K6.1 (fun q99 x99 => x99 = rep G a K6 q99) w 8 (-1) 0 cs8 hd (by omega) hO) (gV pw_197 pw_198 pw_199 pw_70 pw_132) hV_X1_jump qr172 1 hqr173 rfl rfl rfl (Nat.le_of_ble_eq_true rfl) dX0_shortened_46 ⟨(by show 0 + 0 ≤ 1; omega), (by show 0 + 0 ≤ 6; omega)⟩ ⟨(by show 3 + 1 ≤ (5 * n + 33); omega), (by show 8 + (4 + 11) + 83 ≤ (200 * n + 560); omega)⟩ (fun v171 u169 H locs hw170 hP hD hS => ?_)
    obtain ⟨w, _⟩ := u169
    obtain ⟨hw170, hO⟩ := hw170
    obtain rfl : v171 = some (.int (nI cs8)) := hw170
    have hO : OKP G h0 a (upd (upd (upd (upd (upd (upd (upd F 2 (nI sz)) 5 (nI (cs8 + 1))) 7 (nI hd)) 12 (nI vr)) 13 as10) 14 wt11) 15 wf12) (updR (updR R 2 (.ref pq)) 3 (.ref mq)) Z (updA (updA (updA (updA B7 16 (upd ((B7 16)) cs8 8)) 17 (upd ((B7 17)) cs8 (-1))) 18 (upd ((B7 18)) cs8 0)) 19 (upd ((B7 19)) cs8 (nI hd))) J K6 w := hO.to rfl
    refine W.widen (k := 0) (n := 0) (Nat.le_of_ble_eq_true rfl) (Nat.le_of_ble_eq_true rfl) ?_
    refine W.eq (g2 := F0 m 49 ls [.int (nI cs8)]) rfl ?_
    have hsw174 : ∀ x9 : Nat, x9 < cs → (upd ((B7 16)) cs8 8) x9 = B 16 x9 := fun x9 hx9 => (if_neg (by omega)).trans (hsw44 x9 hx9)
    have hsw175 : ∀ x9 : Nat, x9 < cs → (upd ((B7 17)) cs8 (-1)) x9 = B 17 x9 := fun x9 hx9 => (if_neg (by omega)).trans (hsw45 x9 hx9)
    have hsw176 : ∀ x9 : Nat, x9 < cs → (upd ((B7 18)) cs8 0) x9 = B 18 x9 := fun x9 hx9 => (if_neg (by omega)).trans (hsw46 x9 hx9)
    have hsw177 : ∀ x9 : Nat, x9 < cs → (upd ((B7 19)) cs8 (nI hd)) x9 = B 19 x9 := fun x9 hx9 => (if_neg (by omega)).trans (hsw47 x9 hx9)
    have hng178 : Nng (upd ((B7 18)) cs8 0) := Nng.set hng43 (k := 0) (by omega)
    have hev179 : okA → EvQ pb.1 pb.2.1 pb.2.2.1 pb.2.2.2 (B 16) (B 17) (B 18) (B 19) (upd ((B7 16)) cs8 8) (upd ((B7 17)) cs8 (-1)) (upd ((B7 18)) cs8 0) (upd ((B7 19)) cs8 (nI hd)) Ag (upS Ag14 (cs8 + 1) (rcA wt11, hd, sl, os)) (fun z => pd z ∨ z = cs8) m9 sn lo cs (cs8 + 1) as9 wt11 hd sl os := fun z => EvQ.pend (k := 8) (hev168 z) (by show os.length + 1 ≤ 248; omega) (by decide) has54.2.1
    have hjl180 : (upd ((B7 17)) cs8 (-1)) cs8 = -1 := if_pos rfl
    refine lv_istore (lv' := [(5, .int (nI cs8)), (4, .int wf12), (3, .int wt11), (0, .ref (a 4)), (1, .ref q), (2, .int (nI b9))]) hx hb dX0_shortened_49 hl (by decide) rfl (fun ls hl => ?_)
    refine lv_aload_n hx hb dX0_shortened_51 rfl (lv_at hl 3 rfl) ?_
    refine lv_iload_n hx hb dX0_shortened_52 rfl (lv_at hl 5 rfl) ?_
    refine lv_if_eq (tgt := 60) hx hb dX0_shortened_53 (by decide) (fun c181 => (by have n182 : b9 = 0 := (nI_eq (a := b9) (b := 0) (by omega) (by omega)).mp c181; omega)) (fun c181 => ?_)
    refine lv_iload_n hx hb dX0_shortened_56 rfl (lv_at hl 2 rfl) ?_
    refine lv_goto (tgt := 62) hx hb dX0_shortened_57 (by decide) ?_
    refine c_put (v := .int wt11) (ty := .int) (C := RX0) (Tc := TX0) (N := 13) (ci := 0) hx hb hq pin_wsX00 tyX0 tyX0_ok nmX0 hown hE hP hD hS hO 24 (sg_24 G h0 a _ _ _ _ _) rfl 8 (by decide) (hq _ pw_55) (fun _ h9 => h9) rfl (by decide +kernel) rfl rfl (Nat.le_of_ble_eq_true rfl) (sf_13 G h0 a _ _ _ _ _ wt11) dX0_shortened_62 (fun H locs w hP hD hS hO => ?_)
    refine lv_aload_n hx hb dX0_shortened_65 rfl (lv_at hl 3 rfl) ?_
    refine lv_aload_n hx hb dX0_shortened_66 rfl (lv_at hl 4 rfl) ?_
    refine p_get (v := .ref q2) (C := RX7) (Tc := TX7) (N := 11) (ci := 13) hx hb hq pin_wsX70 hown hE hP hO (by rw [hf35]; decide) (rep_1 hf35) rfl 7 (by decide) (hq _ pw_169) (fun _ h9 => h9) (congrArg (fun z => some (va_rf z)) hf39) dX0_shortened_67 ?_
    refine lv_aload_n hx hb dX0_shortened_70 rfl (lv_at hl 3 rfl) ?_
    refine lv_aload_n hx hb dX0_shortened_71 rfl (lv_at hl 4 rfl) ?_
    refine p_get (v := .ref q2) (C := RX7) (Tc := TX7) (N := 11) (ci := 13) hx hb hq pin_wsX70 hown hE hP hO (by rw [hf35]; decide) (rep_1 hf35) rfl 7 (by decide) (hq _ pw_169) (fun _ h9 => h9) (congrArg (fun z => some (va_rf z)) hf39) dX0_shortened_72 ?_
    have hO : OKP G h0 a (upd (upd (upd (upd (upd (upd (upd (upd (upd (upd (upd (upd (upd (upd F 2 (nI sz)) 5 (nI cs)) 7 (nI hd)) 12 (nI vr)) 13 as9) 5 (nI (cs8 + 1))) 13 wt11) 14 wt11) 15 wf12) 2 (nI sz)) 5 (nI (cs8 + 1))) 7 (nI hd)) 12 (nI vr)) 13 wt11) (updR (updR (updR (updR R 2 (.ref pq)) 3 (.ref mq)) 2 (.ref pq)) 3 (.ref mq)) Z (updA (updA (updA (updA B7 16 (upd ((B7 16)) cs8 8)) 17 (upd ((B7 17)) cs8 (-1))) 18 (upd ((B7 18)) cs8 0)) 19 (upd ((B7 19)) cs8 (nI hd))) J K6 w := hO.to rfl
    obtain ⟨_, qr186, hqr187⟩ := hO.2.1 24 _ (sg_24 G h0 a _ _ _ _ _)
    refine pn_V0 (G := G) (As := [.ref q2]) (rest := [.ref q2, .ref (a 4)]) hx hb hml hown hq hE hX pX0_al hP hD hS hA hl.1 ((ihv (by omega)) h0 a (upd (upd (upd (upd (upd (upd (upd (upd (upd F 2 (nI sz)) 5 (nI cs)) 7 (nI hd)) 12 (nI vr)) 13 as9) 5 (nI (cs8 + 1))) 13 wt11) 14 wt11) 15 wf12) (updR (updR R 2 (.ref pq)) 3 (.ref mq)) Z (updA (updA (updA (updA B7 16 (upd ((B7 16)) cs8 8)) 17 (upd ((B7 17)) cs8 (-1))) 18 (upd ((B7 18)) cs8 0)) 19 (upd ((B7 19)) cs8 (nI hd))) J K6 w pq dr ml nd nm cp it s9 q2 mq (cs8 + 1) vr sz g rk pb (upS Ag14 (cs8 + 1) (rcA wt11, hd, sl, os)) (fun z => pd z ∨ z = cs8) sl os m9 sn lo hd c0 wt11 okA (by omega) (BdE.wp hbe41 hwp) (BdE.pt hbe41 hwp hps) (BdE.rko hbe41 hrk) (by omega) (by omega) hng178 hf36 hf40 ⟨hv1.1, (by have z9 := hv1; omega)⟩ (EkA.be hbe41 ((BeR.up (k := 19) (f := (upd ((B7 19)) cs8 (nI hd))) (BeR.up (k := 18) (f := (upd ((B7 18)) cs8 0)) (BeR.up (k := 17) (f := (upd ((B7 17)) cs8 (-1))) (BeR.up (k := 16) (f := (upd ((B7 16)) cs8 8)) hbr49 (by omega)) (by omega)) (by omega)) (by omega)) 7 (by decide)) ((BeR.up (k := 19) (f := (upd ((B7 19)) cs8 (nI hd))) (BeR.up (k := 18) (f := (upd ((B7 18)) cs8 0)) (BeR.up (k := 17) (f := (upd ((B7 17)) cs8 (-1))) (BeR.up (k := 16) (f := (upd ((B7 16)) cs8 8)) hbr49 (by omega)) (by omega)) (by omega)) (by omega)) 11 (by decide)) hek) (OwC.be hbe41 hmq hdr0 hcO) (NaB.be hbe41 hbf48 hwp hps.2.1 hdr0 ((BeR.up (k := 19) (f := (upd ((B7 19)) cs8 (nI hd))) (BeR.up (k := 18) (f := (upd ((B7 18)) cs8 0)) (BeR.up (k := 17) (f := (upd ((B7 17)) cs8 (-1))) (BeR.up (k := 16) (f := (upd ((B7 16)) cs8 8)) hbr49 (by omega)) (by omega)) (by omega)) (by omega)) 11 (by decide)) hna) (EnV.of ((BeR.up (k := 19) (f := (upd ((B7 19)) cs8 (nI hd))) (BeR.up (k := 18) (f := (upd ((B7 18)) cs8 0)) (BeR.up (k := 17) (f := (upd ((B7 17)) cs8 (-1))) (BeR.up (k := 16) (f := (upd ((B7 16)) cs8 8)) hbr49 (by omega)) (by omega)) (by omega)) (by omega)) 26 (by decide)) ((BeR.up (k := 19) (f := (upd ((B7 19)) cs8 (nI hd))) (BeR.up (k := 18) (f := (upd ((B7 18)) cs8 0)) (BeR.up (k := 17) (f := (upd ((B7 17)) cs8 (-1))) (BeR.up (k := 16) (f := (upd ((B7 16)) cs8 8)) hbr49 (by omega)) (by omega)) (by omega)) (by omega)) 27 (by decide)) hen) (fun z => (hev179 z).1) (by omega) (by show os.length + ndE g q2 ≤ 248; omega) hlf1 hO hl0) (gV pw_173 pw_174 pw_175 pw_63 pw_224) hV_X0_value qr186 0 hqr187 rfl rfl rfl (Nat.le_of_ble_eq_true rfl) dX0_shortened_75 ⟨(by show 0 + 1 ≤ 1; omega), (by show 0 + 6 ≤ 6; omega)⟩ ⟨(by show (5 * (n - 1) + 34) + 1 ≤ (5 * n + 33); omega), (by show 8 + (3 + 11) + (200 * (n - 1) + 600) ≤ (200 * n + 560); omega)⟩ (fun v185 u183 H locs hw184 hP hD hS => ?_) (fun ux ce9 q9 H9 locs9 hux hP9 hD9 hS9 hce hcv hcl => pb_out ux (ThQ.up (Thx.same (Thx.same (Thx.same (Thx.same (Thx.same (Thx.b (Thx.b8 (Thx.b (Thx.b (Thx.f (Thx.f (Thx.f (Thx.f (Bth.thx hbb42) (by omega)) (by omega)) (by omega)) (by omega)) (by omega) (by decide)) (by omega) (by decide)) hng178) (by omega) (by decide)) rfl) rfl) rfl) rfl) rfl) (show RhX (updR (updR R 2 (.ref pq)) 3 (.ref mq)) (updR (updR (updR (updR R 2 (.ref pq)) 3 (.ref mq)) 2 (.ref pq)) 3 (.ref mq)) from fun k9 hk9 => by unfold updR; simp only [show ¬ k9 = 1 by omega, show ¬ k9 = 2 by omega, show ¬ k9 = 3 by omega, show ¬ k9 = 4 by omega, if_false]) hux) hnt hlocks hce hcv hcl hP9 hD9 hS9 (by show 0 + 1 ≤ 1; omega) (by show 0 + 6 ≤ 6; omega))
    obtain ⟨w, K188, B189, cs190, as191, wt192, wf193, t194, Ag195, u196⟩ := u183
    obtain ⟨hw184, h197, h198, h199, h200, h201, h202, h203, h204, h205, h206, h207, h208, hO⟩ := hw184
    have h197 : SmW (updA (updA (updA (updA B7 16 (upd ((B7 16)) cs8 8)) 17 (upd ((B7 17)) cs8 (-1))) 18 (upd ((B7 18)) cs8 0)) 19 (upd ((B7 19)) cs8 (nI hd))) B189 (cs8 + 1) := h197
    have h198 : BdE K6 K188 := h198
    have h199 : BeF K6 K188 := h199
    have h200 : BeL K6 K188 none := h200
    have h201 : BeI K6 K188 g q2 := h201
    have h202 : Bth (updA (updA (updA (updA B7 16 (upd ((B7 16)) cs8 8)) 17 (upd ((B7 17)) cs8 (-1))) 18 (upd ((B7 18)) cs8 0)) 19 (upd ((B7 19)) cs8 (nI hd))) B189 := h202
    have h203 : BeR (updA (updA (updA (updA B7 16 (upd ((B7 16)) cs8 8)) 17 (upd ((B7 17)) cs8 (-1))) 18 (upd ((B7 18)) cs8 0)) 19 (upd ((B7 19)) cs8 (nI hd))) B189 := h203
    have h204 : t194 < 128 := h204
    have h205 : (cs8 + 1) ≤ cs190 ∧ cs190 + 0 ≤ (cs8 + 1) + 2 * tlE g q2 := h205
    have h206 : AsE wt11 as191 ∧ AsE wt11 wt192 ∧ AsE wt11 wf193 := h206
    have h207 : okA → VaQ pb (updA (updA (updA (updA B7 16 (upd ((B7 16)) cs8 8)) 17 (upd ((B7 17)) cs8 (-1))) 18 (upd ((B7 18)) cs8 0)) 19 (upd ((B7 19)) cs8 (nI hd))) B189 (upS Ag14 (cs8 + 1) (rcA wt11, hd, sl, os)) Ag195 (fun z => pd z ∨ z = cs8) m9 sn lo (cs8 + 1) cs190 wt11 as191 wt192 wf193 hd sl os t194 u196 (K6.2.1 0 q2) := h207
    have h208 : CaK (K6.2.1 0 q2) → cs190 + 2 ≤ (cs8 + 1) + 2 * tlE g q2 := h208
    obtain rfl : v185 = some (.int (nI t194)) := hw184
    have hf209 : K188.1 pq = 7 := (BdE.T h198 hf28 (by decide))
    have hf210 : K188.2.2.1 18 pq = some (a 1) := (BdE.C h198 (by rw [hf28]; decide) 18).trans hf29
    have hf211 : K188.2.2.1 14 pq = some dr := (BdE.C h198 (by rw [hf28]; decide) 14).trans hf30
    have hf212 : K188.1 dr = 8 := (BdE.T h198 hf31 (by decide))
    have hf213 : K188.2.2.1 15 pq = some ml := (BdE.C h198 (by rw [hf28]; decide) 15).trans hf32
    have hf214 : K188.1 ml = 5 := (BdE.T h198 hf33 (by decide))
    have hf215 : K188.2.1 24 pq = (nI nd) := (BdE.I h198 (by rw [hf28]; decide) (by decide) (by decide)).trans hf34
    have hf216 : K188.1 q = 1 := (BdE.T h198 hf35 (by decide))
    have hf217 : K188.1 mq = 3 := (BdE.T h198 hf36 (by decide))
    have hf218 : K188.2.2.1 0 q = some q1 := (BdE.C h198 (by rw [hf35]; decide) 0).trans hf37
    have hf219 : K188.1 q1 = 1 := (BdE.T h198 hf38 (by decide))
    have hf220 : K188.2.2.1 1 q = some q2 := (BdE.C h198 (by rw [hf35]; decide) 1).trans hf39
    have hf221 : K188.1 q2 = 1 := (BdE.T h198 hf40 (by decide))
    have hO : OKP G h0 a (upd (upd (upd (upd (upd (upd (upd F 2 (nI sz)) 5 (nI cs190)) 7 (nI hd)) 12 (nI vr)) 13 as191) 14 wt192) 15 wf193) (updR (updR R 2 (.ref pq)) 3 (.ref mq)) Z B189 J K188 w := hO.to rfl
    refine W.widen (k := 0) (n := 0) (by show 0 + 0 ≤ 0; omega) (by show 0 + 0 ≤ 0; omega) ?_
    refine W.eq (g2 := F0 m 78 ls [.int (nI t194), .ref q2, .ref (a 4)]) rfl ?_
    have hbe222 := BdE.trans hbe41 h198
    have hbb223 : Bth B B189 := Bth.trans (show Thx (upd (upd (upd (upd (upd F 2 (nI sz)) 5 (nI cs)) 7 (nI hd)) 12 (nI vr)) 13 as9) (upd (upd (upd (upd (upd (upd (upd (upd (upd F 2 (nI sz)) 5 (nI cs)) 7 (nI hd)) 12 (nI vr)) 13 as9) 5 (nI (cs8 + 1))) 13 wt11) 14 wt11) 15 wf12) B (updA (updA (updA (updA B7 16 (upd ((B7 16)) cs8 8)) 17 (upd ((B7 17)) cs8 (-1))) 18 (upd ((B7 18)) cs8 0)) 19 (upd ((B7 19)) cs8 (nI hd))) from (Thx.b (Thx.b8 (Thx.b (Thx.b (Thx.f (Thx.f (Thx.f (Thx.f (Bth.thx hbb42) (by omega)) (by omega)) (by omega)) (by omega)) (by omega) (by decide)) (by omega) (by decide)) hng178) (by omega) (by decide))).2 h202
    have hng224 : Nng (B189 18) := h202.2 hng178
    have hsw225 : ∀ x9 : Nat, x9 < cs → (B189 16) x9 = B 16 x9 := fun x9 hx9 => ((h197 x9 (by omega)).1).trans (hsw174 x9 hx9)
    have hsw226 : ∀ x9 : Nat, x9 < cs → (B189 17) x9 = B 17 x9 := fun x9 hx9 => ((h197 x9 (by omega)).2.1).trans (hsw175 x9 hx9)
    have hsw227 : ∀ x9 : Nat, x9 < cs → (B189 18) x9 = B 18 x9 := fun x9 hx9 => ((h197 x9 (by omega)).2.2.1).trans (hsw176 x9 hx9)
    have hsw228 : ∀ x9 : Nat, x9 < cs → (B189 19) x9 = B 19 x9 := fun x9 hx9 => ((h197 x9 (by omega)).2.2.2).trans (hsw177 x9 hx9)
    have hbf229 := BeF.trans hbf48 h199 hbe41
    have hbl232 := BeL.trans hbl51 h200 hbe41
    have hbi233 := BeI.trans hbi52 h201 hbe41 hin1
    have hbr230 : BeR B B189 := BeR.trans (BeR.up (k := 19) (f := (upd ((B7 19)) cs8 (nI hd))) (BeR.up (k := 18) (f := (upd ((B7 18)) cs8 0)) (BeR.up (k := 17) (f := (upd ((B7 17)) cs8 (-1))) (BeR.up (k := 16) (f := (upd ((B7 16)) cs8 8)) hbr49 (by omega)) (by omega)) (by omega)) (by omega)) h203
    have hpt231 : (okA ∧ ¬ t194 = 63) → EvQ pb.1 pb.2.1 pb.2.2.1 pb.2.2.2 (B 16) (B 17) (B 18) (B 19) (B189 16) (B189 17) (B189 18) (B189 19) Ag Ag195 (fun z => pd z ∨ z = cs8) m9 sn lo cs cs190 as9 as191 hd sl (u196 :: os) ∧ UTb u196 (nI t194) as191 wt192 wf193 := fun z => VaQ.part (B1 := (updA (updA (updA (updA B7 16 (upd ((B7 16)) cs8 8)) 17 (upd ((B7 17)) cs8 (-1))) 18 (upd ((B7 18)) cs8 0)) 19 (upd ((B7 19)) cs8 (nI hd)))) (hev179 z.1) (h207 z.1) h204 z.2
    have hev234 := fun z => (hpt231 z).1
    have has235 : AsE as9 as191 ∧ AsE as9 wt192 ∧ AsE as9 wf193 := ⟨AsE.trans has54.2.1 h206.1, AsE.trans has54.2.1 h206.2.1, AsE.trans has54.2.1 h206.2.2⟩
    have hjl236 : (B189 17) cs8 = -1 := ((h197 cs8 (by omega)).2.1).trans hjl180
    refine lv_bipush (v := 61) hx hb dX0_shortened_78 (by decide) ?_
    have hO : OKP G h0 a (upd (upd (upd (upd (upd (upd (upd (upd (upd (upd F 2 (nI sz)) 5 (nI cs)) 7 (nI hd)) 12 (nI vr)) 13 as9) 5 (nI cs190)) 13 as191) 14 wt192) 15 wf193) 2 (nI sz)) (updR (updR (updR R 2 (.ref pq)) 3 (.ref mq)) 2 (.ref pq)) Z B189 J K188 w := hO.to rfl
    obtain ⟨_, qr240, hqr241⟩ := hO.2.1 24 _ (sg_24 G h0 a _ _ _ _ _)
    refine pn_V0 (G := G) (As := [.ref q2, .int (nI t194), .int (nI 61)]) (rest := []) hx hb hml hown hq hE hX pX0_al hP hD hS hA hl.1 (Y_fit l G h0 a (upd (upd (upd (upd (upd (upd (upd (upd (upd F 2 (nI sz)) 5 (nI cs)) 7 (nI hd)) 12 (nI vr)) 13 as9) 5 (nI cs190)) 13 as191) 14 wt192) 15 wf193) (updR (updR R 2 (.ref pq)) 3 (.ref mq)) Z B189 J K188 w pq dr ml nd q2 sz t194 61 g pb (by omega) (BdE.pt hbe222 hwp hps).1 (BdE.pt hbe222 hwp hps).2.1 hf221 (by omega) hna.1.1 (NaB.be hbe222 hbf229 hwp hps.2.1 hdr0 (hbr230 11 (by decide)) hna).1.2.2 hO hl0) (gV pw_176 pw_177 pw_178 pw_63 pw_114) hV_X0_fit qr240 0 hqr241 rfl rfl rfl (Nat.le_of_ble_eq_true rfl) dX0_shortened_80 ⟨(by show 0 + 1 ≤ 1; omega), (by show 0 + 6 ≤ 6; omega)⟩ ⟨(by show 7 + 1 ≤ (5 * n + 33); omega), (by show 8 + (4 + 11) + 122 ≤ (200 * n + 560); omega)⟩ (fun v239 u237 H locs hw238 hP hD hS => ?_) (fun ux ce9 q9 H9 locs9 hux hP9 hD9 hS9 hce hcv hcl => pb_out ux (ThQ.up (Thx.same (Thx.f (Thx.f (Thx.f (Thx.f (Bth.thx hbb223) (by omega)) (by omega)) (by omega)) (by omega)) rfl) (show RhX (updR (updR R 2 (.ref pq)) 3 (.ref mq)) (updR (updR (updR R 2 (.ref pq)) 3 (.ref mq)) 2 (.ref pq)) from fun k9 hk9 => by unfold updR; simp only [show ¬ k9 = 1 by omega, show ¬ k9 = 2 by omega, show ¬ k9 = 3 by omega, show ¬ k9 = 4 by omega, if_false]) hux) hnt hlocks hce hcv hcl hP9 hD9 hS9 (by show 0 + 1 ≤ 1; omega) (by show 0 + 6 ≤ 6; omega))
    obtain ⟨w, _⟩ := u237
    obtain ⟨hw238, h242, hO⟩ := hw238
    have h242 : FtQ pb t194 61 := h242
    obtain rfl : v239 = none := hw238
    have hO : OKP G h0 a (upd (upd (upd (upd (upd (upd (upd F 2 (nI sz)) 5 (nI cs190)) 7 (nI hd)) 12 (nI vr)) 13 as191) 14 wt192) 15 wf193) (updR (updR R 2 (.ref pq)) 3 (.ref mq)) Z B189 J K188 w := hO.to rfl
    refine W.widen (k := 0) (n := 0) (by show 0 + 0 ≤ 0; omega) (by show 0 + 0 ≤ 0; omega) ?_
    refine W.eq (g2 := F0 m 83 ls []) rfl ?_
    refine lv_aload_n hx hb dX0_shortened_83 rfl (lv_at hl 3 rfl) ?_
    refine c_get (v := .ref (a 2)) (C := RX0) (Tc := TX0) (N := 13) (ci := 0) hx hb hq pin_wsX00 hown hE hP hO 24 (sg_24 G h0 a _ _ _ _ _) rfl 1 (by decide) (hq _ pw_5) (fun _ h9 => h9) rfl dX0_shortened_84 ?_
    refine lv_iload hx hb dX0_shortened_87 (lv_at hl 0 rfl) ?_
    have hO : OKW G h0 a (upd (upd (upd (upd (upd (upd (upd (upd F 2 (nI sz)) 5 (nI cs190)) 7 (nI hd)) 12 (nI vr)) 13 as191) 14 wt192) 15 wf193) 5 (nI cs190)) (updR (updR R 2 (.ref pq)) 3 (.ref mq)) Z B189 J K188.1 (fun q99 x99 => x99 = rep G a K188 q99) w := hO.to rfl
    obtain ⟨_, qr246, hqr247⟩ := hO.2.1 13 _ (sg_13 G h0 a _ _ _ _ _)
    refine pc_V0 (G := G) (As := [.int (nI cs8)]) (rest := []) hx hb hml hown hq hE hX pX0_al hP hD hS hA hl.1 (Y_land l G h0 a (upd (upd (upd (upd (upd (upd (upd F 2 (nI sz)) 5 (nI cs190)) 7 (nI hd)) 12 (nI vr)) 13 as191) 14 wt192) 15 wf193) (updR (updR R 2 (.ref pq)) 3 (.ref mq)) Z B189 J K188.1 (fun q99 x99 => x99 = rep G a K188 q99) w (nI cs8) cs190 ([cs8]) (by omega) (ChnJ.one hjl236 (by omega)) (fun y9 hy9 => by rw [List.mem_singleton.mp hy9]; omega) hO) (gV pw_200 pw_201 pw_202 pw_70 pw_134) hV_X1_land qr246 1 hqr247 rfl rfl rfl (Nat.le_of_ble_eq_true rfl) dX0_shortened_89 ⟨(by show 0 + 0 ≤ 1; omega), (by show 0 + 0 ≤ 6; omega)⟩ ⟨(by show 2 + 1 ≤ (5 * n + 33); omega), (by show 8 + (5 + 11) + 60 ≤ (200 * n + 560); omega)⟩ (fun v245 u243 H locs hw244 hP hD hS => ?_)
    obtain ⟨w, _⟩ := u243
    obtain ⟨hw244, hO⟩ := hw244
    obtain rfl : v245 = none := hw244
    have hO : OKP G h0 a (upd (upd (upd (upd (upd (upd (upd F 2 (nI sz)) 5 (nI cs190)) 7 (nI hd)) 12 (nI vr)) 13 as191) 14 wt192) 15 wf193) (updR (updR R 2 (.ref pq)) 3 (.ref mq)) Z (updA B189 17 (aim ((B189 17)) ([cs8]) cs190)) J K188 w := hO.to rfl
    refine W.widen (k := 0) (n := 0) (Nat.le_of_ble_eq_true rfl) (Nat.le_of_ble_eq_true rfl) ?_
    refine W.eq (g2 := F0 m 92 ls []) rfl ?_
    have hsw248 : ∀ x9 : Nat, x9 < cs → (aim ((B189 17)) ([cs8]) cs190) x9 = B 17 x9 := fun x9 hx9 => (aim_no (fun q9 => by have e9 := List.mem_singleton.mp q9; omega)).trans (hsw226 x9 hx9)
    have hut249 := fun z : okA => (hpt231 ⟨z, h242.1⟩).2
    have hev250 := fun z : okA => hev234 ⟨z, h242.1⟩
    obtain ⟨Ag251, hev252⟩ : ∃ A5 : Nat → AS, okA → EvQ pb.1 pb.2.1 pb.2.2.1 pb.2.2.2 (B 16) (B 17) (B 18) (B 19) (B189 16) (aim ((B189 17)) ([cs8]) cs190) (B189 18) (B189 19) Ag A5 pd m9 sn lo cs cs190 as9 (wt192 &&& (wf193 &&& wf12)) hd sl (bcw wt192 (wf193 &&& wf12) :: os) := ⟨(upS Ag195 cs190 (rcA (wt192 &&& (wf193 &&& wf12)), hd, sl, (bcw wt192 (wf193 &&& wf12) :: os))), fun z => (EvQ.both (hev168 z) (UTb.tru (hut167 z) h23 h60) (VaQ.ev (h207 z) h204 h242.1) (UTb.tru (hut249 z) h204 h242) (VaQ.st (h207 z) h242.1) (hev250 z) (AsE.and has235.2.1 (AsE.and has235.2.2 has54.2.2)))⟩
    refine lv_iload_n hx hb dX0_shortened_92 rfl (lv_at hl 5 rfl) ?_
    refine lv_if_eq (tgt := 110) hx hb dX0_shortened_93 (by decide) (fun c253 => (by have n254 : b9 = 0 := (nI_eq (a := b9) (b := 0) (by omega) (by omega)).mp c253; omega)) (fun c253 => ?_)
    refine lv_aload_n hx hb dX0_shortened_96 rfl (lv_at hl 3 rfl) ?_
    refine lv_dup hx hb dX0_shortened_97 rfl ?_
    refine c_get (v := .int wf193) (C := RX0) (Tc := TX0) (N := 13) (ci := 0) hx hb hq pin_wsX00 hown hE hP hO 24 (sg_24 G h0 a _ _ _ _ _) rfl 10 (by decide) (hq _ pw_157) (fun _ h9 => h9) rfl dX0_shortened_98 ?_
    refine lv_iload hx hb dX0_shortened_101 (lv_at hl 1 rfl) ?_
    refine lv_iand hx hb dX0_shortened_103 ?_
    refine lv_topi (fun x255 e256 => ?_)
    obtain rfl : x255 = (wf193 &&& wf12) := e256
    refine c_put (v := .int (wf193 &&& wf12)) (ty := .int) (C := RX0) (Tc := TX0) (N := 13) (ci := 0) hx hb hq pin_wsX00 tyX0 tyX0_ok nmX0 hown hE hP hD hS hO 24 (sg_24 G h0 a _ _ _ _ _) rfl 10 (by decide) (hq _ pw_157) (fun _ h9 => h9) rfl (by decide +kernel) rfl rfl (Nat.le_of_ble_eq_true rfl) (sf_15 G h0 a _ _ _ _ _ (wf193 &&& wf12)) dX0_shortened_104 (fun H locs w hP hD hS hO => ?_)
    refine lv_goto (tgt := 120) hx hb dX0_shortened_107 (by decide) ?_
    refine lv_aload_n hx hb dX0_shortened_120 rfl (lv_at hl 3 rfl) ?_
    refine lv_aload_n hx hb dX0_shortened_121 rfl (lv_at hl 3 rfl) ?_
    refine c_get (v := .int wt192) (C := RX0) (Tc := TX0) (N := 13) (ci := 0) hx hb hq pin_wsX00 hown hE hP hO 24 (sg_24 G h0 a _ _ _ _ _) rfl 9 (by decide) (hq _ pw_156) (fun _ h9 => h9) rfl dX0_shortened_122 ?_
    refine lv_aload_n hx hb dX0_shortened_125 rfl (lv_at hl 3 rfl) ?_
    refine c_get (v := .int (wf193 &&& wf12)) (C := RX0) (Tc := TX0) (N := 13) (ci := 0) hx hb hq pin_wsX00 hown hE hP hO 24 (sg_24 G h0 a _ _ _ _ _) rfl 10 (by decide) (hq _ pw_157) (fun _ h9 => h9) rfl dX0_shortened_126 ?_
    refine lv_iand hx hb dX0_shortened_129 ?_
    refine lv_topi (fun x257 e258 => ?_)
    obtain rfl : x257 = (wt192 &&& (wf193 &&& wf12)) := e258
    refine c_put (v := .int (wt192 &&& (wf193 &&& wf12))) (ty := .int) (C := RX0) (Tc := TX0) (N := 13) (ci := 0) hx hb hq pin_wsX00 tyX0 tyX0_ok nmX0 hown hE hP hD hS hO 24 (sg_24 G h0 a _ _ _ _ _) rfl 8 (by decide) (hq _ pw_55) (fun _ h9 => h9) rfl (by decide +kernel) rfl rfl (Nat.le_of_ble_eq_true rfl) (sf_13 G h0 a _ _ _ _ _ (wt192 &&& (wf193 &&& wf12))) dX0_shortened_130 (fun H locs w hP hD hS hO => ?_)
    refine lv_bipush (v := 61) hx hb dX0_shortened_133 (by decide) ?_
    refine W_size (fun hz1 hz2 => ?_)
    refine vx_ret ?_
    have hz259 : SmW B (updA B189 17 (aim ((B189 17)) ([cs8]) cs190)) cs := (fun x9 hx9 => ⟨hsw225 x9 hx9, hsw248 x9 hx9, hsw227 x9 hx9, hsw228 x9 hx9⟩)
    have hz260 : BdE K K188 := hbe222
    have hz261 : BeF K K188 := hbf229
    have hz262 : BeL K K188 none := hbl232
    have hz263 : BeI K K188 g q := hbi233
    have hz264 : Bth B (updA B189 17 (aim ((B189 17)) ([cs8]) cs190)) := (show Thx (upd (upd (upd (upd (upd F 2 (nI sz)) 5 (nI cs)) 7 (nI hd)) 12 (nI vr)) 13 as9) (upd (upd (upd (upd (upd (upd (upd (upd (upd F 2 (nI sz)) 5 (nI cs)) 7 (nI hd)) 12 (nI vr)) 13 as9) 5 (nI cs190)) 13 (wt192 &&& (wf193 &&& wf12))) 14 wt192) 15 (wf193 &&& wf12)) B (updA B189 17 (aim ((B189 17)) ([cs8]) cs190)) from (Thx.b (Thx.f (Thx.f (Thx.f (Thx.f (Bth.thx hbb223) (by omega)) (by omega)) (by omega)) (by omega)) (by omega) (by decide))).2
    have hz265 : BeR B (updA B189 17 (aim ((B189 17)) ([cs8]) cs190)) := (BeR.up (k := 17) (f := (aim ((B189 17)) ([cs8]) cs190)) hbr230 (by omega))
    have hz266 : 61 < 128 := (by omega)
    have hz267 : cs ≤ cs190 ∧ cs190 + 0 ≤ cs + 2 * tlE g q := (by omega)
    have hz268 : AsE as9 (wt192 &&& (wf193 &&& wf12)) ∧ AsE as9 wt192 ∧ AsE as9 (wf193 &&& wf12) := ⟨(AsE.and has235.2.1 (AsE.and has235.2.2 has54.2.2)), has235.2.1, (AsE.and has235.2.2 has54.2.2)⟩
    have hz269 : okA → VaQ pb B (updA B189 17 (aim ((B189 17)) ([cs8]) cs190)) Ag Ag251 pd m9 sn lo cs cs190 as9 (wt192 &&& (wf193 &&& wf12)) wt192 (wf193 &&& wf12) hd sl os 61 (bcw wt192 (wf193 &&& wf12)) (K.2.1 0 q) := (fun z => Or.inr ⟨by rw [rsO_ne bcw_63]; exact hev252 z, UTb.bcw AsW.and, by omega⟩)
    have hO : OKP G h0 a (upd (upd (upd (upd (upd (upd (upd F 2 (nI sz)) 5 (nI cs190)) 7 (nI hd)) 12 (nI vr)) 13 (wt192 &&& (wf193 &&& wf12))) 14 wt192) 15 (wf193 &&& wf12)) (updR (updR R 2 (.ref pq)) 3 (.ref mq)) Z (updA B189 17 (aim ((B189 17)) ([cs8]) cs190)) J K188 w := hO.to rfl
    refine W.widen (k := 1) (n := 6) (by omega) (by omega) ?_
    have hzz1 : H.size ≤ s.heap.size + (0) := (by have z : 0 ≤ 0 := (by omega); omega)
    have hzz2 : hSl H ≤ hSl s.heap + (0) := (by have z : 0 ≤ 0 := (by omega); omega)
    exact W.iret (v := 61) hx hb hr (fun t99 ht99 hW99 => ⟨⟨_, (w, (K188, (updA B189 17 (aim ((B189 17)) ([cs8]) cs190)), cs190, (wt192 &&& (wf193 &&& wf12)), wt192, (wf193 &&& wf12), 61, Ag251, (bcw wt192 (wf193 &&& wf12)))), rfl, ⟨rfl, hz259, hz260, hz261, hz262, hz263, hz264, hz265, hz266, hz267, hz268, hz269, hO⟩, by rw [ht99]; exact hP, hD, by rw [ht99]; exact hzz1, by rw [ht99]; exact hzz2⟩, hS.F ht99⟩) hS.2.2 dX0_shortened_135
set_option maxHeartbeats 24000000 in
set_option maxRecDepth 100000 in
theorem Y_choice (l : Launch) (G : pT) (h0 : Nat) (a : Nat → Nat) (F : Nat → Int32) (R : Nat → Value) (Z : Int64) (B : Nat → Nat → Int32) (J : Nat → Nat → Int64) (K : PK) (w : va_W) (pq : Nat) (dr : Nat) (ml : Nat) (nd : Nat) (nm : Nat) (cp : Nat) (it : Nat → Nat) (s9 : Nat) (q : Nat) (mq : Nat) (cs : Nat) (vr : Nat) (sz : Nat) (n : Nat) (q1 : Nat) (q2 : Nat) (q3 : Nat) (g : Nat → Nat → Nat) (rk : Nat → Nat) (pb : PNb) (Ag : Nat → AS) (pd : Nat → Prop) (sl : Nat → Nat) (os : List Nat) (m9 : Nat) (sn : Nat) (lo : Nat) (hd : Nat) (c0 : Nat) (as9 : Int32) (okA : Prop) (hsz : sz ≤ 5000) (hwp : WPr G K g) (hps : PgT G K g (a 1) pq dr ml nd nm cp it s9) (hrk : RkO K rk) (hcs : cs ≤ 10000) (hvr : vr ≤ 30) (hng : Nng (B 18)) (hmq : K.1 mq = 3) (hqT : K.1 q = 1) (hqL : 1 ≤ g 0 q ∧ g 0 q ≤ n) (hek : EkA pb K g (B 7) (B 11) sz) (hcO : OwC K dr mq c0) (hna : NaB pb G K (B 11) dr nd sz) (hen : EnV (B 26) (B 27) nd vr hd c0 sl) (hem : okA → EmB pb B Ag pd m9 sn lo cs as9 hd sl os) (hrm : cs + 2 * tlE g q ≤ 10000) (hop : os.length + ndE g q ≤ 248) (hlf : 1 ≤ tlE g q ∧ 1 ≤ ndE g q) (hc0 : K.2.2.1 0 q = some q1) (ht0 : K.1 q1 = 1) (hv0 : 1 ≤ g 0 q1 ∧ g 0 q1 + 1 ≤ n) (hlf0 : 1 ≤ tlE g q1 ∧ 1 ≤ ndE g q1) (hin0 : InE g q q1) (hc1 : K.2.2.1 1 q = some q2) (ht1 : K.1 q2 = 1) (hv1 : 1 ≤ g 0 q2 ∧ g 0 q2 + 1 ≤ n) (hlf1 : 1 ≤ tlE g q2 ∧ 1 ≤ ndE g q2) (hin1 : InE g q q2) (hc2 : K.2.2.1 2 q = some q3) (ht2 : K.1 q3 = 1) (hv2 : 1 ≤ g 0 q3 ∧ g 0 q3 + 1 ≤ n) (hlf2 : 1 ≤ tlE g q3 ∧ 1 ≤ ndE g q3) (hin2 : InE g q q3) (htl : tlE g q1 + tlE g q2 + tlE g q3 + 2 ≤ tlE g q) (hnd0 : ndE g q1 ≤ ndE g q) (hnd1 : ndE g q2 ≤ ndE g q) (hnd2 : ndE g q3 ≤ ndE g q) (ihv : IhY l G n) (hO : OKP G h0 a (upd (upd (upd (upd (upd F 2 (nI sz)) 5 (nI cs)) 7 (nI hd)) 12 (nI vr)) 13 as9) (updR (updR R 2 (.ref pq)) 3 (.ref mq)) Z B J K w) (hl0 : l.stackTraces = false) : PBn l G pX0 yX0_choice cX0_choice 9 (some .int) ({ frames := (5 * n + 33), cells := 1, slots := 6, locals := (200 * n + 560) }) [.ref (a 4), .ref q] w (fun (v : Option Value) (u : va_W × (PK × (Nat → Nat → Int32) × Nat × Int32 × Int32 × Int32 × Nat × (Nat → AS) × Nat)) => v = some (.int (nI u.2.2.2.2.2.2.2.1)) ∧ (SmW B u.2.2.1 cs) ∧ (BdE K u.2.1) ∧ (BeF K u.2.1) ∧ (BeL K u.2.1 none) ∧ (BeI K u.2.1 g q) ∧ (Bth B u.2.2.1) ∧ (BeR B u.2.2.1) ∧ (u.2.2.2.2.2.2.2.1 < 128) ∧ (cs ≤ u.2.2.2.1 ∧ u.2.2.2.1 + 0 ≤ cs + 2 * tlE g q) ∧ (AsE as9 u.2.2.2.2.1 ∧ AsE as9 u.2.2.2.2.2.1 ∧ AsE as9 u.2.2.2.2.2.2.1) ∧ (okA → VaQ pb B u.2.2.1 Ag u.2.2.2.2.2.2.2.2.1 pd m9 sn lo cs u.2.2.2.1 as9 u.2.2.2.2.1 u.2.2.2.2.2.1 u.2.2.2.2.2.2.1 hd sl os u.2.2.2.2.2.2.2.1 u.2.2.2.2.2.2.2.2.2 (K.2.1 0 q)) ∧ (OKP G h0 a (upd (upd (upd (upd (upd (upd (upd F 2 (nI sz)) 5 (nI u.2.2.2.1)) 7 (nI hd)) 12 (nI vr)) 13 u.2.2.2.2.1) 14 u.2.2.2.2.2.1) 15 u.2.2.2.2.2.2.1) (updR (updR R 2 (.ref pq)) 3 (.ref mq)) Z u.2.2.1 J u.2.1 u.1)) (fun u => u.1) (fun (u : va_W × (PK × (Nat → Nat → Int32) × Nat × Int32 × Int32 × Int32 × Nat × (Nat → AS) × Nat)) => 0) (fun (u : va_W × (PK × (Nat → Nat → Int32) × Nat × Int32 × Int32 × Int32 × Nat × (Nat → AS) × Nat)) => 0) (fun (u : va_W × (Nat → Int32) × (Nat → Value) × (Nat → Nat → Int32)) => ThQ G h0 a (upd (upd (upd (upd (upd F 2 (nI sz)) 5 (nI cs)) 7 (nI hd)) 12 (nI vr)) 13 as9) (updR (updR R 2 (.ref pq)) 3 (.ref mq)) Z B J u) (fun u => u.1) := by
  intro sz
  refine vx_ofW (cc := cX0_choice) (maxL := 9) (ret := (some .int)) (by decide) rfl ?_
  intro p e s m args below meth c s₁ B9 hml hnt hv
  obtain ⟨rfl, hsz, hP, hD0, hE, hX⟩ := hv
  have hx := B9.exec
  have hb := B9.bytes
  have hr := B9.returns
  have hts := atoms_spec (ws := Cond.code yX0_choice cX0_choice 9 (some .int) :: pw) B9.pre
  have hq : ∀ w ∈ pw, w.before _ s = true := fun w h => hts w (List.mem_cons_of_mem _ h)
  have hown : s.vm.findClass RX0 = some m.cls := findClass_of_methodNamed B9.named
  have hlocks := B9.notSynchronized
  subst hsz
  have hD := hD0.self (sz := s.heap.size)
  have hA : ∀ q : Nat, s.heap.size ≤ q → va_A w s.heap.size q := fun q h => Or.inr h
  generalize va_A w s.heap.size = A at hD hE hA ⊢
  have hS : va_S A s.heap s.heap [] := va_S.rf
  have hl := lv_entry ([.ref (a 4), .ref q]) (n := 9) (Nat.le_of_ble_eq_true rfl)
  rw [lg_entry_eq]
  generalize (lg_sl ([.ref (a 4), .ref q]) ++ List.replicate (9 - (lg_sl ([.ref (a 4), .ref q])).length) Slot.unset).toArray = ls at hl ⊢
  have hl : lv_has ls 9 [(0, .ref (a 4)), (1, .ref q)] := hl
  have hpg := hps.1
  have hp1 := hpg.1
  have hp2 := hpg.2.1
  have hp3 := hpg.2.2.1
  have hp4 := hpg.2.2.2.1
  have hp5 := hpg.2.2.2.2.1
  have hp6 := hpg.2.2.2.2.2.1
  have hp8 := hpg.2.2.2.2.2.2.2.1
  have hp9 := hpg.2.2.2.2.2.2.2.2
  have hdr0 : ¬ K.1 dr = 0 := by rw [hp4]; decide
  have hev0 : okA → EvQ pb.1 pb.2.1 pb.2.2.1 pb.2.2.2 (B 16) (B 17) (B 18) (B 19) (B 16) (B 17) (B 18) (B 19) Ag Ag pd m9 sn lo cs cs as9 as9 hd sl os := fun z => EvB.nil (hem z)
  refine lv_aload_n hx hb dX0_choice_0 rfl (lv_at hl 0 rfl) ?_
  refine lv_aload_n hx hb dX0_choice_1 rfl (lv_at hl 1 rfl) ?_
  refine p_get (v := .ref q1) (C := RX7) (Tc := TX7) (N := 11) (ci := 13) hx hb hq pin_wsX70 hown hE hP hO (by rw [hqT]; decide) (rep_1 hqT) rfl 6 (by decide) (hq _ pw_180) (fun _ h9 => h9) (congrArg (fun z => some (va_rf z)) hc0) dX0_choice_2 ?_
  refine lv_aload_n hx hb dX0_choice_5 rfl (lv_at hl 0 rfl) ?_
  refine lv_aload_n hx hb dX0_choice_6 rfl (lv_at hl 1 rfl) ?_
  refine p_get (v := .ref q1) (C := RX7) (Tc := TX7) (N := 11) (ci := 13) hx hb hq pin_wsX70 hown hE hP hO (by rw [hqT]; decide) (rep_1 hqT) rfl 6 (by decide) (hq _ pw_180) (fun _ h9 => h9) (congrArg (fun z => some (va_rf z)) hc0) dX0_choice_7 ?_
  have hO : OKP G h0 a (upd (upd (upd (upd (upd (upd (upd (upd (upd (upd F 2 (nI sz)) 5 (nI cs)) 7 (nI hd)) 12 (nI vr)) 13 as9) 2 (nI sz)) 5 (nI cs)) 7 (nI hd)) 12 (nI vr)) 13 as9) (updR (updR (updR (updR R 2 (.ref pq)) 3 (.ref mq)) 2 (.ref pq)) 3 (.ref mq)) Z B J K w := hO.to rfl
  obtain ⟨_, qr4, hqr5⟩ := hO.2.1 24 _ (sg_24 G h0 a _ _ _ _ _)
  refine pn_V0 (G := G) (As := [.ref q1]) (rest := [.ref q1, .ref (a 4)]) hx hb hml hown hq hE hX pX0_al hP hD hS hA hl.1 ((ihv (by omega)) h0 a (upd (upd (upd (upd (upd F 2 (nI sz)) 5 (nI cs)) 7 (nI hd)) 12 (nI vr)) 13 as9) (updR (updR R 2 (.ref pq)) 3 (.ref mq)) Z B J K w pq dr ml nd nm cp it s9 q1 mq cs vr sz g rk pb Ag pd sl os m9 sn lo hd c0 as9 okA (by omega) (BdE.wp BdE.rfl hwp) (BdE.pt BdE.rfl hwp hps) (BdE.rko BdE.rfl hrk) (by omega) (by omega) hng hmq ht0 ⟨hv0.1, (by have z9 := hv0; omega)⟩ (EkA.be BdE.rfl (BeR.rfl 7 (by decide)) (BeR.rfl 11 (by decide)) hek) (OwC.be BdE.rfl hmq hdr0 hcO) (NaB.be BdE.rfl BeF.rfl hwp hps.2.1 hdr0 (BeR.rfl 11 (by decide)) hna) (EnV.of (BeR.rfl 26 (by decide)) (BeR.rfl 27 (by decide)) hen) (fun z => (hev0 z).1) (by omega) (by show os.length + ndE g q1 ≤ 248; omega) hlf0 hO hl0) (gV pw_173 pw_174 pw_175 pw_63 pw_224) hV_X0_value qr4 0 hqr5 rfl rfl rfl (Nat.le_of_ble_eq_true rfl) dX0_choice_10 ⟨(by show 0 + 1 ≤ 1; omega), (by show 0 + 6 ≤ 6; omega)⟩ ⟨(by show (5 * (n - 1) + 34) + 1 ≤ (5 * n + 33); omega), (by show 8 + (3 + 11) + (200 * (n - 1) + 600) ≤ (200 * n + 560); omega)⟩ (fun v3 u1 H locs hw2 hP hD hS => ?_) (fun ux ce9 q9 H9 locs9 hux hP9 hD9 hS9 hce hcv hcl => pb_out ux (ThQ.up (Thx.same (Thx.same (Thx.same (Thx.same (Thx.same Thx.rfl rfl) rfl) rfl) rfl) rfl) (show RhX (updR (updR R 2 (.ref pq)) 3 (.ref mq)) (updR (updR (updR (updR R 2 (.ref pq)) 3 (.ref mq)) 2 (.ref pq)) 3 (.ref mq)) from fun k9 hk9 => by unfold updR; simp only [show ¬ k9 = 1 by omega, show ¬ k9 = 2 by omega, show ¬ k9 = 3 by omega, show ¬ k9 = 4 by omega, if_false]) hux) hnt hlocks hce hcv hcl hP9 hD9 hS9 (by show 0 + 1 ≤ 1; omega) (by show 0 + 6 ≤ 6; omega))
  obtain ⟨w, K6, B7, cs8, as10, wt11, wf12, t13, Ag14, u15⟩ := u1
  obtain ⟨hw2, h16, h17, h18, h19, h20, h21, h22, h23, h24, h25, h26, h27, hO⟩ := hw2
  have h16 : SmW B B7 cs := h16
  have h17 : BdE K K6 := h17
  have h18 : BeF K K6 := h18
  have h19 : BeL K K6 none := h19
  have h20 : BeI K K6 g q1 := h20
  have h21 : Bth B B7 := h21
  have h22 : BeR B B7 := h22
  have h23 : t13 < 128 := h23
  have h24 : cs ≤ cs8 ∧ cs8 + 0 ≤ cs + 2 * tlE g q1 := h24
  have h25 : AsE as9 as10 ∧ AsE as9 wt11 ∧ AsE as9 wf12 := h25
  have h26 : okA → VaQ pb B B7 Ag Ag14 pd m9 sn lo cs cs8 as9 as10 wt11 wf12 hd sl os t13 u15 (K.2.1 0 q1) := h26
  have h27 : CaK (K.2.1 0 q1) → cs8 + 2 ≤ cs + 2 * tlE g q1 := h27
  obtain rfl : v3 = some (.int (nI t13)) := hw2
  have hf28 : K6.1 pq = 7 := (BdE.T h17 hp1 (by decide))
  have hf29 : K6.2.2.1 18 pq = some (a 1) := (BdE.C h17 (by rw [hp1]; decide) 18).trans hp2
  have hf30 : K6.2.2.1 14 pq = some dr := (BdE.C h17 (by rw [hp1]; decide) 14).trans hp3
  have hf31 : K6.1 dr = 8 := (BdE.T h17 hp4 (by decide))
  have hf32 : K6.2.2.1 15 pq = some ml := (BdE.C h17 (by rw [hp1]; decide) 15).trans hp5
  have hf33 : K6.1 ml = 5 := (BdE.T h17 hp6 (by decide))
  have hf34 : K6.2.1 24 pq = (nI nd) := (BdE.I h17 (by rw [hp1]; decide) (by decide) (by decide)).trans hp8
  have hf35 : K6.1 q = 1 := (BdE.T h17 hqT (by decide))
  have hf36 : K6.1 mq = 3 := (BdE.T h17 hmq (by decide))
  have hf37 : K6.2.2.1 0 q = some q1 := (BdE.C h17 (by rw [hqT]; decide) 0).trans hc0
  have hf38 : K6.1 q1 = 1 := (BdE.T h17 ht0 (by decide))
  have hf39 : K6.2.2.1 1 q = some q2 := (BdE.C h17 (by rw [hqT]; decide) 1).trans hc1
  have hf40 : K6.1 q2 = 1 := (BdE.T h17 ht1 (by decide))
  have hf41 : K6.2.2.1 2 q = some q3 := (BdE.C h17 (by rw [hqT]; decide) 2).trans hc2
  have hf42 : K6.1 q3 = 1 := (BdE.T h17 ht2 (by decide))
  have hO : OKP G h0 a (upd (upd (upd (upd (upd (upd (upd F 2 (nI sz)) 5 (nI cs8)) 7 (nI hd)) 12 (nI vr)) 13 as10) 14 wt11) 15 wf12) (updR (updR R 2 (.ref pq)) 3 (.ref mq)) Z B7 J K6 w := hO.to rfl
  refine W.widen (k := 0) (n := 0) (by show 0 + 0 ≤ 0; omega) (by show 0 + 0 ≤ 0; omega) ?_
  refine W.eq (g2 := F0 m 13 ls [.int (nI t13), .ref q1, .ref (a 4)]) rfl ?_
  have hbe43 := BdE.trans BdE.rfl h17
  have hbb44 : Bth B B7 := Bth.trans (show Thx (upd (upd (upd (upd (upd F 2 (nI sz)) 5 (nI cs)) 7 (nI hd)) 12 (nI vr)) 13 as9) (upd (upd (upd (upd (upd F 2 (nI sz)) 5 (nI cs)) 7 (nI hd)) 12 (nI vr)) 13 as9) B B from Thx.rfl).2 h21
  have hng45 : Nng (B7 18) := h21.2 hng
  have hsw46 : ∀ x9 : Nat, x9 < cs → (B7 16) x9 = B 16 x9 := fun x9 hx9 => ((h16 x9 (by omega)).1).trans ((fun _ _ => rfl) x9 hx9)
  have hsw47 : ∀ x9 : Nat, x9 < cs → (B7 17) x9 = B 17 x9 := fun x9 hx9 => ((h16 x9 (by omega)).2.1).trans ((fun _ _ => rfl) x9 hx9)
  have hsw48 : ∀ x9 : Nat, x9 < cs → (B7 18) x9 = B 18 x9 := fun x9 hx9 => ((h16 x9 (by omega)).2.2.1).trans ((fun _ _ => rfl) x9 hx9)
  have hsw49 : ∀ x9 : Nat, x9 < cs → (B7 19) x9 = B 19 x9 := fun x9 hx9 => ((h16 x9 (by omega)).2.2.2).trans ((fun _ _ => rfl) x9 hx9)
  have hbf50 := BeF.trans BeF.rfl h18 BdE.rfl
  have hbl53 := BeL.trans BeL.rfl h19 BdE.rfl
  have hbi54 := BeI.trans BeI.rfl h20 BdE.rfl hin0
  have hbr51 : BeR B B7 := BeR.trans BeR.rfl h22
  have hpt52 : (okA ∧ ¬ t13 = 63) → EvQ pb.1 pb.2.1 pb.2.2.1 pb.2.2.2 (B 16) (B 17) (B 18) (B 19) (B7 16) (B7 17) (B7 18) (B7 19) Ag Ag14 pd m9 sn lo cs cs8 as9 as10 hd sl (u15 :: os) ∧ UTb u15 (nI t13) as10 wt11 wf12 := fun z => VaQ.part (B1 := B) (hev0 z.1) (h26 z.1) h23 z.2
  have hev55 := fun z => (hpt52 z).1
  have has56 : AsE as9 as10 ∧ AsE as9 wt11 ∧ AsE as9 wf12 := ⟨AsE.trans AsE.rfl h25.1, AsE.trans AsE.rfl h25.2.1, AsE.trans AsE.rfl h25.2.2⟩
  refine lv_bipush (v := 61) hx hb dX0_choice_13 (by decide) ?_
  have hO : OKP G h0 a (upd (upd (upd (upd (upd (upd (upd (upd (upd (upd F 2 (nI sz)) 5 (nI cs)) 7 (nI hd)) 12 (nI vr)) 13 as9) 5 (nI cs8)) 13 as10) 14 wt11) 15 wf12) 2 (nI sz)) (updR (updR (updR R 2 (.ref pq)) 3 (.ref mq)) 2 (.ref pq)) Z B7 J K6 w := hO.to rfl
  obtain ⟨_, qr60, hqr61⟩ := hO.2.1 24 _ (sg_24 G h0 a _ _ _ _ _)
  refine pn_V0 (G := G) (As := [.ref q1, .int (nI t13), .int (nI 61)]) (rest := []) hx hb hml hown hq hE hX pX0_al hP hD hS hA hl.1 (Y_fit l G h0 a (upd (upd (upd (upd (upd (upd (upd (upd (upd F 2 (nI sz)) 5 (nI cs)) 7 (nI hd)) 12 (nI vr)) 13 as9) 5 (nI cs8)) 13 as10) 14 wt11) 15 wf12) (updR (updR R 2 (.ref pq)) 3 (.ref mq)) Z B7 J K6 w pq dr ml nd q1 sz t13 61 g pb (by omega) (BdE.pt hbe43 hwp hps).1 (BdE.pt hbe43 hwp hps).2.1 hf38 (by omega) hna.1.1 (NaB.be hbe43 hbf50 hwp hps.2.1 hdr0 (hbr51 11 (by decide)) hna).1.2.2 hO hl0) (gV pw_176 pw_177 pw_178 pw_63 pw_114) hV_X0_fit qr60 0 hqr61 rfl rfl rfl (Nat.le_of_ble_eq_true rfl) dX0_choice_15 ⟨(by show 0 + 1 ≤ 1; omega), (by show 0 + 6 ≤ 6; omega)⟩ ⟨(by show 7 + 1 ≤ (5 * n + 33); omega), (by show 8 + (4 + 11) + 122 ≤ (200 * n + 560); omega)⟩ (fun v59 u57 H locs hw58 hP hD hS => ?_) (fun ux ce9 q9 H9 locs9 hux hP9 hD9 hS9 hce hcv hcl => pb_out ux (ThQ.up (Thx.same (Thx.f (Thx.f (Thx.f (Thx.f (Bth.thx hbb44) (by omega)) (by omega)) (by omega)) (by omega)) rfl) (show RhX (updR (updR R 2 (.ref pq)) 3 (.ref mq)) (updR (updR (updR R 2 (.ref pq)) 3 (.ref mq)) 2 (.ref pq)) from fun k9 hk9 => by unfold updR; simp only [show ¬ k9 = 1 by omega, show ¬ k9 = 2 by omega, show ¬ k9 = 3 by omega, show ¬ k9 = 4 by omega, if_false]) hux) hnt hlocks hce hcv hcl hP9 hD9 hS9 (by show 0 + 1 ≤ 1; omega) (by show 0 + 6 ≤ 6; omega))
  obtain ⟨w, _⟩ := u57
  obtain ⟨hw58, h62, hO⟩ := hw58
  have h62 : FtQ pb t13 61 := h62
  obtain rfl : v59 = none := hw58
  have hO : OKP G h0 a (upd (upd (upd (upd (upd (upd (upd F 2 (nI sz)) 5 (nI cs8)) 7 (nI hd)) 12 (nI vr)) 13 as10) 14 wt11) 15 wf12) (updR (updR R 2 (.ref pq)) 3 (.ref mq)) Z B7 J K6 w := hO.to rfl
  refine W.widen (k := 0) (n := 0) (by show 0 + 0 ≤ 0; omega) (by show 0 + 0 ≤ 0; omega) ?_
  refine W.eq (g2 := F0 m 18 ls []) rfl ?_
  refine lv_aload_n hx hb dX0_choice_18 rfl (lv_at hl 0 rfl) ?_
  refine c_get (v := .int wf12) (C := RX0) (Tc := TX0) (N := 13) (ci := 0) hx hb hq pin_wsX00 hown hE hP hO 24 (sg_24 G h0 a _ _ _ _ _) rfl 10 (by decide) (hq _ pw_157) (fun _ h9 => h9) rfl dX0_choice_19 ?_
  refine lv_istore_n (lv' := [(2, .int wf12), (0, .ref (a 4)), (1, .ref q)]) hx hb dX0_choice_22 rfl hl (by decide) rfl (fun ls hl => ?_)
  refine lv_aload_n hx hb dX0_choice_23 rfl (lv_at hl 1 rfl) ?_
  refine lv_aload_n hx hb dX0_choice_24 rfl (lv_at hl 1 rfl) ?_
  refine c_get (v := .int wt11) (C := RX0) (Tc := TX0) (N := 13) (ci := 0) hx hb hq pin_wsX00 hown hE hP hO 24 (sg_24 G h0 a _ _ _ _ _) rfl 9 (by decide) (hq _ pw_156) (fun _ h9 => h9) rfl dX0_choice_25 ?_
  refine c_put (v := .int wt11) (ty := .int) (C := RX0) (Tc := TX0) (N := 13) (ci := 0) hx hb hq pin_wsX00 tyX0 tyX0_ok nmX0 hown hE hP hD hS hO 24 (sg_24 G h0 a _ _ _ _ _) rfl 8 (by decide) (hq _ pw_55) (fun _ h9 => h9) rfl (by decide +kernel) rfl rfl (Nat.le_of_ble_eq_true rfl) (sf_13 G h0 a _ _ _ _ _ wt11) dX0_choice_28 (fun H locs w hP hD hS hO => ?_)
  refine lv_aload_n hx hb dX0_choice_31 rfl (lv_at hl 1 rfl) ?_
  refine c_get (v := .ref (a 2)) (C := RX0) (Tc := TX0) (N := 13) (ci := 0) hx hb hq pin_wsX00 hown hE hP hO 24 (sg_24 G h0 a _ _ _ _ _) rfl 1 (by decide) (hq _ pw_5) (fun _ h9 => h9) rfl dX0_choice_32 ?_
  refine lv_bipush (v := 7) hx hb dX0_choice_35 (by decide) ?_
  refine lv_iconst (v := (-1)) hx hb dX0_choice_37 (by decide) ?_
  refine lv_iconst (v := 0) hx hb dX0_choice_38 (by decide) ?_
  have hut63 := fun z : okA => (hpt52 ⟨z, h62.1⟩).2
  have hev64 := fun z : okA => hev55 ⟨z, h62.1⟩
  have hO : OKW G h0 a (upd (upd (upd (upd (upd (upd (upd (upd (upd F 2 (nI sz)) 5 (nI cs8)) 7 (nI hd)) 12 (nI vr)) 13 wt11) 14 wt11) 15 wf12) 5 (nI cs8)) 7 (nI hd)) (updR (updR R 2 (.ref pq)) 3 (.ref mq)) Z B7 J K6.1 (fun q99 x99 => x99 = rep G a K6 q99) w := hO.to rfl
  obtain ⟨_, qr68, hqr69⟩ := hO.2.1 13 _ (sg_13 G h0 a _ _ _ _ _)
  refine pc_V0 (G := G) (As := [.int 7, .int (-1), .int 0]) (rest := []) hx hb hml hown hq hE hX pX0_al hP hD hS hA hl.1 (Y_jump l G h0 a (upd (upd (upd (upd (upd (upd (upd F 2 (nI sz)) 5 (nI cs8)) 7 (nI hd)) 12 (nI vr)) 13 wt11) 14 wt11) 15 wf12) (updR (updR R 2 (.ref pq)) 3 (.ref mq)) Z B7 J K6.1 (fun q99 x99 => x99 = rep G a K6 q99) w 7 (-1) 0 cs8 hd (by omega) hO) (gV pw_197 pw_198 pw_199 pw_70 pw_132) hV_X1_jump qr68 1 hqr69 rfl rfl rfl (Nat.le_of_ble_eq_true rfl) dX0_choice_39 ⟨(by show 0 + 0 ≤ 1; omega), (by show 0 + 0 ≤ 6; omega)⟩ ⟨(by show 3 + 1 ≤ (5 * n + 33); omega), (by show 8 + (4 + 11) + 83 ≤ (200 * n + 560); omega)⟩ (fun v67 u65 H locs hw66 hP hD hS => ?_)
  obtain ⟨w, _⟩ := u65
  obtain ⟨hw66, hO⟩ := hw66
  obtain rfl : v67 = some (.int (nI cs8)) := hw66
  have hO : OKP G h0 a (upd (upd (upd (upd (upd (upd (upd F 2 (nI sz)) 5 (nI (cs8 + 1))) 7 (nI hd)) 12 (nI vr)) 13 wt11) 14 wt11) 15 wf12) (updR (updR R 2 (.ref pq)) 3 (.ref mq)) Z (updA (updA (updA (updA B7 16 (upd ((B7 16)) cs8 7)) 17 (upd ((B7 17)) cs8 (-1))) 18 (upd ((B7 18)) cs8 0)) 19 (upd ((B7 19)) cs8 (nI hd))) J K6 w := hO.to rfl
  refine W.widen (k := 0) (n := 0) (Nat.le_of_ble_eq_true rfl) (Nat.le_of_ble_eq_true rfl) ?_
  refine W.eq (g2 := F0 m 42 ls [.int (nI cs8)]) rfl ?_
  have hsw70 : ∀ x9 : Nat, x9 < cs → (upd ((B7 16)) cs8 7) x9 = B 16 x9 := fun x9 hx9 => (if_neg (by omega)).trans (hsw46 x9 hx9)
  have hsw71 : ∀ x9 : Nat, x9 < cs → (upd ((B7 17)) cs8 (-1)) x9 = B 17 x9 := fun x9 hx9 => (if_neg (by omega)).trans (hsw47 x9 hx9)
  have hsw72 : ∀ x9 : Nat, x9 < cs → (upd ((B7 18)) cs8 0) x9 = B 18 x9 := fun x9 hx9 => (if_neg (by omega)).trans (hsw48 x9 hx9)
  have hsw73 : ∀ x9 : Nat, x9 < cs → (upd ((B7 19)) cs8 (nI hd)) x9 = B 19 x9 := fun x9 hx9 => (if_neg (by omega)).trans (hsw49 x9 hx9)
  have hng74 : Nng (upd ((B7 18)) cs8 0) := Nng.set hng45 (k := 0) (by omega)
  have hev75 : okA → EvQ pb.1 pb.2.1 pb.2.2.1 pb.2.2.2 (B 16) (B 17) (B 18) (B 19) (upd ((B7 16)) cs8 7) (upd ((B7 17)) cs8 (-1)) (upd ((B7 18)) cs8 0) (upd ((B7 19)) cs8 (nI hd)) Ag (upS Ag14 (cs8 + 1) (rcA wt11, hd, sl, os)) (fun z => pd z ∨ z = cs8) m9 sn lo cs (cs8 + 1) as9 wt11 hd sl os := fun z => EvQ.pend (k := 7) (hev64 z) (by show os.length + 1 ≤ 248; omega) (by decide) has56.2.1
  have hjl76 : (upd ((B7 17)) cs8 (-1)) cs8 = -1 := if_pos rfl
  refine lv_istore_n (lv' := [(3, .int (nI cs8)), (2, .int wf12), (0, .ref (a 4)), (1, .ref q)]) hx hb dX0_choice_42 rfl hl (by decide) rfl (fun ls hl => ?_)
  refine lv_aload_n hx hb dX0_choice_43 rfl (lv_at hl 2 rfl) ?_
  refine lv_aload_n hx hb dX0_choice_44 rfl (lv_at hl 3 rfl) ?_
  refine p_get (v := .ref q2) (C := RX7) (Tc := TX7) (N := 11) (ci := 13) hx hb hq pin_wsX70 hown hE hP hO (by rw [hf35]; decide) (rep_1 hf35) rfl 7 (by decide) (hq _ pw_169) (fun _ h9 => h9) (congrArg (fun z => some (va_rf z)) hf39) dX0_choice_45 ?_
  have hO : OKP G h0 a (upd (upd (upd (upd (upd (upd (upd (upd (upd (upd (upd (upd (upd (upd F 2 (nI sz)) 5 (nI cs)) 7 (nI hd)) 12 (nI vr)) 13 as9) 5 (nI (cs8 + 1))) 13 wt11) 14 wt11) 15 wf12) 2 (nI sz)) 5 (nI (cs8 + 1))) 7 (nI hd)) 12 (nI vr)) 13 wt11) (updR (updR (updR (updR R 2 (.ref pq)) 3 (.ref mq)) 2 (.ref pq)) 3 (.ref mq)) Z (updA (updA (updA (updA B7 16 (upd ((B7 16)) cs8 7)) 17 (upd ((B7 17)) cs8 (-1))) 18 (upd ((B7 18)) cs8 0)) 19 (upd ((B7 19)) cs8 (nI hd))) J K6 w := hO.to rfl
  obtain ⟨_, qr80, hqr81⟩ := hO.2.1 24 _ (sg_24 G h0 a _ _ _ _ _)
  refine pn_V0 (G := G) (As := [.ref q2]) (rest := []) hx hb hml hown hq hE hX pX0_al hP hD hS hA hl.1 ((ihv (by omega)) h0 a (upd (upd (upd (upd (upd (upd (upd (upd (upd F 2 (nI sz)) 5 (nI cs)) 7 (nI hd)) 12 (nI vr)) 13 as9) 5 (nI (cs8 + 1))) 13 wt11) 14 wt11) 15 wf12) (updR (updR R 2 (.ref pq)) 3 (.ref mq)) Z (updA (updA (updA (updA B7 16 (upd ((B7 16)) cs8 7)) 17 (upd ((B7 17)) cs8 (-1))) 18 (upd ((B7 18)) cs8 0)) 19 (upd ((B7 19)) cs8 (nI hd))) J K6 w pq dr ml nd nm cp it s9 q2 mq (cs8 + 1) vr sz g rk pb (upS Ag14 (cs8 + 1) (rcA wt11, hd, sl, os)) (fun z => pd z ∨ z = cs8) sl os m9 sn lo hd c0 wt11 okA (by omega) (BdE.wp hbe43 hwp) (BdE.pt hbe43 hwp hps) (BdE.rko hbe43 hrk) (by omega) (by omega) hng74 hf36 hf40 ⟨hv1.1, (by have z9 := hv1; omega)⟩ (EkA.be hbe43 ((BeR.up (k := 19) (f := (upd ((B7 19)) cs8 (nI hd))) (BeR.up (k := 18) (f := (upd ((B7 18)) cs8 0)) (BeR.up (k := 17) (f := (upd ((B7 17)) cs8 (-1))) (BeR.up (k := 16) (f := (upd ((B7 16)) cs8 7)) hbr51 (by omega)) (by omega)) (by omega)) (by omega)) 7 (by decide)) ((BeR.up (k := 19) (f := (upd ((B7 19)) cs8 (nI hd))) (BeR.up (k := 18) (f := (upd ((B7 18)) cs8 0)) (BeR.up (k := 17) (f := (upd ((B7 17)) cs8 (-1))) (BeR.up (k := 16) (f := (upd ((B7 16)) cs8 7)) hbr51 (by omega)) (by omega)) (by omega)) (by omega)) 11 (by decide)) hek) (OwC.be hbe43 hmq hdr0 hcO) (NaB.be hbe43 hbf50 hwp hps.2.1 hdr0 ((BeR.up (k := 19) (f := (upd ((B7 19)) cs8 (nI hd))) (BeR.up (k := 18) (f := (upd ((B7 18)) cs8 0)) (BeR.up (k := 17) (f := (upd ((B7 17)) cs8 (-1))) (BeR.up (k := 16) (f := (upd ((B7 16)) cs8 7)) hbr51 (by omega)) (by omega)) (by omega)) (by omega)) 11 (by decide)) hna) (EnV.of ((BeR.up (k := 19) (f := (upd ((B7 19)) cs8 (nI hd))) (BeR.up (k := 18) (f := (upd ((B7 18)) cs8 0)) (BeR.up (k := 17) (f := (upd ((B7 17)) cs8 (-1))) (BeR.up (k := 16) (f := (upd ((B7 16)) cs8 7)) hbr51 (by omega)) (by omega)) (by omega)) (by omega)) 26 (by decide)) ((BeR.up (k := 19) (f := (upd ((B7 19)) cs8 (nI hd))) (BeR.up (k := 18) (f := (upd ((B7 18)) cs8 0)) (BeR.up (k := 17) (f := (upd ((B7 17)) cs8 (-1))) (BeR.up (k := 16) (f := (upd ((B7 16)) cs8 7)) hbr51 (by omega)) (by omega)) (by omega)) (by omega)) 27 (by decide)) hen) (fun z => (hev75 z).1) (by omega) (by show os.length + ndE g q2 ≤ 248; omega) hlf1 hO hl0) (gV pw_173 pw_174 pw_175 pw_63 pw_224) hV_X0_value qr80 0 hqr81 rfl rfl rfl (Nat.le_of_ble_eq_true rfl) dX0_choice_48 ⟨(by show 0 + 1 ≤ 1; omega), (by show 0 + 6 ≤ 6; omega)⟩ ⟨(by show (5 * (n - 1) + 34) + 1 ≤ (5 * n + 33); omega), (by show 8 + (3 + 11) + (200 * (n - 1) + 600) ≤ (200 * n + 560); omega)⟩ (fun v79 u77 H locs hw78 hP hD hS => ?_) (fun ux ce9 q9 H9 locs9 hux hP9 hD9 hS9 hce hcv hcl => pb_out ux (ThQ.up (Thx.same (Thx.same (Thx.same (Thx.same (Thx.same (Thx.b (Thx.b8 (Thx.b (Thx.b (Thx.f (Thx.f (Thx.f (Thx.f (Bth.thx hbb44) (by omega)) (by omega)) (by omega)) (by omega)) (by omega) (by decide)) (by omega) (by decide)) hng74) (by omega) (by decide)) rfl) rfl) rfl) rfl) rfl) (show RhX (updR (updR R 2 (.ref pq)) 3 (.ref mq)) (updR (updR (updR (updR R 2 (.ref pq)) 3 (.ref mq)) 2 (.ref pq)) 3 (.ref mq)) from fun k9 hk9 => by unfold updR; simp only [show ¬ k9 = 1 by omega, show ¬ k9 = 2 by omega, show ¬ k9 = 3 by omega, show ¬ k9 = 4 by omega, if_false]) hux) hnt hlocks hce hcv hcl hP9 hD9 hS9 (by show 0 + 1 ≤ 1; omega) (by show 0 + 6 ≤ 6; omega))
  obtain ⟨w, K82, B83, cs84, as85, wt86, wf87, t88, Ag89, u90⟩ := u77
  obtain ⟨hw78, h91, h92, h93, h94, h95, h96, h97, h98, h99, h100, h101, h102, hO⟩ := hw78
  have h91 : SmW (updA (updA (updA (updA B7 16 (upd ((B7 16)) cs8 7)) 17 (upd ((B7 17)) cs8 (-1))) 18 (upd ((B7 18)) cs8 0)) 19 (upd ((B7 19)) cs8 (nI hd))) B83 (cs8 + 1) := h91
  have h92 : BdE K6 K82 := h92
  have h93 : BeF K6 K82 := h93
  have h94 : BeL K6 K82 none := h94
  have h95 : BeI K6 K82 g q2 := h95
  have h96 : Bth (updA (updA (updA (updA B7 16 (upd ((B7 16)) cs8 7)) 17 (upd ((B7 17)) cs8 (-1))) 18 (upd ((B7 18)) cs8 0)) 19 (upd ((B7 19)) cs8 (nI hd))) B83 := h96
  have h97 : BeR (updA (updA (updA (updA B7 16 (upd ((B7 16)) cs8 7)) 17 (upd ((B7 17)) cs8 (-1))) 18 (upd ((B7 18)) cs8 0)) 19 (upd ((B7 19)) cs8 (nI hd))) B83 := h97
  have h98 : t88 < 128 := h98
  have h99 : (cs8 + 1) ≤ cs84 ∧ cs84 + 0 ≤ (cs8 + 1) + 2 * tlE g q2 := h99
  have h100 : AsE wt11 as85 ∧ AsE wt11 wt86 ∧ AsE wt11 wf87 := h100
  have h101 : okA → VaQ pb (updA (updA (updA (updA B7 16 (upd ((B7 16)) cs8 7)) 17 (upd ((B7 17)) cs8 (-1))) 18 (upd ((B7 18)) cs8 0)) 19 (upd ((B7 19)) cs8 (nI hd))) B83 (upS Ag14 (cs8 + 1) (rcA wt11, hd, sl, os)) Ag89 (fun z => pd z ∨ z = cs8) m9 sn lo (cs8 + 1) cs84 wt11 as85 wt86 wf87 hd sl os t88 u90 (K6.2.1 0 q2) := h101
  have h102 : CaK (K6.2.1 0 q2) → cs84 + 2 ≤ (cs8 + 1) + 2 * tlE g q2 := h102
  obtain rfl : v79 = some (.int (nI t88)) := hw78
  have hf103 : K82.1 pq = 7 := (BdE.T h92 hf28 (by decide))
  have hf104 : K82.2.2.1 18 pq = some (a 1) := (BdE.C h92 (by rw [hf28]; decide) 18).trans hf29
  have hf105 : K82.2.2.1 14 pq = some dr := (BdE.C h92 (by rw [hf28]; decide) 14).trans hf30
  have hf106 : K82.1 dr = 8 := (BdE.T h92 hf31 (by decide))
  have hf107 : K82.2.2.1 15 pq = some ml := (BdE.C h92 (by rw [hf28]; decide) 15).trans hf32
  have hf108 : K82.1 ml = 5 := (BdE.T h92 hf33 (by decide))
  have hf109 : K82.2.1 24 pq = (nI nd) := (BdE.I h92 (by rw [hf28]; decide) (by decide) (by decide)).trans hf34
  have hf110 : K82.1 q = 1 := (BdE.T h92 hf35 (by decide))
  have hf111 : K82.1 mq = 3 := (BdE.T h92 hf36 (by decide))
  have hf112 : K82.2.2.1 0 q = some q1 := (BdE.C h92 (by rw [hf35]; decide) 0).trans hf37
  have hf113 : K82.1 q1 = 1 := (BdE.T h92 hf38 (by decide))
  have hf114 : K82.2.2.1 1 q = some q2 := (BdE.C h92 (by rw [hf35]; decide) 1).trans hf39
  have hf115 : K82.1 q2 = 1 := (BdE.T h92 hf40 (by decide))
  have hf116 : K82.2.2.1 2 q = some q3 := (BdE.C h92 (by rw [hf35]; decide) 2).trans hf41
  have hf117 : K82.1 q3 = 1 := (BdE.T h92 hf42 (by decide))
  have hO : OKP G h0 a (upd (upd (upd (upd (upd (upd (upd F 2 (nI sz)) 5 (nI cs84)) 7 (nI hd)) 12 (nI vr)) 13 as85) 14 wt86) 15 wf87) (updR (updR R 2 (.ref pq)) 3 (.ref mq)) Z B83 J K82 w := hO.to rfl
  refine W.widen (k := 0) (n := 0) (by show 0 + 0 ≤ 0; omega) (by show 0 + 0 ≤ 0; omega) ?_
  refine W.eq (g2 := F0 m 51 ls [.int (nI t88)]) rfl ?_
  have hbe118 := BdE.trans hbe43 h92
  have hbb119 : Bth B B83 := Bth.trans (show Thx (upd (upd (upd (upd (upd F 2 (nI sz)) 5 (nI cs)) 7 (nI hd)) 12 (nI vr)) 13 as9) (upd (upd (upd (upd (upd (upd (upd (upd (upd F 2 (nI sz)) 5 (nI cs)) 7 (nI hd)) 12 (nI vr)) 13 as9) 5 (nI (cs8 + 1))) 13 wt11) 14 wt11) 15 wf12) B (updA (updA (updA (updA B7 16 (upd ((B7 16)) cs8 7)) 17 (upd ((B7 17)) cs8 (-1))) 18 (upd ((B7 18)) cs8 0)) 19 (upd ((B7 19)) cs8 (nI hd))) from (Thx.b (Thx.b8 (Thx.b (Thx.b (Thx.f (Thx.f (Thx.f (Thx.f (Bth.thx hbb44) (by omega)) (by omega)) (by omega)) (by omega)) (by omega) (by decide)) (by omega) (by decide)) hng74) (by omega) (by decide))).2 h96
  have hng120 : Nng (B83 18) := h96.2 hng74
  have hsw121 : ∀ x9 : Nat, x9 < cs → (B83 16) x9 = B 16 x9 := fun x9 hx9 => ((h91 x9 (by omega)).1).trans (hsw70 x9 hx9)
  have hsw122 : ∀ x9 : Nat, x9 < cs → (B83 17) x9 = B 17 x9 := fun x9 hx9 => ((h91 x9 (by omega)).2.1).trans (hsw71 x9 hx9)
  have hsw123 : ∀ x9 : Nat, x9 < cs → (B83 18) x9 = B 18 x9 := fun x9 hx9 => ((h91 x9 (by omega)).2.2.1).trans (hsw72 x9 hx9)
  have hsw124 : ∀ x9 : Nat, x9 < cs → (B83 19) x9 = B 19 x9 := fun x9 hx9 => ((h91 x9 (by omega)).2.2.2).trans (hsw73 x9 hx9)
  have hbf125 := BeF.trans hbf50 h93 hbe43
  have hbl128 := BeL.trans hbl53 h94 hbe43
  have hbi129 := BeI.trans hbi54 h95 hbe43 hin1
  have hbr126 : BeR B B83 := BeR.trans (BeR.up (k := 19) (f := (upd ((B7 19)) cs8 (nI hd))) (BeR.up (k := 18) (f := (upd ((B7 18)) cs8 0)) (BeR.up (k := 17) (f := (upd ((B7 17)) cs8 (-1))) (BeR.up (k := 16) (f := (upd ((B7 16)) cs8 7)) hbr51 (by omega)) (by omega)) (by omega)) (by omega)) h97
  have hpt127 : (okA ∧ ¬ t88 = 63) → EvQ pb.1 pb.2.1 pb.2.2.1 pb.2.2.2 (B 16) (B 17) (B 18) (B 19) (B83 16) (B83 17) (B83 18) (B83 19) Ag Ag89 (fun z => pd z ∨ z = cs8) m9 sn lo cs cs84 as9 as85 hd sl (u90 :: os) ∧ UTb u90 (nI t88) as85 wt86 wf87 := fun z => VaQ.part (B1 := (updA (updA (updA (updA B7 16 (upd ((B7 16)) cs8 7)) 17 (upd ((B7 17)) cs8 (-1))) 18 (upd ((B7 18)) cs8 0)) 19 (upd ((B7 19)) cs8 (nI hd)))) (hev75 z.1) (h101 z.1) h98 z.2
  have hev130 := fun z => (hpt127 z).1
  have has131 : AsE as9 as85 ∧ AsE as9 wt86 ∧ AsE as9 wf87 := ⟨AsE.trans has56.2.1 h100.1, AsE.trans has56.2.1 h100.2.1, AsE.trans has56.2.1 h100.2.2⟩
  have hjl132 : (B83 17) cs8 = -1 := ((h91 cs8 (by omega)).2.1).trans hjl76
  refine lv_istore (lv' := [(4, .int (nI t88)), (3, .int (nI cs8)), (2, .int wf12), (0, .ref (a 4)), (1, .ref q)]) hx hb dX0_choice_51 hl (by decide) rfl (fun ls hl => ?_)
  refine lv_aload_n hx hb dX0_choice_53 rfl (lv_at hl 3 rfl) ?_
  refine c_get (v := .int wt86) (C := RX0) (Tc := TX0) (N := 13) (ci := 0) hx hb hq pin_wsX00 hown hE hP hO 24 (sg_24 G h0 a _ _ _ _ _) rfl 9 (by decide) (hq _ pw_156) (fun _ h9 => h9) rfl dX0_choice_54 ?_
  refine lv_istore (lv' := [(5, .int wt86), (4, .int (nI t88)), (3, .int (nI cs8)), (2, .int wf12), (0, .ref (a 4)), (1, .ref q)]) hx hb dX0_choice_57 hl (by decide) rfl (fun ls hl => ?_)
  refine lv_aload_n hx hb dX0_choice_59 rfl (lv_at hl 4 rfl) ?_
  refine c_get (v := .int wf87) (C := RX0) (Tc := TX0) (N := 13) (ci := 0) hx hb hq pin_wsX00 hown hE hP hO 24 (sg_24 G h0 a _ _ _ _ _) rfl 10 (by decide) (hq _ pw_157) (fun _ h9 => h9) rfl dX0_choice_60 ?_
  refine lv_istore (lv' := [(6, .int wf87), (5, .int wt86), (4, .int (nI t88)), (3, .int (nI cs8)), (2, .int wf12), (0, .ref (a 4)), (1, .ref q)]) hx hb dX0_choice_63 hl (by decide) rfl (fun ls hl => ?_)
  refine lv_aload_n hx hb dX0_choice_65 rfl (lv_at hl 5 rfl) ?_
  refine c_get (v := .ref (a 2)) (C := RX0) (Tc := TX0) (N := 13) (ci := 0) hx hb hq pin_wsX00 hown hE hP hO 24 (sg_24 G h0 a _ _ _ _ _) rfl 1 (by decide) (hq _ pw_5) (fun _ h9 => h9) rfl dX0_choice_66 ?_
  refine lv_bipush (v := 6) hx hb dX0_choice_69 (by decide) ?_
  refine lv_iconst (v := (-1)) hx hb dX0_choice_71 (by decide) ?_
  refine lv_iconst (v := 0) hx hb dX0_choice_72 (by decide) ?_
  have hO : OKW G h0 a (upd (upd (upd (upd (upd (upd (upd (upd (upd F 2 (nI sz)) 5 (nI cs84)) 7 (nI hd)) 12 (nI vr)) 13 as85) 14 wt86) 15 wf87) 5 (nI cs84)) 7 (nI hd)) (updR (updR R 2 (.ref pq)) 3 (.ref mq)) Z B83 J K82.1 (fun q99 x99 => x99 = rep G a K82 q99) w := hO.to rfl
  obtain ⟨_, qr136, hqr137⟩ := hO.2.1 13 _ (sg_13 G h0 a _ _ _ _ _)
  refine pc_V0 (G := G) (As := [.int 6, .int (-1), .int 0]) (rest := []) hx hb hml hown hq hE hX pX0_al hP hD hS hA hl.1 (Y_jump l G h0 a (upd (upd (upd (upd (upd (upd (upd F 2 (nI sz)) 5 (nI cs84)) 7 (nI hd)) 12 (nI vr)) 13 as85) 14 wt86) 15 wf87) (updR (updR R 2 (.ref pq)) 3 (.ref mq)) Z B83 J K82.1 (fun q99 x99 => x99 = rep G a K82 q99) w 6 (-1) 0 cs84 hd (by omega) hO) (gV pw_197 pw_198 pw_199 pw_70 pw_132) hV_X1_jump qr136 1 hqr137 rfl rfl rfl (Nat.le_of_ble_eq_true rfl) dX0_choice_73 ⟨(by show 0 + 0 ≤ 1; omega), (by show 0 + 0 ≤ 6; omega)⟩ ⟨(by show 3 + 1 ≤ (5 * n + 33); omega), (by show 8 + (4 + 11) + 83 ≤ (200 * n + 560); omega)⟩ (fun v135 u133 H locs hw134 hP hD hS => ?_)
  obtain ⟨w, _⟩ := u133
  obtain ⟨hw134, hO⟩ := hw134
  obtain rfl : v135 = some (.int (nI cs84)) := hw134
  have hO : OKP G h0 a (upd (upd (upd (upd (upd (upd (upd F 2 (nI sz)) 5 (nI (cs84 + 1))) 7 (nI hd)) 12 (nI vr)) 13 as85) 14 wt86) 15 wf87) (updR (updR R 2 (.ref pq)) 3 (.ref mq)) Z (updA (updA (updA (updA B83 16 (upd ((B83 16)) cs84 6)) 17 (upd ((B83 17)) cs84 (-1))) 18 (upd ((B83 18)) cs84 0)) 19 (upd ((B83 19)) cs84 (nI hd))) J K82 w := hO.to rfl
  refine W.widen (k := 0) (n := 0) (Nat.le_of_ble_eq_true rfl) (Nat.le_of_ble_eq_true rfl) ?_
  refine W.eq (g2 := F0 m 76 ls [.int (nI cs84)]) rfl ?_
  have hsw138 : ∀ x9 : Nat, x9 < cs → (upd ((B83 16)) cs84 6) x9 = B 16 x9 := fun x9 hx9 => (if_neg (by omega)).trans (hsw121 x9 hx9)
  have hsw139 : ∀ x9 : Nat, x9 < cs → (upd ((B83 17)) cs84 (-1)) x9 = B 17 x9 := fun x9 hx9 => (if_neg (by omega)).trans (hsw122 x9 hx9)
  have hsw140 : ∀ x9 : Nat, x9 < cs → (upd ((B83 18)) cs84 0) x9 = B 18 x9 := fun x9 hx9 => (if_neg (by omega)).trans (hsw123 x9 hx9)
  have hsw141 : ∀ x9 : Nat, x9 < cs → (upd ((B83 19)) cs84 (nI hd)) x9 = B 19 x9 := fun x9 hx9 => (if_neg (by omega)).trans (hsw124 x9 hx9)
  have hng142 : Nng (upd ((B83 18)) cs84 0) := Nng.set hng120 (k := 0) (by omega)
  have hev143 : (okA ∧ ¬ t88 = 63) → EvQ pb.1 pb.2.1 pb.2.2.1 pb.2.2.2 (B 16) (B 17) (B 18) (B 19) (upd ((B83 16)) cs84 6) (upd ((B83 17)) cs84 (-1)) (upd ((B83 18)) cs84 0) (upd ((B83 19)) cs84 (nI hd)) Ag (upS Ag89 (cs84 + 1) (rcA (-1), hd, sl, (u90 :: os))) (fun z => (fun z => pd z ∨ z = cs8) z ∨ z = cs84) m9 sn lo cs (cs84 + 1) as9 (-1) hd sl (u90 :: os) := fun z => EvQ.pend (k := 6) (hev130 z) (by show os.length + 1 ≤ 248; omega) (by decide) AsE.m1
  have hjl144 : (upd ((B83 17)) cs84 (-1)) cs8 = -1 := (if_neg (by omega)).trans hjl132
  have hjl145 : (upd ((B83 17)) cs84 (-1)) cs84 = -1 := if_pos rfl
  refine lv_istore (lv' := [(7, .int (nI cs84)), (6, .int wf87), (5, .int wt86), (4, .int (nI t88)), (3, .int (nI cs8)), (2, .int wf12), (0, .ref (a 4)), (1, .ref q)]) hx hb dX0_choice_76 hl (by decide) rfl (fun ls hl => ?_)
  refine lv_aload_n hx hb dX0_choice_78 rfl (lv_at hl 6 rfl) ?_
  refine c_get (v := .ref (a 2)) (C := RX0) (Tc := TX0) (N := 13) (ci := 0) hx hb hq pin_wsX00 hown hE hP hO 24 (sg_24 G h0 a _ _ _ _ _) rfl 1 (by decide) (hq _ pw_5) (fun _ h9 => h9) rfl dX0_choice_79 ?_
  refine lv_iload_n hx hb dX0_choice_82 rfl (lv_at hl 4 rfl) ?_
  have hO : OKW G h0 a (upd (upd (upd (upd (upd (upd (upd (upd F 2 (nI sz)) 5 (nI (cs84 + 1))) 7 (nI hd)) 12 (nI vr)) 13 as85) 14 wt86) 15 wf87) 5 (nI (cs84 + 1))) (updR (updR R 2 (.ref pq)) 3 (.ref mq)) Z (updA (updA (updA (updA B83 16 (upd ((B83 16)) cs84 6)) 17 (upd ((B83 17)) cs84 (-1))) 18 (upd ((B83 18)) cs84 0)) 19 (upd ((B83 19)) cs84 (nI hd))) J K82.1 (fun q99 x99 => x99 = rep G a K82 q99) w := hO.to rfl
  obtain ⟨_, qr149, hqr150⟩ := hO.2.1 13 _ (sg_13 G h0 a _ _ _ _ _)
  refine pc_V0 (G := G) (As := [.int (nI cs8)]) (rest := []) hx hb hml hown hq hE hX pX0_al hP hD hS hA hl.1 (Y_land l G h0 a (upd (upd (upd (upd (upd (upd (upd F 2 (nI sz)) 5 (nI (cs84 + 1))) 7 (nI hd)) 12 (nI vr)) 13 as85) 14 wt86) 15 wf87) (updR (updR R 2 (.ref pq)) 3 (.ref mq)) Z (updA (updA (updA (updA B83 16 (upd ((B83 16)) cs84 6)) 17 (upd ((B83 17)) cs84 (-1))) 18 (upd ((B83 18)) cs84 0)) 19 (upd ((B83 19)) cs84 (nI hd))) J K82.1 (fun q99 x99 => x99 = rep G a K82 q99) w (nI cs8) (cs84 + 1) ([cs8]) (by omega) (ChnJ.one hjl144 (by omega)) (fun y9 hy9 => by rw [List.mem_singleton.mp hy9]; omega) hO) (gV pw_200 pw_201 pw_202 pw_70 pw_134) hV_X1_land qr149 1 hqr150 rfl rfl rfl (Nat.le_of_ble_eq_true rfl) dX0_choice_83 ⟨(by show 0 + 0 ≤ 1; omega), (by show 0 + 0 ≤ 6; omega)⟩ ⟨(by show 2 + 1 ≤ (5 * n + 33); omega), (by show 8 + (5 + 11) + 60 ≤ (200 * n + 560); omega)⟩ (fun v148 u146 H locs hw147 hP hD hS => ?_)
  obtain ⟨w, _⟩ := u146
  obtain ⟨hw147, hO⟩ := hw147
  obtain rfl : v148 = none := hw147
  have hO : OKP G h0 a (upd (upd (upd (upd (upd (upd (upd F 2 (nI sz)) 5 (nI (cs84 + 1))) 7 (nI hd)) 12 (nI vr)) 13 as85) 14 wt86) 15 wf87) (updR (updR R 2 (.ref pq)) 3 (.ref mq)) Z (updA (updA (updA (updA B83 16 (upd ((B83 16)) cs84 6)) 17 (aim ((upd ((B83 17)) cs84 (-1))) ([cs8]) (cs84 + 1))) 18 (upd ((B83 18)) cs84 0)) 19 (upd ((B83 19)) cs84 (nI hd))) J K82 w := hO.to rfl
  refine W.widen (k := 0) (n := 0) (Nat.le_of_ble_eq_true rfl) (Nat.le_of_ble_eq_true rfl) ?_
  refine W.eq (g2 := F0 m 86 ls []) rfl ?_
  have hsw151 : ∀ x9 : Nat, x9 < cs → (aim ((upd ((B83 17)) cs84 (-1))) ([cs8]) (cs84 + 1)) x9 = B 17 x9 := fun x9 hx9 => (aim_no (fun q9 => by have e9 := List.mem_singleton.mp q9; omega)).trans (hsw139 x9 hx9)
  have hev153 : (okA ∧ ¬ t88 = 63) → EvQ pb.1 pb.2.1 pb.2.2.1 pb.2.2.2 (B 16) (B 17) (B 18) (B 19) (upd ((B83 16)) cs84 6) (aim ((upd ((B83 17)) cs84 (-1))) ([cs8]) (cs84 + 1)) (upd ((B83 18)) cs84 0) (upd ((B83 19)) cs84 (nI hd)) Ag (upS (upS Ag89 (cs84 + 1) (rcA (-1), hd, sl, (u90 :: os))) (cs84 + 1) (rcA wf12, hd, sl, os)) (fun z => pd z ∨ z = cs84) m9 sn lo cs (cs84 + 1) as9 wf12 hd sl os := fun z => (EvQ.skip (hev64 z.1) (UTb.tru (hut63 z.1) h23 h62) (EvQ.pend (k := 6) (VaQ.ev (h101 z.1) h98 z.2) (by show os.length + 1 ≤ 248; omega) (by decide) AsE.m1) (by have z9 := VaQ.st (h101 z.1) z.2; omega) (hev143 z) (fun z9 h9 => by rcases h9 with (h9 | h9) | h9; exact Or.inl (Or.inl h9); exact Or.inr h9; exact Or.inl (Or.inr h9)) has56.2.2)
  refine lv_aload_n hx hb dX0_choice_86 rfl (lv_at hl 6 rfl) ?_
  refine lv_iload_n hx hb dX0_choice_87 rfl (lv_at hl 5 rfl) ?_
  refine c_put (v := .int wf12) (ty := .int) (C := RX0) (Tc := TX0) (N := 13) (ci := 0) hx hb hq pin_wsX00 tyX0 tyX0_ok nmX0 hown hE hP hD hS hO 24 (sg_24 G h0 a _ _ _ _ _) rfl 8 (by decide) (hq _ pw_55) (fun _ h9 => h9) rfl (by decide +kernel) rfl rfl (Nat.le_of_ble_eq_true rfl) (sf_13 G h0 a _ _ _ _ _ wf12) dX0_choice_88 (fun H locs w hP hD hS hO => ?_)
  refine lv_aload_n hx hb dX0_choice_91 rfl (lv_at hl 6 rfl) ?_
  refine c_get (v := .ref pq) (C := RX0) (Tc := TX0) (N := 13) (ci := 0) hx hb hq pin_wsX00 hown hE hP hO 24 (sg_24 G h0 a _ _ _ _ _) rfl 6 (by decide) (hq _ pw_110) (fun _ h9 => h9) rfl dX0_choice_92 ?_
  refine lv_iload hx hb dX0_choice_95 (lv_at hl 3 rfl) ?_
  refine lv_aload_n hx hb dX0_choice_97 rfl (lv_at hl 6 rfl) ?_
  refine lv_aload_n hx hb dX0_choice_98 rfl (lv_at hl 7 rfl) ?_
  refine p_get (v := .ref q3) (C := RX7) (Tc := TX7) (N := 11) (ci := 13) hx hb hq pin_wsX70 hown hE hP hO (by rw [hf110]; decide) (rep_1 hf110) rfl 8 (by decide) (hq _ pw_196) (fun _ h9 => h9) (congrArg (fun z => some (va_rf z)) hf116) dX0_choice_99 ?_
  have hO : OKP G h0 a (upd (upd (upd (upd (upd (upd (upd (upd (upd (upd (upd (upd (upd (upd F 2 (nI sz)) 5 (nI cs)) 7 (nI hd)) 12 (nI vr)) 13 as9) 5 (nI (cs84 + 1))) 13 wf12) 14 wt86) 15 wf87) 2 (nI sz)) 5 (nI (cs84 + 1))) 7 (nI hd)) 12 (nI vr)) 13 wf12) (updR (updR (updR (updR R 2 (.ref pq)) 3 (.ref mq)) 2 (.ref pq)) 3 (.ref mq)) Z (updA (updA (updA (updA B83 16 (upd ((B83 16)) cs84 6)) 17 (aim ((upd ((B83 17)) cs84 (-1))) ([cs8]) (cs84 + 1))) 18 (upd ((B83 18)) cs84 0)) 19 (upd ((B83 19)) cs84 (nI hd))) J K82 w := hO.to rfl
  obtain ⟨_, qr157, hqr158⟩ := hO.2.1 24 _ (sg_24 G h0 a _ _ _ _ _)
  refine pn_V0 (G := G) (As := [.ref q3]) (rest := [.int (nI t88), .ref pq]) hx hb hml hown hq hE hX pX0_al hP hD hS hA hl.1 ((ihv (by omega)) h0 a (upd (upd (upd (upd (upd (upd (upd (upd (upd F 2 (nI sz)) 5 (nI cs)) 7 (nI hd)) 12 (nI vr)) 13 as9) 5 (nI (cs84 + 1))) 13 wf12) 14 wt86) 15 wf87) (updR (updR R 2 (.ref pq)) 3 (.ref mq)) Z (updA (updA (updA (updA B83 16 (upd ((B83 16)) cs84 6)) 17 (aim ((upd ((B83 17)) cs84 (-1))) ([cs8]) (cs84 + 1))) 18 (upd ((B83 18)) cs84 0)) 19 (upd ((B83 19)) cs84 (nI hd))) J K82 w pq dr ml nd nm cp it s9 q3 mq (cs84 + 1) vr sz g rk pb (upS (upS Ag89 (cs84 + 1) (rcA (-1), hd, sl, (u90 :: os))) (cs84 + 1) (rcA wf12, hd, sl, os)) (fun z => pd z ∨ z = cs84) sl os m9 sn lo hd c0 wf12 (okA ∧ ¬ t88 = 63) (by omega) (BdE.wp hbe118 hwp) (BdE.pt hbe118 hwp hps) (BdE.rko hbe118 hrk) (by omega) (by omega) hng142 hf111 hf117 ⟨hv2.1, (by have z9 := hv2; omega)⟩ (EkA.be hbe118 ((BeR.up (k := 19) (f := (upd ((B83 19)) cs84 (nI hd))) (BeR.up (k := 18) (f := (upd ((B83 18)) cs84 0)) (BeR.up (k := 17) (f := (aim ((upd ((B83 17)) cs84 (-1))) ([cs8]) (cs84 + 1))) (BeR.up (k := 16) (f := (upd ((B83 16)) cs84 6)) hbr126 (by omega)) (by omega)) (by omega)) (by omega)) 7 (by decide)) ((BeR.up (k := 19) (f := (upd ((B83 19)) cs84 (nI hd))) (BeR.up (k := 18) (f := (upd ((B83 18)) cs84 0)) (BeR.up (k := 17) (f := (aim ((upd ((B83 17)) cs84 (-1))) ([cs8]) (cs84 + 1))) (BeR.up (k := 16) (f := (upd ((B83 16)) cs84 6)) hbr126 (by omega)) (by omega)) (by omega)) (by omega)) 11 (by decide)) hek) (OwC.be hbe118 hmq hdr0 hcO) (NaB.be hbe118 hbf125 hwp hps.2.1 hdr0 ((BeR.up (k := 19) (f := (upd ((B83 19)) cs84 (nI hd))) (BeR.up (k := 18) (f := (upd ((B83 18)) cs84 0)) (BeR.up (k := 17) (f := (aim ((upd ((B83 17)) cs84 (-1))) ([cs8]) (cs84 + 1))) (BeR.up (k := 16) (f := (upd ((B83 16)) cs84 6)) hbr126 (by omega)) (by omega)) (by omega)) (by omega)) 11 (by decide)) hna) (EnV.of ((BeR.up (k := 19) (f := (upd ((B83 19)) cs84 (nI hd))) (BeR.up (k := 18) (f := (upd ((B83 18)) cs84 0)) (BeR.up (k := 17) (f := (aim ((upd ((B83 17)) cs84 (-1))) ([cs8]) (cs84 + 1))) (BeR.up (k := 16) (f := (upd ((B83 16)) cs84 6)) hbr126 (by omega)) (by omega)) (by omega)) (by omega)) 26 (by decide)) ((BeR.up (k := 19) (f := (upd ((B83 19)) cs84 (nI hd))) (BeR.up (k := 18) (f := (upd ((B83 18)) cs84 0)) (BeR.up (k := 17) (f := (aim ((upd ((B83 17)) cs84 (-1))) ([cs8]) (cs84 + 1))) (BeR.up (k := 16) (f := (upd ((B83 16)) cs84 6)) hbr126 (by omega)) (by omega)) (by omega)) (by omega)) 27 (by decide)) hen) (fun z => (hev153 z).1) (by omega) (by show os.length + ndE g q3 ≤ 248; omega) hlf2 hO hl0) (gV pw_173 pw_174 pw_175 pw_63 pw_224) hV_X0_value qr157 0 hqr158 rfl rfl rfl (Nat.le_of_ble_eq_true rfl) dX0_choice_102 ⟨(by show 0 + 1 ≤ 1; omega), (by show 0 + 6 ≤ 6; omega)⟩ ⟨(by show (5 * (n - 1) + 34) + 1 ≤ (5 * n + 33); omega), (by show 8 + (3 + 11) + (200 * (n - 1) + 600) ≤ (200 * n + 560); omega)⟩ (fun v156 u154 H locs hw155 hP hD hS => ?_) (fun ux ce9 q9 H9 locs9 hux hP9 hD9 hS9 hce hcv hcl => pb_out ux (ThQ.up (Thx.same (Thx.same (Thx.same (Thx.same (Thx.same (Thx.b (Thx.b8 (Thx.b (Thx.b (Thx.f (Thx.f (Thx.f (Thx.f (Bth.thx hbb119) (by omega)) (by omega)) (by omega)) (by omega)) (by omega) (by decide)) (by omega) (by decide)) hng142) (by omega) (by decide)) rfl) rfl) rfl) rfl) rfl) (show RhX (updR (updR R 2 (.ref pq)) 3 (.ref mq)) (updR (updR (updR (updR R 2 (.ref pq)) 3 (.ref mq)) 2 (.ref pq)) 3 (.ref mq)) from fun k9 hk9 => by unfold updR; simp only [show ¬ k9 = 1 by omega, show ¬ k9 = 2 by omega, show ¬ k9 = 3 by omega, show ¬ k9 = 4 by omega, if_false]) hux) hnt hlocks hce hcv hcl hP9 hD9 hS9 (by show 0 + 1 ≤ 1; omega) (by show 0 + 6 ≤ 6; omega))
  obtain ⟨w, K159, B160, cs161, as162, wt163, wf164, t165, Ag166, u167⟩ := u154
  obtain ⟨hw155, h168, h169, h170, h171, h172, h173, h174, h175, h176, h177, h178, h179, hO⟩ := hw155
  have h168 : SmW (updA (updA (updA (updA B83 16 (upd ((B83 16)) cs84 6)) 17 (aim ((upd ((B83 17)) cs84 (-1))) ([cs8]) (cs84 + 1))) 18 (upd ((B83 18)) cs84 0)) 19 (upd ((B83 19)) cs84 (nI hd))) B160 (cs84 + 1) := h168
  have h169 : BdE K82 K159 := h169
  have h170 : BeF K82 K159 := h170
  have h171 : BeL K82 K159 none := h171
  have h172 : BeI K82 K159 g q3 := h172
  have h173 : Bth (updA (updA (updA (updA B83 16 (upd ((B83 16)) cs84 6)) 17 (aim ((upd ((B83 17)) cs84 (-1))) ([cs8]) (cs84 + 1))) 18 (upd ((B83 18)) cs84 0)) 19 (upd ((B83 19)) cs84 (nI hd))) B160 := h173
  have h174 : BeR (updA (updA (updA (updA B83 16 (upd ((B83 16)) cs84 6)) 17 (aim ((upd ((B83 17)) cs84 (-1))) ([cs8]) (cs84 + 1))) 18 (upd ((B83 18)) cs84 0)) 19 (upd ((B83 19)) cs84 (nI hd))) B160 := h174
  have h175 : t165 < 128 := h175
  have h176 : (cs84 + 1) ≤ cs161 ∧ cs161 + 0 ≤ (cs84 + 1) + 2 * tlE g q3 := h176
  have h177 : AsE wf12 as162 ∧ AsE wf12 wt163 ∧ AsE wf12 wf164 := h177
  have h178 : (okA ∧ ¬ t88 = 63) → VaQ pb (updA (updA (updA (updA B83 16 (upd ((B83 16)) cs84 6)) 17 (aim ((upd ((B83 17)) cs84 (-1))) ([cs8]) (cs84 + 1))) 18 (upd ((B83 18)) cs84 0)) 19 (upd ((B83 19)) cs84 (nI hd))) B160 (upS (upS Ag89 (cs84 + 1) (rcA (-1), hd, sl, (u90 :: os))) (cs84 + 1) (rcA wf12, hd, sl, os)) Ag166 (fun z => pd z ∨ z = cs84) m9 sn lo (cs84 + 1) cs161 wf12 as162 wt163 wf164 hd sl os t165 u167 (K82.2.1 0 q3) := h178
  have h179 : CaK (K82.2.1 0 q3) → cs161 + 2 ≤ (cs84 + 1) + 2 * tlE g q3 := h179
  obtain rfl : v156 = some (.int (nI t165)) := hw155
  have hf180 : K159.1 pq = 7 := (BdE.T h169 hf103 (by decide))
  have hf181 : K159.2.2.1 18 pq = some (a 1) := (BdE.C h169 (by rw [hf103]; decide) 18).trans hf104
  have hf182 : K159.2.2.1 14 pq = some dr := (BdE.C h169 (by rw [hf103]; decide) 14).trans hf105
  have hf183 : K159.1 dr = 8 := (BdE.T h169 hf106 (by decide))
  have hf184 : K159.2.2.1 15 pq = some ml := (BdE.C h169 (by rw [hf103]; decide) 15).trans hf107
  have hf185 : K159.1 ml = 5 := (BdE.T h169 hf108 (by decide))
  have hf186 : K159.2.1 24 pq = (nI nd) := (BdE.I h169 (by rw [hf103]; decide) (by decide) (by decide)).trans hf109
  have hf187 : K159.1 q = 1 := (BdE.T h169 hf110 (by decide))
  have hf188 : K159.1 mq = 3 := (BdE.T h169 hf111 (by decide))
  have hf189 : K159.2.2.1 0 q = some q1 := (BdE.C h169 (by rw [hf110]; decide) 0).trans hf112
  have hf190 : K159.1 q1 = 1 := (BdE.T h169 hf113 (by decide))
  have hf191 : K159.2.2.1 1 q = some q2 := (BdE.C h169 (by rw [hf110]; decide) 1).trans hf114
  have hf192 : K159.1 q2 = 1 := (BdE.T h169 hf115 (by decide))
  have hf193 : K159.2.2.1 2 q = some q3 := (BdE.C h169 (by rw [hf110]; decide) 2).trans hf116
  have hf194 : K159.1 q3 = 1 := (BdE.T h169 hf117 (by decide))
  have hO : OKP G h0 a (upd (upd (upd (upd (upd (upd (upd F 2 (nI sz)) 5 (nI cs161)) 7 (nI hd)) 12 (nI vr)) 13 as162) 14 wt163) 15 wf164) (updR (updR R 2 (.ref pq)) 3 (.ref mq)) Z B160 J K159 w := hO.to rfl
  refine W.widen (k := 0) (n := 0) (by show 0 + 0 ≤ 0; omega) (by show 0 + 0 ≤ 0; omega) ?_
  refine W.eq (g2 := F0 m 105 ls [.int (nI t165), .int (nI t88), .ref pq]) rfl ?_
  have hbe195 := BdE.trans hbe118 h169
  have hbb196 : Bth B B160 := Bth.trans (show Thx (upd (upd (upd (upd (upd F 2 (nI sz)) 5 (nI cs)) 7 (nI hd)) 12 (nI vr)) 13 as9) (upd (upd (upd (upd (upd (upd (upd (upd (upd F 2 (nI sz)) 5 (nI cs)) 7 (nI hd)) 12 (nI vr)) 13 as9) 5 (nI (cs84 + 1))) 13 wf12) 14 wt86) 15 wf87) B (updA (updA (updA (updA B83 16 (upd ((B83 16)) cs84 6)) 17 (aim ((upd ((B83 17)) cs84 (-1))) ([cs8]) (cs84 + 1))) 18 (upd ((B83 18)) cs84 0)) 19 (upd ((B83 19)) cs84 (nI hd))) from (Thx.b (Thx.b8 (Thx.b (Thx.b (Thx.f (Thx.f (Thx.f (Thx.f (Bth.thx hbb119) (by omega)) (by omega)) (by omega)) (by omega)) (by omega) (by decide)) (by omega) (by decide)) hng142) (by omega) (by decide))).2 h173
  have hng197 : Nng (B160 18) := h173.2 hng142
  have hsw198 : ∀ x9 : Nat, x9 < cs → (B160 16) x9 = B 16 x9 := fun x9 hx9 => ((h168 x9 (by omega)).1).trans (hsw138 x9 hx9)
  have hsw199 : ∀ x9 : Nat, x9 < cs → (B160 17) x9 = B 17 x9 := fun x9 hx9 => ((h168 x9 (by omega)).2.1).trans (hsw151 x9 hx9)
  have hsw200 : ∀ x9 : Nat, x9 < cs → (B160 18) x9 = B 18 x9 := fun x9 hx9 => ((h168 x9 (by omega)).2.2.1).trans (hsw140 x9 hx9)
  have hsw201 : ∀ x9 : Nat, x9 < cs → (B160 19) x9 = B 19 x9 := fun x9 hx9 => ((h168 x9 (by omega)).2.2.2).trans (hsw141 x9 hx9)
  have hbf202 := BeF.trans hbf125 h170 hbe118
  have hbl205 := BeL.trans hbl128 h171 hbe118
  have hbi206 := BeI.trans hbi129 h172 hbe118 hin2
  have hbr203 : BeR B B160 := BeR.trans (BeR.up (k := 19) (f := (upd ((B83 19)) cs84 (nI hd))) (BeR.up (k := 18) (f := (upd ((B83 18)) cs84 0)) (BeR.up (k := 17) (f := (aim ((upd ((B83 17)) cs84 (-1))) ([cs8]) (cs84 + 1))) (BeR.up (k := 16) (f := (upd ((B83 16)) cs84 6)) hbr126 (by omega)) (by omega)) (by omega)) (by omega)) h174
  have hpt204 : ((okA ∧ ¬ t88 = 63) ∧ ¬ t165 = 63) → EvQ pb.1 pb.2.1 pb.2.2.1 pb.2.2.2 (B 16) (B 17) (B 18) (B 19) (B160 16) (B160 17) (B160 18) (B160 19) Ag Ag166 (fun z => pd z ∨ z = cs84) m9 sn lo cs cs161 as9 as162 hd sl (u167 :: os) ∧ UTb u167 (nI t165) as162 wt163 wf164 := fun z => VaQ.part (B1 := (updA (updA (updA (updA B83 16 (upd ((B83 16)) cs84 6)) 17 (aim ((upd ((B83 17)) cs84 (-1))) ([cs8]) (cs84 + 1))) 18 (upd ((B83 18)) cs84 0)) 19 (upd ((B83 19)) cs84 (nI hd)))) (hev153 z.1) (h178 z.1) h175 z.2
  have hev207 := fun z => (hpt204 z).1
  have has208 : AsE as9 as162 ∧ AsE as9 wt163 ∧ AsE as9 wf164 := ⟨AsE.trans has56.2.2 h177.1, AsE.trans has56.2.2 h177.2.1, AsE.trans has56.2.2 h177.2.2⟩
  have hjl209 : (B160 17) cs84 = -1 := ((h168 cs84 (by omega)).2.1).trans ((aim_no (fun q9 => by have e9 := List.mem_singleton.mp q9; omega)).trans hjl145)
  have hO : OKP G h0 a (upd (upd (upd (upd (upd (upd (upd F 2 (nI sz)) 5 (nI cs161)) 7 (nI hd)) 12 (nI vr)) 13 as162) 14 wt163) 15 wf164) (updR (updR R 2 (.ref pq)) 3 (.ref mq)) Z B160 J K159 w := hO.to rfl
  obtain ⟨qr213, hqr214⟩ := p_recv hO (by rw [hf180]; decide) (rep_7 hf180)
  refine pc_V0 (G := G) (As := [.int (nI t88), .int (nI t165)]) (rest := []) hx hb hml hown hq hE hX pX0_al hP hD hS hA hl.1 (Y_common l G h0 a (upd (upd (upd (upd (upd (upd (upd F 2 (nI sz)) 5 (nI cs161)) 7 (nI hd)) 12 (nI vr)) 13 as162) 14 wt163) 15 wf164) (updR (updR R 2 (.ref pq)) 3 (.ref mq)) Z B160 J K159 w pq dr ml nd t88 t165 g (BdE.pt hbe195 hwp hps).1 (BdE.pt hbe195 hwp hps).2.1 (by omega) hO) (gV pw_203 pw_204 pw_205 pw_106 pw_135) hV_X9_common qr213 6 hqr214 rfl rfl rfl (Nat.le_of_ble_eq_true rfl) dX0_choice_105 ⟨(by show 0 + 0 ≤ 1; omega), (by show 0 + 0 ≤ 6; omega)⟩ ⟨(by show 4 + 1 ≤ (5 * n + 33); omega), (by show 8 + (3 + 11) + 104 ≤ (200 * n + 560); omega)⟩ (fun v212 u210 H locs hw211 hP hD hS => ?_)
  obtain ⟨w, r215⟩ := u210
  obtain ⟨hw211, h216, hO⟩ := hw211
  have h216 : CoQ (btK K159 dr) nd t88 t165 r215 := h216
  obtain rfl : v212 = some (.int (nI r215)) := hw211
  have hO : OKP G h0 a (upd (upd (upd (upd (upd (upd (upd F 2 (nI sz)) 5 (nI cs161)) 7 (nI hd)) 12 (nI vr)) 13 as162) 14 wt163) 15 wf164) (updR (updR R 2 (.ref pq)) 3 (.ref mq)) Z B160 J K159 w := hO.to rfl
  refine W.widen (k := 0) (n := 0) (Nat.le_of_ble_eq_true rfl) (Nat.le_of_ble_eq_true rfl) ?_
  refine W.eq (g2 := F0 m 108 ls [.int (nI r215)]) rfl ?_
  have hcl217 := CoQ.lt h216 (by omega) (by omega)
  refine lv_istore (lv' := [(8, .int (nI r215)), (7, .int (nI cs84)), (6, .int wf87), (5, .int wt86), (4, .int (nI t88)), (3, .int (nI cs8)), (2, .int wf12), (0, .ref (a 4)), (1, .ref q)]) hx hb dX0_choice_108 hl (by decide) rfl (fun ls hl => ?_)
  refine lv_iload hx hb dX0_choice_110 (lv_at hl 0 rfl) ?_
  refine lv_bipush (v := 63) hx hb dX0_choice_112 (by decide) ?_
  refine lv_icmp_ne (tgt := 130) hx hb dX0_choice_114 (by decide) (fun c218 => ?_) (fun c218 => ?_)
  · have n219 : ¬ (r215 = 63) := fun h9 => c218 ((nI_eq (a := r215) (b := 63) (by omega) (by omega)).mpr h9)
    have hc63 : ¬ r215 = 63 := by first | omega | exact fun e9 => c218 (congrArg nI e9)
    refine lv_aload_n hx hb dX0_choice_130 rfl (lv_at hl 7 rfl) ?_
    refine c_get (v := .ref (a 2)) (C := RX0) (Tc := TX0) (N := 13) (ci := 0) hx hb hq pin_wsX00 hown hE hP hO 24 (sg_24 G h0 a _ _ _ _ _) rfl 1 (by decide) (hq _ pw_5) (fun _ h9 => h9) rfl dX0_choice_131 ?_
    refine lv_iload hx hb dX0_choice_134 (lv_at hl 1 rfl) ?_
    have hO : OKW G h0 a (upd (upd (upd (upd (upd (upd (upd (upd F 2 (nI sz)) 5 (nI cs161)) 7 (nI hd)) 12 (nI vr)) 13 as162) 14 wt163) 15 wf164) 5 (nI cs161)) (updR (updR R 2 (.ref pq)) 3 (.ref mq)) Z B160 J K159.1 (fun q99 x99 => x99 = rep G a K159 q99) w := hO.to rfl
    obtain ⟨_, qr223, hqr224⟩ := hO.2.1 13 _ (sg_13 G h0 a _ _ _ _ _)
    refine pc_V0 (G := G) (As := [.int (nI cs84)]) (rest := []) hx hb hml hown hq hE hX pX0_al hP hD hS hA hl.1 (Y_land l G h0 a (upd (upd (upd (upd (upd (upd (upd F 2 (nI sz)) 5 (nI cs161)) 7 (nI hd)) 12 (nI vr)) 13 as162) 14 wt163) 15 wf164) (updR (updR R 2 (.ref pq)) 3 (.ref mq)) Z B160 J K159.1 (fun q99 x99 => x99 = rep G a K159 q99) w (nI cs84) cs161 ([cs84]) (by omega) (ChnJ.one hjl209 (by omega)) (fun y9 hy9 => by rw [List.mem_singleton.mp hy9]; omega) hO) (gV pw_200 pw_201 pw_202 pw_70 pw_134) hV_X1_land qr223 1 hqr224 rfl rfl rfl (Nat.le_of_ble_eq_true rfl) dX0_choice_136 ⟨(by show 0 + 0 ≤ 1; omega), (by show 0 + 0 ≤ 6; omega)⟩ ⟨(by show 2 + 1 ≤ (5 * n + 33); omega), (by show 8 + (5 + 11) + 60 ≤ (200 * n + 560); omega)⟩ (fun v222 u220 H locs hw221 hP hD hS => ?_)
    obtain ⟨w, _⟩ := u220
    obtain ⟨hw221, hO⟩ := hw221
    obtain rfl : v222 = none := hw221
    have hO : OKP G h0 a (upd (upd (upd (upd (upd (upd (upd F 2 (nI sz)) 5 (nI cs161)) 7 (nI hd)) 12 (nI vr)) 13 as162) 14 wt163) 15 wf164) (updR (updR R 2 (.ref pq)) 3 (.ref mq)) Z (updA B160 17 (aim ((B160 17)) ([cs84]) cs161)) J K159 w := hO.to rfl
    refine W.widen (k := 0) (n := 0) (Nat.le_of_ble_eq_true rfl) (Nat.le_of_ble_eq_true rfl) ?_
    refine W.eq (g2 := F0 m 139 ls []) rfl ?_
    have hsw225 : ∀ x9 : Nat, x9 < cs → (aim ((B160 17)) ([cs84]) cs161) x9 = B 17 x9 := fun x9 hx9 => (aim_no (fun q9 => by have e9 := List.mem_singleton.mp q9; omega)).trans (hsw199 x9 hx9)
    have hcq := CoQ.tl hna.1.1 (NaB.be hbe195 hbf202 hwp hps.2.1 hdr0 ((BeR.up (k := 17) (f := (aim ((B160 17)) ([cs84]) cs161)) hbr203 (by omega)) 11 (by decide)) hna).1.2.2 h216 h98 h175 hc63
    have hcr := hcq.2.2.1
    have hn63 := CoQ.n63 h216 hc63
    have hut226 := fun z : okA => (hpt127 ⟨z, hn63.1⟩).2
    have hut227 := fun z : okA => (hpt204 ⟨⟨z, hn63.1⟩, hn63.2⟩).2
    have hev228 := fun z : okA => hev207 ⟨⟨z, hn63.1⟩, hn63.2⟩
    have hjm := fun z : okA => EvQ.j6 (VaQ.ev (h178 ⟨z, hn63.1⟩) h175 hn63.2) (by omega) (hev130 ⟨z, hn63.1⟩)
    obtain ⟨Ag229, hev230⟩ : ∃ A5 : Nat → AS, okA → EvQ pb.1 pb.2.1 pb.2.2.1 pb.2.2.2 (B 16) (B 17) (B 18) (B 19) (B160 16) (aim ((B160 17)) ([cs84]) cs161) (B160 18) (B160 19) Ag A5 pd m9 sn lo cs cs161 as9 ((wt163 &&& wt86) &&& (wf164 &&& wf87)) hd sl ((if r215 = 61 then bcw (wt163 &&& wt86) (wf164 &&& wf87) else r215) :: os) := ⟨(upS Ag166 cs161 (rcA ((wt163 &&& wt86) &&& (wf164 &&& wf87)), hd, sl, ((if r215 = 61 then bcw (wt163 &&& wt86) (wf164 &&& wf87) else r215) :: os))), fun z => (EvQ.join (hev130 ⟨z, hn63.1⟩) (hjm z).1 (hjm z).2 (by have z9 := VaQ.st (h178 ⟨z, hn63.1⟩) hn63.2; omega) (hev228 z) (fun z8 => Go.cho (hut226 z) h98 (fun e9 => (hcq.2.2.2.1 e9).1) hcq.1 (fun z7 e7 => z7 ((UTb.asw (hut226 z)).mpr ⟨(and_m1.mp (and_m1.mp e7).1).2, (and_m1.mp (and_m1.mp e7).2).2⟩)) z8 (fun z7 => and_n2 z7) (fun z7 => and_n2 z7)) (fun z8 => Go.cho (hut227 z) h175 (fun e9 => (hcq.2.2.2.1 e9).2) hcq.2.1 (fun z7 e7 => z7 ((UTb.asw (hut227 z)).mpr ⟨(and_m1.mp (and_m1.mp e7).1).1, (and_m1.mp (and_m1.mp e7).2).1⟩)) z8 (fun z7 => and_n1 z7) (fun z7 => and_n1 z7)) (AsE.and (AsE.and has208.2.1 has131.2.1) (AsE.and has208.2.2 has131.2.2)))⟩
    refine lv_aload_n hx hb dX0_choice_139 rfl (lv_at hl 7 rfl) ?_
    refine lv_dup hx hb dX0_choice_140 rfl ?_
    refine c_get (v := .int wt163) (C := RX0) (Tc := TX0) (N := 13) (ci := 0) hx hb hq pin_wsX00 hown hE hP hO 24 (sg_24 G h0 a _ _ _ _ _) rfl 9 (by decide) (hq _ pw_156) (fun _ h9 => h9) rfl dX0_choice_141 ?_
    refine lv_iload hx hb dX0_choice_144 (lv_at hl 3 rfl) ?_
    refine lv_iand hx hb dX0_choice_146 ?_
    refine lv_topi (fun x231 e232 => ?_)
    obtain rfl : x231 = (wt163 &&& wt86) := e232
    refine c_put (v := .int (wt163 &&& wt86)) (ty := .int) (C := RX0) (Tc := TX0) (N := 13) (ci := 0) hx hb hq pin_wsX00 tyX0 tyX0_ok nmX0 hown hE hP hD hS hO 24 (sg_24 G h0 a _ _ _ _ _) rfl 9 (by decide) (hq _ pw_156) (fun _ h9 => h9) rfl (by decide +kernel) rfl rfl (Nat.le_of_ble_eq_true rfl) (sf_14 G h0 a _ _ _ _ _ (wt163 &&& wt86)) dX0_choice_147 (fun H locs w hP hD hS hO => ?_)
    refine lv_aload_n hx hb dX0_choice_150 rfl (lv_at hl 7 rfl) ?_
    refine lv_dup hx hb dX0_choice_151 rfl ?_
    refine c_get (v := .int wf164) (C := RX0) (Tc := TX0) (N := 13) (ci := 0) hx hb hq pin_wsX00 hown hE hP hO 24 (sg_24 G h0 a _ _ _ _ _) rfl 10 (by decide) (hq _ pw_157) (fun _ h9 => h9) rfl dX0_choice_152 ?_
    refine lv_iload hx hb dX0_choice_155 (lv_at hl 2 rfl) ?_
    refine lv_iand hx hb dX0_choice_157 ?_
    refine lv_topi (fun x233 e234 => ?_)
    obtain rfl : x233 = (wf164 &&& wf87) := e234
    refine c_put (v := .int (wf164 &&& wf87)) (ty := .int) (C := RX0) (Tc := TX0) (N := 13) (ci := 0) hx hb hq pin_wsX00 tyX0 tyX0_ok nmX0 hown hE hP hD hS hO 24 (sg_24 G h0 a _ _ _ _ _) rfl 10 (by decide) (hq _ pw_157) (fun _ h9 => h9) rfl (by decide +kernel) rfl rfl (Nat.le_of_ble_eq_true rfl) (sf_15 G h0 a _ _ _ _ _ (wf164 &&& wf87)) dX0_choice_158 (fun H locs w hP hD hS hO => ?_)
    refine lv_aload_n hx hb dX0_choice_161 rfl (lv_at hl 7 rfl) ?_
    refine lv_aload_n hx hb dX0_choice_162 rfl (lv_at hl 7 rfl) ?_
    refine c_get (v := .int (wt163 &&& wt86)) (C := RX0) (Tc := TX0) (N := 13) (ci := 0) hx hb hq pin_wsX00 hown hE hP hO 24 (sg_24 G h0 a _ _ _ _ _) rfl 9 (by decide) (hq _ pw_156) (fun _ h9 => h9) rfl dX0_choice_163 ?_
    refine lv_aload_n hx hb dX0_choice_166 rfl (lv_at hl 7 rfl) ?_
    refine c_get (v := .int (wf164 &&& wf87)) (C := RX0) (Tc := TX0) (N := 13) (ci := 0) hx hb hq pin_wsX00 hown hE hP hO 24 (sg_24 G h0 a _ _ _ _ _) rfl 10 (by decide) (hq _ pw_157) (fun _ h9 => h9) rfl dX0_choice_167 ?_
    refine lv_iand hx hb dX0_choice_170 ?_
    refine lv_topi (fun x235 e236 => ?_)
    obtain rfl : x235 = ((wt163 &&& wt86) &&& (wf164 &&& wf87)) := e236
    refine c_put (v := .int ((wt163 &&& wt86) &&& (wf164 &&& wf87))) (ty := .int) (C := RX0) (Tc := TX0) (N := 13) (ci := 0) hx hb hq pin_wsX00 tyX0 tyX0_ok nmX0 hown hE hP hD hS hO 24 (sg_24 G h0 a _ _ _ _ _) rfl 8 (by decide) (hq _ pw_55) (fun _ h9 => h9) rfl (by decide +kernel) rfl rfl (Nat.le_of_ble_eq_true rfl) (sf_13 G h0 a _ _ _ _ _ ((wt163 &&& wt86) &&& (wf164 &&& wf87))) dX0_choice_171 (fun H locs w hP hD hS hO => ?_)
    refine lv_iload hx hb dX0_choice_174 (lv_at hl 0 rfl) ?_
    refine W_size (fun hz1 hz2 => ?_)
    refine vx_ret ?_
    have hpl := fun (z : okA) (e9 : ¬ r215 = 61) => (UTb.pl (hut226 z) h98 (fun z9 => e9 (hcq.2.2.2.2 (Or.inl z9))))
    have hpm := fun (z : okA) (e9 : ¬ r215 = 61) => (UTb.pl (hut227 z) h175 (fun z9 => e9 (hcq.2.2.2.2 (Or.inr z9))))
    have hz237 : SmW B (updA B160 17 (aim ((B160 17)) ([cs84]) cs161)) cs := (fun x9 hx9 => ⟨hsw198 x9 hx9, hsw225 x9 hx9, hsw200 x9 hx9, hsw201 x9 hx9⟩)
    have hz238 : BdE K K159 := hbe195
    have hz239 : BeF K K159 := hbf202
    have hz240 : BeL K K159 none := hbl205
    have hz241 : BeI K K159 g q := hbi206
    have hz242 : Bth B (updA B160 17 (aim ((B160 17)) ([cs84]) cs161)) := (show Thx (upd (upd (upd (upd (upd F 2 (nI sz)) 5 (nI cs)) 7 (nI hd)) 12 (nI vr)) 13 as9) (upd (upd (upd (upd (upd (upd (upd (upd (upd F 2 (nI sz)) 5 (nI cs)) 7 (nI hd)) 12 (nI vr)) 13 as9) 5 (nI cs161)) 13 ((wt163 &&& wt86) &&& (wf164 &&& wf87))) 14 (wt163 &&& wt86)) 15 (wf164 &&& wf87)) B (updA B160 17 (aim ((B160 17)) ([cs84]) cs161)) from (Thx.b (Thx.f (Thx.f (Thx.f (Thx.f (Bth.thx hbb196) (by omega)) (by omega)) (by omega)) (by omega)) (by omega) (by decide))).2
    have hz243 : BeR B (updA B160 17 (aim ((B160 17)) ([cs84]) cs161)) := (BeR.up (k := 17) (f := (aim ((B160 17)) ([cs84]) cs161)) hbr203 (by omega))
    have hz244 : r215 < 128 := (by omega)
    have hz245 : cs ≤ cs161 ∧ cs161 + 0 ≤ cs + 2 * tlE g q := (by omega)
    have hz246 : AsE as9 ((wt163 &&& wt86) &&& (wf164 &&& wf87)) ∧ AsE as9 (wt163 &&& wt86) ∧ AsE as9 (wf164 &&& wf87) := ⟨(AsE.and (AsE.and has208.2.1 has131.2.1) (AsE.and has208.2.2 has131.2.2)), (AsE.and has208.2.1 has131.2.1), (AsE.and has208.2.2 has131.2.2)⟩
    have hz247 : okA → VaQ pb B (updA B160 17 (aim ((B160 17)) ([cs84]) cs161)) Ag Ag229 pd m9 sn lo cs cs161 as9 ((wt163 &&& wt86) &&& (wf164 &&& wf87)) (wt163 &&& wt86) (wf164 &&& wf87) hd sl os r215 (if r215 = 61 then bcw (wt163 &&& wt86) (wf164 &&& wf87) else r215) (K.2.1 0 q) := (fun z => Or.inr ⟨by rw [rsO_ne (cho_63 hc63)]; exact hev230 z, UTb.cho (by omega) (fun e9 => by rw [(hpl z e9).1, (hpl z e9).2, (hpm z e9).1, (hpm z e9).2]; exact ⟨Int32.and_self.symm, Int32.and_self.symm⟩) AsW.and, by omega⟩)
    have hO : OKP G h0 a (upd (upd (upd (upd (upd (upd (upd F 2 (nI sz)) 5 (nI cs161)) 7 (nI hd)) 12 (nI vr)) 13 ((wt163 &&& wt86) &&& (wf164 &&& wf87))) 14 (wt163 &&& wt86)) 15 (wf164 &&& wf87)) (updR (updR R 2 (.ref pq)) 3 (.ref mq)) Z (updA B160 17 (aim ((B160 17)) ([cs84]) cs161)) J K159 w := hO.to rfl
    refine W.widen (k := 1) (n := 6) (by omega) (by omega) ?_
    have hzz1 : H.size ≤ s.heap.size + (0) := (by have z : 0 ≤ 0 := (by omega); omega)
    have hzz2 : hSl H ≤ hSl s.heap + (0) := (by have z : 0 ≤ 0 := (by omega); omega)
    exact W.iret (v := (nI r215)) hx hb hr (fun t99 ht99 hW99 => ⟨⟨_, (w, (K159, (updA B160 17 (aim ((B160 17)) ([cs84]) cs161)), cs161, ((wt163 &&& wt86) &&& (wf164 &&& wf87)), (wt163 &&& wt86), (wf164 &&& wf87), r215, Ag229, (if r215 = 61 then bcw (wt163 &&& wt86) (wf164 &&& wf87) else r215))), rfl, ⟨rfl, hz237, hz238, hz239, hz240, hz241, hz242, hz243, hz244, hz245, hz246, hz247, hO⟩, by rw [ht99]; exact hP, hD, by rw [ht99]; exact hzz1, by rw [ht99]; exact hzz2⟩, hS.F ht99⟩) hS.2.2 dX0_choice_176
  · have n248 : r215 = 63 := (nI_eq (a := r215) (b := 63) (by omega) (by omega)).mp c218
    refine lv_aload_n hx hb dX0_choice_117 rfl (lv_at hl 7 rfl) ?_
    refine c_get (v := .ref (a 1)) (C := RX0) (Tc := TX0) (N := 13) (ci := 0) hx hb hq pin_wsX00 hown hE hP hO 24 (sg_24 G h0 a _ _ _ _ _) rfl 0 (by decide) (hq _ pw_4) (fun _ h9 => h9) rfl dX0_choice_118 ?_
    refine lv_bipush (v := 11) hx hb dX0_choice_121 (by decide) ?_
    refine lv_aload_n hx hb dX0_choice_123 rfl (lv_at hl 8 rfl) ?_
    refine p_get (v := .int (K159.2.1 1 q)) (C := RX7) (Tc := TX7) (N := 11) (ci := 13) hx hb hq pin_wsX70 hown hE hP hO (by rw [hf187]; decide) (rep_1 hf187) rfl 1 (by decide) (hq _ pw_81) (fun _ h9 => h9) rfl dX0_choice_124 ?_
    have hO : OKW G h0 a (upd (upd (upd (upd (upd (upd (upd (upd (upd (upd F 2 (nI sz)) 5 (nI cs)) 7 (nI hd)) 12 (nI vr)) 13 as9) 5 (nI cs161)) 13 as162) 14 wt163) 15 wf164) 2 (nI sz)) (updR (updR R 2 (.ref pq)) 3 (.ref mq)) Z B160 J K159.1 (fun q99 x99 => x99 = rep G a K159 q99) w := hO.to rfl
    obtain ⟨_, qr252, hqr253⟩ := hO.2.1 2 _ (sg_2 G h0 a _ _ _ _ _)
    refine pn_V0 (G := G) (As := [.int 11, .int (K159.2.1 1 q)]) (rest := []) hx hb hml hown hq hE hX pX0_al hP hD hS hA hl.1 (K_fail l G h0 a (upd (upd (upd (upd (upd (upd (upd (upd (upd F 2 (nI sz)) 5 (nI cs)) 7 (nI hd)) 12 (nI vr)) 13 as9) 5 (nI cs161)) 13 as162) 14 wt163) 15 wf164) (updR (updR R 2 (.ref pq)) 3 (.ref mq)) Z B160 J K159.1 (fun q99 x99 => x99 = rep G a K159 q99) w 11 (K159.2.1 1 q) sz (by omega) hO hl0) (gV pw_64 pw_65 pw_66 pw_59 pw_43) hV_X10_fail qr252 7 hqr253 rfl rfl rfl (Nat.le_of_ble_eq_true rfl) dX0_choice_127 ⟨(by show 0 + 1 ≤ 1; omega), (by show 0 + 6 ≤ 6; omega)⟩ ⟨(by show 6 + 1 ≤ (5 * n + 33); omega), (by show 8 + (3 + 11) + 100 ≤ (200 * n + 560); omega)⟩ (fun v251 u249 H locs hw250 hP hD hS => hw250.elim) (fun ux ce9 q9 H9 locs9 hux hP9 hD9 hS9 hce hcv hcl => pb_out ux (ThQ.up (Thx.same (Thx.f (Thx.f (Thx.f (Thx.f (Bth.thx hbb196) (by omega)) (by omega)) (by omega)) (by omega)) rfl) RhX.rfl hux) hnt hlocks hce hcv hcl hP9 hD9 hS9 (by show 0 + 1 ≤ 1; omega) (by show 0 + 6 ≤ 6; omega))
