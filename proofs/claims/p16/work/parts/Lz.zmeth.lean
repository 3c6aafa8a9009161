set_option maxHeartbeats 16000000 in
set_option maxRecDepth 100000 in
theorem Y_beginMethod (l : Launch) (G : pT) (h0 : Nat) (a : Nat → Nat) (F : Nat → Int32) (R : Nat → Value) (Z : Int64) (B : Nat → Nat → Int32) (J : Nat → Nat → Int64) (K : PK) (w : va_W) (m0 : Nat) (cs : Nat) (rg : Nat) (sz : Nat) (nd : Nat) (c0 : Nat) (lp : Nat) (np9 : Nat) (cpp : Nat) (itp : Nat → Nat) (g : Nat → Nat → Nat) (hsz : sz ≤ 5000) (hcs : cs ≤ 10000) (hrg : rg ≤ 625) (hwp : WPr G K g) (hm0 : K.1 m0 = 3) (hng : Nng (B 18)) (hlp6 : K.2.2.1 6 m0 = some lp) (hlpc : LsC G K lp 1 np9 itp cpp) (hnp : np9 ≤ 8) (htr : TyR (B 11) nd sz) (hn37 : nd ≤ 37) (hc0 : c0 < nd) (hO : OKP G h0 a (upd (upd (upd F 2 (nI sz)) 5 (nI cs)) 6 (nI rg)) R Z B J K w) (hl0 : l.stackTraces = false) : PBn l G pX0 yX0_beginMethod cX0_beginMethod 5 none ({ frames := 8, cells := 1, slots := 6, locals := 145 }) [.ref (a 4), .ref m0] w (fun (v : Option Value) (u : va_W × (PK × (Nat → Nat → Int32) × Nat × Nat × Int32 × (Nat → Nat))) => v = none ∧ (BdX K u.2.1) ∧ (MtB u.2.1) ∧ (Bth B u.2.2.1) ∧ (u.2.1 = kI (kI K 11 m0 (nI cs)) 13 m0 (nI rg)) ∧ (BvR B u.2.2.1) ∧ (u.2.2.2.1 = np9 ∧ u.2.2.2.2.1 = u.2.2.2.1 + 1) ∧ (EnV (u.2.2.1 26) (u.2.2.1 27) nd u.2.2.2.1 (u.2.2.2.1 + 1) c0 u.2.2.2.2.2.2) ∧ (PaS K (B 11) sz c0 u.2.2.2.1 itp u.2.2.2.2.2.2) ∧ (AsO u.2.2.2.2.2.1 ∧ ¬ u.2.2.2.2.2.1 = -1) ∧ (OKP G h0 a (upd (upd (upd (upd (upd (upd (upd (upd F 2 (nI sz)) 5 (nI cs)) 6 (nI rg)) 7 (nI (u.2.2.2.1 + 1))) 8 (nI u.2.2.2.2.1)) 12 (nI u.2.2.2.1)) 13 u.2.2.2.2.2.1) 16 0) (updR (updR R 3 (.ref m0)) 4 (.null)) Z u.2.2.1 J u.2.1 u.1)) (fun u => u.1) (fun (u : va_W × (PK × (Nat → Nat → Int32) × Nat × Nat × Int32 × (Nat → Nat))) => 0) (fun (u : va_W × (PK × (Nat → Nat → Int32) × Nat × Nat × Int32 × (Nat → Nat))) => 0) (fun (u : va_W × (Nat → Int32) × (Nat → Value) × (Nat → Nat → Int32)) => ThQ G h0 a (upd (upd (upd F 2 (nI sz)) 5 (nI cs)) 6 (nI rg)) R Z B J u) (fun u => u.1) := by
  intro sz
  refine vx_ofW (cc := cX0_beginMethod) (maxL := 5) (ret := none) (by decide) rfl ?_
  intro p e s m args below meth c s₁ B9 hml hnt hv
  obtain ⟨rfl, hsz, hP, hD0, hE, hX⟩ := hv
  have hx := B9.exec
  have hb := B9.bytes
  have hr := B9.returns
  have hts := atoms_spec (ws := Cond.code yX0_beginMethod cX0_beginMethod 5 none :: pw) B9.pre
  have hq : ∀ w ∈ pw, w.before _ s = true := fun w h => hts w (List.mem_cons_of_mem _ h)
  have hown : s.vm.findClass RX0 = some m.cls := findClass_of_methodNamed B9.named
  have hlocks := B9.notSynchronized
  subst hsz
  have hD := hD0.self (sz := s.heap.size)
  have hA : ∀ q : Nat, s.heap.size ≤ q → va_A w s.heap.size q := fun q h => Or.inr h
  generalize va_A w s.heap.size = A at hD hE hA ⊢
  have hS : va_S A s.heap s.heap [] := va_S.rf
  have hl := lv_entry ([.ref (a 4), .ref m0]) (n := 5) (Nat.le_of_ble_eq_true rfl)
  rw [lg_entry_eq]
  generalize (lg_sl ([.ref (a 4), .ref m0]) ++ List.replicate (5 - (lg_sl ([.ref (a 4), .ref m0])).length) Slot.unset).toArray = ls at hl ⊢
  have hl : lv_has ls 5 [(0, .ref (a 4)), (1, .ref m0)] := hl
  have htlp := hlpc.ls.1
  refine lv_aload_n hx hb dX0_beginMethod_0 rfl (lv_at hl 0 rfl) ?_
  refine lv_aload_n hx hb dX0_beginMethod_1 rfl (lv_at hl 1 rfl) ?_
  refine c_put (v := .ref m0) (ty := (.object "JinjaTongue$Method")) (C := RX0) (Tc := TX0) (N := 13) (ci := 0) hx hb hq pin_wsX00 tyX0 tyX0_ok nmX0 hown hE hP hD hS hO 24 (sg_24 G h0 a _ _ _ _ _) rfl 7 (by decide) (hq _ pw_72) (fun _ h9 => h9) rfl (by decide +kernel) rfl rfl (Nat.le_of_ble_eq_true rfl) (sr_3 G h0 a _ _ _ _ _ (.ref m0)) dX0_beginMethod_2 (fun H locs w hP hD hS hO => ?_)
  refine lv_aload_n hx hb dX0_beginMethod_5 rfl (lv_at hl 0 rfl) ?_
  refine lv_null hx hb dX0_beginMethod_6 ?_
  refine c_put (v := .null) (ty := (.object "JinjaTongue$Loop")) (C := RX0) (Tc := TX0) (N := 13) (ci := 0) hx hb hq pin_wsX00 tyX0 tyX0_ok nmX0 hown hE hP hD hS hO 24 (sg_24 G h0 a _ _ _ _ _) rfl 11 (by decide) (hq _ pw_73) (fun _ h9 => h9) rfl (by decide +kernel) rfl rfl (Nat.le_of_ble_eq_true rfl) (sr_4 G h0 a _ _ _ _ _ (.null)) dX0_beginMethod_7 (fun H locs w hP hD hS hO => ?_)
  refine lv_aload_n hx hb dX0_beginMethod_10 rfl (lv_at hl 0 rfl) ?_
  refine lv_iconst (v := 0) hx hb dX0_beginMethod_11 (by decide) ?_
  refine c_put (v := .int 0) (ty := .int) (C := RX0) (Tc := TX0) (N := 13) (ci := 0) hx hb hq pin_wsX00 tyX0 tyX0_ok nmX0 hown hE hP hD hS hO 24 (sg_24 G h0 a _ _ _ _ _) rfl 12 (by decide) (hq _ pw_74) (fun _ h9 => h9) rfl (by decide +kernel) rfl rfl (Nat.le_of_ble_eq_true rfl) (sf_16 G h0 a _ _ _ _ _ 0) dX0_beginMethod_12 (fun H locs w hP hD hS hO => ?_)
  refine lv_aload_n hx hb dX0_beginMethod_15 rfl (lv_at hl 0 rfl) ?_
  refine lv_iconst (v := 0) hx hb dX0_beginMethod_16 (by decide) ?_
  refine c_put (v := .int 0) (ty := .int) (C := RX0) (Tc := TX0) (N := 13) (ci := 0) hx hb hq pin_wsX00 tyX0 tyX0_ok nmX0 hown hE hP hD hS hO 24 (sg_24 G h0 a _ _ _ _ _) rfl 5 (by decide) (hq _ pw_42) (fun _ h9 => h9) rfl (by decide +kernel) rfl rfl (Nat.le_of_ble_eq_true rfl) (sf_12 G h0 a _ _ _ _ _ 0) dX0_beginMethod_17 (fun H locs w hP hD hS hO => ?_)
  refine lv_aload_n hx hb dX0_beginMethod_20 rfl (lv_at hl 0 rfl) ?_
  refine lv_iconst (v := 0) hx hb dX0_beginMethod_21 (by decide) ?_
  refine c_put (v := .int 0) (ty := .int) (C := RX0) (Tc := TX0) (N := 13) (ci := 0) hx hb hq pin_wsX00 tyX0 tyX0_ok nmX0 hown hE hP hD hS hO 24 (sg_24 G h0 a _ _ _ _ _) rfl 8 (by decide) (hq _ pw_55) (fun _ h9 => h9) rfl (by decide +kernel) rfl rfl (Nat.le_of_ble_eq_true rfl) (sf_13 G h0 a _ _ _ _ _ 0) dX0_beginMethod_22 (fun H locs w hP hD hS hO => ?_)
  refine lv_aload_n hx hb dX0_beginMethod_25 rfl (lv_at hl 0 rfl) ?_
  refine c_get (v := .ref (a 2)) (C := RX0) (Tc := TX0) (N := 13) (ci := 0) hx hb hq pin_wsX00 hown hE hP hO 24 (sg_24 G h0 a _ _ _ _ _) rfl 1 (by decide) (hq _ pw_5) (fun _ h9 => h9) rfl dX0_beginMethod_26 ?_
  have hO : OKW G h0 a (upd (upd (upd (upd (upd (upd F 2 (nI sz)) 5 (nI cs)) 6 (nI rg)) 12 0) 13 0) 16 0) (updR (updR R 3 (.ref m0)) 4 (.null)) Z B J K.1 (fun q99 x99 => x99 = rep G a K q99) w := hO.to rfl
  obtain ⟨_, qr4, hqr5⟩ := hO.2.1 13 _ (sg_13 G h0 a _ _ _ _ _)
  refine pc_V0 (G := G) (As := []) (rest := []) hx hb hml hown hq hE hX pX0_al hP hD hS hA hl.1 (K_codeBegin l G h0 a (upd (upd (upd (upd (upd (upd F 2 (nI sz)) 5 (nI cs)) 6 (nI rg)) 12 0) 13 0) 16 0) (updR (updR R 3 (.ref m0)) 4 (.null)) Z B J K.1 (fun q99 x99 => x99 = rep G a K q99) w hO) (gV pw_83 pw_84 pw_85 pw_70 pw_33) hV_X1_beginMethod qr4 1 hqr5 rfl rfl rfl (Nat.le_of_ble_eq_true rfl) dX0_beginMethod_29 ⟨(by show 0 + 0 ≤ 1; omega), (by show 0 + 0 ≤ 6; omega)⟩ ⟨Nat.le_of_ble_eq_true rfl, Nat.le_of_ble_eq_true rfl⟩ (fun v3 u1 H locs hw2 hP hD hS => ?_)
  obtain ⟨w, _⟩ := u1
  obtain ⟨hw2, hO⟩ := hw2
  obtain rfl : v3 = none := hw2
  have hO : OKP G h0 a (upd (upd (upd (upd (upd (upd (upd (upd F 2 (nI sz)) 5 (nI cs)) 6 (nI rg)) 7 1) 8 1) 12 0) 13 0) 16 0) (updR (updR R 3 (.ref m0)) 4 (.null)) Z B J K w := hO.to rfl
  refine W.widen (k := 0) (n := 0) (Nat.le_of_ble_eq_true rfl) (Nat.le_of_ble_eq_true rfl) ?_
  refine W.eq (g2 := F0 m 32 ls []) rfl ?_
  refine lv_aload_n hx hb dX0_beginMethod_32 rfl (lv_at hl 0 rfl) ?_
  refine c_get (v := .ref m0) (C := RX0) (Tc := TX0) (N := 13) (ci := 0) hx hb hq pin_wsX00 hown hE hP hO 24 (sg_24 G h0 a _ _ _ _ _) rfl 7 (by decide) (hq _ pw_72) (fun _ h9 => h9) rfl dX0_beginMethod_33 ?_
  refine lv_aload_n hx hb dX0_beginMethod_36 rfl (lv_at hl 0 rfl) ?_
  refine c_get (v := .ref (a 2)) (C := RX0) (Tc := TX0) (N := 13) (ci := 0) hx hb hq pin_wsX00 hown hE hP hO 24 (sg_24 G h0 a _ _ _ _ _) rfl 1 (by decide) (hq _ pw_5) (fun _ h9 => h9) rfl dX0_beginMethod_37 ?_
  refine c_get (v := .int (nI cs)) (C := RX1) (Tc := TX1) (N := 13) (ci := 1) hx hb hq pin_wsX10 hown hE hP hO 13 (sg_13 G h0 a _ _ _ _ _) rfl 4 (by decide) (hq _ pw_75) (fun _ h9 => h9) rfl dX0_beginMethod_40 ?_
  refine p_put (v := .int (nI cs)) (ty := .int) (C := RX6) (Tc := TX6) (N := 12) (ci := 12) (K' := (kI K 11 m0 (nI cs))) hx hb hq pin_wsX60 tyX6 tyX6_ok nmX6 hown hE hP hD hS hO (by rw [hm0]; decide) (rep_3 hm0) rfl 8 (by decide) (hq _ pw_76) (fun _ h9 => h9) rfl (by decide +kernel) rfl rfl (Nat.le_of_ble_eq_true rfl) rfl (by rw [rep_3 (show (kI K 11 m0 (nI cs)).1 m0 = 3 from hm0), pi_11] <;> rfl) (fun p9 hp9 => rep_kI hp9) dX0_beginMethod_43 (fun H locs w hP hD hS hO => ?_)
  obtain ⟨K6, hK7⟩ : ∃ z : PK, z = (kI K 11 m0 (nI cs)) := ⟨_, rfl⟩
  rw [← hK7] at hO
  have hf8 : K6.1 m0 = 3 := (by rw [hK7]; exact hm0)
  have hf9 : K6.2.2.1 6 m0 = some lp := (by rw [hK7]; exact hlp6)
  have hf10 : K6.1 lp = 5 := (by rw [hK7]; exact htlp)
  have hf11 : K6.2.1 11 m0 = (nI cs) := by rw [hK7]; exact kI_eq
  have hbx12 : BdX K K6 := BdX.trans BdX.rfl (by rw [hK7]; exact BdX.kI (by unfold bdI; omega))
  have hmt13 : MtB K6 := by rw [hK7]; exact MtB.kI (MtB.of hwp) (by decide)
  refine lv_aload_n hx hb dX0_beginMethod_46 rfl (lv_at hl 0 rfl) ?_
  refine c_get (v := .ref m0) (C := RX0) (Tc := TX0) (N := 13) (ci := 0) hx hb hq pin_wsX00 hown hE hP hO 24 (sg_24 G h0 a _ _ _ _ _) rfl 7 (by decide) (hq _ pw_72) (fun _ h9 => h9) rfl dX0_beginMethod_47 ?_
  refine lv_aload_n hx hb dX0_beginMethod_50 rfl (lv_at hl 0 rfl) ?_
  refine c_get (v := .ref (a 2)) (C := RX0) (Tc := TX0) (N := 13) (ci := 0) hx hb hq pin_wsX00 hown hE hP hO 24 (sg_24 G h0 a _ _ _ _ _) rfl 1 (by decide) (hq _ pw_5) (fun _ h9 => h9) rfl dX0_beginMethod_51 ?_
  refine c_get (v := .int (nI rg)) (C := RX1) (Tc := TX1) (N := 13) (ci := 1) hx hb hq pin_wsX10 hown hE hP hO 13 (sg_13 G h0 a _ _ _ _ _) rfl 10 (by decide) (hq _ pw_77) (fun _ h9 => h9) rfl dX0_beginMethod_54 ?_
  refine p_put (v := .int (nI rg)) (ty := .int) (C := RX6) (Tc := TX6) (N := 12) (ci := 12) (K' := (kI K6 13 m0 (nI rg))) hx hb hq pin_wsX60 tyX6 tyX6_ok nmX6 hown hE hP hD hS hO (by rw [hf8]; decide) (rep_3 hf8) rfl 10 (by decide) (hq _ pw_78) (fun _ h9 => h9) rfl (by decide +kernel) rfl rfl (Nat.le_of_ble_eq_true rfl) rfl (by rw [rep_3 (show (kI K6 13 m0 (nI rg)).1 m0 = 3 from hf8), pi_13] <;> rfl) (fun p9 hp9 => rep_kI hp9) dX0_beginMethod_57 (fun H locs w hP hD hS hO => ?_)
  obtain ⟨K14, hK15⟩ : ∃ z : PK, z = (kI K6 13 m0 (nI rg)) := ⟨_, rfl⟩
  rw [← hK15] at hO
  have hf16 : K14.1 m0 = 3 := (by rw [hK15]; exact hf8)
  have hf17 : K14.2.2.1 6 m0 = some lp := (by rw [hK15]; exact hf9)
  have hf18 : K14.1 lp = 5 := (by rw [hK15]; exact hf10)
  have hf19 : K14.2.1 11 m0 = (nI cs) := (by rw [hK15]; exact (kI_of (by decide)).trans hf11)
  have hf20 : K14.2.1 13 m0 = (nI rg) := by rw [hK15]; exact kI_eq
  have hbx21 : BdX K K14 := BdX.trans hbx12 (by rw [hK15]; exact BdX.kI (by unfold bdI; omega))
  have hmt22 : MtB K14 := by rw [hK15]; exact MtB.kI hmt13 (by decide)
  refine lv_iconst (v := 0) hx hb dX0_beginMethod_60 (by decide) ?_
  refine lv_istore_n (lv' := [(2, .int 0), (0, .ref (a 4)), (1, .ref m0)]) hx hb dX0_beginMethod_61 rfl hl (by decide) rfl (fun ls hl => ?_)
  have loop_g : ∀ (n_g : Nat) (i2 : Nat) (K2 : PK) (B2 : Nat → Nat → Int32) (dp2 : Nat) (as2 : Int32) (sl2 : Nat → Nat) (H : Heap) (locs : List Loc) (ls : Array Slot) (w : va_W), i2 ≤ np9 → np9 + 1 ≤ i2 + n_g → (BdX K K2) → (MtB K2) → (Bth B B2) → (BvR B B2) → (dp2 = i2 + 1 ∧ i2 ≤ 30) → (K2 = kI (kI K 11 m0 (nI cs)) 13 m0 (nI rg)) → (EnV (B2 26) (B2 27) nd i2 (i2 + 1) c0 sl2) → (PaS K (B 11) sz c0 i2 itp sl2) → (AsO as2 ∧ ¬ as2 = -1) → va_P G.1 pCl w H → va_D A w → va_S A s.heap H locs → OKP G h0 a (upd (upd (upd (upd (upd (upd (upd (upd F 2 (nI sz)) 5 (nI cs)) 6 (nI rg)) 7 (nI (i2 + 1))) 8 (nI dp2)) 12 (nI i2)) 13 as2) 16 0) (updR (updR R 3 (.ref m0)) 4 (.null)) Z B2 J K2 w → lv_has ls 5 [(2, .int (nI i2)), (1, .ref m0), (0, .ref (a 4))] → W p l e (headSpec (Cond.code yX0_beginMethod cX0_beginMethod 5 none :: pw) ({ frames := 8, cells := 1, slots := 6, locals := 145 } : Room)).room s m ([.ref (a 4), .ref m0] : List Value).toArray below meth c H locs 0 0 (vx_MQ below (pQn G A (fun (v : Option Value) (u : va_W × (PK × (Nat → Nat → Int32) × Nat × Nat × Int32 × (Nat → Nat))) => v = none ∧ (BdX K u.2.1) ∧ (MtB u.2.1) ∧ (Bth B u.2.2.1) ∧ (u.2.1 = kI (kI K 11 m0 (nI cs)) 13 m0 (nI rg)) ∧ (BvR B u.2.2.1) ∧ (u.2.2.2.1 = np9 ∧ u.2.2.2.2.1 = u.2.2.2.1 + 1) ∧ (EnV (u.2.2.1 26) (u.2.2.1 27) nd u.2.2.2.1 (u.2.2.2.1 + 1) c0 u.2.2.2.2.2.2) ∧ (PaS K (B 11) sz c0 u.2.2.2.1 itp u.2.2.2.2.2.2) ∧ (AsO u.2.2.2.2.2.1 ∧ ¬ u.2.2.2.2.2.1 = -1) ∧ (OKP G h0 a (upd (upd (upd (upd (upd (upd (upd (upd F 2 (nI sz)) 5 (nI cs)) 6 (nI rg)) 7 (nI (u.2.2.2.1 + 1))) 8 (nI u.2.2.2.2.1)) 12 (nI u.2.2.2.1)) 13 u.2.2.2.2.2.1) 16 0) (updR (updR R 3 (.ref m0)) 4 (.null)) Z u.2.2.1 J u.2.1 u.1)) (fun u => u.1) (fun (u : va_W × (PK × (Nat → Nat → Int32) × Nat × Nat × Int32 × (Nat → Nat))) => 0) (fun (u : va_W × (PK × (Nat → Nat → Int32) × Nat × Nat × Int32 × (Nat → Nat))) => 0)) (pXX G A (fun (u : va_W × (Nat → Int32) × (Nat → Value) × (Nat → Nat → Int32)) => ThQ G h0 a (upd (upd (upd F 2 (nI sz)) 5 (nI cs)) 6 (nI rg)) R Z B J u) (fun u => u.1)) ([.ref (a 4), .ref m0] : List Value).toArray s ({ frames := 8, cells := 1, slots := 6, locals := 145 } : Room).cells ({ frames := 8, cells := 1, slots := 6, locals := 145 } : Room).slots A) (F0 m 62 ls []) := by
    intro n_g
    induction n_g with
    | zero => intro i2 K2 B2 dp2 as2 sl2 H locs ls w hk_g hn_g; omega
    | succ n_g ih_g =>
      intro i2 K2 B2 dp2 as2 sl2 H locs ls w hk_g hn_g hbx2 hmt2 hbb2 hbv2 hdp2 hK2 hen2 hpa2 has2 hP hD hS hO hl
      have hf23 : K2.1 m0 = 3 := (BdX.T hbx2 hm0 (by decide))
      have hf24 : K2.2.2.1 6 m0 = some lp := (BdX.C hbx2 (by rw [hm0]; decide) 6).trans hlp6
      have hf25 : K2.1 lp = 5 := (BdX.T hbx2 htlp (by decide))
      refine lv_iload_n hx hb dX0_beginMethod_62 rfl (lv_at hl 0 rfl) ?_
      refine lv_aload_n hx hb dX0_beginMethod_63 rfl (lv_at hl 2 rfl) ?_
      refine c_get (v := .ref m0) (C := RX0) (Tc := TX0) (N := 13) (ci := 0) hx hb hq pin_wsX00 hown hE hP hO 24 (sg_24 G h0 a _ _ _ _ _) rfl 7 (by decide) (hq _ pw_72) (fun _ h9 => h9) rfl dX0_beginMethod_64 ?_
      refine p_get (v := .ref lp) (C := RX6) (Tc := TX6) (N := 12) (ci := 12) hx hb hq pin_wsX60 hown hE hP hO (by rw [hf23]; decide) (rep_3 hf23) rfl 4 (by decide) (hq _ pw_79) (fun _ h9 => h9) (congrArg (fun z => some (va_rf z)) hf24) dX0_beginMethod_67 ?_
      have hO : OKP G h0 a (upd (upd (upd (upd (upd (upd (upd (upd F 2 (nI sz)) 5 (nI cs)) 6 (nI rg)) 7 (nI (i2 + 1))) 8 (nI dp2)) 12 (nI i2)) 13 as2) 16 0) (updR (updR R 3 (.ref m0)) 4 (.null)) Z B2 J K2 w := hO.to rfl
      obtain ⟨qr29, hqr30⟩ := p_recv hO (by rw [hf25]; decide) (rep_5 hf25)
      refine pc_V0 (G := G) (As := []) (rest := [.int (nI i2)]) hx hb hml hown hq hE hX pX0_al hP hD hS hA hl.1 (L_size l G h0 a (upd (upd (upd (upd (upd (upd (upd (upd F 2 (nI sz)) 5 (nI cs)) 6 (nI rg)) 7 (nI (i2 + 1))) 8 (nI dp2)) 12 (nI i2)) 13 as2) 16 0) (updR (updR R 3 (.ref m0)) 4 (.null)) Z B2 J K2 w lp 1 np9 itp (BdX.ls hbx2 (by decide) hlpc).ls hO) (gV pw_86 pw_87 pw_88 pw_32 pw_16) hV_Jx4a65c_size_8abf5 qr29 10 hqr30 rfl rfl rfl (Nat.le_of_ble_eq_true rfl) dX0_beginMethod_70 ⟨(by show 0 + 0 ≤ 1; omega), (by show 0 + 0 ≤ 6; omega)⟩ ⟨Nat.le_of_ble_eq_true rfl, Nat.le_of_ble_eq_true rfl⟩ (fun v28 u26 H locs hw27 hP hD hS => ?_)
      obtain ⟨w, _⟩ := u26
      obtain ⟨hw27, hO⟩ := hw27
      obtain rfl : v28 = some (.int (nI np9)) := hw27
      have hO : OKP G h0 a (upd (upd (upd (upd (upd (upd (upd (upd F 2 (nI sz)) 5 (nI cs)) 6 (nI rg)) 7 (nI (i2 + 1))) 8 (nI dp2)) 12 (nI i2)) 13 as2) 16 0) (updR (updR R 3 (.ref m0)) 4 (.null)) Z B2 J K2 w := hO.to rfl
      refine W.widen (k := 0) (n := 0) (Nat.le_of_ble_eq_true rfl) (Nat.le_of_ble_eq_true rfl) ?_
      refine W.eq (g2 := F0 m 73 ls [.int (nI np9), .int (nI i2)]) rfl ?_
      refine lv_icmp_ge (tgt := 131) hx hb dX0_beginMethod_73 (by decide) (fun c31 => ?_) (fun c31 => ?_)
      · have n32 : np9 ≤ i2 := (nI_leI (a := np9) (b := i2) (by omega) (by omega)).mp c31
        refine W_size (fun hz1 hz2 => ?_)
        refine vx_ret ?_
        have hz33 : BdX K K2 := hbx2
        have hz34 : MtB K2 := hmt2
        have hz35 : Bth B B2 := (show Thx (upd (upd (upd F 2 (nI sz)) 5 (nI cs)) 6 (nI rg)) (upd (upd (upd (upd (upd (upd (upd (upd F 2 (nI sz)) 5 (nI cs)) 6 (nI rg)) 7 (nI (i2 + 1))) 8 (nI dp2)) 12 (nI i2)) 13 as2) 16 0) B B2 from (Thx.f (Thx.f (Thx.f (Thx.f (Thx.f (Bth.thx hbb2) (by omega)) (by omega)) (by omega)) (by omega)) (by omega))).2
        have hz36 : K2 = kI (kI K 11 m0 (nI cs)) 13 m0 (nI rg) := hK2
        have hz37 : BvR B B2 := hbv2
        have hz38 : i2 = np9 ∧ dp2 = i2 + 1 := (by omega)
        have hz39 : EnV (B2 26) (B2 27) nd i2 (i2 + 1) c0 sl2 := hen2
        have hz40 : PaS K (B 11) sz c0 i2 itp sl2 := hpa2
        have hz41 : AsO as2 ∧ ¬ as2 = -1 := has2
        have hO : OKP G h0 a (upd (upd (upd (upd (upd (upd (upd (upd F 2 (nI sz)) 5 (nI cs)) 6 (nI rg)) 7 (nI (i2 + 1))) 8 (nI dp2)) 12 (nI i2)) 13 as2) 16 0) (updR (updR R 3 (.ref m0)) 4 (.null)) Z B2 J K2 w := hO.to rfl
        refine W.widen (k := 1) (n := 6) (by omega) (by omega) ?_
        have hzz1 : H.size ≤ s.heap.size + (0) := (by have z : 0 ≤ 0 := (by omega); omega)
        have hzz2 : hSl H ≤ hSl s.heap + (0) := (by have z : 0 ≤ 0 := (by omega); omega)
        exact W.vret hx hb hr (fun t99 ht99 hW99 => ⟨⟨_, (w, (K2, B2, i2, dp2, as2, sl2)), rfl, ⟨rfl, hz33, hz34, hz35, hz36, hz37, hz38, hz39, hz40, hz41, hO⟩, by rw [ht99]; exact hP, hD, by rw [ht99]; exact hzz1, by rw [ht99]; exact hzz2⟩, hS.F ht99⟩) hS.2.2 dX0_beginMethod_131
      · have n42 : ¬ (np9 ≤ i2) := fun h9 => c31 ((nI_leI (a := np9) (b := i2) (by omega) (by omega)).mpr h9)
        refine lv_aload_n hx hb dX0_beginMethod_76 rfl (lv_at hl 2 rfl) ?_
        refine c_get (v := .ref m0) (C := RX0) (Tc := TX0) (N := 13) (ci := 0) hx hb hq pin_wsX00 hown hE hP hO 24 (sg_24 G h0 a _ _ _ _ _) rfl 7 (by decide) (hq _ pw_72) (fun _ h9 => h9) rfl dX0_beginMethod_77 ?_
        refine p_get (v := .ref lp) (C := RX6) (Tc := TX6) (N := 12) (ci := 12) hx hb hq pin_wsX60 hown hE hP hO (by rw [hf23]; decide) (rep_3 hf23) rfl 4 (by decide) (hq _ pw_79) (fun _ h9 => h9) (congrArg (fun z => some (va_rf z)) hf24) dX0_beginMethod_80 ?_
        refine lv_iload_n hx hb dX0_beginMethod_83 rfl (lv_at hl 0 rfl) ?_
        have hO : OKP G h0 a (upd (upd (upd (upd (upd (upd (upd (upd F 2 (nI sz)) 5 (nI cs)) 6 (nI rg)) 7 (nI (i2 + 1))) 8 (nI dp2)) 12 (nI i2)) 13 as2) 16 0) (updR (updR R 3 (.ref m0)) 4 (.null)) Z B2 J K2 w := hO.to rfl
        obtain ⟨qr46, hqr47⟩ := p_recv hO (by rw [hf25]; decide) (rep_5 hf25)
        refine pc_V0 (G := G) (As := [.int (nI i2)]) (rest := []) hx hb hml hown hq hE hX pX0_al hP hD hS hA hl.1 (L_get l G h0 a (upd (upd (upd (upd (upd (upd (upd (upd F 2 (nI sz)) 5 (nI cs)) 6 (nI rg)) 7 (nI (i2 + 1))) 8 (nI dp2)) 12 (nI i2)) 13 as2) 16 0) (updR (updR R 3 (.ref m0)) 4 (.null)) Z B2 J K2 w lp 1 np9 itp i2 (BdX.ls hbx2 (by decide) hlpc).ls (by omega) hO) (gV pw_89 pw_90 pw_91 pw_32 pw_25) hV_Jx4a65c_get_915e3 qr46 10 hqr47 rfl rfl rfl (Nat.le_of_ble_eq_true rfl) dX0_beginMethod_84 ⟨(by show 0 + 0 ≤ 1; omega), (by show 0 + 0 ≤ 6; omega)⟩ ⟨Nat.le_of_ble_eq_true rfl, Nat.le_of_ble_eq_true rfl⟩ (fun v45 u43 H locs hw44 hP hD hS => ?_)
        obtain ⟨w, _⟩ := u43
        obtain ⟨hw44, hO⟩ := hw44
        obtain rfl : v45 = some (.ref (itp i2)) := hw44
        have hO : OKP G h0 a (upd (upd (upd (upd (upd (upd (upd (upd F 2 (nI sz)) 5 (nI cs)) 6 (nI rg)) 7 (nI (i2 + 1))) 8 (nI dp2)) 12 (nI i2)) 13 as2) 16 0) (updR (updR R 3 (.ref m0)) 4 (.null)) Z B2 J K2 w := hO.to rfl
        refine W.widen (k := 0) (n := 0) (Nat.le_of_ble_eq_true rfl) (Nat.le_of_ble_eq_true rfl) ?_
        refine W.eq (g2 := F0 m 87 ls [.ref (itp i2)]) rfl ?_
        have hf48 : K2.1 (itp i2) = 1 := (BdX.ls hbx2 (by decide) hlpc).T (by omega)
        obtain ⟨px, hpx⟩ : ∃ z : Int32, K2.2.1 2 (itp i2) = z := ⟨_, rfl⟩
        have hpx0 : K.2.1 2 (itp i2) = px := by rw [← hpx, hK2, kI_of (by decide), kI_of (by decide)]
        refine p_cast (C := RX7) (Tc := TX7) (N := 11) (ci := 13) hx hb hown (hq _ pw_80) hE hP hO (by rw [hf48]; decide) (rep_1 hf48) rfl dX0_beginMethod_87 ?_
        refine lv_astore_n (lv' := [(3, .ref (itp i2)), (2, .int (nI i2)), (1, .ref m0), (0, .ref (a 4))]) hx hb dX0_beginMethod_90 rfl hl (by decide) rfl (fun ls hl => ?_)
        refine lv_aload_n hx hb dX0_beginMethod_91 rfl (lv_at hl 3 rfl) ?_
        refine lv_aload_n hx hb dX0_beginMethod_92 rfl (lv_at hl 0 rfl) ?_
        refine p_get (v := .int (K2.2.1 1 (itp i2))) (C := RX7) (Tc := TX7) (N := 11) (ci := 13) hx hb hq pin_wsX70 hown hE hP hO (by rw [hf48]; decide) (rep_1 hf48) rfl 1 (by decide) (hq _ pw_81) (fun _ h9 => h9) rfl dX0_beginMethod_93 ?_
        refine lv_aload_n hx hb dX0_beginMethod_96 rfl (lv_at hl 3 rfl) ?_
        refine c_get (v := .ref (a 1)) (C := RX0) (Tc := TX0) (N := 13) (ci := 0) hx hb hq pin_wsX00 hown hE hP hO 24 (sg_24 G h0 a _ _ _ _ _) rfl 0 (by decide) (hq _ pw_4) (fun _ h9 => h9) rfl dX0_beginMethod_97 ?_
        refine lv_aload_n hx hb dX0_beginMethod_100 rfl (lv_at hl 0 rfl) ?_
        refine p_get (v := .int px) (C := RX7) (Tc := TX7) (N := 11) (ci := 13) hx hb hq pin_wsX70 hown hE hP hO (by rw [hf48]; decide) (rep_1 hf48) rfl 2 (by decide) (hq _ pw_82) (fun _ h9 => h9) (congrArg (fun z => some (Value.int z)) hpx) dX0_beginMethod_101 ?_
        have hO : OKW G h0 a (upd (upd (upd (upd (upd (upd (upd (upd (upd F 2 (nI sz)) 5 (nI cs)) 6 (nI rg)) 7 (nI (i2 + 1))) 8 (nI dp2)) 12 (nI i2)) 13 as2) 16 0) 2 (nI sz)) (updR (updR R 3 (.ref m0)) 4 (.null)) Z B2 J K2.1 (fun q99 x99 => x99 = rep G a K2 q99) w := hO.to rfl
        obtain ⟨_, qr52, hqr53⟩ := hO.2.1 2 _ (sg_2 G h0 a _ _ _ _ _)
        refine pc_V0 (G := G) (As := [.int px]) (rest := [.int (K2.2.1 1 (itp i2)), .ref (a 4)]) hx hb hml hown hq hE hX pX0_al hP hD hS hA hl.1 (Y_typeAt l G h0 a (upd (upd (upd (upd (upd (upd (upd (upd F 2 (nI sz)) 5 (nI cs)) 6 (nI rg)) 7 (nI (i2 + 1))) 8 (nI dp2)) 12 (nI i2)) 13 as2) 16 0) (updR (updR R 3 (.ref m0)) 4 (.null)) Z B2 J K2.1 (fun q99 x99 => x99 = rep G a K2 q99) w px sz nd (by omega) (by rw [hbv2 11 (by decide)]; exact htr) hO) (gV pw_92 pw_93 pw_94 pw_59 pw_36) hV_X10_typeAt qr52 7 hqr53 rfl rfl rfl (Nat.le_of_ble_eq_true rfl) dX0_beginMethod_104 ⟨(by show 0 + 0 ≤ 1; omega), (by show 0 + 0 ≤ 6; omega)⟩ ⟨Nat.le_of_ble_eq_true rfl, Nat.le_of_ble_eq_true rfl⟩ (fun v51 u49 H locs hw50 hP hD hS => ?_)
        obtain ⟨w, _⟩ := u49
        obtain ⟨hw50, hO⟩ := hw50
        obtain rfl : v51 = some (.int (nI (tyN ((B2 11)) sz px))) := hw50
        have hO : OKP G h0 a (upd (upd (upd (upd (upd (upd (upd (upd F 2 (nI sz)) 5 (nI cs)) 6 (nI rg)) 7 (nI (i2 + 1))) 8 (nI dp2)) 12 (nI i2)) 13 as2) 16 0) (updR (updR R 3 (.ref m0)) 4 (.null)) Z B2 J K2 w := hO.to rfl
        refine W.widen (k := 0) (n := 0) (Nat.le_of_ble_eq_true rfl) (Nat.le_of_ble_eq_true rfl) ?_
        refine W.eq (g2 := F0 m 107 ls [.int (nI (tyN ((B2 11)) sz px)), .int (K2.2.1 1 (itp i2)), .ref (a 4)]) rfl ?_
        obtain ⟨ty54, hty54⟩ : ∃ z : Nat, tyN (B2 11) sz px = z := ⟨_, rfl⟩
        rw [hty54]
        have huty54 : tyN (B 11) sz px = ty54 := by rw [← hbv2 11 (by decide)]; exact hty54
        have hvty54 : TyV nd ty54 := by rw [← huty54]; exact htr.V (by omega)
        have hlty54 := (hvty54).lt hn37
        have hO : OKW G h0 a (upd (upd (upd (upd (upd (upd (upd (upd (upd (upd (upd (upd (upd F 2 (nI sz)) 5 (nI cs)) 6 (nI rg)) 7 (nI (i2 + 1))) 8 (nI dp2)) 12 (nI i2)) 13 as2) 16 0) 2 (nI sz)) 7 (nI (i2 + 1))) 8 (nI dp2)) 12 (nI i2)) 13 as2) (updR (updR R 3 (.ref m0)) 4 (.null)) Z B2 J K2.1 (fun q99 x99 => x99 = rep G a K2 q99) w := hO.to rfl
        obtain ⟨_, qr58, hqr59⟩ := hO.2.1 24 _ (sg_24 G h0 a _ _ _ _ _)
        refine pn_V0 (G := G) (As := [.int (K2.2.1 1 (itp i2)), .int (nI ty54)]) (rest := []) hx hb hml hown hq hE hX pX0_al hP hD hS hA hl.1 (Y_declare l G h0 a (upd (upd (upd (upd (upd (upd (upd (upd F 2 (nI sz)) 5 (nI cs)) 6 (nI rg)) 7 (nI (i2 + 1))) 8 (nI dp2)) 12 (nI i2)) 13 as2) 16 0) (updR (updR R 3 (.ref m0)) 4 (.null)) Z B2 J K2.1 (fun q99 x99 => x99 = rep G a K2 q99) w (K2.2.1 1 (itp i2)) ty54 i2 (i2 + 1) dp2 sz nd c0 as2 sl2 (by omega) (by omega) (by omega) (by omega) hen2 hvty54 has2.1 hO hl0) (gV pw_95 pw_96 pw_97 pw_63 pw_71) hV_X0_declare qr58 0 hqr59 rfl rfl rfl (Nat.le_of_ble_eq_true rfl) dX0_beginMethod_107 ⟨(by show 0 + 1 ≤ 1; omega), (by show 0 + 6 ≤ 6; omega)⟩ ⟨Nat.le_of_ble_eq_true rfl, Nat.le_of_ble_eq_true rfl⟩ (fun v57 u55 H locs hw56 hP hD hS => ?_) (fun ux ce9 q9 H9 locs9 hux hP9 hD9 hS9 hce hcv hcl => pb_out ux (ThQ.up (Thx.same (Thx.same (Thx.same (Thx.same (Thx.same (Thx.f (Thx.f (Thx.f (Thx.f (Thx.f (Bth.thx hbb2) (by omega)) (by omega)) (by omega)) (by omega)) (by omega)) rfl) rfl) rfl) rfl) rfl) (show RhX R (updR (updR R 3 (.ref m0)) 4 (.null)) from fun k9 hk9 => by unfold updR; simp only [show ¬ k9 = 1 by omega, show ¬ k9 = 2 by omega, show ¬ k9 = 3 by omega, show ¬ k9 = 4 by omega, if_false]) hux) hnt hlocks hce hcv hcl hP9 hD9 hS9 (by show 0 + 1 ≤ 1; omega) (by show 0 + 6 ≤ 6; omega))
        obtain ⟨w, dp60, as61, f62⟩ := u55
        obtain ⟨hw56, h63, h64, h65, h66, hO⟩ := hw56
        have h63 : i2 + 1 ≤ 30 := h63
        have h64 : dp60 ≤ 1000 := h64
        have h65 : dp2 ≤ dp60 ∧ (i2 + 1) + 1 ≤ dp60 ∧ (dp60 = dp2 ∨ dp60 = (i2 + 1) + 1) := h65
        have h66 : AsO as61 ∧ (as61 = -1 ↔ as2 = -1) := h66
        obtain rfl : v57 = some (.int (nI i2)) := hw56
        have hO : OKP G h0 a (upd (upd (upd (upd (upd (upd (upd (upd F 2 (nI sz)) 5 (nI cs)) 6 (nI rg)) 7 (nI ((i2 + 1) + 1))) 8 (nI dp60)) 12 (nI (i2 + 1))) 13 as61) 16 0) (updR (updR R 3 (.ref m0)) 4 (.null)) Z (updA (updA (updA B2 25 f62) 26 (upd ((B2 26)) i2 (nI ty54))) 27 (upd ((B2 27)) i2 (nI (i2 + 1)))) J K2 w := hO.to rfl
        refine W.widen (k := 0) (n := 0) (by show 0 + 0 ≤ 0; omega) (by show 0 + 0 ≤ 0; omega) ?_
        refine W.eq (g2 := F0 m 110 ls [.int (nI i2)]) rfl ?_
        refine lv_istore (lv' := [(4, .int (nI i2)), (3, .ref (itp i2)), (2, .int (nI i2)), (1, .ref m0), (0, .ref (a 4))]) hx hb dX0_beginMethod_110 hl (by decide) rfl (fun ls hl => ?_)
        refine lv_aload_n hx hb dX0_beginMethod_112 rfl (lv_at hl 4 rfl) ?_
        refine lv_dup hx hb dX0_beginMethod_113 rfl ?_
        refine c_get (v := .int as61) (C := RX0) (Tc := TX0) (N := 13) (ci := 0) hx hb hq pin_wsX00 hown hE hP hO 24 (sg_24 G h0 a _ _ _ _ _) rfl 8 (by decide) (hq _ pw_55) (fun _ h9 => h9) rfl dX0_beginMethod_114 ?_
        refine lv_iconst (v := 1) hx hb dX0_beginMethod_117 (by decide) ?_
        refine lv_iload hx hb dX0_beginMethod_118 (lv_at hl 0 rfl) ?_
        refine lv_ishl hx hb dX0_beginMethod_120 ?_
        refine lv_topi (fun x67 e68 => ?_)
        obtain rfl : x67 = ((1 : Int32) <<< (nI i2)) := e68.trans (congrArg (fun z9 => (1 : Int32) <<< z9) (nI_and31 _ (by omega)))
        refine lv_ior hx hb dX0_beginMethod_121 ?_
        refine lv_topi (fun x69 e70 => ?_)
        obtain rfl : x69 = (as61 ||| ((1 : Int32) <<< (nI i2))) := e70
        refine c_put (v := .int (as61 ||| ((1 : Int32) <<< (nI i2)))) (ty := .int) (C := RX0) (Tc := TX0) (N := 13) (ci := 0) hx hb hq pin_wsX00 tyX0 tyX0_ok nmX0 hown hE hP hD hS hO 24 (sg_24 G h0 a _ _ _ _ _) rfl 8 (by decide) (hq _ pw_55) (fun _ h9 => h9) rfl (by decide +kernel) rfl rfl (Nat.le_of_ble_eq_true rfl) (sf_13 G h0 a _ _ _ _ _ (as61 ||| ((1 : Int32) <<< (nI i2)))) dX0_beginMethod_122 (fun H locs w hP hD hS hO => ?_)
        refine lv_iinc (v := (nI (i2 + 1))) (lv' := [(2, .int (nI (i2 + 1))), (4, .int (nI i2)), (3, .ref (itp i2)), (1, .ref m0), (0, .ref (a 4))]) hx hb dX0_beginMethod_125 hl (k := 2) rfl (nI_1 i2) (by decide) rfl (fun ls hl => ?_)
        refine lv_goto (tgt := 62) hx hb dX0_beginMethod_128 (by decide) ?_
        have hO : OKP G h0 a (upd (upd (upd (upd (upd (upd (upd (upd F 2 (nI sz)) 5 (nI cs)) 6 (nI rg)) 7 (nI ((i2 + 1) + 1))) 8 (nI dp60)) 12 (nI (i2 + 1))) 13 (as61 ||| ((1 : Int32) <<< (nI i2)))) 16 0) (updR (updR R 3 (.ref m0)) 4 (.null)) Z (updA (updA (updA B2 25 f62) 26 (upd ((B2 26)) i2 (nI ty54))) 27 (upd ((B2 27)) i2 (nI (i2 + 1)))) J K2 w := hO.to rfl
        exact ih_g (i2 + 1) K2 (updA (updA (updA B2 25 f62) 26 (upd ((B2 26)) i2 (nI ty54))) 27 (upd ((B2 27)) i2 (nI (i2 + 1)))) dp60 (as61 ||| ((1 : Int32) <<< (nI i2))) (upM sl2 (i2 + 1) (tyc ty54)) _ _ _ _ (by omega) (by omega) hbx2 hmt2 ((show Thx (upd (upd (upd F 2 (nI sz)) 5 (nI cs)) 6 (nI rg)) (upd (upd (upd (upd (upd (upd (upd (upd F 2 (nI sz)) 5 (nI cs)) 6 (nI rg)) 7 (nI ((i2 + 1) + 1))) 8 (nI dp60)) 12 (nI (i2 + 1))) 13 (as61 ||| ((1 : Int32) <<< (nI i2)))) 16 0) B (updA (updA (updA B2 25 f62) 26 (upd ((B2 26)) i2 (nI ty54))) 27 (upd ((B2 27)) i2 (nI (i2 + 1)))) from (Thx.b (Thx.b (Thx.b (Thx.f (Thx.f (Thx.f (Thx.f (Thx.f (Bth.thx hbb2) (by omega)) (by omega)) (by omega)) (by omega)) (by omega)) (by omega) (by decide)) (by omega) (by decide)) (by omega) (by decide))).2) (BvR.up (BvR.up (BvR.up hbv2 (by omega)) (by omega)) (by omega)) (by omega) hK2 (EnV.add hen2 hvty54) (by have z9 := PaS.add hpa2; rw [hpx0, huty54] at z9; exact z9) (by have z9 := AsO.bit (v := i2) h66.1 (by omega); exact ⟨z9.1, fun e9 => has2.2 (h66.2.mp (z9.2.mp e9))⟩) hP hD hS hO (lv_sub hl [0, 3, 4] rfl)
  have hO : OKP G h0 a (upd (upd (upd (upd (upd (upd (upd (upd F 2 (nI sz)) 5 (nI cs)) 6 (nI rg)) 7 (nI (0 + 1))) 8 (nI 1)) 12 (nI 0)) 13 (0 : Int32)) 16 0) (updR (updR R 3 (.ref m0)) 4 (.null)) Z B J K14 w := hO.to rfl
  exact loop_g (np9 + 1) 0 K14 B 1 (0 : Int32) (fun _ => c0) _ _ _ _ (by omega) (by omega) hbx21 hmt22 ((show Thx (upd (upd (upd F 2 (nI sz)) 5 (nI cs)) 6 (nI rg)) (upd (upd (upd (upd (upd (upd (upd (upd F 2 (nI sz)) 5 (nI cs)) 6 (nI rg)) 7 1) 8 1) 12 0) 13 0) 16 0) B B from (Thx.f (Thx.f (Thx.f (Thx.f (Thx.f Thx.rfl (by omega)) (by omega)) (by omega)) (by omega)) (by omega))).2) BvR.rfl (by omega) (by rw [hK15, hK7]) ⟨⟨Nat.le_refl _, rfl, hc0⟩, fun i9 hi9 => absurd hi9 (by omega)⟩ PaS.nil ⟨Or.inr ⟨0, by decide, rfl⟩, by decide⟩ hP hD hS hO (lv_sub hl [0, 2, 1] rfl)
set_option maxHeartbeats 16000000 in
set_option maxRecDepth 100000 in
theorem Y_endMethod (l : Launch) (G : pT) (h0 : Nat) (a : Nat → Nat) (F : Nat → Int32) (R : Nat → Value) (Z : Int64) (B : Nat → Nat → Int32) (J : Nat → Nat → Int64) (K : PK) (w : va_W) (m0 : Nat) (b0 : Nat) (cs : Nat) (hd : Nat) (dp : Nat) (rg : Nat) (sz : Nat) (rt : Nat) (as9 : Int32) (g : Nat → Nat → Nat) (hsz : sz ≤ 5000) (hrg : rg ≤ 625) (hcs : cs < 10000) (hdp : dp ≤ 1000 ∧ hd ≤ 1000 ∧ rt < 128) (hwp : WPr G K g) (hm0 : K.1 m0 = 3) (hb0 : K.2.2.1 7 m0 = some b0) (hbT : K.1 b0 = 1) (hng : Nng (B 18)) (hrt : K.2.1 10 m0 = nI rt) (hO : OKP G h0 a (upd (upd (upd (upd (upd (upd F 2 (nI sz)) 5 (nI cs)) 6 (nI rg)) 7 (nI hd)) 8 (nI dp)) 13 as9) (updR R 3 (.ref m0)) Z B J K w) (hl0 : l.stackTraces = false) : PBn l G pX0 yX0_endMethod cX0_endMethod 1 none ({ frames := 7, cells := 1, slots := 6, locals := 122 }) [.ref (a 4)] w (fun (v : Option Value) (u : va_W × (PK × (Nat → Nat → Int32) × Int32)) => v = none ∧ (BdX K u.2.1) ∧ (MtB u.2.1) ∧ (Bth B u.2.2.1) ∧ (u.2.1 = kI (kI K 12 m0 (nI dp)) 14 m0 (nI rg)) ∧ (BeR B u.2.2.1) ∧ (u.2.2.1 16 = upd (B 16) cs u.2.2.2 ∧ u.2.2.1 17 = upd (B 17) cs 0 ∧ u.2.2.1 18 = upd (B 18) cs 0 ∧ u.2.2.1 19 = upd (B 19) cs (nI hd)) ∧ ((rt = 63 ∧ u.2.2.2 = 26) ∨ (¬ rt = 63 ∧ as9 = -1)) ∧ (OKP G h0 a (upd (upd (upd (upd (upd (upd F 2 (nI sz)) 5 (nI (cs + 1))) 6 (nI rg)) 7 (nI hd)) 8 (nI dp)) 13 as9) (updR R 3 (.ref m0)) Z u.2.2.1 J u.2.1 u.1)) (fun u => u.1) (fun (u : va_W × (PK × (Nat → Nat → Int32) × Int32)) => 0) (fun (u : va_W × (PK × (Nat → Nat → Int32) × Int32)) => 0) (fun (u : va_W × (Nat → Int32) × (Nat → Value) × (Nat → Nat → Int32)) => ThQ G h0 a (upd (upd (upd (upd (upd (upd F 2 (nI sz)) 5 (nI cs)) 6 (nI rg)) 7 (nI hd)) 8 (nI dp)) 13 as9) (updR R 3 (.ref m0)) Z B J u) (fun u => u.1) := by
  intro sz
  refine vx_ofW (cc := cX0_endMethod) (maxL := 1) (ret := none) (by decide) rfl ?_
  intro p e s m args below meth c s₁ B9 hml hnt hv
  obtain ⟨rfl, hsz, hP, hD0, hE, hX⟩ := hv
  have hx := B9.exec
  have hb := B9.bytes
  have hr := B9.returns
  have hts := atoms_spec (ws := Cond.code yX0_endMethod cX0_endMethod 1 none :: pw) B9.pre
  have hq : ∀ w ∈ pw, w.before _ s = true := fun w h => hts w (List.mem_cons_of_mem _ h)
  have hown : s.vm.findClass RX0 = some m.cls := findClass_of_methodNamed B9.named
  have hlocks := B9.notSynchronized
  subst hsz
  have hD := hD0.self (sz := s.heap.size)
  have hA : ∀ q : Nat, s.heap.size ≤ q → va_A w s.heap.size q := fun q h => Or.inr h
  generalize va_A w s.heap.size = A at hD hE hA ⊢
  have hS : va_S A s.heap s.heap [] := va_S.rf
  have hl := lv_entry ([.ref (a 4)]) (n := 1) (Nat.le_of_ble_eq_true rfl)
  rw [lg_entry_eq]
  generalize (lg_sl ([.ref (a 4)]) ++ List.replicate (1 - (lg_sl ([.ref (a 4)])).length) Slot.unset).toArray = ls at hl ⊢
  have hl : lv_has ls 1 [(0, .ref (a 4))] := hl
  refine lv_aload_n hx hb dX0_endMethod_0 rfl (lv_at hl 0 rfl) ?_
  refine c_get (v := .ref m0) (C := RX0) (Tc := TX0) (N := 13) (ci := 0) hx hb hq pin_wsX00 hown hE hP hO 24 (sg_24 G h0 a _ _ _ _ _) rfl 7 (by decide) (hq _ pw_72) (fun _ h9 => h9) rfl dX0_endMethod_1 ?_
  refine p_get (v := .int (nI rt)) (C := RX6) (Tc := TX6) (N := 12) (ci := 12) hx hb hq pin_wsX60 hown hE hP hO (by rw [hm0]; decide) (rep_3 hm0) rfl 7 (by decide) (hq _ pw_172) (fun _ h9 => h9) (congrArg (fun z => some (Value.int z)) hrt) dX0_endMethod_4 ?_
  refine lv_bipush (v := 63) hx hb dX0_endMethod_7 (by decide) ?_
  refine lv_icmp_eq (tgt := 39) hx hb dX0_endMethod_9 (by decide) (fun c1 => ?_) (fun c1 => ?_)
  · have n2 : rt = 63 := (nI_eq (a := rt) (b := 63) (by omega) (by omega)).mp c1
    refine lv_aload_n hx hb dX0_endMethod_39 rfl (lv_at hl 0 rfl) ?_
    refine c_get (v := .ref (a 2)) (C := RX0) (Tc := TX0) (N := 13) (ci := 0) hx hb hq pin_wsX00 hown hE hP hO 24 (sg_24 G h0 a _ _ _ _ _) rfl 1 (by decide) (hq _ pw_5) (fun _ h9 => h9) rfl dX0_endMethod_40 ?_
    refine lv_aload_n hx hb dX0_endMethod_43 rfl (lv_at hl 0 rfl) ?_
    refine c_get (v := .ref m0) (C := RX0) (Tc := TX0) (N := 13) (ci := 0) hx hb hq pin_wsX00 hown hE hP hO 24 (sg_24 G h0 a _ _ _ _ _) rfl 7 (by decide) (hq _ pw_72) (fun _ h9 => h9) rfl dX0_endMethod_44 ?_
    refine p_get (v := .int (nI rt)) (C := RX6) (Tc := TX6) (N := 12) (ci := 12) hx hb hq pin_wsX60 hown hE hP hO (by rw [hm0]; decide) (rep_3 hm0) rfl 7 (by decide) (hq _ pw_172) (fun _ h9 => h9) (congrArg (fun z => some (Value.int z)) hrt) dX0_endMethod_47 ?_
    refine lv_bipush (v := 63) hx hb dX0_endMethod_50 (by decide) ?_
    refine lv_icmp_ne (tgt := 60) hx hb dX0_endMethod_52 (by decide) (fun c3 => (by have n4 : ¬ (rt = 63) := fun h9 => c3 ((nI_eq (a := rt) (b := 63) (by omega) (by omega)).mpr h9); omega)) (fun c3 => ?_)
    refine lv_bipush (v := 26) hx hb dX0_endMethod_55 (by decide) ?_
    refine lv_goto (tgt := 62) hx hb dX0_endMethod_57 (by decide) ?_
    refine lv_iconst (v := 0) hx hb dX0_endMethod_62 (by decide) ?_
    refine lv_iconst (v := 0) hx hb dX0_endMethod_63 (by decide) ?_
    have hO : OKW G h0 a (upd (upd (upd (upd (upd (upd (upd (upd F 2 (nI sz)) 5 (nI cs)) 6 (nI rg)) 7 (nI hd)) 8 (nI dp)) 13 as9) 5 (nI cs)) 7 (nI hd)) (updR R 3 (.ref m0)) Z B J K.1 (fun q99 x99 => x99 = rep G a K q99) w := hO.to rfl
    obtain ⟨_, qr8, hqr9⟩ := hO.2.1 13 _ (sg_13 G h0 a _ _ _ _ _)
    refine pc_V0 (G := G) (As := [.int 26, .int 0, .int 0]) (rest := []) hx hb hml hown hq hE hX pX0_al hP hD hS hA hl.1 (Y_emit l G h0 a (upd (upd (upd (upd (upd (upd F 2 (nI sz)) 5 (nI cs)) 6 (nI rg)) 7 (nI hd)) 8 (nI dp)) 13 as9) (updR R 3 (.ref m0)) Z B J K.1 (fun q99 x99 => x99 = rep G a K q99) w 26 0 0 cs hd (by omega) hO) (gV pw_129 pw_130 pw_131 pw_70 pw_115) hV_X1_emit qr8 1 hqr9 rfl rfl rfl (Nat.le_of_ble_eq_true rfl) dX0_endMethod_64 ⟨(by show 0 + 0 ≤ 1; omega), (by show 0 + 0 ≤ 6; omega)⟩ ⟨Nat.le_of_ble_eq_true rfl, Nat.le_of_ble_eq_true rfl⟩ (fun v7 u5 H locs hw6 hP hD hS => ?_)
    obtain ⟨w, _⟩ := u5
    obtain ⟨hw6, hO⟩ := hw6
    obtain rfl : v7 = none := hw6
    have hO : OKP G h0 a (upd (upd (upd (upd (upd (upd F 2 (nI sz)) 5 (nI (cs + 1))) 6 (nI rg)) 7 (nI hd)) 8 (nI dp)) 13 as9) (updR R 3 (.ref m0)) Z (updA (updA (updA (updA B 16 (upd ((B 16)) cs 26)) 17 (upd ((B 17)) cs 0)) 18 (upd ((B 18)) cs 0)) 19 (upd ((B 19)) cs (nI hd))) J K w := hO.to rfl
    refine W.widen (k := 0) (n := 0) (Nat.le_of_ble_eq_true rfl) (Nat.le_of_ble_eq_true rfl) ?_
    refine W.eq (g2 := F0 m 67 ls []) rfl ?_
    have hng10 : Nng (upd ((B 18)) cs 0) := Nng.set hng (k := 0) (by omega)
    refine lv_aload_n hx hb dX0_endMethod_67 rfl (lv_at hl 0 rfl) ?_
    refine c_get (v := .ref m0) (C := RX0) (Tc := TX0) (N := 13) (ci := 0) hx hb hq pin_wsX00 hown hE hP hO 24 (sg_24 G h0 a _ _ _ _ _) rfl 7 (by decide) (hq _ pw_72) (fun _ h9 => h9) rfl dX0_endMethod_68 ?_
    refine lv_aload_n hx hb dX0_endMethod_71 rfl (lv_at hl 0 rfl) ?_
    refine c_get (v := .ref (a 2)) (C := RX0) (Tc := TX0) (N := 13) (ci := 0) hx hb hq pin_wsX00 hown hE hP hO 24 (sg_24 G h0 a _ _ _ _ _) rfl 1 (by decide) (hq _ pw_5) (fun _ h9 => h9) rfl dX0_endMethod_72 ?_
    refine c_get (v := .int (nI dp)) (C := RX1) (Tc := TX1) (N := 13) (ci := 1) hx hb hq pin_wsX10 hown hE hP hO 13 (sg_13 G h0 a _ _ _ _ _) rfl 12 (by decide) (hq _ pw_360) (fun _ h9 => h9) rfl dX0_endMethod_75 ?_
    refine p_put (v := .int (nI dp)) (ty := .int) (C := RX6) (Tc := TX6) (N := 12) (ci := 12) (K' := (kI K 12 m0 (nI dp))) hx hb hq pin_wsX60 tyX6 tyX6_ok nmX6 hown hE hP hD hS hO (by rw [hm0]; decide) (rep_3 hm0) rfl 9 (by decide) (hq _ pw_361) (fun _ h9 => h9) rfl (by decide +kernel) rfl rfl (Nat.le_of_ble_eq_true rfl) rfl (by rw [rep_3 (show (kI K 12 m0 (nI dp)).1 m0 = 3 from hm0), pi_12] <;> rfl) (fun p9 hp9 => rep_kI hp9) dX0_endMethod_78 (fun H locs w hP hD hS hO => ?_)
    obtain ⟨K11, hK12⟩ : ∃ z : PK, z = (kI K 12 m0 (nI dp)) := ⟨_, rfl⟩
    rw [← hK12] at hO
    have hf13 : K11.1 m0 = 3 := (by rw [hK12]; exact hm0)
    have hf14 : K11.2.2.1 7 m0 = some b0 := (by rw [hK12]; exact hb0)
    have hf15 : K11.1 b0 = 1 := (by rw [hK12]; exact hbT)
    have hf16 : K11.2.1 10 m0 = (nI rt) := (by rw [hK12]; exact (kI_of (by decide)).trans hrt)
    have hf17 : K11.2.1 12 m0 = (nI dp) := by rw [hK12]; exact kI_eq
    have hbx18 : BdX K K11 := BdX.trans BdX.rfl (by rw [hK12]; exact BdX.kI (by unfold bdI; omega))
    have hmt19 : MtB K11 := by rw [hK12]; exact MtB.set (MtB.of hwp) (by omega)
    refine lv_aload_n hx hb dX0_endMethod_81 rfl (lv_at hl 0 rfl) ?_
    refine c_get (v := .ref m0) (C := RX0) (Tc := TX0) (N := 13) (ci := 0) hx hb hq pin_wsX00 hown hE hP hO 24 (sg_24 G h0 a _ _ _ _ _) rfl 7 (by decide) (hq _ pw_72) (fun _ h9 => h9) rfl dX0_endMethod_82 ?_
    refine lv_aload_n hx hb dX0_endMethod_85 rfl (lv_at hl 0 rfl) ?_
    refine c_get (v := .ref (a 2)) (C := RX0) (Tc := TX0) (N := 13) (ci := 0) hx hb hq pin_wsX00 hown hE hP hO 24 (sg_24 G h0 a _ _ _ _ _) rfl 1 (by decide) (hq _ pw_5) (fun _ h9 => h9) rfl dX0_endMethod_86 ?_
    refine c_get (v := .int (nI rg)) (C := RX1) (Tc := TX1) (N := 13) (ci := 1) hx hb hq pin_wsX10 hown hE hP hO 13 (sg_13 G h0 a _ _ _ _ _) rfl 10 (by decide) (hq _ pw_77) (fun _ h9 => h9) rfl dX0_endMethod_89 ?_
    refine p_put (v := .int (nI rg)) (ty := .int) (C := RX6) (Tc := TX6) (N := 12) (ci := 12) (K' := (kI K11 14 m0 (nI rg))) hx hb hq pin_wsX60 tyX6 tyX6_ok nmX6 hown hE hP hD hS hO (by rw [hf13]; decide) (rep_3 hf13) rfl 11 (by decide) (hq _ pw_362) (fun _ h9 => h9) rfl (by decide +kernel) rfl rfl (Nat.le_of_ble_eq_true rfl) rfl (by rw [rep_3 (show (kI K11 14 m0 (nI rg)).1 m0 = 3 from hf13), pi_14] <;> rfl) (fun p9 hp9 => rep_kI hp9) dX0_endMethod_92 (fun H locs w hP hD hS hO => ?_)
    obtain ⟨K20, hK21⟩ : ∃ z : PK, z = (kI K11 14 m0 (nI rg)) := ⟨_, rfl⟩
    rw [← hK21] at hO
    have hf22 : K20.1 m0 = 3 := (by rw [hK21]; exact hf13)
    have hf23 : K20.2.2.1 7 m0 = some b0 := (by rw [hK21]; exact hf14)
    have hf24 : K20.1 b0 = 1 := (by rw [hK21]; exact hf15)
    have hf25 : K20.2.1 10 m0 = (nI rt) := (by rw [hK21]; exact (kI_of (by decide)).trans hf16)
    have hf26 : K20.2.1 12 m0 = (nI dp) := (by rw [hK21]; exact (kI_of (by decide)).trans hf17)
    have hf27 : K20.2.1 14 m0 = (nI rg) := by rw [hK21]; exact kI_eq
    have hbx28 : BdX K K20 := BdX.trans hbx18 (by rw [hK21]; exact BdX.kI (by unfold bdI; omega))
    have hmt29 : MtB K20 := by rw [hK21]; exact MtB.kI hmt19 (by decide)
    refine W_size (fun hz1 hz2 => ?_)
    refine vx_ret ?_
    have hz30 : BdX K K20 := hbx28
    have hz31 : MtB K20 := hmt29
    have hz32 : Bth B (updA (updA (updA (updA B 16 (upd ((B 16)) cs 26)) 17 (upd ((B 17)) cs 0)) 18 (upd ((B 18)) cs 0)) 19 (upd ((B 19)) cs (nI hd))) := (show Thx (upd (upd (upd (upd (upd (upd F 2 (nI sz)) 5 (nI cs)) 6 (nI rg)) 7 (nI hd)) 8 (nI dp)) 13 as9) (upd (upd (upd (upd (upd (upd (upd F 2 (nI sz)) 5 (nI cs)) 6 (nI rg)) 7 (nI hd)) 8 (nI dp)) 13 as9) 5 (nI (cs + 1))) B (updA (updA (updA (updA B 16 (upd ((B 16)) cs 26)) 17 (upd ((B 17)) cs 0)) 18 (upd ((B 18)) cs 0)) 19 (upd ((B 19)) cs (nI hd))) from (Thx.b (Thx.b8 (Thx.b (Thx.b (Thx.f Thx.rfl (by omega)) (by omega) (by decide)) (by omega) (by decide)) hng10) (by omega) (by decide))).2
    have hz33 : K20 = kI (kI K 12 m0 (nI dp)) 14 m0 (nI rg) := (by rw [hK21, hK12])
    have hz34 : BeR B (updA (updA (updA (updA B 16 (upd ((B 16)) cs 26)) 17 (upd ((B 17)) cs 0)) 18 (upd ((B 18)) cs 0)) 19 (upd ((B 19)) cs (nI hd))) := (BeR.up (k := 19) (f := (upd ((B 19)) cs (nI hd))) (BeR.up (k := 18) (f := (upd ((B 18)) cs 0)) (BeR.up (k := 17) (f := (upd ((B 17)) cs 0)) (BeR.up (k := 16) (f := (upd ((B 16)) cs 26)) BeR.rfl (by omega)) (by omega)) (by omega)) (by omega))
    have hz35 : (updA (updA (updA (updA B 16 (upd ((B 16)) cs 26)) 17 (upd ((B 17)) cs 0)) 18 (upd ((B 18)) cs 0)) 19 (upd ((B 19)) cs (nI hd))) 16 = upd (B 16) cs (26 : Int32) ∧ (updA (updA (updA (updA B 16 (upd ((B 16)) cs 26)) 17 (upd ((B 17)) cs 0)) 18 (upd ((B 18)) cs 0)) 19 (upd ((B 19)) cs (nI hd))) 17 = upd (B 17) cs 0 ∧ (updA (updA (updA (updA B 16 (upd ((B 16)) cs 26)) 17 (upd ((B 17)) cs 0)) 18 (upd ((B 18)) cs 0)) 19 (upd ((B 19)) cs (nI hd))) 18 = upd (B 18) cs 0 ∧ (updA (updA (updA (updA B 16 (upd ((B 16)) cs 26)) 17 (upd ((B 17)) cs 0)) 18 (upd ((B 18)) cs 0)) 19 (upd ((B 19)) cs (nI hd))) 19 = upd (B 19) cs (nI hd) := ⟨rfl, rfl, rfl, rfl⟩
    have hz36 : (rt = 63 ∧ (26 : Int32) = 26) ∨ (¬ rt = 63 ∧ as9 = -1) := (Or.inl ⟨by omega, rfl⟩)
    have hO : OKP G h0 a (upd (upd (upd (upd (upd (upd F 2 (nI sz)) 5 (nI (cs + 1))) 6 (nI rg)) 7 (nI hd)) 8 (nI dp)) 13 as9) (updR R 3 (.ref m0)) Z (updA (updA (updA (updA B 16 (upd ((B 16)) cs 26)) 17 (upd ((B 17)) cs 0)) 18 (upd ((B 18)) cs 0)) 19 (upd ((B 19)) cs (nI hd))) J K20 w := hO.to rfl
    refine W.widen (k := 1) (n := 6) (by omega) (by omega) ?_
    have hzz1 : H.size ≤ s.heap.size + (0) := (by have z : 0 ≤ 0 := (by omega); omega)
    have hzz2 : hSl H ≤ hSl s.heap + (0) := (by have z : 0 ≤ 0 := (by omega); omega)
    exact W.vret hx hb hr (fun t99 ht99 hW99 => ⟨⟨_, (w, (K20, (updA (updA (updA (updA B 16 (upd ((B 16)) cs 26)) 17 (upd ((B 17)) cs 0)) 18 (upd ((B 18)) cs 0)) 19 (upd ((B 19)) cs (nI hd))), (26 : Int32))), rfl, ⟨rfl, hz30, hz31, hz32, hz33, hz34, hz35, hz36, hO⟩, by rw [ht99]; exact hP, hD, by rw [ht99]; exact hzz1, by rw [ht99]; exact hzz2⟩, hS.F ht99⟩) hS.2.2 dX0_endMethod_95
  · have n37 : ¬ (rt = 63) := fun h9 => c1 ((nI_eq (a := rt) (b := 63) (by omega) (by omega)).mpr h9)
    refine lv_aload_n hx hb dX0_endMethod_12 rfl (lv_at hl 0 rfl) ?_
    refine c_get (v := .int as9) (C := RX0) (Tc := TX0) (N := 13) (ci := 0) hx hb hq pin_wsX00 hown hE hP hO 24 (sg_24 G h0 a _ _ _ _ _) rfl 8 (by decide) (hq _ pw_55) (fun _ h9 => h9) rfl dX0_endMethod_13 ?_
    refine lv_iconst (v := (-1)) hx hb dX0_endMethod_16 (by decide) ?_
    refine lv_icmp_eq (tgt := 39) hx hb dX0_endMethod_17 (by decide) (fun c38 => ?_) (fun c38 => ?_)
    · refine lv_aload_n hx hb dX0_endMethod_39 rfl (lv_at hl 0 rfl) ?_
      refine c_get (v := .ref (a 2)) (C := RX0) (Tc := TX0) (N := 13) (ci := 0) hx hb hq pin_wsX00 hown hE hP hO 24 (sg_24 G h0 a _ _ _ _ _) rfl 1 (by decide) (hq _ pw_5) (fun _ h9 => h9) rfl dX0_endMethod_40 ?_
      refine lv_aload_n hx hb dX0_endMethod_43 rfl (lv_at hl 0 rfl) ?_
      refine c_get (v := .ref m0) (C := RX0) (Tc := TX0) (N := 13) (ci := 0) hx hb hq pin_wsX00 hown hE hP hO 24 (sg_24 G h0 a _ _ _ _ _) rfl 7 (by decide) (hq _ pw_72) (fun _ h9 => h9) rfl dX0_endMethod_44 ?_
      refine p_get (v := .int (nI rt)) (C := RX6) (Tc := TX6) (N := 12) (ci := 12) hx hb hq pin_wsX60 hown hE hP hO (by rw [hm0]; decide) (rep_3 hm0) rfl 7 (by decide) (hq _ pw_172) (fun _ h9 => h9) (congrArg (fun z => some (Value.int z)) hrt) dX0_endMethod_47 ?_
      refine lv_bipush (v := 63) hx hb dX0_endMethod_50 (by decide) ?_
      refine lv_icmp_ne (tgt := 60) hx hb dX0_endMethod_52 (by decide) (fun c39 => ?_) (fun c39 => (by have n40 : rt = 63 := (nI_eq (a := rt) (b := 63) (by omega) (by omega)).mp c39; omega))
      refine lv_bipush (v := 31) hx hb dX0_endMethod_60 (by decide) ?_
      refine lv_iconst (v := 0) hx hb dX0_endMethod_62 (by decide) ?_
      refine lv_iconst (v := 0) hx hb dX0_endMethod_63 (by decide) ?_
      have hO : OKW G h0 a (upd (upd (upd (upd (upd (upd (upd (upd F 2 (nI sz)) 5 (nI cs)) 6 (nI rg)) 7 (nI hd)) 8 (nI dp)) 13 as9) 5 (nI cs)) 7 (nI hd)) (updR R 3 (.ref m0)) Z B J K.1 (fun q99 x99 => x99 = rep G a K q99) w := hO.to rfl
      obtain ⟨_, qr44, hqr45⟩ := hO.2.1 13 _ (sg_13 G h0 a _ _ _ _ _)
      refine pc_V0 (G := G) (As := [.int 31, .int 0, .int 0]) (rest := []) hx hb hml hown hq hE hX pX0_al hP hD hS hA hl.1 (Y_emit l G h0 a (upd (upd (upd (upd (upd (upd F 2 (nI sz)) 5 (nI cs)) 6 (nI rg)) 7 (nI hd)) 8 (nI dp)) 13 as9) (updR R 3 (.ref m0)) Z B J K.1 (fun q99 x99 => x99 = rep G a K q99) w 31 0 0 cs hd (by omega) hO) (gV pw_129 pw_130 pw_131 pw_70 pw_115) hV_X1_emit qr44 1 hqr45 rfl rfl rfl (Nat.le_of_ble_eq_true rfl) dX0_endMethod_64 ⟨(by show 0 + 0 ≤ 1; omega), (by show 0 + 0 ≤ 6; omega)⟩ ⟨Nat.le_of_ble_eq_true rfl, Nat.le_of_ble_eq_true rfl⟩ (fun v43 u41 H locs hw42 hP hD hS => ?_)
      obtain ⟨w, _⟩ := u41
      obtain ⟨hw42, hO⟩ := hw42
      obtain rfl : v43 = none := hw42
      have hO : OKP G h0 a (upd (upd (upd (upd (upd (upd F 2 (nI sz)) 5 (nI (cs + 1))) 6 (nI rg)) 7 (nI hd)) 8 (nI dp)) 13 as9) (updR R 3 (.ref m0)) Z (updA (updA (updA (updA B 16 (upd ((B 16)) cs 31)) 17 (upd ((B 17)) cs 0)) 18 (upd ((B 18)) cs 0)) 19 (upd ((B 19)) cs (nI hd))) J K w := hO.to rfl
      refine W.widen (k := 0) (n := 0) (Nat.le_of_ble_eq_true rfl) (Nat.le_of_ble_eq_true rfl) ?_
      refine W.eq (g2 := F0 m 67 ls []) rfl ?_
      have hng46 : Nng (upd ((B 18)) cs 0) := Nng.set hng (k := 0) (by omega)
      refine lv_aload_n hx hb dX0_endMethod_67 rfl (lv_at hl 0 rfl) ?_
      refine c_get (v := .ref m0) (C := RX0) (Tc := TX0) (N := 13) (ci := 0) hx hb hq pin_wsX00 hown hE hP hO 24 (sg_24 G h0 a _ _ _ _ _) rfl 7 (by decide) (hq _ pw_72) (fun _ h9 => h9) rfl dX0_endMethod_68 ?_
      refine lv_aload_n hx hb dX0_endMethod_71 rfl (lv_at hl 0 rfl) ?_
      refine c_get (v := .ref (a 2)) (C := RX0) (Tc := TX0) (N := 13) (ci := 0) hx hb hq pin_wsX00 hown hE hP hO 24 (sg_24 G h0 a _ _ _ _ _) rfl 1 (by decide) (hq _ pw_5) (fun _ h9 => h9) rfl dX0_endMethod_72 ?_
      refine c_get (v := .int (nI dp)) (C := RX1) (Tc := TX1) (N := 13) (ci := 1) hx hb hq pin_wsX10 hown hE hP hO 13 (sg_13 G h0 a _ _ _ _ _) rfl 12 (by decide) (hq _ pw_360) (fun _ h9 => h9) rfl dX0_endMethod_75 ?_
      refine p_put (v := .int (nI dp)) (ty := .int) (C := RX6) (Tc := TX6) (N := 12) (ci := 12) (K' := (kI K 12 m0 (nI dp))) hx hb hq pin_wsX60 tyX6 tyX6_ok nmX6 hown hE hP hD hS hO (by rw [hm0]; decide) (rep_3 hm0) rfl 9 (by decide) (hq _ pw_361) (fun _ h9 => h9) rfl (by decide +kernel) rfl rfl (Nat.le_of_ble_eq_true rfl) rfl (by rw [rep_3 (show (kI K 12 m0 (nI dp)).1 m0 = 3 from hm0), pi_12] <;> rfl) (fun p9 hp9 => rep_kI hp9) dX0_endMethod_78 (fun H locs w hP hD hS hO => ?_)
      obtain ⟨K47, hK48⟩ : ∃ z : PK, z = (kI K 12 m0 (nI dp)) := ⟨_, rfl⟩
      rw [← hK48] at hO
      have hf49 : K47.1 m0 = 3 := (by rw [hK48]; exact hm0)
      have hf50 : K47.2.2.1 7 m0 = some b0 := (by rw [hK48]; exact hb0)
      have hf51 : K47.1 b0 = 1 := (by rw [hK48]; exact hbT)
      have hf52 : K47.2.1 10 m0 = (nI rt) := (by rw [hK48]; exact (kI_of (by decide)).trans hrt)
      have hf53 : K47.2.1 12 m0 = (nI dp) := by rw [hK48]; exact kI_eq
      have hbx54 : BdX K K47 := BdX.trans BdX.rfl (by rw [hK48]; exact BdX.kI (by unfold bdI; omega))
      have hmt55 : MtB K47 := by rw [hK48]; exact MtB.set (MtB.of hwp) (by omega)
      refine lv_aload_n hx hb dX0_endMethod_81 rfl (lv_at hl 0 rfl) ?_
      refine c_get (v := .ref m0) (C := RX0) (Tc := TX0) (N := 13) (ci := 0) hx hb hq pin_wsX00 hown hE hP hO 24 (sg_24 G h0 a _ _ _ _ _) rfl 7 (by decide) (hq _ pw_72) (fun _ h9 => h9) rfl dX0_endMethod_82 ?_
      refine lv_aload_n hx hb dX0_endMethod_85 rfl (lv_at hl 0 rfl) ?_
      refine c_get (v := .ref (a 2)) (C := RX0) (Tc := TX0) (N := 13) (ci := 0) hx hb hq pin_wsX00 hown hE hP hO 24 (sg_24 G h0 a _ _ _ _ _) rfl 1 (by decide) (hq _ pw_5) (fun _ h9 => h9) rfl dX0_endMethod_86 ?_
      refine c_get (v := .int (nI rg)) (C := RX1) (Tc := TX1) (N := 13) (ci := 1) hx hb hq pin_wsX10 hown hE hP hO 13 (sg_13 G h0 a _ _ _ _ _) rfl 10 (by decide) (hq _ pw_77) (fun _ h9 => h9) rfl dX0_endMethod_89 ?_
      refine p_put (v := .int (nI rg)) (ty := .int) (C := RX6) (Tc := TX6) (N := 12) (ci := 12) (K' := (kI K47 14 m0 (nI rg))) hx hb hq pin_wsX60 tyX6 tyX6_ok nmX6 hown hE hP hD hS hO (by rw [hf49]; decide) (rep_3 hf49) rfl 11 (by decide) (hq _ pw_362) (fun _ h9 => h9) rfl (by decide +kernel) rfl rfl (Nat.le_of_ble_eq_true rfl) rfl (by rw [rep_3 (show (kI K47 14 m0 (nI rg)).1 m0 = 3 from hf49), pi_14] <;> rfl) (fun p9 hp9 => rep_kI hp9) dX0_endMethod_92 (fun H locs w hP hD hS hO => ?_)
      obtain ⟨K56, hK57⟩ : ∃ z : PK, z = (kI K47 14 m0 (nI rg)) := ⟨_, rfl⟩
      rw [← hK57] at hO
      have hf58 : K56.1 m0 = 3 := (by rw [hK57]; exact hf49)
      have hf59 : K56.2.2.1 7 m0 = some b0 := (by rw [hK57]; exact hf50)
      have hf60 : K56.1 b0 = 1 := (by rw [hK57]; exact hf51)
      have hf61 : K56.2.1 10 m0 = (nI rt) := (by rw [hK57]; exact (kI_of (by decide)).trans hf52)
      have hf62 : K56.2.1 12 m0 = (nI dp) := (by rw [hK57]; exact (kI_of (by decide)).trans hf53)
      have hf63 : K56.2.1 14 m0 = (nI rg) := by rw [hK57]; exact kI_eq
      have hbx64 : BdX K K56 := BdX.trans hbx54 (by rw [hK57]; exact BdX.kI (by unfold bdI; omega))
      have hmt65 : MtB K56 := by rw [hK57]; exact MtB.kI hmt55 (by decide)
      refine W_size (fun hz1 hz2 => ?_)
      refine vx_ret ?_
      have hz66 : BdX K K56 := hbx64
      have hz67 : MtB K56 := hmt65
      have hz68 : Bth B (updA (updA (updA (updA B 16 (upd ((B 16)) cs 31)) 17 (upd ((B 17)) cs 0)) 18 (upd ((B 18)) cs 0)) 19 (upd ((B 19)) cs (nI hd))) := (show Thx (upd (upd (upd (upd (upd (upd F 2 (nI sz)) 5 (nI cs)) 6 (nI rg)) 7 (nI hd)) 8 (nI dp)) 13 as9) (upd (upd (upd (upd (upd (upd (upd F 2 (nI sz)) 5 (nI cs)) 6 (nI rg)) 7 (nI hd)) 8 (nI dp)) 13 as9) 5 (nI (cs + 1))) B (updA (updA (updA (updA B 16 (upd ((B 16)) cs 31)) 17 (upd ((B 17)) cs 0)) 18 (upd ((B 18)) cs 0)) 19 (upd ((B 19)) cs (nI hd))) from (Thx.b (Thx.b8 (Thx.b (Thx.b (Thx.f Thx.rfl (by omega)) (by omega) (by decide)) (by omega) (by decide)) hng46) (by omega) (by decide))).2
      have hz69 : K56 = kI (kI K 12 m0 (nI dp)) 14 m0 (nI rg) := (by rw [hK57, hK48])
      have hz70 : BeR B (updA (updA (updA (updA B 16 (upd ((B 16)) cs 31)) 17 (upd ((B 17)) cs 0)) 18 (upd ((B 18)) cs 0)) 19 (upd ((B 19)) cs (nI hd))) := (BeR.up (k := 19) (f := (upd ((B 19)) cs (nI hd))) (BeR.up (k := 18) (f := (upd ((B 18)) cs 0)) (BeR.up (k := 17) (f := (upd ((B 17)) cs 0)) (BeR.up (k := 16) (f := (upd ((B 16)) cs 31)) BeR.rfl (by omega)) (by omega)) (by omega)) (by omega))
      have hz71 : (updA (updA (updA (updA B 16 (upd ((B 16)) cs 31)) 17 (upd ((B 17)) cs 0)) 18 (upd ((B 18)) cs 0)) 19 (upd ((B 19)) cs (nI hd))) 16 = upd (B 16) cs (31 : Int32) ∧ (updA (updA (updA (updA B 16 (upd ((B 16)) cs 31)) 17 (upd ((B 17)) cs 0)) 18 (upd ((B 18)) cs 0)) 19 (upd ((B 19)) cs (nI hd))) 17 = upd (B 17) cs 0 ∧ (updA (updA (updA (updA B 16 (upd ((B 16)) cs 31)) 17 (upd ((B 17)) cs 0)) 18 (upd ((B 18)) cs 0)) 19 (upd ((B 19)) cs (nI hd))) 18 = upd (B 18) cs 0 ∧ (updA (updA (updA (updA B 16 (upd ((B 16)) cs 31)) 17 (upd ((B 17)) cs 0)) 18 (upd ((B 18)) cs 0)) 19 (upd ((B 19)) cs (nI hd))) 19 = upd (B 19) cs (nI hd) := ⟨rfl, rfl, rfl, rfl⟩
      have hz72 : (rt = 63 ∧ (31 : Int32) = 26) ∨ (¬ rt = 63 ∧ as9 = -1) := (Or.inr ⟨by omega, c38⟩)
      have hO : OKP G h0 a (upd (upd (upd (upd (upd (upd F 2 (nI sz)) 5 (nI (cs + 1))) 6 (nI rg)) 7 (nI hd)) 8 (nI dp)) 13 as9) (updR R 3 (.ref m0)) Z (updA (updA (updA (updA B 16 (upd ((B 16)) cs 31)) 17 (upd ((B 17)) cs 0)) 18 (upd ((B 18)) cs 0)) 19 (upd ((B 19)) cs (nI hd))) J K56 w := hO.to rfl
      refine W.widen (k := 1) (n := 6) (by omega) (by omega) ?_
      have hzz1 : H.size ≤ s.heap.size + (0) := (by have z : 0 ≤ 0 := (by omega); omega)
      have hzz2 : hSl H ≤ hSl s.heap + (0) := (by have z : 0 ≤ 0 := (by omega); omega)
      exact W.vret hx hb hr (fun t99 ht99 hW99 => ⟨⟨_, (w, (K56, (updA (updA (updA (updA B 16 (upd ((B 16)) cs 31)) 17 (upd ((B 17)) cs 0)) 18 (upd ((B 18)) cs 0)) 19 (upd ((B 19)) cs (nI hd))), (31 : Int32))), rfl, ⟨rfl, hz66, hz67, hz68, hz69, hz70, hz71, hz72, hO⟩, by rw [ht99]; exact hP, hD, by rw [ht99]; exact hzz1, by rw [ht99]; exact hzz2⟩, hS.F ht99⟩) hS.2.2 dX0_endMethod_95
    · refine lv_aload_n hx hb dX0_endMethod_20 rfl (lv_at hl 0 rfl) ?_
      refine c_get (v := .ref (a 1)) (C := RX0) (Tc := TX0) (N := 13) (ci := 0) hx hb hq pin_wsX00 hown hE hP hO 24 (sg_24 G h0 a _ _ _ _ _) rfl 0 (by decide) (hq _ pw_4) (fun _ h9 => h9) rfl dX0_endMethod_21 ?_
      refine lv_bipush (v := 15) hx hb dX0_endMethod_24 (by decide) ?_
      refine lv_aload_n hx hb dX0_endMethod_26 rfl (lv_at hl 0 rfl) ?_
      refine c_get (v := .ref m0) (C := RX0) (Tc := TX0) (N := 13) (ci := 0) hx hb hq pin_wsX00 hown hE hP hO 24 (sg_24 G h0 a _ _ _ _ _) rfl 7 (by decide) (hq _ pw_72) (fun _ h9 => h9) rfl dX0_endMethod_27 ?_
      refine p_get (v := .ref b0) (C := RX6) (Tc := TX6) (N := 12) (ci := 12) hx hb hq pin_wsX60 hown hE hP hO (by rw [hm0]; decide) (rep_3 hm0) rfl 5 (by decide) (hq _ pw_359) (fun _ h9 => h9) (congrArg (fun z => some (va_rf z)) hb0) dX0_endMethod_30 ?_
      refine p_get (v := .int (K.2.1 4 b0)) (C := RX7) (Tc := TX7) (N := 11) (ci := 13) hx hb hq pin_wsX70 hown hE hP hO (by rw [hbT]; decide) (rep_1 hbT) rfl 4 (by decide) (hq _ pw_171) (fun _ h9 => h9) rfl dX0_endMethod_33 ?_
      have hO : OKW G h0 a (upd (upd (upd (upd (upd (upd (upd F 2 (nI sz)) 5 (nI cs)) 6 (nI rg)) 7 (nI hd)) 8 (nI dp)) 13 as9) 2 (nI sz)) (updR R 3 (.ref m0)) Z B J K.1 (fun q99 x99 => x99 = rep G a K q99) w := hO.to rfl
      obtain ⟨_, qr76, hqr77⟩ := hO.2.1 2 _ (sg_2 G h0 a _ _ _ _ _)
      refine pn_V0 (G := G) (As := [.int 15, .int (K.2.1 4 b0)]) (rest := []) hx hb hml hown hq hE hX pX0_al hP hD hS hA hl.1 (K_fail l G h0 a (upd (upd (upd (upd (upd (upd F 2 (nI sz)) 5 (nI cs)) 6 (nI rg)) 7 (nI hd)) 8 (nI dp)) 13 as9) (updR R 3 (.ref m0)) Z B J K.1 (fun q99 x99 => x99 = rep G a K q99) w 15 (K.2.1 4 b0) sz (by omega) hO hl0) (gV pw_64 pw_65 pw_66 pw_59 pw_43) hV_X10_fail qr76 7 hqr77 rfl rfl rfl (Nat.le_of_ble_eq_true rfl) dX0_endMethod_36 ⟨(by show 0 + 1 ≤ 1; omega), (by show 0 + 6 ≤ 6; omega)⟩ ⟨Nat.le_of_ble_eq_true rfl, Nat.le_of_ble_eq_true rfl⟩ (fun v75 u73 H locs hw74 hP hD hS => hw74.elim) (fun ux ce9 q9 H9 locs9 hux hP9 hD9 hS9 hce hcv hcl => pb_out ux (ThQ.up (Thx.same Thx.rfl rfl) RhX.rfl hux) hnt hlocks hce hcv hcl hP9 hD9 hS9 (by show 0 + 1 ≤ 1; omega) (by show 0 + 6 ≤ 6; omega))
