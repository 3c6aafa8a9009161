set_option maxHeartbeats 60000000 in
set_option maxRecDepth 100000 in
theorem N_layOut (l : Launch) (G : pT) (h0 : Nat) (a : Nat → Nat) (F : Nat → Int32) (R : Nat → Value) (Z : Int64) (B : Nat → Nat → Int32) (J : Nat → Nat → Int64) (K : PK) (w : va_W) (pq : Nat) (dr : Nat) (ml : Nat) (nd : Nat) (nm : Nat) (cp : Nat) (it : Nat → Nat) (s9 : Nat) (sz : Nat) (u9 : Nat) (rk : Nat → Nat) (f8 : Nat → Nat) (f9 : Nat → Nat) (er : Nat → Option Nat) (g : Nat → Nat → Nat) (hsz : sz ≤ 5000) (hly : LyB G K g rk f8 f9 er (a 1) pq dr ml nd nm cp it s9 0) (hs9 : s9 ≤ 5000) (hu9 : u9 = 80 + 8 * s9) (hfu : FuO G K) (hO : OKP G h0 a (upd F 2 (nI sz)) R Z B J K w) (hl0 : l.stackTraces = false) : PBn l G pX0 yX9_layOut cX9_layOut 4 none ({ frames := 9, cells := (37 * s9 + 5), slots := (37 * u9 + 15 * s9 + 2000), locals := 214 }) [.ref pq] w (fun (v : Option Value) (u : va_W × (PK)) => v = none ∧ (LyB G u.2 g rk f8 f9 er (a 1) pq dr ml nd nm cp it s9 nd) ∧ (LyS g K u.2) ∧ (SlA G K u.2 dr nd) ∧ (KnA G K u.2 dr nd nd) ∧ (RsA G K u.2 dr (B 11) sz nd) ∧ (OKP G h0 a (upd F 2 (nI sz)) R Z B J u.2 u.1)) (fun u => u.1) (fun (u : va_W × (PK)) => (37 * s9)) (fun (u : va_W × (PK)) => (37 * u9)) (fun (u : va_W × (Nat → Int32) × (Nat → Value) × (Nat → Nat → Int32)) => ThQ G h0 a (upd F 2 (nI sz)) R Z B J u) (fun u => u.1) := by
  intro sz
  refine vx_ofW (cc := cX9_layOut) (maxL := 4) (ret := none) (by decide) rfl ?_
  intro p e s m args below meth c s₁ B9 hml hnt hv
  obtain ⟨rfl, hsz, hP, hD0, hE, hX⟩ := hv
  have hx := B9.exec
  have hb := B9.bytes
  have hr := B9.returns
  have hts := atoms_spec (ws := Cond.code yX9_layOut cX9_layOut 4 none :: pw) B9.pre
  have hq : ∀ w ∈ pw, w.before _ s = true := fun w h => hts w (List.mem_cons_of_mem _ h)
  have hown : s.vm.findClass RX9 = some m.cls := findClass_of_methodNamed B9.named
  have hlocks := B9.notSynchronized
  subst hsz
  have hD := hD0.self (sz := s.heap.size)
  have hA : ∀ q : Nat, s.heap.size ≤ q → va_A w s.heap.size q := fun q h => Or.inr h
  generalize va_A w s.heap.size = A at hD hE hA ⊢
  have hS : va_S A s.heap s.heap [] := va_S.rf
  have hl := lv_entry ([.ref pq]) (n := 4) (Nat.le_of_ble_eq_true rfl)
  rw [lg_entry_eq]
  generalize (lg_sl ([.ref pq]) ++ List.replicate (4 - (lg_sl ([.ref pq])).length) Slot.unset).toArray = ls at hl ⊢
  have hl : lv_has ls 4 [(0, .ref pq)] := hl
  have hsm := LyB.sum hly
  have hpx := hly.2.1.1
  have hp1 := hpx.1
  have hp2 := hpx.2.1
  have hp3 := hpx.2.2.1
  have hp4 := hpx.2.2.2.1
  have hp5 := hpx.2.2.2.2.1
  have hp6 := hpx.2.2.2.2.2.1
  have hp8 := hpx.2.2.2.2.2.2.2.1
  have hp9 := hpx.2.2.2.2.2.2.2.2
  refine lv_iconst (v := 0) hx hb dX9_layOut_0 (by decide) ?_
  refine lv_istore_n (lv' := [(1, .int 0), (0, .ref pq)]) hx hb dX9_layOut_1 rfl hl (by decide) rfl (fun ls hl => ?_)
  have loop_2 : ∀ (n_2 : Nat) (i2 : Nat) (K2 : PK) (H : Heap) (locs : List Loc) (ls : Array Slot) (w : va_W), i2 ≤ nd → nd + 1 ≤ i2 + n_2 → (LyB G K2 g rk f8 f9 er (a 1) pq dr ml nd nm cp it s9 i2) → (LyS g K K2) → (SlA G K K2 dr i2) → (KnA G K K2 dr nd i2) → (RsA G K K2 dr (B 11) sz i2) → va_P G.1 pCl w H → va_D A w → va_S A s.heap H locs → OKP G h0 a (upd F 2 (nI sz)) R Z B J K2 w → lv_has ls 4 [(1, .int (nI i2)), (0, .ref pq)] → W p l e (headSpec (Cond.code yX9_layOut cX9_layOut 4 none :: pw) ({ frames := 9, cells := (37 * s9 + 5), slots := (37 * u9 + 15 * s9 + 2000), locals := 214 } : Room)).room s m ([.ref pq] : List Value).toArray below meth c H locs (i2 * s9) (i2 * u9) (vx_MQ below (pQn G A (fun (v : Option Value) (u : va_W × (PK)) => v = none ∧ (LyB G u.2 g rk f8 f9 er (a 1) pq dr ml nd nm cp it s9 nd) ∧ (LyS g K u.2) ∧ (SlA G K u.2 dr nd) ∧ (KnA G K u.2 dr nd nd) ∧ (RsA G K u.2 dr (B 11) sz nd) ∧ (OKP G h0 a (upd F 2 (nI sz)) R Z B J u.2 u.1)) (fun u => u.1) (fun (u : va_W × (PK)) => (37 * s9)) (fun (u : va_W × (PK)) => (37 * u9))) (pXX G A (fun (u : va_W × (Nat → Int32) × (Nat → Value) × (Nat → Nat → Int32)) => ThQ G h0 a (upd F 2 (nI sz)) R Z B J u) (fun u => u.1)) ([.ref pq] : List Value).toArray s ({ frames := 9, cells := (37 * s9 + 5), slots := (37 * u9 + 15 * s9 + 2000), locals := 214 } : Room).cells ({ frames := 9, cells := (37 * s9 + 5), slots := (37 * u9 + 15 * s9 + 2000), locals := 214 } : Room).slots A) (F0 m 2 ls []) := by
    intro n_2
    induction n_2 with
    | zero => intro i2 K2 H locs ls w hk_2 hn_2; omega
    | succ n_2 ih_2 =>
      intro i2 K2 H locs ls w hk_2 hn_2 hly2 hlz2 hsl2 hkn2 hrs2 hP hD hS hO hl
      have hpx := hly2.2.1.1
      have hp1 := hpx.1
      have hp2 := hpx.2.1
      have hp3 := hpx.2.2.1
      have hp4 := hpx.2.2.2.1
      have hp5 := hpx.2.2.2.2.1
      have hp6 := hpx.2.2.2.2.2.1
      have hp8 := hpx.2.2.2.2.2.2.2.1
      have hp9 := hpx.2.2.2.2.2.2.2.2
      refine lv_iload_n hx hb dX9_layOut_2 rfl (lv_at hl 0 rfl) ?_
      refine lv_aload_n hx hb dX9_layOut_3 rfl (lv_at hl 1 rfl) ?_
      refine p_get (v := .int (nI nd)) (C := RX9) (Tc := TX9) (N := 5) (ci := 6) hx hb hq pin_wsX90 hown hE hP hO (by rw [hp1]; decide) (rep_7 hp1) rfl 2 (by decide) (hq _ pw_14) (fun _ h9 => h9) (congrArg (fun z => some (Value.int z)) hp8) dX9_layOut_4 ?_
      refine lv_icmp_ge (tgt := 124) hx hb dX9_layOut_7 (by decide) (fun c1 => ?_) (fun c1 => ?_)
      · have n2 : nd ≤ i2 := (nI_leI (a := nd) (b := i2) (by omega) (by omega)).mp c1
        refine W_size (fun hz1 hz2 => ?_)
        refine vx_ret ?_
        have hmx1 : i2 * s9 ≤ 37 * s9 := Nat.mul_le_mul_right _ (by omega)
        have hmx2 : i2 * u9 ≤ 37 * u9 := Nat.mul_le_mul_right _ (by omega)
        have hi9 : i2 = nd := by omega
        have hz3 : LyB G K2 g rk f8 f9 er (a 1) pq dr ml nd nm cp it s9 nd := (LyB.cast (by omega) hly2)
        have hz4 : LyS g K K2 := hlz2
        have hz5 : SlA G K K2 dr nd := (by rw [← hi9]; exact hsl2)
        have hz6 : KnA G K K2 dr nd nd := (KnA.to hi9 hkn2)
        have hz7 : RsA G K K2 dr (B 11) sz nd := (by rw [← hi9]; exact hrs2)
        have hO : OKP G h0 a (upd F 2 (nI sz)) R Z B J K2 w := hO.to rfl
        refine W.widen (k := (37 * s9 + 5)) (n := (37 * u9 + 15 * s9 + 2000)) (by omega) (by omega) ?_
        have hzz1 : H.size ≤ s.heap.size + ((37 * s9)) := (by have z : (i2 * s9) ≤ (37 * s9) := (by omega); omega)
        have hzz2 : hSl H ≤ hSl s.heap + ((37 * u9)) := (by have z : (i2 * u9) ≤ (37 * u9) := (by omega); omega)
        exact W.vret hx hb hr (fun t99 ht99 hW99 => ⟨⟨_, (w, K2), rfl, ⟨rfl, hz3, hz4, hz5, hz6, hz7, hO⟩, by rw [ht99]; exact hP, hD, by rw [ht99]; exact hzz1, by rw [ht99]; exact hzz2⟩, hS.F ht99⟩) hS.2.2 dX9_layOut_124
      · have n8 : ¬ (nd ≤ i2) := fun h9 => c1 ((nI_leI (a := nd) (b := i2) (by omega) (by omega)).mpr h9)
        refine lv_aload_n hx hb dX9_layOut_10 rfl (lv_at hl 1 rfl) ?_
        refine p_get (v := .ref dr) (C := RX9) (Tc := TX9) (N := 5) (ci := 6) hx hb hq pin_wsX90 hown hE hP hO (by rw [hp1]; decide) (rep_7 hp1) rfl 1 (by decide) (hq _ pw_15) (fun _ h9 => h9) (congrArg (fun z => some (va_rf z)) hp3) dX9_layOut_11 ?_
        refine lv_iload_n hx hb dX9_layOut_14 rfl (lv_at hl 0 rfl) ?_
        refine p_ald8 hx hb hE hP hO hp4 (vp_in_nI (by omega) (by omega)) dX9_layOut_15 ?_
        rw [nI_clamp (show i2 < 2 ^ 31 by omega)]
        obtain ⟨dA, heA, htA, hnA, hgA⟩ := hly2.2.1.2.1 i2 (by omega)
        have hrA : er i2 = some dA := by rw [← hly2.2.2.2.2.1]; exact heA
        rw [heA]
        refine W.eq (g2 := F0 m 16 ls [.ref dA]) rfl ?_
        have hrA0 : K.2.2.2.2.1 dr i2 = some dA := by rw [hly.2.2.2.2.1]; exact hrA
        have htA0 : K.1 dA = 4 := by obtain ⟨dz, z1, z2, _⟩ := hly.2.1.2.1 i2 (by omega); rw [hrA0] at z1; cases z1; exact z2
        obtain ⟨ll, lk, cl0, ck0, il0, ik0, hl1, hl2, hl3, hl4, hl5, hk1, hk2, hk3, hk4, hk5⟩ := LyB.lists hly2 (by omega) hrA htA
        have hmx1 : i2 * s9 ≤ 36 * s9 := Nat.mul_le_mul_right _ (by omega)
        have hmx2 : i2 * u9 ≤ 36 * u9 := Nat.mul_le_mul_right _ (by omega)
        have hft := sumN_term (ff := f9) (n := nd) (j := i2) (by omega)
        refine lv_astore_n (lv' := [(2, .ref dA), (1, .int (nI i2)), (0, .ref pq)]) hx hb dX9_layOut_16 rfl hl (by decide) rfl (fun ls hl => ?_)
        refine lv_aload_n hx hb dX9_layOut_17 rfl (lv_at hl 2 rfl) ?_
        refine lv_aload_n hx hb dX9_layOut_18 rfl (lv_at hl 0 rfl) ?_
        have hO : OKP G h0 a (upd F 2 (nI sz)) R Z B J K2 w := hO.to rfl
        obtain ⟨qr13, hqr14⟩ := p_recv hO (by rw [hp1]; decide) (rep_7 hp1)
        refine pn_V0 (G := G) (As := [.ref dA]) (rest := []) hx hb hml hown hq hE hX pX0_al hP hD hS hA hl.1 (N_layFields l G h0 a (upd F 2 (nI sz)) R Z B J K2 w pq dr ml nd nm cp it s9 dA i2 ll lk cl0 ck0 il0 ik0 rk f8 f9 er g K (LyB.up hly2) (by omega) hrA htA hl1 hl2 hl3 hl4 hl5 hk4 hk2 hk1 hs9 hlz2 hly.1 hfu htA0 hO hl0) (gV pw_1180 pw_1181 pw_1182 pw_106 pw_1174) hV_X9_layFields qr13 6 hqr14 rfl rfl rfl (Nat.le_of_ble_eq_true rfl) dX9_layOut_19 ⟨(by show (i2 * s9) + (s9 / 2 + 1) ≤ (37 * s9 + 5); omega), (by show (i2 * u9) + (60 + 5 * s9) ≤ (37 * u9 + 15 * s9 + 2000); omega)⟩ ⟨Nat.le_of_ble_eq_true rfl, Nat.le_of_ble_eq_true rfl⟩ (fun v12 u10 H locs hw11 hP hD hS => ?_) (fun ux ce9 q9 H9 locs9 hux hP9 hD9 hS9 hce hcv hcl => pb_out ux (ThQ.up Thx.rfl RhX.rfl hux) hnt hlocks hce hcv hcl hP9 hD9 hS9 (by show (i2 * s9) + (s9 / 2 + 1) ≤ (37 * s9 + 5); omega) (by show (i2 * u9) + (60 + 5 * s9) ≤ (37 * u9 + 15 * s9 + 2000); omega))
        obtain ⟨w, K15, nl16, cl17, it18⟩ := u10
        obtain ⟨hw11, h19, h20, h21, h22, h23, h24, h25, h26, h27, h28, h29, hO⟩ := hw11
        have h19 : LyB G K15 g rk f8 f9 er (a 1) pq dr ml nd nm cp it s9 (i2 + 1) := h19
        have h20 : LsC G K15 ll 1 nl16 it18 cl17 := h20
        have h21 : 2 * nl16 ≤ s9 := h21
        have h22 : cl17 ≤ 10 + 2 * nl16 := h22
        have h23 : LsC G K15 lk 3 0 ik0 ck0 := h23
        have h24 : K15.1 dA = 4 := h24
        have h25 : K15.2.2.1 12 dA = some lk := h25
        have h26 : cl0 ≤ cl17 := h26
        have h27 : LyS g K K15 := h27
        have h28 : ∃ f : Nat, LyP G K f dA nl16 it18 := h28
        have h29 : LyU G ll K2 K15 nl16 it18 := h29
        obtain rfl : v12 = none := hw11
        have hO : OKP G h0 a (upd F 2 (nI sz)) R Z B J K15 w := hO.to rfl
        refine W.widen (k := ((i2 * s9) + nl16)) (n := ((i2 * u9) + (4 * (cl17 - cl0)))) (by show (i2 * s9) + nl16 ≤ ((i2 * s9) + nl16); omega) (by show (i2 * u9) + (4 * (cl17 - cl0)) ≤ ((i2 * u9) + (4 * (cl17 - cl0))); omega) ?_
        refine W.eq (g2 := F0 m 22 ls []) rfl ?_
        have hll0 : K.2.2.1 11 dA = some ll := (LyS.C hlz2 htA0 (by decide) (by decide) (by decide) 11).symm.trans hl1
        have hsa : SlA G K K15 dr (i2 + 1) := SlA.lay hsl2 hly.1 hly.2.1.2.1 (by omega) hfu h29 h28 h20 hrA0 hll0 hl3 (by omega)
        have hka : KnA G K K15 dr nd i2 := KnA.lyu hkn2 hly.1 hly.2.1.2.1 h29 hl2
        have hra : RsA G K K15 dr (B 11) sz i2 := RsA.lyu hrs2 hlz2 h29
        have hpy := h19.2.1.1
        have hp1 := hpy.1
        have hp2 := hpy.2.1
        have hp3 := hpy.2.2.1
        have hp4 := hpy.2.2.2.1
        have hp5 := hpy.2.2.2.2.1
        have hp6 := hpy.2.2.2.2.2.1
        have hp8 := hpy.2.2.2.2.2.2.2.1
        have hp9 := hpy.2.2.2.2.2.2.2.2
        refine lv_aload_n hx hb dX9_layOut_22 rfl (lv_at hl 2 rfl) ?_
        refine lv_aload_n hx hb dX9_layOut_23 rfl (lv_at hl 0 rfl) ?_
        refine lv_aload_n hx hb dX9_layOut_24 rfl (lv_at hl 0 rfl) ?_
        have hO : OKP G h0 a (upd F 2 (nI sz)) R Z B J K15 w := hO.to rfl
        obtain ⟨qr33, hqr34⟩ := p_recv hO (by rw [hp1]; decide) (rep_7 hp1)
        refine pn_V0 (G := G) (As := [.ref dA, .ref dA]) (rest := []) hx hb hml hown hq hE hX pX0_al hP hD hS hA hl.1 (N_learn l G h0 a (upd F 2 (nI sz)) R Z B J K15 w pq dr ml nd nm cp it s9 dA i2 lk 0 ck0 dA i2 ik0 rk f8 f9 er g K h19 h23 (by omega) h24 h25 (by omega) hrA hk2 hk3 hs9 h24 (by omega) hrA (by omega) h27 hly.1 htA0 hO hl0) (gV pw_1183 pw_1184 pw_1185 pw_106 pw_1178) hV_X9_learnMethods qr33 6 hqr34 rfl rfl rfl (Nat.le_of_ble_eq_true rfl) dX9_layOut_25 ⟨(by show ((i2 * s9) + nl16) + (f9 i2 + 1) ≤ (37 * s9 + 5); omega), (by show ((i2 * u9) + (4 * (cl17 - cl0))) + (10 * 0 + 500) ≤ (37 * u9 + 15 * s9 + 2000); omega)⟩ ⟨Nat.le_of_ble_eq_true rfl, Nat.le_of_ble_eq_true rfl⟩ (fun v32 u30 H locs hw31 hP hD hS => ?_) (fun ux ce9 q9 H9 locs9 hux hP9 hD9 hS9 hce hcv hcl => pb_out ux (ThQ.up Thx.rfl RhX.rfl hux) hnt hlocks hce hcv hcl hP9 hD9 hS9 (by show ((i2 * s9) + nl16) + (f9 i2 + 1) ≤ (37 * s9 + 5); omega) (by show ((i2 * u9) + (4 * (cl17 - cl0))) + (10 * 0 + 500) ≤ (37 * u9 + 15 * s9 + 2000); omega))
        obtain ⟨w, K35, nk36, ck37, itk38⟩ := u30
        obtain ⟨hw31, h39, h40, h41, h42, h43, h44, h45, h46, h47, h48, h49, hO⟩ := hw31
        have h39 : LyB G K35 g rk f8 f9 er (a 1) pq dr ml nd nm cp it s9 (i2 + 1) := h39
        have h40 : LsC G K35 lk 3 nk36 itk38 ck37 := h40
        have h41 : ck37 ≤ 10 + 2 * nk36 := h41
        have h42 : K35.1 dA = 4 := h42
        have h43 : K35.2.2.1 12 dA = some lk := h43
        have h44 : nk36 ≤ 0 + f9 i2 ∧ 0 ≤ nk36 := h44
        have h45 : K35.1 dA = 4 := h45
        have h46 : ck0 ≤ ck37 := h46
        have h47 : LyS g K K35 := h47
        have h48 : LyT G lk K15 K35 := h48
        have h49 : ∀ i : Nat, i < nk36 → (∃ j : Nat, j < 0 ∧ ik0 j = itk38 i) ∨ MeI G K dA (itk38 i) := h49
        obtain rfl : v32 = none := hw31
        have hO : OKP G h0 a (upd F 2 (nI sz)) R Z B J K35 w := hO.to rfl
        refine W.widen (k := (((i2 * s9) + nl16) + (nk36 - 0))) (n := (((i2 * u9) + (4 * (cl17 - cl0))) + (4 * (ck37 - ck0)))) (by show ((i2 * s9) + nl16) + (nk36 - 0) ≤ (((i2 * s9) + nl16) + (nk36 - 0)); omega) (by show ((i2 * u9) + (4 * (cl17 - cl0))) + (4 * (ck37 - ck0)) ≤ (((i2 * u9) + (4 * (cl17 - cl0))) + (4 * (ck37 - ck0))); omega) ?_
        refine W.eq (g2 := F0 m 28 ls []) rfl ?_
        have hsl50 : SlA G K K35 dr (i2 + 1) := SlA.lyt hsa hly.1 hly.2.1.2.1 h27 h48 hk2
        have hkn51 : KnA G K K35 dr nd i2 := KnA.lyt hka hly.1 hly.2.1.2.1 (by omega) h48 hrA0 hk3
        have hrs52 : RsA G K K35 dr (B 11) sz i2 := RsA.lyt hra h27 h48
        have hkc53 : ∀ i : Nat, i < nk36 → KnE G K dr nd i2 dA (itk38 i) := KnE.all (fun i h => absurd h (by omega)) h49 ⟨i2, by omega, hrA0, Or.inl rfl⟩
        have hpz54 := h39.2.1.1
        have hp1 := hpz54.1
        have hp2 := hpz54.2.1
        have hp3 := hpz54.2.2.1
        have hp4 := hpz54.2.2.2.1
        have hp5 := hpz54.2.2.2.2.1
        have hp6 := hpz54.2.2.2.2.2.1
        have hp8 := hpz54.2.2.2.2.2.2.2.1
        have hp9 := hpz54.2.2.2.2.2.2.2.2
        refine lv_iconst (v := 0) hx hb dX9_layOut_28 (by decide) ?_
        refine lv_istore_n (lv' := [(3, .int 0), (2, .ref dA), (1, .int (nI i2)), (0, .ref pq)]) hx hb dX9_layOut_29 rfl hl (by decide) rfl (fun ls hl => ?_)
        have loop_3 : ∀ (n_3 : Nat) (u3 : Nat) (K3 : PK) (nk3 : Nat) (ck3 : Nat) (itk3 : Nat → Nat) (H : Heap) (locs : List Loc) (ls : Array Slot) (w : va_W), u3 ≤ nd → nd + 1 ≤ u3 + n_3 → (LyB G K3 g rk f8 f9 er (a 1) pq dr ml nd nm cp it s9 (i2 + 1)) → (LsC G K3 lk 3 nk3 itk3 ck3) → (ck3 ≤ 10 + 2 * nk3) → (K3.1 dA = 4) → (K3.2.2.1 12 dA = some lk) → (nk3 ≤ f9 i2 + sumN f9 u3 ∧ ck0 ≤ ck3) → (LyS g K K3) → (SlA G K K3 dr (i2 + 1)) → (KnA G K K3 dr nd i2) → (RsA G K K3 dr (B 11) sz i2) → (∀ i : Nat, i < nk3 → KnE G K dr nd i2 dA (itk3 i)) → va_P G.1 pCl w H → va_D A w → va_S A s.heap H locs → OKP G h0 a (upd F 2 (nI sz)) R Z B J K3 w → lv_has ls 4 [(3, .int (nI u3)), (2, .ref dA), (1, .int (nI i2)), (0, .ref pq)] → W p l e (headSpec (Cond.code yX9_layOut cX9_layOut 4 none :: pw) ({ frames := 9, cells := (37 * s9 + 5), slots := (37 * u9 + 15 * s9 + 2000), locals := 214 } : Room)).room s m ([.ref pq] : List Value).toArray below meth c H locs (i2 * s9 + s9 / 2 + nk3) (i2 * u9 + 40 + 4 * s9 + 4 * (ck3 - ck0)) (vx_MQ below (pQn G A (fun (v : Option Value) (u : va_W × (PK)) => v = none ∧ (LyB G u.2 g rk f8 f9 er (a 1) pq dr ml nd nm cp it s9 nd) ∧ (LyS g K u.2) ∧ (SlA G K u.2 dr nd) ∧ (KnA G K u.2 dr nd nd) ∧ (RsA G K u.2 dr (B 11) sz nd) ∧ (OKP G h0 a (upd F 2 (nI sz)) R Z B J u.2 u.1)) (fun u => u.1) (fun (u : va_W × (PK)) => (37 * s9)) (fun (u : va_W × (PK)) => (37 * u9))) (pXX G A (fun (u : va_W × (Nat → Int32) × (Nat → Value) × (Nat → Nat → Int32)) => ThQ G h0 a (upd F 2 (nI sz)) R Z B J u) (fun u => u.1)) ([.ref pq] : List Value).toArray s ({ frames := 9, cells := (37 * s9 + 5), slots := (37 * u9 + 15 * s9 + 2000), locals := 214 } : Room).cells ({ frames := 9, cells := (37 * s9 + 5), slots := (37 * u9 + 15 * s9 + 2000), locals := 214 } : Room).slots A) (F0 m 30 ls []) := by
          intro n_3
          induction n_3 with
          | zero => intro u3 K3 nk3 ck3 itk3 H locs ls w hk_3 hn_3; omega
          | succ n_3 ih_3 =>
            intro u3 K3 nk3 ck3 itk3 H locs ls w hk_3 hn_3 hly3 hlk3 hcb3 hd3 hck3 hn3 hlz3 hsl3 hkn3 hrs3 hkc3 hP hD hS hO hl
            have hpx3 := hly3.2.1.1
            have hp1 := hpx3.1
            have hp2 := hpx3.2.1
            have hp3 := hpx3.2.2.1
            have hp4 := hpx3.2.2.2.1
            have hp5 := hpx3.2.2.2.2.1
            have hp6 := hpx3.2.2.2.2.2.1
            have hp8 := hpx3.2.2.2.2.2.2.2.1
            have hp9 := hpx3.2.2.2.2.2.2.2.2
            have hsu := sumN_pre (ff := f9) (n := nd) (k := u3) (by omega)
            refine lv_iload_n hx hb dX9_layOut_30 rfl (lv_at hl 0 rfl) ?_
            refine lv_aload_n hx hb dX9_layOut_31 rfl (lv_at hl 3 rfl) ?_
            refine p_get (v := .int (nI nd)) (C := RX9) (Tc := TX9) (N := 5) (ci := 6) hx hb hq pin_wsX90 hown hE hP hO (by rw [hp1]; decide) (rep_7 hp1) rfl 2 (by decide) (hq _ pw_14) (fun _ h9 => h9) (congrArg (fun z => some (Value.int z)) hp8) dX9_layOut_32 ?_
            refine lv_icmp_ge (tgt := 64) hx hb dX9_layOut_35 (by decide) (fun c55 => ?_) (fun c55 => ?_)
            · have n56 : nd ≤ u3 := (nI_leI (a := nd) (b := u3) (by omega) (by omega)).mp c55
              obtain ⟨lm, hflm, htlm, hrlm, holm⟩ := (hly3.1.2.2.1 dA hd3).2.1
              obtain ⟨nlm, itlm, cplm, hlclm, hnblm, _⟩ := hly3.1.2.1 lm htlm
              rw [hrlm] at hlclm hnblm
              have hlclm : LsC G K3 lm 3 nlm itlm cplm := hlclm
              have hnblm : nlm ≤ 30 := hnblm
              obtain ⟨cp0, itm0, hflm0, hlclm0, hitm⟩ := LyS.back hlz3 hly.1 htA0 (hly.1.2.2.1 dA htA0).2.1 (by decide) hflm (show LsC G K3 lm (esr 2) nlm itlm cplm from hlclm)
              have hkd0 : K.2.2.1 12 dA = some lk := (LyS.C hlz3 htA0 (by decide) (by decide) (by decide) 12).symm.trans hck3
              have hknS := KnA.suc hkn3 hrA0 hkd0 hlk3 hkc3
              refine lv_iconst (v := 0) hx hb dX9_layOut_64 (by decide) ?_
              refine lv_istore_n (lv' := [(3, .int 0), (2, .ref dA), (1, .int (nI i2)), (0, .ref pq)]) hx hb dX9_layOut_65 rfl hl (by decide) rfl (fun ls hl => ?_)
              have loop_4 : ∀ (n_4 : Nat) (u4 : Nat) (K4 : PK) (H : Heap) (locs : List Loc) (ls : Array Slot) (w : va_W), u4 ≤ nlm → nlm + 1 ≤ u4 + n_4 → (LyB G K4 g rk f8 f9 er (a 1) pq dr ml nd nm cp it s9 (i2 + 1)) → (K4.1 dA = 4) → (K4.2.2.1 9 dA = some lm) → (LsC G K4 lm 3 nlm itlm cplm) → (LyS g K K4) → (SlA G K K4 dr (i2 + 1)) → (KnA G K K4 dr nd (i2 + 1)) → (RsA G K K4 dr (B 11) sz i2) → (∀ a : Nat, a < u4 → K4.2.1 10 (itm0 a) = tkN (B 11) sz 63 (K.2.1 8 (itm0 a))) → va_P G.1 pCl w H → va_D A w → va_S A s.heap H locs → OKP G h0 a (upd F 2 (nI sz)) R Z B J K4 w → lv_has ls 4 [(3, .int (nI u4)), (2, .ref dA), (1, .int (nI i2)), (0, .ref pq)] → W p l e (headSpec (Cond.code yX9_layOut cX9_layOut 4 none :: pw) ({ frames := 9, cells := (37 * s9 + 5), slots := (37 * u9 + 15 * s9 + 2000), locals := 214 } : Room)).room s m ([.ref pq] : List Value).toArray below meth c H locs (i2 * s9 + s9) (i2 * u9 + u9) (vx_MQ below (pQn G A (fun (v : Option Value) (u : va_W × (PK)) => v = none ∧ (LyB G u.2 g rk f8 f9 er (a 1) pq dr ml nd nm cp it s9 nd) ∧ (LyS g K u.2) ∧ (SlA G K u.2 dr nd) ∧ (KnA G K u.2 dr nd nd) ∧ (RsA G K u.2 dr (B 11) sz nd) ∧ (OKP G h0 a (upd F 2 (nI sz)) R Z B J u.2 u.1)) (fun u => u.1) (fun (u : va_W × (PK)) => (37 * s9)) (fun (u : va_W × (PK)) => (37 * u9))) (pXX G A (fun (u : va_W × (Nat → Int32) × (Nat → Value) × (Nat → Nat → Int32)) => ThQ G h0 a (upd F 2 (nI sz)) R Z B J u) (fun u => u.1)) ([.ref pq] : List Value).toArray s ({ frames := 9, cells := (37 * s9 + 5), slots := (37 * u9 + 15 * s9 + 2000), locals := 214 } : Room).cells ({ frames := 9, cells := (37 * s9 + 5), slots := (37 * u9 + 15 * s9 + 2000), locals := 214 } : Room).slots A) (F0 m 66 ls []) := by
                intro n_4
                induction n_4 with
                | zero => intro u4 K4 H locs ls w hk_4 hn_4; omega
                | succ n_4 ih_4 =>
                  intro u4 K4 H locs ls w hk_4 hn_4 hly4 hd4 hf4 hlm4 hlz4 hsl4 hkn4 hrs4 hrc4 hP hD hS hO hl
                  have hpx4 := hly4.2.1.1
                  have hp1 := hpx4.1
                  have hp2 := hpx4.2.1
                  have hp3 := hpx4.2.2.1
                  have hp4 := hpx4.2.2.2.1
                  have hp5 := hpx4.2.2.2.2.1
                  have hp6 := hpx4.2.2.2.2.2.1
                  have hp8 := hpx4.2.2.2.2.2.2.2.1
                  have hp9 := hpx4.2.2.2.2.2.2.2.2
                  have htm4 := hlm4.1
                  refine lv_iload_n hx hb dX9_layOut_66 rfl (lv_at hl 0 rfl) ?_
                  refine lv_aload_n hx hb dX9_layOut_67 rfl (lv_at hl 1 rfl) ?_
                  refine p_get (v := .ref lm) (C := RX2) (Tc := TX2) (N := 13) (ci := 2) hx hb hq pin_wsX20 hown hE hP hO (by rw [hd4]; decide) (rep_4 hd4) rfl 8 (by decide) (hq _ pw_1093) (fun _ h9 => h9) (congrArg (fun z => some (va_rf z)) hf4) dX9_layOut_68 ?_
                  have hO : OKP G h0 a (upd F 2 (nI sz)) R Z B J K4 w := hO.to rfl
                  obtain ⟨qr60, hqr61⟩ := p_recv hO (by rw [htm4]; decide) (rep_5 htm4)
                  refine pc_V0 (G := G) (As := []) (rest := [.int (nI u4)]) hx hb hml hown hq hE hX pX0_al hP hD hS hA hl.1 (L_size l G h0 a (upd F 2 (nI sz)) R Z B J K4 w lm 3 nlm itlm hlm4.ls hO) (gV pw_516 pw_87 pw_88 pw_32 pw_16) hV_Jx4a65c_size_8abf5 qr60 10 hqr61 rfl rfl rfl (Nat.le_of_ble_eq_true rfl) dX9_layOut_71 ⟨(by show (i2 * s9 + s9) + 0 ≤ (37 * s9 + 5); omega), (by show (i2 * u9 + u9) + 0 ≤ (37 * u9 + 15 * s9 + 2000); omega)⟩ ⟨Nat.le_of_ble_eq_true rfl, Nat.le_of_ble_eq_true rfl⟩ (fun v59 u57 H locs hw58 hP hD hS => ?_)
                  obtain ⟨w, _⟩ := u57
                  obtain ⟨hw58, hO⟩ := hw58
                  obtain rfl : v59 = some (.int (nI nlm)) := hw58
                  have hO : OKP G h0 a (upd F 2 (nI sz)) R Z B J K4 w := hO.to rfl
                  refine W.widen (k := (i2 * s9 + s9)) (n := (i2 * u9 + u9)) (by show (i2 * s9 + s9) + 0 ≤ (i2 * s9 + s9); omega) (by show (i2 * u9 + u9) + 0 ≤ (i2 * u9 + u9); omega) ?_
                  refine W.eq (g2 := F0 m 74 ls [.int (nI nlm), .int (nI u4)]) rfl ?_
                  refine lv_icmp_ge (tgt := 118) hx hb dX9_layOut_74 (by decide) (fun c62 => ?_) (fun c62 => ?_)
                  · have n63 : nlm ≤ u4 := (nI_leI (a := nlm) (b := u4) (by omega) (by omega)).mp c62
                    refine lv_iinc (v := (nI (i2 + 1))) (lv' := [(1, .int (nI (i2 + 1))), (3, .int (nI u4)), (2, .ref dA), (0, .ref pq)]) hx hb dX9_layOut_118 hl (k := 2) rfl (nI_1 i2) (by decide) rfl (fun ls hl => ?_)
                    refine lv_goto (tgt := 2) hx hb dX9_layOut_121 (by decide) ?_
                    have hmu1 : (i2 + 1) * s9 = i2 * s9 + s9 := Nat.succ_mul _ _
                    have hmu2 : (i2 + 1) * u9 = i2 * u9 + u9 := Nat.succ_mul _ _
                    refine W.widen (k := ((i2 + 1) * s9)) (n := ((i2 + 1) * u9)) (by show (i2 * s9 + s9) ≤ _; omega) (by show (i2 * u9 + u9) ≤ _; omega) ?_
                    have hO : OKP G h0 a (upd F 2 (nI sz)) R Z B J K4 w := hO.to rfl
                    exact ih_2 (i2 + 1) K4 _ _ _ _ (by omega) (by omega) hly4 hlz4 hsl4 hkn4 (RsA.suc hrs4 hrA0 hflm0 hlclm0 (fun a ha => hrc4 a (by omega))) hP hD hS hO (lv_sub hl [0, 3] rfl)
                  · have n64 : ¬ (nlm ≤ u4) := fun h9 => c62 ((nI_leI (a := nlm) (b := u4) (by omega) (by omega)).mpr h9)
                    refine lv_aload_n hx hb dX9_layOut_77 rfl (lv_at hl 1 rfl) ?_
                    refine p_get (v := .ref lm) (C := RX2) (Tc := TX2) (N := 13) (ci := 2) hx hb hq pin_wsX20 hown hE hP hO (by rw [hd4]; decide) (rep_4 hd4) rfl 8 (by decide) (hq _ pw_1093) (fun _ h9 => h9) (congrArg (fun z => some (va_rf z)) hf4) dX9_layOut_78 ?_
                    refine lv_iload_n hx hb dX9_layOut_81 rfl (lv_at hl 0 rfl) ?_
                    have hO : OKP G h0 a (upd F 2 (nI sz)) R Z B J K4 w := hO.to rfl
                    obtain ⟨qr68, hqr69⟩ := p_recv hO (by rw [htm4]; decide) (rep_5 htm4)
                    refine pc_V0 (G := G) (As := [.int (nI u4)]) (rest := []) hx hb hml hown hq hE hX pX0_al hP hD hS hA hl.1 (L_get l G h0 a (upd F 2 (nI sz)) R Z B J K4 w lm 3 nlm itlm u4 hlm4.ls (by omega) hO) (gV pw_517 pw_90 pw_91 pw_32 pw_25) hV_Jx4a65c_get_915e3 qr68 10 hqr69 rfl rfl rfl (Nat.le_of_ble_eq_true rfl) dX9_layOut_82 ⟨(by show (i2 * s9 + s9) + 0 ≤ (37 * s9 + 5); omega), (by show (i2 * u9 + u9) + 0 ≤ (37 * u9 + 15 * s9 + 2000); omega)⟩ ⟨Nat.le_of_ble_eq_true rfl, Nat.le_of_ble_eq_true rfl⟩ (fun v67 u65 H locs hw66 hP hD hS => ?_)
                    obtain ⟨w, _⟩ := u65
                    obtain ⟨hw66, hO⟩ := hw66
                    obtain rfl : v67 = some (.ref (itlm u4)) := hw66
                    have hO : OKP G h0 a (upd F 2 (nI sz)) R Z B J K4 w := hO.to rfl
                    refine W.widen (k := (i2 * s9 + s9)) (n := (i2 * u9 + u9)) (by show (i2 * s9 + s9) + 0 ≤ (i2 * s9 + s9); omega) (by show (i2 * u9 + u9) + 0 ≤ (i2 * u9 + u9); omega) ?_
                    refine W.eq (g2 := F0 m 85 ls [.ref (itlm u4)]) rfl ?_
                    have hf70 : K4.1 (itlm u4) = 3 := hlm4.T (by omega)
                    refine p_cast (C := RX6) (Tc := TX6) (N := 12) (ci := 12) hx hb hown (hq _ pw_515) hE hP hO (by rw [hf70]; decide) (rep_3 hf70) rfl dX9_layOut_85 ?_
                    refine lv_aload_n hx hb dX9_layOut_88 rfl (lv_at hl 3 rfl) ?_
                    refine p_get (v := .ref (a 1)) (C := RX9) (Tc := TX9) (N := 5) (ci := 6) hx hb hq pin_wsX90 hown hE hP hO (by rw [hp1]; decide) (rep_7 hp1) rfl 0 (by decide) (hq _ pw_784) (fun _ h9 => h9) (congrArg (fun z => some (va_rf z)) hp2) dX9_layOut_89 ?_
                    refine lv_aload_n hx hb dX9_layOut_92 rfl (lv_at hl 1 rfl) ?_
                    refine p_get (v := .ref lm) (C := RX2) (Tc := TX2) (N := 13) (ci := 2) hx hb hq pin_wsX20 hown hE hP hO (by rw [hd4]; decide) (rep_4 hd4) rfl 8 (by decide) (hq _ pw_1093) (fun _ h9 => h9) (congrArg (fun z => some (va_rf z)) hf4) dX9_layOut_93 ?_
                    refine lv_iload_n hx hb dX9_layOut_96 rfl (lv_at hl 0 rfl) ?_
                    have hO : OKP G h0 a (upd F 2 (nI sz)) R Z B J K4 w := hO.to rfl
                    obtain ⟨qr74, hqr75⟩ := p_recv hO (by rw [htm4]; decide) (rep_5 htm4)
                    refine pc_V0 (G := G) (As := [.int (nI u4)]) (rest := [.ref (a 1), .ref (itlm u4)]) hx hb hml hown hq hE hX pX0_al hP hD hS hA hl.1 (L_get l G h0 a (upd F 2 (nI sz)) R Z B J K4 w lm 3 nlm itlm u4 hlm4.ls (by omega) hO) (gV pw_517 pw_90 pw_91 pw_32 pw_25) hV_Jx4a65c_get_915e3 qr74 10 hqr75 rfl rfl rfl (Nat.le_of_ble_eq_true rfl) dX9_layOut_97 ⟨(by show (i2 * s9 + s9) + 0 ≤ (37 * s9 + 5); omega), (by show (i2 * u9 + u9) + 0 ≤ (37 * u9 + 15 * s9 + 2000); omega)⟩ ⟨Nat.le_of_ble_eq_true rfl, Nat.le_of_ble_eq_true rfl⟩ (fun v73 u71 H locs hw72 hP hD hS => ?_)
                    obtain ⟨w, _⟩ := u71
                    obtain ⟨hw72, hO⟩ := hw72
                    obtain rfl : v73 = some (.ref (itlm u4)) := hw72
                    have hO : OKP G h0 a (upd F 2 (nI sz)) R Z B J K4 w := hO.to rfl
                    refine W.widen (k := (i2 * s9 + s9)) (n := (i2 * u9 + u9)) (by show (i2 * s9 + s9) + 0 ≤ (i2 * s9 + s9); omega) (by show (i2 * u9 + u9) + 0 ≤ (i2 * u9 + u9); omega) ?_
                    refine W.eq (g2 := F0 m 100 ls [.ref (itlm u4), .ref (a 1), .ref (itlm u4)]) rfl ?_
                    have hf76 : K4.1 (itlm u4) = 3 := hlm4.T (by omega)
                    refine p_cast (C := RX6) (Tc := TX6) (N := 12) (ci := 12) hx hb hown (hq _ pw_515) hE hP hO (by rw [hf76]; decide) (rep_3 hf76) rfl dX9_layOut_100 ?_
                    refine p_get (v := .int (K4.2.1 8 (itlm u4))) (C := RX6) (Tc := TX6) (N := 12) (ci := 12) hx hb hq pin_wsX60 hown hE hP hO (by rw [hf76]; decide) (rep_3 hf76) rfl 3 (by decide) (hq _ pw_1143) (fun _ h9 => h9) rfl dX9_layOut_103 ?_
                    have hO : OKW G h0 a (upd (upd F 2 (nI sz)) 2 (nI sz)) R Z B J K4.1 (fun q99 x99 => x99 = rep G a K4 q99) w := hO.to rfl
                    obtain ⟨_, qr80, hqr81⟩ := hO.2.1 2 _ (sg_2 G h0 a _ _ _ _ _)
                    refine pc_V0 (G := G) (As := [.int (K4.2.1 8 (itlm u4))]) (rest := [.ref (itlm u4)]) hx hb hml hown hq hE hX pX0_al hP hD hS hA hl.1 (N_typeAt l G h0 a (upd F 2 (nI sz)) R Z B J K4.1 (fun q99 x99 => x99 = rep G a K4 q99) w (K4.2.1 8 (itlm u4)) sz (by omega) hO) (gV pw_1146 pw_93 pw_94 pw_59 pw_36) hV_X10_typeAt qr80 7 hqr81 rfl rfl rfl (Nat.le_of_ble_eq_true rfl) dX9_layOut_106 ⟨(by show (i2 * s9 + s9) + 0 ≤ (37 * s9 + 5); omega), (by show (i2 * u9 + u9) + 0 ≤ (37 * u9 + 15 * s9 + 2000); omega)⟩ ⟨Nat.le_of_ble_eq_true rfl, Nat.le_of_ble_eq_true rfl⟩ (fun v79 u77 H locs hw78 hP hD hS => ?_)
                    obtain ⟨w, _⟩ := u77
                    obtain ⟨hw78, hO⟩ := hw78
                    obtain rfl : v79 = some (.int (tkN ((B 11)) sz 63 (K4.2.1 8 (itlm u4)))) := hw78
                    have hO : OKP G h0 a (upd F 2 (nI sz)) R Z B J K4 w := hO.to rfl
                    refine W.widen (k := (i2 * s9 + s9)) (n := (i2 * u9 + u9)) (by show (i2 * s9 + s9) + 0 ≤ (i2 * s9 + s9); omega) (by show (i2 * u9 + u9) + 0 ≤ (i2 * u9 + u9); omega) ?_
                    refine W.eq (g2 := F0 m 109 ls [.int (tkN ((B 11)) sz 63 (K4.2.1 8 (itlm u4))), .ref (itlm u4)]) rfl ?_
                    refine p_put (v := .int (tkN ((B 11)) sz 63 (K4.2.1 8 (itlm u4)))) (ty := .int) (C := RX6) (Tc := TX6) (N := 12) (ci := 12) (K' := (kI K4 10 (itlm u4) (tkN ((B 11)) sz 63 (K4.2.1 8 (itlm u4))))) hx hb hq pin_wsX60 tyX6 tyX6_ok nmX6 hown hE hP hD hS hO (by rw [hf76]; decide) (rep_3 hf76) rfl 7 (by decide) (hq _ pw_1179) (fun _ h9 => h9) rfl (by decide +kernel) rfl rfl (Nat.le_of_ble_eq_true rfl) rfl (by rw [rep_3 (show (kI K4 10 (itlm u4) (tkN ((B 11)) sz 63 (K4.2.1 8 (itlm u4)))).1 (itlm u4) = 3 from hf76), pi_10] <;> rfl) (fun p9 hp9 => rep_kI hp9) dX9_layOut_109 (fun H locs w hP hD hS hO => ?_)
                    obtain ⟨K82, hK83⟩ : ∃ z : PK, z = (kI K4 10 (itlm u4) (tkN ((B 11)) sz 63 (K4.2.1 8 (itlm u4)))) := ⟨_, rfl⟩
                    rw [← hK83] at hO
                    have hf84 : K82.1 pq = 7 := (by rw [hK83]; exact hp1)
                    have hf85 : K82.2.2.1 18 pq = some (a 1) := (by rw [hK83]; exact hp2)
                    have hf86 : K82.2.2.1 14 pq = some dr := (by rw [hK83]; exact hp3)
                    have hf87 : K82.1 dr = 8 := (by rw [hK83]; exact hp4)
                    have hf88 : K82.2.2.1 15 pq = some ml := (by rw [hK83]; exact hp5)
                    have hf89 : K82.1 ml = 5 := (by rw [hK83]; exact hp6)
                    have hf90 : K82.2.1 24 pq = (nI nd) := (by rw [hK83]; exact (kI_of (by decide)).trans hp8)
                    have hf91 : K82.1 dA = 4 := (by rw [hK83]; exact hd4)
                    have hf92 : K82.2.2.1 9 dA = some lm := (by rw [hK83]; exact hf4)
                    have hf93 : K82.1 lm = 5 := (by rw [hK83]; exact htm4)
                    have hf94 : K82.1 (itlm u4) = 3 := (by rw [hK83]; exact hf76)
                    have hf95 : K82.2.1 10 (itlm u4) = (tkN ((B 11)) sz 63 (K4.2.1 8 (itlm u4))) := by rw [hK83]; exact kI_eq
                    have hq96 : LyB G K82 g rk f8 f9 er (a 1) pq dr ml nd nm cp it s9 (i2 + 1) := by rw [hK83]; exact LyB.kI hly4 (Or.inr rfl)
                    have hq97 : LsC G K82 lm 3 nlm itlm cplm := by rw [hK83]; exact LsC.kI (by decide) hlm4
                    have hq98 : K82.2.2.1 9 dA = some lm := by rw [hK83]; exact hf4
                    have hvx : (tkN ((B 11)) sz 63 (K4.2.1 8 (itlm u4))) = tkN (B 11) sz 63 (K.2.1 8 (itlm u4)) := by rw [LyS.I hlz4 (show K.1 (itlm u4) = 3 by rw [hitm u4 (by omega)]; exact LsC.T hlclm0 (by omega)) (by decide) (by decide) (by decide) (f := 8) (by decide) (by decide)]
                    have hlz99 : LyS g K K82 := by rw [hK83]; exact LyS.kI10 hlz4 hf76
                    have hsl100 : SlA G K K82 dr (i2 + 1) := by rw [hK83]; exact SlA.kI10 hsl4
                    have hkn101 : KnA G K K82 dr nd (i2 + 1) := by rw [hK83]; exact KnA.kI10 hkn4
                    have hrs102 : RsA G K K82 dr (B 11) sz i2 := by rw [hK83]; exact RsA.put hrs4 hvx
                    have hrc103 : ∀ a : Nat, a < u4 + 1 → K82.2.1 10 (itm0 a) = tkN (B 11) sz 63 (K.2.1 8 (itm0 a)) := by rw [hK83, hitm u4 (by omega)]; exact Rs_put hrc4 (by rw [← hitm u4 (by omega)]; exact hvx)
                    refine lv_iinc (v := (nI (u4 + 1))) (lv' := [(3, .int (nI (u4 + 1))), (2, .ref dA), (1, .int (nI i2)), (0, .ref pq)]) hx hb dX9_layOut_112 hl (k := 0) rfl (nI_1 u4) (by decide) rfl (fun ls hl => ?_)
                    refine lv_goto (tgt := 66) hx hb dX9_layOut_115 (by decide) ?_
                    refine W.widen (k := (i2 * s9 + s9)) (n := (i2 * u9 + u9)) (by show (i2 * s9 + s9) ≤ _; omega) (by show (i2 * u9 + u9) ≤ _; omega) ?_
                    have hO : OKP G h0 a (upd F 2 (nI sz)) R Z B J K82 w := hO.to rfl
                    exact ih_4 (u4 + 1) K82 _ _ _ _ (by omega) (by omega) hq96 hf91 hq98 hq97 hlz99 hsl100 hkn101 hrs102 hrc103 hP hD hS hO (lv_sub hl [0, 1, 2, 3] rfl)
              refine W.widen (k := (i2 * s9 + s9)) (n := (i2 * u9 + u9)) (by show (i2 * s9 + s9 / 2 + nk3) ≤ _; omega) (by show (i2 * u9 + 40 + 4 * s9 + 4 * (ck3 - ck0)) ≤ _; omega) ?_
              have hO : OKP G h0 a (upd F 2 (nI sz)) R Z B J K3 w := hO.to rfl
              exact loop_4 (nlm + 1) 0 K3 _ _ _ _ (by omega) (by omega) hly3 hd3 hflm hlclm hlz3 hsl3 hknS hrs3 (fun a h => absurd h (by omega)) hP hD hS hO (lv_sub hl [0, 1, 2, 3] rfl)
            · have n104 : ¬ (nd ≤ u3) := fun h9 => c55 ((nI_leI (a := nd) (b := u3) (by omega) (by omega)).mpr h9)
              refine lv_aload_n hx hb dX9_layOut_38 rfl (lv_at hl 3 rfl) ?_
              refine lv_iload_n hx hb dX9_layOut_39 rfl (lv_at hl 0 rfl) ?_
              refine lv_iload_n hx hb dX9_layOut_40 rfl (lv_at hl 2 rfl) ?_
              have hO : OKP G h0 a (upd F 2 (nI sz)) R Z B J K3 w := hO.to rfl
              obtain ⟨qr108, hqr109⟩ := p_recv hO (by rw [hp1]; decide) (rep_7 hp1)
              refine pc_V0 (G := G) (As := [.int (nI u3), .int (nI i2)]) (rest := []) hx hb hml hown hq hE hX pX0_al hP hD hS hA hl.1 (G_isAbove l G h0 a (upd F 2 (nI sz)) R Z B J K3 w pq dr ml nd (nI u3) (nI i2) g hly3.2.1.1 hly3.2.1.2.1 hO) (gV pw_107 pw_108 pw_109 pw_106 pw_101) hV_X9_isAbove qr108 6 hqr109 rfl rfl rfl (Nat.le_of_ble_eq_true rfl) dX9_layOut_41 ⟨(by show (i2 * s9 + s9 / 2 + nk3) + 0 ≤ (37 * s9 + 5); omega), (by show (i2 * u9 + 40 + 4 * s9 + 4 * (ck3 - ck0)) + 0 ≤ (37 * u9 + 15 * s9 + 2000); omega)⟩ ⟨Nat.le_of_ble_eq_true rfl, Nat.le_of_ble_eq_true rfl⟩ (fun v107 u105 H locs hw106 hP hD hS => ?_)
              obtain ⟨w, r110⟩ := u105
              obtain ⟨hw106, h111, h112, hO⟩ := hw106
              have h111 : r110 ≤ 1 := h111
              have h112 : AbQ K3 dr nd (nI u3) (nI i2) r110 := h112
              obtain rfl : v107 = some (.int (nI r110)) := hw106
              have hO : OKP G h0 a (upd F 2 (nI sz)) R Z B J K3 w := hO.to rfl
              refine W.widen (k := (i2 * s9 + s9 / 2 + nk3)) (n := (i2 * u9 + 40 + 4 * s9 + 4 * (ck3 - ck0))) (by show (i2 * s9 + s9 / 2 + nk3) + 0 ≤ (i2 * s9 + s9 / 2 + nk3); omega) (by show (i2 * u9 + 40 + 4 * s9 + 4 * (ck3 - ck0)) + 0 ≤ (i2 * u9 + 40 + 4 * s9 + 4 * (ck3 - ck0)); omega) ?_
              refine W.eq (g2 := F0 m 44 ls [.int (nI r110)]) rfl ?_
              have hbq : r110 = 1 ↔ bitL (K.2.2.2.1 dA) u3 := by rw [← LyS.L hlz3 htA0]; exact h112 u3 i2 dA (by omega) (by omega) rfl rfl (by rw [hly3.2.2.2.2.1]; exact hrA)
              refine lv_if_eq (tgt := 58) hx hb dX9_layOut_44 (by decide) (fun c113 => ?_) (fun c113 => ?_)
              · have n114 : r110 = 0 := (nI_eq (a := r110) (b := 0) (by omega) (by omega)).mp c113
                have hsx : sumN f9 (u3 + 1) = sumN f9 u3 + f9 u3 := rfl
                have hn115 : nk3 ≤ f9 i2 + sumN f9 (u3 + 1) ∧ ck0 ≤ ck3 := by omega
                refine lv_iinc (v := (nI (u3 + 1))) (lv' := [(3, .int (nI (u3 + 1))), (2, .ref dA), (1, .int (nI i2)), (0, .ref pq)]) hx hb dX9_layOut_58 hl (k := 0) rfl (nI_1 u3) (by decide) rfl (fun ls hl => ?_)
                refine lv_goto (tgt := 30) hx hb dX9_layOut_61 (by decide) ?_
                refine W.widen (k := (i2 * s9 + s9 / 2 + nk3)) (n := (i2 * u9 + 40 + 4 * s9 + 4 * (ck3 - ck0))) (by show (i2 * s9 + s9 / 2 + nk3) ≤ _; omega) (by show (i2 * u9 + 40 + 4 * s9 + 4 * (ck3 - ck0)) ≤ _; omega) ?_
                have hO : OKP G h0 a (upd F 2 (nI sz)) R Z B J K3 w := hO.to rfl
                exact ih_3 (u3 + 1) K3 nk3 ck3 itk3 _ _ _ _ (by omega) (by omega) hly3 hlk3 (by omega) hd3 hck3 hn115 hlz3 hsl3 hkn3 hrs3 hkc3 hP hD hS hO (lv_sub hl [0, 1, 2, 3] rfl)
              · have n116 : ¬ (r110 = 0) := fun h9 => c113 ((nI_eq (a := r110) (b := 0) (by omega) (by omega)).mpr h9)
                have hbU := hbq.mp (by omega)
                refine lv_aload_n hx hb dX9_layOut_47 rfl (lv_at hl 3 rfl) ?_
                refine lv_aload_n hx hb dX9_layOut_48 rfl (lv_at hl 1 rfl) ?_
                refine lv_aload_n hx hb dX9_layOut_49 rfl (lv_at hl 3 rfl) ?_
                refine p_get (v := .ref dr) (C := RX9) (Tc := TX9) (N := 5) (ci := 6) hx hb hq pin_wsX90 hown hE hP hO (by rw [hp1]; decide) (rep_7 hp1) rfl 1 (by decide) (hq _ pw_15) (fun _ h9 => h9) (congrArg (fun z => some (va_rf z)) hp3) dX9_layOut_50 ?_
                refine lv_iload_n hx hb dX9_layOut_53 rfl (lv_at hl 0 rfl) ?_
                refine p_ald8 hx hb hE hP hO hp4 (vp_in_nI (by omega) (by omega)) dX9_layOut_54 ?_
                rw [nI_clamp (show u3 < 2 ^ 31 by omega)]
                obtain ⟨dU, heU, htU, hnU, hgU⟩ := hly3.2.1.2.1 u3 (by omega)
                have hrU : er u3 = some dU := by rw [← hly3.2.2.2.2.1]; exact heU
                rw [heU]
                refine W.eq (g2 := F0 m 55 ls [.ref dU, .ref dA, .ref pq]) rfl ?_
                have hrU0 : K.2.2.2.2.1 dr u3 = some dU := by rw [hly.2.2.2.2.1]; exact hrU
                have htU0 : K.1 dU = 4 := by obtain ⟨dz, z1, z2, _⟩ := hly.2.1.2.1 u3 (by omega); rw [hrU0] at z1; cases z1; exact z2
                have hsu2 : sumN f9 u3 + f9 u3 ≤ sumN f9 nd := sumN_pre (ff := f9) (k := u3 + 1) (by omega)
                have hO : OKP G h0 a (upd F 2 (nI sz)) R Z B J K3 w := hO.to rfl
                obtain ⟨qr120, hqr121⟩ := p_recv hO (by rw [hp1]; decide) (rep_7 hp1)
                refine pn_V0 (G := G) (As := [.ref dA, .ref dU]) (rest := []) hx hb hml hown hq hE hX pX0_al hP hD hS hA hl.1 (N_learn l G h0 a (upd F 2 (nI sz)) R Z B J K3 w pq dr ml nd nm cp it s9 dA i2 lk nk3 ck3 dU u3 itk3 rk f8 f9 er g K hly3 hlk3 (by omega) hd3 hck3 (by omega) hrA hk2 hk3 hs9 htU (by omega) hrU (by omega) hlz3 hly.1 htU0 hO hl0) (gV pw_1183 pw_1184 pw_1185 pw_106 pw_1178) hV_X9_learnMethods qr120 6 hqr121 rfl rfl rfl (Nat.le_of_ble_eq_true rfl) dX9_layOut_55 ⟨(by show (i2 * s9 + s9 / 2 + nk3) + (f9 u3 + 1) ≤ (37 * s9 + 5); omega), (by show (i2 * u9 + 40 + 4 * s9 + 4 * (ck3 - ck0)) + (10 * nk3 + 500) ≤ (37 * u9 + 15 * s9 + 2000); omega)⟩ ⟨Nat.le_of_ble_eq_true rfl, Nat.le_of_ble_eq_true rfl⟩ (fun v119 u117 H locs hw118 hP hD hS => ?_) (fun ux ce9 q9 H9 locs9 hux hP9 hD9 hS9 hce hcv hcl => pb_out ux (ThQ.up Thx.rfl RhX.rfl hux) hnt hlocks hce hcv hcl hP9 hD9 hS9 (by show (i2 * s9 + s9 / 2 + nk3) + (f9 u3 + 1) ≤ (37 * s9 + 5); omega) (by show (i2 * u9 + 40 + 4 * s9 + 4 * (ck3 - ck0)) + (10 * nk3 + 500) ≤ (37 * u9 + 15 * s9 + 2000); omega))
                obtain ⟨w, K122, nk123, ck124, itk125⟩ := u117
                obtain ⟨hw118, h126, h127, h128, h129, h130, h131, h132, h133, h134, h135, h136, hO⟩ := hw118
                have h126 : LyB G K122 g rk f8 f9 er (a 1) pq dr ml nd nm cp it s9 (i2 + 1) := h126
                have h127 : LsC G K122 lk 3 nk123 itk125 ck124 := h127
                have h128 : ck124 ≤ 10 + 2 * nk123 := h128
                have h129 : K122.1 dA = 4 := h129
                have h130 : K122.2.2.1 12 dA = some lk := h130
                have h131 : nk123 ≤ nk3 + f9 u3 ∧ nk3 ≤ nk123 := h131
                have h132 : K122.1 dU = 4 := h132
                have h133 : ck3 ≤ ck124 := h133
                have h134 : LyS g K K122 := h134
                have h135 : LyT G lk K3 K122 := h135
                have h136 : ∀ i : Nat, i < nk123 → (∃ j : Nat, j < nk3 ∧ itk3 j = itk125 i) ∨ MeI G K dU (itk125 i) := h136
                obtain rfl : v119 = none := hw118
                have hO : OKP G h0 a (upd F 2 (nI sz)) R Z B J K122 w := hO.to rfl
                refine W.widen (k := ((i2 * s9 + s9 / 2 + nk3) + (nk123 - nk3))) (n := ((i2 * u9 + 40 + 4 * s9 + 4 * (ck3 - ck0)) + (4 * (ck124 - ck3)))) (by show (i2 * s9 + s9 / 2 + nk3) + (nk123 - nk3) ≤ ((i2 * s9 + s9 / 2 + nk3) + (nk123 - nk3)); omega) (by show (i2 * u9 + 40 + 4 * s9 + 4 * (ck3 - ck0)) + (4 * (ck124 - ck3)) ≤ ((i2 * u9 + 40 + 4 * s9 + 4 * (ck3 - ck0)) + (4 * (ck124 - ck3))); omega) ?_
                refine W.eq (g2 := F0 m 58 ls []) rfl ?_
                have hsl137 : SlA G K K122 dr (i2 + 1) := SlA.lyt hsl3 hly.1 hly.2.1.2.1 hlz3 h135 hk2
                have hkn138 : KnA G K K122 dr nd i2 := KnA.lyt hkn3 hly.1 hly.2.1.2.1 (by omega) h135 hrA0 hk3
                have hrs139 : RsA G K K122 dr (B 11) sz i2 := RsA.lyt hrs3 hlz3 h135
                have hkc140 : ∀ i : Nat, i < nk123 → KnE G K dr nd i2 dA (itk125 i) := KnE.all hkc3 h136 ⟨u3, by omega, hrU0, Or.inr hbU⟩
                have hpz141 := h126.2.1.1
                have hp1 := hpz141.1
                have hp2 := hpz141.2.1
                have hp3 := hpz141.2.2.1
                have hp4 := hpz141.2.2.2.1
                have hp5 := hpz141.2.2.2.2.1
                have hp6 := hpz141.2.2.2.2.2.1
                have hp8 := hpz141.2.2.2.2.2.2.2.1
                have hp9 := hpz141.2.2.2.2.2.2.2.2
                have hsx : sumN f9 (u3 + 1) = sumN f9 u3 + f9 u3 := rfl
                have hn142 : nk123 ≤ f9 i2 + sumN f9 (u3 + 1) ∧ ck0 ≤ ck124 := by omega
                refine lv_iinc (v := (nI (u3 + 1))) (lv' := [(3, .int (nI (u3 + 1))), (2, .ref dA), (1, .int (nI i2)), (0, .ref pq)]) hx hb dX9_layOut_58 hl (k := 0) rfl (nI_1 u3) (by decide) rfl (fun ls hl => ?_)
                refine lv_goto (tgt := 30) hx hb dX9_layOut_61 (by decide) ?_
                refine W.widen (k := (i2 * s9 + s9 / 2 + nk123)) (n := (i2 * u9 + 40 + 4 * s9 + 4 * (ck124 - ck0))) (by show ((i2 * s9 + s9 / 2 + nk3) + (nk123 - nk3)) ≤ _; omega) (by show ((i2 * u9 + 40 + 4 * s9 + 4 * (ck3 - ck0)) + (4 * (ck124 - ck3))) ≤ _; omega) ?_
                have hO : OKP G h0 a (upd F 2 (nI sz)) R Z B J K122 w := hO.to rfl
                exact ih_3 (u3 + 1) K122 nk123 ck124 itk125 _ _ _ _ (by omega) (by omega) h126 h127 (by omega) h129 h130 hn142 h134 hsl137 hkn138 hrs139 hkc140 hP hD hS hO (lv_sub hl [0, 1, 2, 3] rfl)
        refine W.widen (k := (i2 * s9 + s9 / 2 + nk36)) (n := (i2 * u9 + 40 + 4 * s9 + 4 * (ck37 - ck0))) (by show (((i2 * s9) + nl16) + (nk36 - 0)) ≤ _; omega) (by show (((i2 * u9) + (4 * (cl17 - cl0))) + (4 * (ck37 - ck0))) ≤ _; omega) ?_
        have hO : OKP G h0 a (upd F 2 (nI sz)) R Z B J K35 w := hO.to rfl
        exact loop_3 (nd + 1) 0 K35 nk36 ck37 itk38 _ _ _ _ (by omega) (by omega) h39 h40 (by omega) h42 h43 (by show nk36 ≤ f9 i2 + 0 ∧ ck0 ≤ ck37; omega) h47 hsl50 hkn51 hrs52 hkc53 hP hD hS hO (lv_sub hl [0, 1, 2, 3] rfl)
  refine W.widen (k := (0 * s9)) (n := (0 * u9)) (by show 0 ≤ _; omega) (by show 0 ≤ _; omega) ?_
  have hO : OKP G h0 a (upd F 2 (nI sz)) R Z B J K w := hO.to rfl
  exact loop_2 (nd + 1) 0 K _ _ _ _ (by omega) (by omega) hly LyS.rfl (fun j hj => absurd hj (by omega)) (fun j hj => absurd hj (by omega)) (fun j hj => absurd hj (by omega)) hP hD hS hO (lv_sub hl [0, 1] rfl)
