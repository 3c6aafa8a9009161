set_option maxHeartbeats 40000000 in
set_option maxRecDepth 100000 in
theorem N_learn (l : Launch) (G : pT) (h0 : Nat) (a : Nat → Nat) (F : Nat → Int32) (R : Nat → Value) (Z : Int64) (B : Nat → Nat → Int32) (J : Nat → Nat → Int64) (K : PK) (w : va_W) (pq : Nat) (dr : Nat) (ml : Nat) (nd : Nat) (nm : Nat) (cp : Nat) (it : Nat → Nat) (s9 : Nat) (d0 : Nat) (k0 : Nat) (lk : Nat) (nk : Nat) (ck : Nat) (dh : Nat) (jh : Nat) (itk : Nat → Nat) (rk : Nat → Nat) (f8 : Nat → Nat) (f9 : Nat → Nat) (er : Nat → Option Nat) (g : Nat → Nat → Nat) (K0 : PK) (hly : LyB G K g rk f8 f9 er (a 1) pq dr ml nd nm cp it s9 (k0 + 1)) (hlk : LsC G K lk 3 nk itk ck) (hcb : ck ≤ 10 + 2 * nk) (hd : K.1 d0 = 4) (hck : K.2.2.1 12 d0 = some lk) (hk0 : k0 < nd) (he0 : er k0 = some d0) (hg5 : g 3 lk = 5) (hg4 : g 4 lk = d0) (hs9 : s9 ≤ 5000) (hh : K.1 dh = 4) (hjh : jh < nd) (heh : er jh = some dh) (hnk : nk ≤ 4000) (hz0 : LyS g K0 K) (hw0 : WPr G K0 g) (hh0 : K0.1 dh = 4) (hO : OKP G h0 a F R Z B J K w) (hl0 : l.stackTraces = false) : PBn l G pX0 yX9_learnMethods cX9_learnMethods 4 none ({ frames := 8, cells := (f9 jh + 1), slots := (10 * nk + 500), locals := 191 }) [.ref pq, .ref d0, .ref dh] w (fun (v : Option Value) (u : va_W × (PK × Nat × Nat × (Nat → Nat))) => v = none ∧ (LyB G u.2.1 g rk f8 f9 er (a 1) pq dr ml nd nm cp it s9 (k0 + 1)) ∧ (LsC G u.2.1 lk 3 u.2.2.1 u.2.2.2.2 u.2.2.2.1) ∧ (u.2.2.2.1 ≤ 10 + 2 * u.2.2.1) ∧ (u.2.1.1 d0 = 4) ∧ (u.2.1.2.2.1 12 d0 = some lk) ∧ (u.2.2.1 ≤ nk + f9 jh ∧ nk ≤ u.2.2.1) ∧ (u.2.1.1 dh = 4) ∧ (ck ≤ u.2.2.2.1) ∧ (LyS g K0 u.2.1) ∧ (LyT G lk K u.2.1) ∧ (∀ i : Nat, i < u.2.2.1 → (∃ j : Nat, j < nk ∧ itk j = u.2.2.2.2 i) ∨ MeI G K0 dh (u.2.2.2.2 i)) ∧ (OKP G h0 a F R Z B J u.2.1 u.1)) (fun u => u.1) (fun (u : va_W × (PK × Nat × Nat × (Nat → Nat))) => (u.2.2.1 - nk)) (fun (u : va_W × (PK × Nat × Nat × (Nat → Nat))) => (4 * (u.2.2.2.1 - ck))) (fun (u : va_W × (Nat → Int32) × (Nat → Value) × (Nat → Nat → Int32)) => ThQ G h0 a F R Z B J u) (fun u => u.1) := by
  intro sz
  refine vx_ofW (cc := cX9_learnMethods) (maxL := 4) (ret := none) (by decide) rfl ?_
  intro p e s m args below meth c s₁ B9 hml hnt hv
  obtain ⟨rfl, hsz, hP, hD0, hE, hX⟩ := hv
  have hx := B9.exec
  have hb := B9.bytes
  have hr := B9.returns
  have hts := atoms_spec (ws := Cond.code yX9_learnMethods cX9_learnMethods 4 none :: pw) B9.pre
  have hq : ∀ w ∈ pw, w.before _ s = true := fun w h => hts w (List.mem_cons_of_mem _ h)
  have hown : s.vm.findClass RX9 = some m.cls := findClass_of_methodNamed B9.named
  have hlocks := B9.notSynchronized
  subst hsz
  have hD := hD0.self (sz := s.heap.size)
  have hA : ∀ q : Nat, s.heap.size ≤ q → va_A w s.heap.size q := fun q h => Or.inr h
  generalize va_A w s.heap.size = A at hD hE hA ⊢
  have hS : va_S A s.heap s.heap [] := va_S.rf
  have hl := lv_entry ([.ref pq, .ref d0, .ref dh]) (n := 4) (Nat.le_of_ble_eq_true rfl)
  rw [lg_entry_eq]
  generalize (lg_sl ([.ref pq, .ref d0, .ref dh]) ++ List.replicate (4 - (lg_sl ([.ref pq, .ref d0, .ref dh])).length) Slot.unset).toArray = ls at hl ⊢
  have hl : lv_has ls 4 [(0, .ref pq), (1, .ref d0), (2, .ref dh)] := hl
  obtain ⟨lm, hflm, htlm, hrlm, holm⟩ := (hly.1.2.2.1 dh hh).2.1
  obtain ⟨nlm, itlm, cplm, hlclm, hnblm, _⟩ := hly.1.2.1 lm htlm
  rw [hrlm] at hlclm hnblm
  have hlclm : LsC G K lm 3 nlm itlm cplm := hlclm
  have hnblm : nlm ≤ 30 := hnblm
  have hn9 := LyB.n9 hly hjh heh hflm hlclm
  have hlmk : ¬ lm = lk := fun z => by have z2 := hrlm; rw [z, hg5] at z2; exact absurd z2 (by decide)
  refine lv_iconst (v := 0) hx hb dX9_learnMethods_0 (by decide) ?_
  refine lv_istore_n (lv' := [(3, .int 0), (0, .ref pq), (1, .ref d0), (2, .ref dh)]) hx hb dX9_learnMethods_1 rfl hl (by decide) rfl (fun ls hl => ?_)
  have loop_2 : ∀ (n_2 : Nat) (i2 : Nat) (K2 : PK) (nk2 : Nat) (ck2 : Nat) (itk2 : Nat → Nat) (H : Heap) (locs : List Loc) (ls : Array Slot) (w : va_W), i2 ≤ nlm → nlm + 1 ≤ i2 + n_2 → (LyB G K2 g rk f8 f9 er (a 1) pq dr ml nd nm cp it s9 (k0 + 1)) → (LsC G K2 lk 3 nk2 itk2 ck2) → (ck2 ≤ 10 + 2 * nk2) → (K2.1 d0 = 4) → (K2.2.2.1 12 d0 = some lk) → (nk2 ≤ nk + i2 ∧ nk ≤ nk2 ∧ ck ≤ ck2) → (K2.1 dh = 4) → (K2.2.2.1 9 dh = some lm) → (LsC G K2 lm 3 nlm itlm cplm) → (LyS g K0 K2) → (LyT G lk K K2) → (∀ i : Nat, i < nk2 → (∃ j : Nat, j < nk ∧ itk j = itk2 i) ∨ MeI G K0 dh (itk2 i)) → va_P G.1 pCl w H → va_D A w → va_S A s.heap H locs → OKP G h0 a F R Z B J K2 w → lv_has ls 4 [(3, .int (nI i2)), (2, .ref dh), (1, .ref d0), (0, .ref pq)] → W p l e (headSpec (Cond.code yX9_learnMethods cX9_learnMethods 4 none :: pw) ({ frames := 8, cells := (f9 jh + 1), slots := (10 * nk + 500), locals := 191 } : Room)).room s m ([.ref pq, .ref d0, .ref dh] : List Value).toArray below meth c H locs (nk2 - nk) (4 * (ck2 - ck)) (vx_MQ below (pQn G A (fun (v : Option Value) (u : va_W × (PK × Nat × Nat × (Nat → Nat))) => v = none ∧ (LyB G u.2.1 g rk f8 f9 er (a 1) pq dr ml nd nm cp it s9 (k0 + 1)) ∧ (LsC G u.2.1 lk 3 u.2.2.1 u.2.2.2.2 u.2.2.2.1) ∧ (u.2.2.2.1 ≤ 10 + 2 * u.2.2.1) ∧ (u.2.1.1 d0 = 4) ∧ (u.2.1.2.2.1 12 d0 = some lk) ∧ (u.2.2.1 ≤ nk + f9 jh ∧ nk ≤ u.2.2.1) ∧ (u.2.1.1 dh = 4) ∧ (ck ≤ u.2.2.2.1) ∧ (LyS g K0 u.2.1) ∧ (LyT G lk K u.2.1) ∧ (∀ i : Nat, i < u.2.2.1 → (∃ j : Nat, j < nk ∧ itk j = u.2.2.2.2 i) ∨ MeI G K0 dh (u.2.2.2.2 i)) ∧ (OKP G h0 a F R Z B J u.2.1 u.1)) (fun u => u.1) (fun (u : va_W × (PK × Nat × Nat × (Nat → Nat))) => (u.2.2.1 - nk)) (fun (u : va_W × (PK × Nat × Nat × (Nat → Nat))) => (4 * (u.2.2.2.1 - ck)))) (pXX G A (fun (u : va_W × (Nat → Int32) × (Nat → Value) × (Nat → Nat → Int32)) => ThQ G h0 a F R Z B J u) (fun u => u.1)) ([.ref pq, .ref d0, .ref dh] : List Value).toArray s ({ frames := 8, cells := (f9 jh + 1), slots := (10 * nk + 500), locals := 191 } : Room).cells ({ frames := 8, cells := (f9 jh + 1), slots := (10 * nk + 500), locals := 191 } : Room).slots A) (F0 m 2 ls []) := by
    intro n_2
    induction n_2 with
    | zero => intro i2 K2 nk2 ck2 itk2 H locs ls w hk_2 hn_2; omega
    | succ n_2 ih_2 =>
      intro i2 K2 nk2 ck2 itk2 H locs ls w hk_2 hn_2 hly2 hlk2 hcb2 hd2 hck2 hn2 hh2 hfl2 hlm2 hlz2 hlu2 hkn2 hP hD hS hO hl
      have htl := hlk2.1
      have htm := hlm2.1
      refine lv_iload_n hx hb dX9_learnMethods_2 rfl (lv_at hl 0 rfl) ?_
      refine lv_aload_n hx hb dX9_learnMethods_3 rfl (lv_at hl 1 rfl) ?_
      refine p_get (v := .ref lm) (C := RX2) (Tc := TX2) (N := 13) (ci := 2) hx hb hq pin_wsX20 hown hE hP hO (by rw [hh2]; decide) (rep_4 hh2) rfl 8 (by decide) (hq _ pw_1093) (fun _ h9 => h9) (congrArg (fun z => some (va_rf z)) hfl2) dX9_learnMethods_4 ?_
      have hO : OKP G h0 a F R Z B J K2 w := hO.to rfl
      obtain ⟨qr4, hqr5⟩ := p_recv hO (by rw [htm]; decide) (rep_5 htm)
      refine pc_V0 (G := G) (As := []) (rest := [.int (nI i2)]) hx hb hml hown hq hE hX pX0_al hP hD hS hA hl.1 (L_size l G h0 a F R Z B J K2 w lm 3 nlm itlm hlm2.ls hO) (gV pw_516 pw_87 pw_88 pw_32 pw_16) hV_Jx4a65c_size_8abf5 qr4 10 hqr5 rfl rfl rfl (Nat.le_of_ble_eq_true rfl) dX9_learnMethods_7 ⟨(by show (nk2 - nk) + 0 ≤ (f9 jh + 1); omega), (by show (4 * (ck2 - ck)) + 0 ≤ (10 * nk + 500); omega)⟩ ⟨Nat.le_of_ble_eq_true rfl, Nat.le_of_ble_eq_true rfl⟩ (fun v3 u1 H locs hw2 hP hD hS => ?_)
      obtain ⟨w, _⟩ := u1
      obtain ⟨hw2, hO⟩ := hw2
      obtain rfl : v3 = some (.int (nI nlm)) := hw2
      have hO : OKP G h0 a F R Z B J K2 w := hO.to rfl
      refine W.widen (k := (nk2 - nk)) (n := (4 * (ck2 - ck))) (by show (nk2 - nk) + 0 ≤ (nk2 - nk); omega) (by show (4 * (ck2 - ck)) + 0 ≤ (4 * (ck2 - ck)); omega) ?_
      refine W.eq (g2 := F0 m 10 ls [.int (nI nlm), .int (nI i2)]) rfl ?_
      refine lv_icmp_ge (tgt := 59) hx hb dX9_learnMethods_10 (by decide) (fun c6 => ?_) (fun c6 => ?_)
      · have n7 : nlm ≤ i2 := (nI_leI (a := nlm) (b := i2) (by omega) (by omega)).mp c6
        refine W_size (fun hz1 hz2 => ?_)
        refine vx_ret ?_
        have hz8 : LyB G K2 g rk f8 f9 er (a 1) pq dr ml nd nm cp it s9 (k0 + 1) := hly2
        have hz9 : LsC G K2 lk 3 nk2 itk2 ck2 := hlk2
        have hz10 : ck2 ≤ 10 + 2 * nk2 := (by omega)
        have hz11 : K2.1 d0 = 4 := hd2
        have hz12 : K2.2.2.1 12 d0 = some lk := hck2
        have hz13 : nk2 ≤ nk + f9 jh ∧ nk ≤ nk2 := (by omega)
        have hz14 : K2.1 dh = 4 := hh2
        have hz15 : ck ≤ ck2 := (by omega)
        have hz16 : LyS g K0 K2 := hlz2
        have hz17 : LyT G lk K K2 := hlu2
        have hz18 : ∀ i : Nat, i < nk2 → (∃ j : Nat, j < nk ∧ itk j = itk2 i) ∨ MeI G K0 dh (itk2 i) := hkn2
        have hO : OKP G h0 a F R Z B J K2 w := hO.to rfl
        refine W.widen (k := (f9 jh + 1)) (n := (10 * nk + 500)) (by omega) (by omega) ?_
        have hzz1 : H.size ≤ s.heap.size + ((nk2 - nk)) := (by have z : (nk2 - nk) ≤ (nk2 - nk) := (by omega); omega)
        have hzz2 : hSl H ≤ hSl s.heap + ((4 * (ck2 - ck))) := (by have z : (4 * (ck2 - ck)) ≤ (4 * (ck2 - ck)) := (by omega); omega)
        exact W.vret hx hb hr (fun t99 ht99 hW99 => ⟨⟨_, (w, (K2, nk2, ck2, itk2)), rfl, ⟨rfl, hz8, hz9, hz10, hz11, hz12, hz13, hz14, hz15, hz16, hz17, hz18, hO⟩, by rw [ht99]; exact hP, hD, by rw [ht99]; exact hzz1, by rw [ht99]; exact hzz2⟩, hS.F ht99⟩) hS.2.2 dX9_learnMethods_59
      · have n19 : ¬ (nlm ≤ i2) := fun h9 => c6 ((nI_leI (a := nlm) (b := i2) (by omega) (by omega)).mpr h9)
        refine lv_aload_n hx hb dX9_learnMethods_13 rfl (lv_at hl 2 rfl) ?_
        refine lv_aload_n hx hb dX9_learnMethods_14 rfl (lv_at hl 1 rfl) ?_
        refine p_get (v := .ref lm) (C := RX2) (Tc := TX2) (N := 13) (ci := 2) hx hb hq pin_wsX20 hown hE hP hO (by rw [hh2]; decide) (rep_4 hh2) rfl 8 (by decide) (hq _ pw_1093) (fun _ h9 => h9) (congrArg (fun z => some (va_rf z)) hfl2) dX9_learnMethods_15 ?_
        refine lv_iload_n hx hb dX9_learnMethods_18 rfl (lv_at hl 0 rfl) ?_
        have hO : OKP G h0 a F R Z B J K2 w := hO.to rfl
        obtain ⟨qr23, hqr24⟩ := p_recv hO (by rw [htm]; decide) (rep_5 htm)
        refine pc_V0 (G := G) (As := [.int (nI i2)]) (rest := [.ref d0]) hx hb hml hown hq hE hX pX0_al hP hD hS hA hl.1 (L_get l G h0 a F R Z B J K2 w lm 3 nlm itlm i2 hlm2.ls (by omega) hO) (gV pw_517 pw_90 pw_91 pw_32 pw_25) hV_Jx4a65c_get_915e3 qr23 10 hqr24 rfl rfl rfl (Nat.le_of_ble_eq_true rfl) dX9_learnMethods_19 ⟨(by show (nk2 - nk) + 0 ≤ (f9 jh + 1); omega), (by show (4 * (ck2 - ck)) + 0 ≤ (10 * nk + 500); omega)⟩ ⟨Nat.le_of_ble_eq_true rfl, Nat.le_of_ble_eq_true rfl⟩ (fun v22 u20 H locs hw21 hP hD hS => ?_)
        obtain ⟨w, _⟩ := u20
        obtain ⟨hw21, hO⟩ := hw21
        obtain rfl : v22 = some (.ref (itlm i2)) := hw21
        have hO : OKP G h0 a F R Z B J K2 w := hO.to rfl
        refine W.widen (k := (nk2 - nk)) (n := (4 * (ck2 - ck))) (by show (nk2 - nk) + 0 ≤ (nk2 - nk); omega) (by show (4 * (ck2 - ck)) + 0 ≤ (4 * (ck2 - ck)); omega) ?_
        refine W.eq (g2 := F0 m 22 ls [.ref (itlm i2), .ref d0]) rfl ?_
        have hf25 : K2.1 (itlm i2) = 3 := hlm2.T (by omega)
        refine p_cast (C := RX6) (Tc := TX6) (N := 12) (ci := 12) hx hb hown (hq _ pw_515) hE hP hO (by rw [hf25]; decide) (rep_3 hf25) rfl dX9_learnMethods_22 ?_
        refine p_get (v := .int (K2.2.1 6 (itlm i2))) (C := RX6) (Tc := TX6) (N := 12) (ci := 12) hx hb hq pin_wsX60 hown hE hP hO (by rw [hf25]; decide) (rep_3 hf25) rfl 1 (by decide) (hq _ pw_1094) (fun _ h9 => h9) rfl dX9_learnMethods_25 ?_
        have hO : OKP G h0 a F R Z B J K2 w := hO.to rfl
        obtain ⟨qr29, hqr30⟩ := p_recv hO (by rw [hd2]; decide) (rep_4 hd2)
        refine pc_V0 (G := G) (As := [.int (K2.2.1 6 (itlm i2))]) (rest := []) hx hb hml hown hq hE hX pX0_al hP hD hS hA hl.1 (O_methodOf l G h0 a F R Z B J K2 w d0 (K2.2.1 6 (itlm i2)) g hd2 hly2.1 hO) (gV pw_1176 pw_185 pw_186 pw_146 pw_125) hV_X2_methodOf qr29 2 hqr30 rfl rfl rfl (Nat.le_of_ble_eq_true rfl) dX9_learnMethods_28 ⟨(by show (nk2 - nk) + 0 ≤ (f9 jh + 1); omega), (by show (4 * (ck2 - ck)) + 0 ≤ (10 * nk + 500); omega)⟩ ⟨Nat.le_of_ble_eq_true rfl, Nat.le_of_ble_eq_true rfl⟩ (fun v28 u26 H locs hw27 hP hD hS => ?_)
        obtain ⟨w, o31⟩ := u26
        obtain ⟨hw27, h32, hO⟩ := hw27
        have h32 : MoN K2 o31 := h32
        obtain rfl : v28 = some ((va_rf o31)) := hw27
        have hO : OKP G h0 a F R Z B J K2 w := hO.to rfl
        refine W.widen (k := (nk2 - nk)) (n := (4 * (ck2 - ck))) (by show (nk2 - nk) + 0 ≤ (nk2 - nk); omega) (by show (4 * (ck2 - ck)) + 0 ≤ (4 * (ck2 - ck)); omega) ?_
        refine W.eq (g2 := F0 m 31 ls [(va_rf o31)]) rfl ?_
        rcases o31 with _ | d33
        · have hl : lv_has ls 4 [(3, .int (nI i2)), (2, .ref dh), (1, .ref d0), (0, .ref pq)] := hl
          refine W.eq (g2 := F0 m 31 ls [.null]) rfl ?_
          refine lv_ifnonnullN hx hb dX9_learnMethods_31 ?_
          refine lv_aload_n hx hb dX9_learnMethods_34 rfl (lv_at hl 2 rfl) ?_
          refine p_get (v := .ref lk) (C := RX2) (Tc := TX2) (N := 13) (ci := 2) hx hb hq pin_wsX20 hown hE hP hO (by rw [hd2]; decide) (rep_4 hd2) rfl 12 (by decide) (hq _ pw_1175) (fun _ h9 => h9) (congrArg (fun z => some (va_rf z)) hck2) dX9_learnMethods_35 ?_
          refine lv_aload_n hx hb dX9_learnMethods_38 rfl (lv_at hl 1 rfl) ?_
          refine p_get (v := .ref lm) (C := RX2) (Tc := TX2) (N := 13) (ci := 2) hx hb hq pin_wsX20 hown hE hP hO (by rw [hh2]; decide) (rep_4 hh2) rfl 8 (by decide) (hq _ pw_1093) (fun _ h9 => h9) (congrArg (fun z => some (va_rf z)) hfl2) dX9_learnMethods_39 ?_
          refine lv_iload_n hx hb dX9_learnMethods_42 rfl (lv_at hl 0 rfl) ?_
          have hO : OKP G h0 a F R Z B J K2 w := hO.to rfl
          obtain ⟨qr37, hqr38⟩ := p_recv hO (by rw [htm]; decide) (rep_5 htm)
          refine pc_V0 (G := G) (As := [.int (nI i2)]) (rest := [.ref lk]) hx hb hml hown hq hE hX pX0_al hP hD hS hA hl.1 (L_get l G h0 a F R Z B J K2 w lm 3 nlm itlm i2 hlm2.ls (by omega) hO) (gV pw_517 pw_90 pw_91 pw_32 pw_25) hV_Jx4a65c_get_915e3 qr37 10 hqr38 rfl rfl rfl (Nat.le_of_ble_eq_true rfl) dX9_learnMethods_43 ⟨(by show (nk2 - nk) + 0 ≤ (f9 jh + 1); omega), (by show (4 * (ck2 - ck)) + 0 ≤ (10 * nk + 500); omega)⟩ ⟨Nat.le_of_ble_eq_true rfl, Nat.le_of_ble_eq_true rfl⟩ (fun v36 u34 H locs hw35 hP hD hS => ?_)
          obtain ⟨w, _⟩ := u34
          obtain ⟨hw35, hO⟩ := hw35
          obtain rfl : v36 = some (.ref (itlm i2)) := hw35
          have hO : OKP G h0 a F R Z B J K2 w := hO.to rfl
          refine W.widen (k := (nk2 - nk)) (n := (4 * (ck2 - ck))) (by show (nk2 - nk) + 0 ≤ (nk2 - nk); omega) (by show (4 * (ck2 - ck)) + 0 ≤ (4 * (ck2 - ck)); omega) ?_
          refine W.eq (g2 := F0 m 46 ls [.ref (itlm i2), .ref lk]) rfl ?_
          have hf39 : K2.1 (itlm i2) = 3 := hlm2.T (by omega)
          refine p_cast (C := RX6) (Tc := TX6) (N := 12) (ci := 12) hx hb hown (hq _ pw_515) hE hP hO (by rw [hf39]; decide) (rep_3 hf39) rfl dX9_learnMethods_46 ?_
          have hO : OKP G h0 a F R Z B J K2 w := hO.to rfl
          obtain ⟨qr43, hqr44⟩ := p_recv hO (by rw [htl]; decide) (rep_5 htl)
          refine pn_V0 (G := G) (As := [.ref (itlm i2)]) (rest := []) hx hb hml hown hq hE hX pX0_al hP hD hS hA hl.1 (L_addC l G h0 a F R Z B J K2 w lk 3 nk2 itk2 ck2 (itlm i2) hlk2 (by decide) hf39 (by omega) (by omega) hO hl0) (gV pw_1177 pw_886 pw_887 pw_32 pw_868) hV_Jx4a65c_add_9ea2d qr43 10 hqr44 rfl rfl rfl (Nat.le_of_ble_eq_true rfl) dX9_learnMethods_49 ⟨(by show (nk2 - nk) + 1 ≤ (f9 jh + 1); omega), (by show (4 * (ck2 - ck)) + (10 + nk2 + nk2 / 2) ≤ (10 * nk + 500); omega)⟩ ⟨Nat.le_of_ble_eq_true rfl, Nat.le_of_ble_eq_true rfl⟩ (fun v42 u40 H locs hw41 hP hD hS => ?_) (fun ux ce9 q9 H9 locs9 hux hP9 hD9 hS9 hce hcv hcl => pb_out ux (ThQ.up Thx.rfl RhX.rfl hux) hnt hlocks hce hcv hcl hP9 hD9 hS9 (by show (nk2 - nk) + 1 ≤ (f9 jh + 1); omega) (by show (4 * (ck2 - ck)) + (10 + nk2 + nk2 / 2) ≤ (10 * nk + 500); omega))
          obtain ⟨w, K45, d46⟩ := u40
          obtain ⟨hw41, h47, h48, h49, h50, h51, hO⟩ := hw41
          have h47 : LsC G K45 lk 3 (nk2 + 1) (upQ itk2 nk2 (itlm i2)) (ck2 + d46) := h47
          have h48 : AdQ K2 K45 lk := h48
          have h49 : N6 K2 K45 := h49
          have h50 : ck2 + d46 ≤ 10 + 2 * (nk2 + 1) := h50
          have h51 : d46 ≤ 10 + nk2 / 2 := h51
          obtain rfl : v42 = some (.int 1) := hw41
          have hO : OKP G h0 a F R Z B J K45 w := hO.to rfl
          refine W.widen (k := ((nk2 - nk) + 1)) (n := ((4 * (ck2 - ck)) + (4 * d46))) (by show (nk2 - nk) + 1 ≤ ((nk2 - nk) + 1); omega) (by show (4 * (ck2 - ck)) + (4 * d46) ≤ ((4 * (ck2 - ck)) + (4 * d46)); omega) ?_
          refine W.eq (g2 := F0 m 52 ls [.int 1]) rfl ?_
          have hly52 : LyB G K45 g rk f8 f9 er (a 1) pq dr ml nd nm cp it s9 (k0 + 1) := LyB.add hly2 h48 h49 htl (Or.inr hg5) (by rw [szL_of h47, szL_of hlk2]) (by rw [hg5]; exact h47) (by omega) (LyB.other hly2 hk0 he0 hg4)
          have hlm53 := LsC.other h48 htl (by decide) hlmk hlm2
          have hf54 : K45.1 d0 = 4 := (AdQ.sm h48 (by rw [hd2]; decide) (fun z => by have z2 := hd2; rw [z, htl] at z2; exact absurd z2 (by decide)) (by rw [hd2]; decide)).1.trans hd2
          have hf55 : K45.1 dh = 4 := (AdQ.sm h48 (by rw [hh2]; decide) (fun z => by have z2 := hh2; rw [z, htl] at z2; exact absurd z2 (by decide)) (by rw [hh2]; decide)).1.trans hh2
          have hf56 : K45.2.2.1 12 d0 = some lk := ((AdQ.sm h48 (by rw [hd2]; decide) (fun z => by have z2 := hd2; rw [z, htl] at z2; exact absurd z2 (by decide)) (by rw [hd2]; decide)).2.2.1 12).trans hck2
          have hf57 : K45.2.2.1 9 dh = some lm := ((AdQ.sm h48 (by rw [hh2]; decide) (fun z => by have z2 := hh2; rw [z, htl] at z2; exact absurd z2 (by decide)) (by rw [hh2]; decide)).2.2.1 9).trans hfl2
          have hlz58 : LyS g K0 K45 := LyS.add hlz2 h48 h49 htl (Or.inr hg5)
          have hlu59 : LyT G lk K K45 := LyT.add hlu2 h48 htl
          have hkn60 : ∀ i : Nat, i < nk2 + 1 → (∃ j : Nat, j < nk ∧ itk j = upQ itk2 nk2 (itlm i2) i) ∨ MeI G K0 dh (upQ itk2 nk2 (itlm i2) i) := upQ_all (P := fun x => (∃ j : Nat, j < nk ∧ itk j = x) ∨ MeI G K0 dh x) hkn2 (Or.inr (LyS.me hz0 hw0 hh0 hflm hlclm (by omega)))
          refine lv_pop hx hb dX9_learnMethods_52 rfl ?_
          refine lv_iinc (v := (nI (i2 + 1))) (lv' := [(3, .int (nI (i2 + 1))), (2, .ref dh), (1, .ref d0), (0, .ref pq)]) hx hb dX9_learnMethods_53 hl (k := 0) rfl (nI_1 i2) (by decide) rfl (fun ls hl => ?_)
          refine lv_goto (tgt := 2) hx hb dX9_learnMethods_56 (by decide) ?_
          refine W.widen (k := ((nk2 + 1) - nk)) (n := (4 * ((ck2 + d46) - ck))) (by show ((nk2 - nk) + 1) ≤ _; omega) (by show ((4 * (ck2 - ck)) + (4 * d46)) ≤ _; omega) ?_
          have hO : OKP G h0 a F R Z B J K45 w := hO.to rfl
          exact ih_2 (i2 + 1) K45 (nk2 + 1) (ck2 + d46) (upQ itk2 nk2 (itlm i2)) _ _ _ _ (by omega) (by omega) hly52 h47 (by omega) hf54 hf56 (by omega) hf55 hf57 hlm53 hlz58 hlu59 hkn60 hP hD hS hO (lv_sub hl [0, 1, 2, 3] rfl)
        · have hl : lv_has ls 4 [(3, .int (nI i2)), (2, .ref dh), (1, .ref d0), (0, .ref pq)] := hl
          refine W.eq (g2 := F0 m 31 ls [.ref d33]) rfl ?_
          refine lv_ifnonnull (tgt := 53) hx hb dX9_learnMethods_31 (by decide) ?_
          refine lv_iinc (v := (nI (i2 + 1))) (lv' := [(3, .int (nI (i2 + 1))), (2, .ref dh), (1, .ref d0), (0, .ref pq)]) hx hb dX9_learnMethods_53 hl (k := 0) rfl (nI_1 i2) (by decide) rfl (fun ls hl => ?_)
          refine lv_goto (tgt := 2) hx hb dX9_learnMethods_56 (by decide) ?_
          refine W.widen (k := (nk2 - nk)) (n := (4 * (ck2 - ck))) (by show (nk2 - nk) ≤ _; omega) (by show (4 * (ck2 - ck)) ≤ _; omega) ?_
          have hO : OKP G h0 a F R Z B J K2 w := hO.to rfl
          exact ih_2 (i2 + 1) K2 nk2 ck2 itk2 _ _ _ _ (by omega) (by omega) hly2 hlk2 (by omega) hd2 hck2 (by omega) hh2 hfl2 hlm2 hlz2 hlu2 hkn2 hP hD hS hO (lv_sub hl [0, 1, 2, 3] rfl)
  refine W.widen (k := (nk - nk)) (n := (4 * (ck - ck))) (by show 0 ≤ _; omega) (by show 0 ≤ _; omega) ?_
  have hO : OKP G h0 a F R Z B J K w := hO.to rfl
  exact loop_2 (nlm + 1) 0 K nk ck itk _ _ _ _ (by omega) (by omega) hly hlk (by omega) hd hck (by omega) hh hflm hlclm hz0 LyT.rfl (fun i hi => Or.inl ⟨i, hi, rfl⟩) hP hD hS hO (lv_sub hl [0, 3, 2, 1] rfl)
