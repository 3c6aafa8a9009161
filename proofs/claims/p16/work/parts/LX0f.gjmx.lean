set_option maxHeartbeats 16000000 in
set_option maxRecDepth 100000 in
theorem N_judgeFields (l : Launch) (G : pT) (h0 : Nat) (a : Nat → Nat) (F : Nat → Int32) (R : Nat → Value) (Z : Int64) (B : Nat → Nat → Int32) (J : Nat → Nat → Int64) (K : PK) (w : va_W) (pq : Nat) (dr : Nat) (ml : Nat) (nd : Nat) (nm : Nat) (cp : Nat) (it : Nat → Nat) (s9 : Nat) (d0 : Nat) (d1 : Nat) (sz : Nat) (g : Nat → Nat → Nat) (hsz : sz ≤ 5000) (hwp : WPr G K g) (hps : PgT G K g (a 1) pq dr ml nd nm cp it s9) (hd0 : K.1 d0 = 4) (hd1 : K.1 d1 = 4) (hO : OKP G h0 a (upd F 2 (nI sz)) R Z B J K w) : PM l G pX0 yX9_judgeFields cX9_judgeFields 5 none ({ frames := 5, cells := 0, slots := 0, locals := 124 }) [.ref pq, .ref d0, .ref d1] w (fun (v : Option Value) (u : va_W × (PK)) => v = none ∧ (LgK K u.2 pq) ∧ (Cln u.2 pq → Cln K pq ∧ (True)) ∧ (OKP G h0 a (upd F 2 (nI sz)) R Z B J u.2 u.1)) (fun u => u.1) := by
  intro sz
  refine Met.ofW (cc := cX9_judgeFields) (maxL := 5) (ret := none) (by decide) rfl ?_
  intro p e s m args below meth c s₁ B9 hml hv
  obtain ⟨rfl, hsz, hP, hD0, hE, hX⟩ := hv
  have hx := B9.exec
  have hb := B9.bytes
  have hr := B9.returns
  have hts := atoms_spec (ws := Cond.code yX9_judgeFields cX9_judgeFields 5 none :: pw) B9.pre
  have hq : ∀ w ∈ pw, w.before _ s = true := fun w h => hts w (List.mem_cons_of_mem _ h)
  have hown : s.vm.findClass RX9 = some m.cls := findClass_of_methodNamed B9.named
  have hlocks := B9.notSynchronized
  subst hsz
  have hD := hD0.self (sz := s.heap.size)
  have hA : ∀ q : Nat, s.heap.size ≤ q → va_A w s.heap.size q := fun q h => Or.inr h
  generalize va_A w s.heap.size = A at hD hE hA ⊢
  have hS : va_S A s.heap s.heap [] := va_S.rf
  have hl := lv_entry ([.ref pq, .ref d0, .ref d1]) (n := 5) (Nat.le_of_ble_eq_true rfl)
  rw [lg_entry_eq]
  generalize (lg_sl ([.ref pq, .ref d0, .ref d1]) ++ List.replicate (5 - (lg_sl ([.ref pq, .ref d0, .ref d1])).length) Slot.unset).toArray = ls at hl ⊢
  have hl : lv_has ls 5 [(0, .ref pq), (1, .ref d0), (2, .ref d1)] := hl
  have hp1 := hps.1.1
  have hp2 := hps.1.2.1
  have hp3 := hps.1.2.2.1
  have hp4 := hps.1.2.2.2.1
  have hp5 := hps.1.2.2.2.2.1
  have hp6 := hps.1.2.2.2.2.2.1
  have hp8 := hps.1.2.2.2.2.2.2.2.1
  have hp9 := hps.1.2.2.2.2.2.2.2.2
  obtain ⟨lf, hflf, htlf, hrlf, holf⟩ := (hwp.2.2.1 d0 hd0).1
  obtain ⟨nlf, itlf, cplf, hlclf, hnblf, hcblf⟩ := hwp.2.1 lf htlf
  rw [hrlf] at hlclf hnblf
  have hnclf := hlclf.2.2.1
  have hnblf : nlf ≤ 20 := hnblf
  have hlclf : LsC G K lf 1 nlf itlf cplf := hlclf
  obtain ⟨lu, hflu, htlu, hrlu, holu⟩ := (hwp.2.2.1 d1 hd1).1
  obtain ⟨nlu, itlu, cplu, hlclu, hnblu, hcblu⟩ := hwp.2.1 lu htlu
  rw [hrlu] at hlclu hnblu
  have hnclu := hlclu.2.2.1
  have hnblu : nlu ≤ 20 := hnblu
  have hlclu : LsC G K lu 1 nlu itlu cplu := hlclu
  refine lv_iconst (v := 0) hx hb dX9_judgeFields_0 (by decide) ?_
  refine lv_istore_n (lv' := [(3, .int 0), (0, .ref pq), (1, .ref d0), (2, .ref d1)]) hx hb dX9_judgeFields_1 rfl hl (by decide) rfl (fun ls hl => ?_)
  have loop_2 : ∀ (n_2 : Nat) (i2 : Nat) (K2 : PK) (H : Heap) (locs : List Loc) (ls : Array Slot) (w : va_W), i2 ≤ nlf → nlf + 1 ≤ i2 + n_2 → (LgK K K2 pq) → (Cln K2 pq → Cln K pq ∧ (True)) → va_P G.1 pCl w H → va_D A w → va_S A s.heap H locs → OKP G h0 a (upd F 2 (nI sz)) R Z B J K2 w → lv_has ls 5 [(3, .int (nI i2)), (2, .ref d1), (1, .ref d0), (0, .ref pq)] → W p l e (headSpec (Cond.code yX9_judgeFields cX9_judgeFields 5 none :: pw) ({ frames := 5, cells := 0, slots := 0, locals := 124 } : Room)).room s m ([.ref pq, .ref d0, .ref d1] : List Value).toArray below meth c H locs 0 0 (MQ below (pQ G A (fun (v : Option Value) (u : va_W × (PK)) => v = none ∧ (LgK K u.2 pq) ∧ (Cln u.2 pq → Cln K pq ∧ (True)) ∧ (OKP G h0 a (upd F 2 (nI sz)) R Z B J u.2 u.1)) (fun u => u.1)) ([.ref pq, .ref d0, .ref d1] : List Value).toArray s ({ frames := 5, cells := 0, slots := 0, locals := 124 } : Room).cells ({ frames := 5, cells := 0, slots := 0, locals := 124 } : Room).slots A) (F0 m 2 ls []) := by
    intro n_2
    induction n_2 with
    | zero => intro i2 K2 H locs ls w hk_2 hn_2; omega
    | succ n_2 ih_2 =>
      intro i2 K2 H locs ls w hk_2 hn_2 hlg2 hcl2 hP hD hS hO hl
      refine lv_iload_n hx hb dX9_judgeFields_2 rfl (lv_at hl 0 rfl) ?_
      refine lv_aload_n hx hb dX9_judgeFields_3 rfl (lv_at hl 2 rfl) ?_
      refine p_get (v := .ref lf) (C := RX2) (Tc := TX2) (N := 13) (ci := 2) hx hb hq pin_wsX20 hown hE hP hO (by rw [((LgK.T hlg2 d0).trans hd0)]; decide) (rep_4 ((LgK.T hlg2 d0).trans hd0)) rfl 7 (by decide) (hq _ pw_1089) (fun _ h9 => h9) (congrArg (fun z => some (va_rf z)) ((LgK.C hlg2 8 d0).trans hflf)) dX9_judgeFields_4 ?_
      have hO : OKP G h0 a (upd F 2 (nI sz)) R Z B J K2 w := hO.to rfl
      obtain ⟨qr4, hqr5⟩ := p_recv hO (by rw [((LgK.T hlg2 lf).trans htlf)]; decide) (rep_5 ((LgK.T hlg2 lf).trans htlf))
      refine pc_V0 (G := G) (As := []) (rest := [.int (nI i2)]) hx hb hml hown hq hE hX pX0_al hP hD hS hA hl.1 (L_size l G h0 a (upd F 2 (nI sz)) R Z B J K2 w lf 1 nlf itlf (LgK.ls hlg2 hlclf).ls hO) (gV pw_516 pw_87 pw_88 pw_32 pw_16) hV_Jx4a65c_size_8abf5 qr4 10 hqr5 rfl rfl rfl (Nat.le_of_ble_eq_true rfl) dX9_judgeFields_7 ⟨Nat.le_of_ble_eq_true rfl, Nat.le_of_ble_eq_true rfl⟩ ⟨Nat.le_of_ble_eq_true rfl, Nat.le_of_ble_eq_true rfl⟩ (fun v3 u1 H locs hw2 hP hD hS => ?_)
      obtain ⟨w, _⟩ := u1
      obtain ⟨hw2, hO⟩ := hw2
      obtain rfl : v3 = some (.int (nI nlf)) := hw2
      have hO : OKP G h0 a (upd F 2 (nI sz)) R Z B J K2 w := hO.to rfl
      refine W.widen (k := 0) (n := 0) (Nat.le_of_ble_eq_true rfl) (Nat.le_of_ble_eq_true rfl) ?_
      refine W.eq (g2 := F0 m 10 ls [.int (nI nlf), .int (nI i2)]) rfl ?_
      refine lv_icmp_ge (tgt := 91) hx hb dX9_judgeFields_10 (by decide) (fun c6 => ?_) (fun c6 => ?_)
      · have n7 : nlf ≤ i2 := (nI_leI (a := nlf) (b := i2) (by omega) (by omega)).mp c6
        have hz8 : LgK K K2 pq := hlg2
        have hz9 : Cln K2 pq → Cln K pq ∧ (True) := hcl2
        have hO : OKP G h0 a (upd F 2 (nI sz)) R Z B J K2 w := hO.to rfl
        exact W.vret hx hb hr (fun t99 ht99 hW99 => ⟨⟨_, (w, K2), rfl, ⟨rfl, hz8, hz9, hO⟩, by rw [ht99]; exact hP, hD⟩, hS.F ht99⟩) hS.2.2 dX9_judgeFields_91
      · have n10 : ¬ (nlf ≤ i2) := fun h9 => c6 ((nI_leI (a := nlf) (b := i2) (by omega) (by omega)).mpr h9)
        refine lv_iconst (v := 0) hx hb dX9_judgeFields_13 (by decide) ?_
        refine lv_istore (lv' := [(4, .int 0), (3, .int (nI i2)), (2, .ref d1), (1, .ref d0), (0, .ref pq)]) hx hb dX9_judgeFields_14 hl (by decide) rfl (fun ls hl => ?_)
        have loop_3 : ∀ (n_3 : Nat) (i3 : Nat) (K3 : PK) (H : Heap) (locs : List Loc) (ls : Array Slot) (w : va_W), i3 ≤ nlu → nlu + 1 ≤ i3 + n_3 → (LgK K K3 pq) → (Cln K3 pq → Cln K pq ∧ (True)) → va_P G.1 pCl w H → va_D A w → va_S A s.heap H locs → OKP G h0 a (upd F 2 (nI sz)) R Z B J K3 w → lv_has ls 5 [(4, .int (nI i3)), (3, .int (nI i2)), (2, .ref d1), (1, .ref d0), (0, .ref pq)] → W p l e (headSpec (Cond.code yX9_judgeFields cX9_judgeFields 5 none :: pw) ({ frames := 5, cells := 0, slots := 0, locals := 124 } : Room)).room s m ([.ref pq, .ref d0, .ref d1] : List Value).toArray below meth c H locs 0 0 (MQ below (pQ G A (fun (v : Option Value) (u : va_W × (PK)) => v = none ∧ (LgK K u.2 pq) ∧ (Cln u.2 pq → Cln K pq ∧ (True)) ∧ (OKP G h0 a (upd F 2 (nI sz)) R Z B J u.2 u.1)) (fun u => u.1)) ([.ref pq, .ref d0, .ref d1] : List Value).toArray s ({ frames := 5, cells := 0, slots := 0, locals := 124 } : Room).cells ({ frames := 5, cells := 0, slots := 0, locals := 124 } : Room).slots A) (F0 m 16 ls []) := by
          intro n_3
          induction n_3 with
          | zero => intro i3 K3 H locs ls w hk_3 hn_3; omega
          | succ n_3 ih_3 =>
            intro i3 K3 H locs ls w hk_3 hn_3 hlg3 hcl3 hP hD hS hO hl
            refine lv_iload hx hb dX9_judgeFields_16 (lv_at hl 0 rfl) ?_
            refine lv_aload_n hx hb dX9_judgeFields_18 rfl (lv_at hl 2 rfl) ?_
            refine p_get (v := .ref lu) (C := RX2) (Tc := TX2) (N := 13) (ci := 2) hx hb hq pin_wsX20 hown hE hP hO (by rw [((LgK.T hlg3 d1).trans hd1)]; decide) (rep_4 ((LgK.T hlg3 d1).trans hd1)) rfl 7 (by decide) (hq _ pw_1089) (fun _ h9 => h9) (congrArg (fun z => some (va_rf z)) ((LgK.C hlg3 8 d1).trans hflu)) dX9_judgeFields_19 ?_
            have hO : OKP G h0 a (upd F 2 (nI sz)) R Z B J K3 w := hO.to rfl
            obtain ⟨qr14, hqr15⟩ := p_recv hO (by rw [((LgK.T hlg3 lu).trans htlu)]; decide) (rep_5 ((LgK.T hlg3 lu).trans htlu))
            refine pc_V0 (G := G) (As := []) (rest := [.int (nI i3)]) hx hb hml hown hq hE hX pX0_al hP hD hS hA hl.1 (L_size l G h0 a (upd F 2 (nI sz)) R Z B J K3 w lu 1 nlu itlu (LgK.ls hlg3 hlclu).ls hO) (gV pw_516 pw_87 pw_88 pw_32 pw_16) hV_Jx4a65c_size_8abf5 qr14 10 hqr15 rfl rfl rfl (Nat.le_of_ble_eq_true rfl) dX9_judgeFields_22 ⟨Nat.le_of_ble_eq_true rfl, Nat.le_of_ble_eq_true rfl⟩ ⟨Nat.le_of_ble_eq_true rfl, Nat.le_of_ble_eq_true rfl⟩ (fun v13 u11 H locs hw12 hP hD hS => ?_)
            obtain ⟨w, _⟩ := u11
            obtain ⟨hw12, hO⟩ := hw12
            obtain rfl : v13 = some (.int (nI nlu)) := hw12
            have hO : OKP G h0 a (upd F 2 (nI sz)) R Z B J K3 w := hO.to rfl
            refine W.widen (k := 0) (n := 0) (Nat.le_of_ble_eq_true rfl) (Nat.le_of_ble_eq_true rfl) ?_
            refine W.eq (g2 := F0 m 25 ls [.int (nI nlu), .int (nI i3)]) rfl ?_
            refine lv_icmp_ge (tgt := 85) hx hb dX9_judgeFields_25 (by decide) (fun c16 => ?_) (fun c16 => ?_)
            · have n17 : nlu ≤ i3 := (nI_leI (a := nlu) (b := i3) (by omega) (by omega)).mp c16
              refine lv_iinc (v := (nI (i2 + 1))) (lv' := [(3, .int (nI (i2 + 1))), (4, .int (nI i3)), (2, .ref d1), (1, .ref d0), (0, .ref pq)]) hx hb dX9_judgeFields_85 hl (k := 1) rfl (nI_1 i2) (by decide) rfl (fun ls hl => ?_)
              refine lv_goto (tgt := 2) hx hb dX9_judgeFields_88 (by decide) ?_
              have hO : OKP G h0 a (upd F 2 (nI sz)) R Z B J K3 w := hO.to rfl
              exact ih_2 (i2 + 1) K3 _ _ _ _ (by omega) (by omega) hlg3 (fun z => ⟨(hcl3 z).1, trivial⟩) hP hD hS hO (lv_sub hl [0, 2, 3, 4] rfl)
            · have n18 : ¬ (nlu ≤ i3) := fun h9 => c16 ((nI_leI (a := nlu) (b := i3) (by omega) (by omega)).mpr h9)
              refine lv_aload_n hx hb dX9_judgeFields_28 rfl (lv_at hl 3 rfl) ?_
              refine p_get (v := .ref lf) (C := RX2) (Tc := TX2) (N := 13) (ci := 2) hx hb hq pin_wsX20 hown hE hP hO (by rw [((LgK.T hlg3 d0).trans hd0)]; decide) (rep_4 ((LgK.T hlg3 d0).trans hd0)) rfl 7 (by decide) (hq _ pw_1089) (fun _ h9 => h9) (congrArg (fun z => some (va_rf z)) ((LgK.C hlg3 8 d0).trans hflf)) dX9_judgeFields_29 ?_
              refine lv_iload_n hx hb dX9_judgeFields_32 rfl (lv_at hl 1 rfl) ?_
              have hO : OKP G h0 a (upd F 2 (nI sz)) R Z B J K3 w := hO.to rfl
              obtain ⟨qr22, hqr23⟩ := p_recv hO (by rw [((LgK.T hlg3 lf).trans htlf)]; decide) (rep_5 ((LgK.T hlg3 lf).trans htlf))
              refine pc_V0 (G := G) (As := [.int (nI i2)]) (rest := []) hx hb hml hown hq hE hX pX0_al hP hD hS hA hl.1 (L_get l G h0 a (upd F 2 (nI sz)) R Z B J K3 w lf 1 nlf itlf i2 (LgK.ls hlg3 hlclf).ls (by omega) hO) (gV pw_517 pw_90 pw_91 pw_32 pw_25) hV_Jx4a65c_get_915e3 qr22 10 hqr23 rfl rfl rfl (Nat.le_of_ble_eq_true rfl) dX9_judgeFields_33 ⟨Nat.le_of_ble_eq_true rfl, Nat.le_of_ble_eq_true rfl⟩ ⟨Nat.le_of_ble_eq_true rfl, Nat.le_of_ble_eq_true rfl⟩ (fun v21 u19 H locs hw20 hP hD hS => ?_)
              obtain ⟨w, _⟩ := u19
              obtain ⟨hw20, hO⟩ := hw20
              obtain rfl : v21 = some (.ref (itlf i2)) := hw20
              have hO : OKP G h0 a (upd F 2 (nI sz)) R Z B J K3 w := hO.to rfl
              refine W.widen (k := 0) (n := 0) (Nat.le_of_ble_eq_true rfl) (Nat.le_of_ble_eq_true rfl) ?_
              refine W.eq (g2 := F0 m 36 ls [.ref (itlf i2)]) rfl ?_
              have hf24 : K.1 (itlf i2) = 1 := hlclf.T (by omega)
              refine p_cast (C := RX7) (Tc := TX7) (N := 11) (ci := 13) hx hb hown (hq _ pw_1090) hE hP hO (by rw [((LgK.T hlg3 (itlf i2)).trans hf24)]; decide) (rep_1 ((LgK.T hlg3 (itlf i2)).trans hf24)) rfl dX9_judgeFields_36 ?_
              refine p_get (v := .int (K3.2.1 3 (itlf i2))) (C := RX7) (Tc := TX7) (N := 11) (ci := 13) hx hb hq pin_wsX70 hown hE hP hO (by rw [((LgK.T hlg3 (itlf i2)).trans hf24)]; decide) (rep_1 ((LgK.T hlg3 (itlf i2)).trans hf24)) rfl 3 (by decide) (hq _ pw_1091) (fun _ h9 => h9) rfl dX9_judgeFields_39 ?_
              refine lv_aload_n hx hb dX9_judgeFields_42 rfl (lv_at hl 2 rfl) ?_
              refine p_get (v := .ref lu) (C := RX2) (Tc := TX2) (N := 13) (ci := 2) hx hb hq pin_wsX20 hown hE hP hO (by rw [((LgK.T hlg3 d1).trans hd1)]; decide) (rep_4 ((LgK.T hlg3 d1).trans hd1)) rfl 7 (by decide) (hq _ pw_1089) (fun _ h9 => h9) (congrArg (fun z => some (va_rf z)) ((LgK.C hlg3 8 d1).trans hflu)) dX9_judgeFields_43 ?_
              refine lv_iload hx hb dX9_judgeFields_46 (lv_at hl 0 rfl) ?_
              have hO : OKP G h0 a (upd F 2 (nI sz)) R Z B J K3 w := hO.to rfl
              obtain ⟨qr28, hqr29⟩ := p_recv hO (by rw [((LgK.T hlg3 lu).trans htlu)]; decide) (rep_5 ((LgK.T hlg3 lu).trans htlu))
              refine pc_V0 (G := G) (As := [.int (nI i3)]) (rest := [.int (K3.2.1 3 (itlf i2))]) hx hb hml hown hq hE hX pX0_al hP hD hS hA hl.1 (L_get l G h0 a (upd F 2 (nI sz)) R Z B J K3 w lu 1 nlu itlu i3 (LgK.ls hlg3 hlclu).ls (by omega) hO) (gV pw_517 pw_90 pw_91 pw_32 pw_25) hV_Jx4a65c_get_915e3 qr28 10 hqr29 rfl rfl rfl (Nat.le_of_ble_eq_true rfl) dX9_judgeFields_48 ⟨Nat.le_of_ble_eq_true rfl, Nat.le_of_ble_eq_true rfl⟩ ⟨Nat.le_of_ble_eq_true rfl, Nat.le_of_ble_eq_true rfl⟩ (fun v27 u25 H locs hw26 hP hD hS => ?_)
              obtain ⟨w, _⟩ := u25
              obtain ⟨hw26, hO⟩ := hw26
              obtain rfl : v27 = some (.ref (itlu i3)) := hw26
              have hO : OKP G h0 a (upd F 2 (nI sz)) R Z B J K3 w := hO.to rfl
              refine W.widen (k := 0) (n := 0) (Nat.le_of_ble_eq_true rfl) (Nat.le_of_ble_eq_true rfl) ?_
              refine W.eq (g2 := F0 m 51 ls [.ref (itlu i3), .int (K3.2.1 3 (itlf i2))]) rfl ?_
              have hf30 : K.1 (itlu i3) = 1 := hlclu.T (by omega)
              refine p_cast (C := RX7) (Tc := TX7) (N := 11) (ci := 13) hx hb hown (hq _ pw_1090) hE hP hO (by rw [((LgK.T hlg3 (itlu i3)).trans hf30)]; decide) (rep_1 ((LgK.T hlg3 (itlu i3)).trans hf30)) rfl dX9_judgeFields_51 ?_
              refine p_get (v := .int (K3.2.1 3 (itlu i3))) (C := RX7) (Tc := TX7) (N := 11) (ci := 13) hx hb hq pin_wsX70 hown hE hP hO (by rw [((LgK.T hlg3 (itlu i3)).trans hf30)]; decide) (rep_1 ((LgK.T hlg3 (itlu i3)).trans hf30)) rfl 3 (by decide) (hq _ pw_1091) (fun _ h9 => h9) rfl dX9_judgeFields_54 ?_
              refine lv_icmp_ne (tgt := 79) hx hb dX9_judgeFields_57 (by decide) (fun c31 => ?_) (fun c31 => ?_)
              · refine lv_iinc (v := (nI (i3 + 1))) (lv' := [(4, .int (nI (i3 + 1))), (3, .int (nI i2)), (2, .ref d1), (1, .ref d0), (0, .ref pq)]) hx hb dX9_judgeFields_79 hl (k := 0) rfl (nI_1 i3) (by decide) rfl (fun ls hl => ?_)
                refine lv_goto (tgt := 16) hx hb dX9_judgeFields_82 (by decide) ?_
                have hO : OKP G h0 a (upd F 2 (nI sz)) R Z B J K3 w := hO.to rfl
                exact ih_3 (i3 + 1) K3 _ _ _ _ (by omega) (by omega) hlg3 (fun z => ⟨(hcl3 z).1, trivial⟩) hP hD hS hO (lv_sub hl [0, 1, 2, 3, 4] rfl)
              · refine lv_aload_n hx hb dX9_judgeFields_60 rfl (lv_at hl 4 rfl) ?_
                refine lv_iconst (v := 3) hx hb dX9_judgeFields_61 (by decide) ?_
                refine lv_aload_n hx hb dX9_judgeFields_62 rfl (lv_at hl 3 rfl) ?_
                refine p_get (v := .ref lf) (C := RX2) (Tc := TX2) (N := 13) (ci := 2) hx hb hq pin_wsX20 hown hE hP hO (by rw [((LgK.T hlg3 d0).trans hd0)]; decide) (rep_4 ((LgK.T hlg3 d0).trans hd0)) rfl 7 (by decide) (hq _ pw_1089) (fun _ h9 => h9) (congrArg (fun z => some (va_rf z)) ((LgK.C hlg3 8 d0).trans hflf)) dX9_judgeFields_63 ?_
                refine lv_iload_n hx hb dX9_judgeFields_66 rfl (lv_at hl 1 rfl) ?_
                have hO : OKP G h0 a (upd F 2 (nI sz)) R Z B J K3 w := hO.to rfl
                obtain ⟨qr35, hqr36⟩ := p_recv hO (by rw [((LgK.T hlg3 lf).trans htlf)]; decide) (rep_5 ((LgK.T hlg3 lf).trans htlf))
                refine pc_V0 (G := G) (As := [.int (nI i2)]) (rest := [.int 3, .ref pq]) hx hb hml hown hq hE hX pX0_al hP hD hS hA hl.1 (L_get l G h0 a (upd F 2 (nI sz)) R Z B J K3 w lf 1 nlf itlf i2 (LgK.ls hlg3 hlclf).ls (by omega) hO) (gV pw_517 pw_90 pw_91 pw_32 pw_25) hV_Jx4a65c_get_915e3 qr35 10 hqr36 rfl rfl rfl (Nat.le_of_ble_eq_true rfl) dX9_judgeFields_67 ⟨Nat.le_of_ble_eq_true rfl, Nat.le_of_ble_eq_true rfl⟩ ⟨Nat.le_of_ble_eq_true rfl, Nat.le_of_ble_eq_true rfl⟩ (fun v34 u32 H locs hw33 hP hD hS => ?_)
                obtain ⟨w, _⟩ := u32
                obtain ⟨hw33, hO⟩ := hw33
                obtain rfl : v34 = some (.ref (itlf i2)) := hw33
                have hO : OKP G h0 a (upd F 2 (nI sz)) R Z B J K3 w := hO.to rfl
                refine W.widen (k := 0) (n := 0) (Nat.le_of_ble_eq_true rfl) (Nat.le_of_ble_eq_true rfl) ?_
                refine W.eq (g2 := F0 m 70 ls [.ref (itlf i2), .int 3, .ref pq]) rfl ?_
                have hf37 : K.1 (itlf i2) = 1 := hlclf.T (by omega)
                refine p_cast (C := RX7) (Tc := TX7) (N := 11) (ci := 13) hx hb hown (hq _ pw_1090) hE hP hO (by rw [((LgK.T hlg3 (itlf i2)).trans hf37)]; decide) (rep_1 ((LgK.T hlg3 (itlf i2)).trans hf37)) rfl dX9_judgeFields_70 ?_
                refine p_get (v := .int (K3.2.1 1 (itlf i2))) (C := RX7) (Tc := TX7) (N := 11) (ci := 13) hx hb hq pin_wsX70 hown hE hP hO (by rw [((LgK.T hlg3 (itlf i2)).trans hf37)]; decide) (rep_1 ((LgK.T hlg3 (itlf i2)).trans hf37)) rfl 1 (by decide) (hq _ pw_1092) (fun _ h9 => h9) rfl dX9_judgeFields_73 ?_
                have hO : OKP G h0 a (upd (upd F 2 (nI sz)) 2 (nI sz)) R Z B J K3 w := hO.to rfl
                obtain ⟨qr41, hqr42⟩ := p_recv hO (by rw [((LgK.T hlg3 pq).trans hp1)]; decide) (rep_7 ((LgK.T hlg3 pq).trans hp1))
                refine pc_V0 (G := G) (As := [.int 3, .int (K3.2.1 1 (itlf i2))]) (rest := []) hx hb hml hown hq hE hX pX0_al hP hD hS hA hl.1 (N_report l G h0 a (upd F 2 (nI sz)) R Z B J K3 w pq dr ml nd nm cp it s9 3 (K3.2.1 1 (itlf i2)) sz g (by omega) (LgK.wp hlg3 hwp) (LgK.ps hlg3 hps) hO) (gV pw_1096 pw_1097 pw_1098 pw_106 pw_1084) hV_X9_report qr41 6 hqr42 rfl rfl rfl (Nat.le_of_ble_eq_true rfl) dX9_judgeFields_76 ⟨Nat.le_of_ble_eq_true rfl, Nat.le_of_ble_eq_true rfl⟩ ⟨Nat.le_of_ble_eq_true rfl, Nat.le_of_ble_eq_true rfl⟩ (fun v40 u38 H locs hw39 hP hD hS => ?_)
                obtain ⟨w, K43⟩ := u38
                obtain ⟨hw39, h44, h45, hO⟩ := hw39
                have h44 : LgK K3 K43 pq := h44
                have h45 : RpX 3 K43 pq := h45
                obtain rfl : v40 = none := hw39
                have hO : OKP G h0 a (upd F 2 (nI sz)) R Z B J K43 w := hO.to rfl
                refine W.widen (k := 0) (n := 0) (Nat.le_of_ble_eq_true rfl) (Nat.le_of_ble_eq_true rfl) ?_
                refine W.eq (g2 := F0 m 79 ls []) rfl ?_
                have hlg46 : LgK K K43 pq := LgK.trans hlg3 h44
                have hm47 : Cln K43 pq → Cln K3 pq := fun z => absurd z (h45 (by decide))
                refine lv_iinc (v := (nI (i3 + 1))) (lv' := [(4, .int (nI (i3 + 1))), (3, .int (nI i2)), (2, .ref d1), (1, .ref d0), (0, .ref pq)]) hx hb dX9_judgeFields_79 hl (k := 0) rfl (nI_1 i3) (by decide) rfl (fun ls hl => ?_)
                refine lv_goto (tgt := 16) hx hb dX9_judgeFields_82 (by decide) ?_
                have hO : OKP G h0 a (upd F 2 (nI sz)) R Z B J K43 w := hO.to rfl
                exact ih_3 (i3 + 1) K43 _ _ _ _ (by omega) (by omega) hlg46 (fun z => absurd z (h45 (by decide))) hP hD hS hO (lv_sub hl [0, 1, 2, 3, 4] rfl)
        have hO : OKP G h0 a (upd F 2 (nI sz)) R Z B J K2 w := hO.to rfl
        exact loop_3 (nlu + 1) 0 K2 _ _ _ _ (by omega) (by omega) hlg2 (fun z => ⟨(hcl2 z).1, trivial⟩) hP hD hS hO (lv_sub hl [0, 1, 2, 3, 4] rfl)
  have hO : OKP G h0 a (upd F 2 (nI sz)) R Z B J K w := hO.to rfl
  exact loop_2 (nlf + 1) 0 K _ _ _ _ (by omega) (by omega) LgK.rfl (fun z => ⟨z, trivial⟩) hP hD hS hO (lv_sub hl [0, 3, 2, 1] rfl)
set_option maxHeartbeats 60000000 in
set_option maxRecDepth 100000 in
theorem N_judgeMethods (l : Launch) (G : pT) (h0 : Nat) (a : Nat → Nat) (F : Nat → Int32) (R : Nat → Value) (Z : Int64) (B : Nat → Nat → Int32) (J : Nat → Nat → Int64) (K : PK) (w : va_W) (pq : Nat) (dr : Nat) (ml : Nat) (nd : Nat) (nm : Nat) (cp : Nat) (it : Nat → Nat) (s9 : Nat) (d0 : Nat) (d1 : Nat) (k0 : Nat) (sz : Nat) (g : Nat → Nat → Nat) (rk : Nat → Nat) (hsz : sz ≤ 5000) (hwp : WPr G K g) (hps : PgT G K g (a 1) pq dr ml nd nm cp it s9) (hd0 : K.1 d0 = 4) (hd1 : K.1 d1 = 4) (hk0 : k0 < nd) (he0 : K.2.2.2.2.1 dr k0 = some d0) (hn0 : K.2.1 15 d0 = nI k0) (hrk : RkO K rk) (hO : OKP G h0 a (upd F 2 (nI sz)) R Z B J K w) : PM l G pX0 yX9_judgeMethods cX9_judgeMethods 7 none ({ frames := 7, cells := 0, slots := 0, locals := 170 }) [.ref pq, .ref d0, .ref d1] w (fun (v : Option Value) (u : va_W × (PK)) => v = none ∧ (LgK K u.2 pq) ∧ (Cln u.2 pq → Cln K pq ∧ (JmA G K dr nd (B 11) sz d0 d1)) ∧ (OKP G h0 a (upd F 2 (nI sz)) R Z B J u.2 u.1)) (fun u => u.1) := by
  intro sz
  refine Met.ofW (cc := cX9_judgeMethods) (maxL := 7) (ret := none) (by decide) rfl ?_
  intro p e s m args below meth c s₁ B9 hml hv
  obtain ⟨rfl, hsz, hP, hD0, hE, hX⟩ := hv
  have hx := B9.exec
  have hb := B9.bytes
  have hr := B9.returns
  have hts := atoms_spec (ws := Cond.code yX9_judgeMethods cX9_judgeMethods 7 none :: pw) B9.pre
  have hq : ∀ w ∈ pw, w.before _ s = true := fun w h => hts w (List.mem_cons_of_mem _ h)
  have hown : s.vm.findClass RX9 = some m.cls := findClass_of_methodNamed B9.named
  have hlocks := B9.notSynchronized
  subst hsz
  have hD := hD0.self (sz := s.heap.size)
  have hA : ∀ q : Nat, s.heap.size ≤ q → va_A w s.heap.size q := fun q h => Or.inr h
  generalize va_A w s.heap.size = A at hD hE hA ⊢
  have hS : va_S A s.heap s.heap [] := va_S.rf
  have hl := lv_entry ([.ref pq, .ref d0, .ref d1]) (n := 7) (Nat.le_of_ble_eq_true rfl)
  rw [lg_entry_eq]
  generalize (lg_sl ([.ref pq, .ref d0, .ref d1]) ++ List.replicate (7 - (lg_sl ([.ref pq, .ref d0, .ref d1])).length) Slot.unset).toArray = ls at hl ⊢
  have hl : lv_has ls 7 [(0, .ref pq), (1, .ref d0), (2, .ref d1)] := hl
  have hp1 := hps.1.1
  have hp2 := hps.1.2.1
  have hp3 := hps.1.2.2.1
  have hp4 := hps.1.2.2.2.1
  have hp5 := hps.1.2.2.2.2.1
  have hp6 := hps.1.2.2.2.2.2.1
  have hp8 := hps.1.2.2.2.2.2.2.2.1
  have hp9 := hps.1.2.2.2.2.2.2.2.2
  obtain ⟨lm, hflm, htlm, hrlm, holm⟩ := (hwp.2.2.1 d1 hd1).2.1
  obtain ⟨nlm, itlm, cplm, hlclm, hnblm, hcblm⟩ := hwp.2.1 lm htlm
  rw [hrlm] at hlclm hnblm
  have hnclm := hlclm.2.2.1
  have hnblm : nlm ≤ 30 := hnblm
  have hlclm : LsC G K lm 3 nlm itlm cplm := hlclm
  obtain ⟨lo, hflo, htlo, hrlo, holo⟩ := (hwp.2.2.1 d0 hd0).2.1
  obtain ⟨nlo, itlo, cplo, hlclo, hnblo, hcblo⟩ := hwp.2.1 lo htlo
  rw [hrlo] at hlclo hnblo
  have hnclo := hlclo.2.2.1
  have hnblo : nlo ≤ 30 := hnblo
  have hlclo : LsC G K lo 3 nlo itlo cplo := hlclo
  refine lv_iconst (v := 0) hx hb dX9_judgeMethods_0 (by decide) ?_
  refine lv_istore_n (lv' := [(3, .int 0), (0, .ref pq), (1, .ref d0), (2, .ref d1)]) hx hb dX9_judgeMethods_1 rfl hl (by decide) rfl (fun ls hl => ?_)
  have loop_2 : ∀ (n_2 : Nat) (i2 : Nat) (K2 : PK) (H : Heap) (locs : List Loc) (ls : Array Slot) (w : va_W), i2 ≤ nlm → nlm + 1 ≤ i2 + n_2 → (LgK K K2 pq) → (Cln K2 pq → Cln K pq ∧ (∀ i : Nat, i < i2 → JmP G K dr nd (B 11) sz d0 d1 (itlm i))) → va_P G.1 pCl w H → va_D A w → va_S A s.heap H locs → OKP G h0 a (upd F 2 (nI sz)) R Z B J K2 w → lv_has ls 7 [(3, .int (nI i2)), (2, .ref d1), (1, .ref d0), (0, .ref pq)] → W p l e (headSpec (Cond.code yX9_judgeMethods cX9_judgeMethods 7 none :: pw) ({ frames := 7, cells := 0, slots := 0, locals := 170 } : Room)).room s m ([.ref pq, .ref d0, .ref d1] : List Value).toArray below meth c H locs 0 0 (MQ below (pQ G A (fun (v : Option Value) (u : va_W × (PK)) => v = none ∧ (LgK K u.2 pq) ∧ (Cln u.2 pq → Cln K pq ∧ (JmA G K dr nd (B 11) sz d0 d1)) ∧ (OKP G h0 a (upd F 2 (nI sz)) R Z B J u.2 u.1)) (fun u => u.1)) ([.ref pq, .ref d0, .ref d1] : List Value).toArray s ({ frames := 7, cells := 0, slots := 0, locals := 170 } : Room).cells ({ frames := 7, cells := 0, slots := 0, locals := 170 } : Room).slots A) (F0 m 2 ls []) := by
    intro n_2
    induction n_2 with
    | zero => intro i2 K2 H locs ls w hk_2 hn_2; omega
    | succ n_2 ih_2 =>
      intro i2 K2 H locs ls w hk_2 hn_2 hlg2 hcl2 hP hD hS hO hl
      refine lv_iload_n hx hb dX9_judgeMethods_2 rfl (lv_at hl 0 rfl) ?_
      refine lv_aload_n hx hb dX9_judgeMethods_3 rfl (lv_at hl 1 rfl) ?_
      refine p_get (v := .ref lm) (C := RX2) (Tc := TX2) (N := 13) (ci := 2) hx hb hq pin_wsX20 hown hE hP hO (by rw [((LgK.T hlg2 d1).trans hd1)]; decide) (rep_4 ((LgK.T hlg2 d1).trans hd1)) rfl 8 (by decide) (hq _ pw_1093) (fun _ h9 => h9) (congrArg (fun z => some (va_rf z)) ((LgK.C hlg2 9 d1).trans hflm)) dX9_judgeMethods_4 ?_
      have hO : OKP G h0 a (upd F 2 (nI sz)) R Z B J K2 w := hO.to rfl
      obtain ⟨qr4, hqr5⟩ := p_recv hO (by rw [((LgK.T hlg2 lm).trans htlm)]; decide) (rep_5 ((LgK.T hlg2 lm).trans htlm))
      refine pc_V0 (G := G) (As := []) (rest := [.int (nI i2)]) hx hb hml hown hq hE hX pX0_al hP hD hS hA hl.1 (L_size l G h0 a (upd F 2 (nI sz)) R Z B J K2 w lm 3 nlm itlm (LgK.ls hlg2 hlclm).ls hO) (gV pw_516 pw_87 pw_88 pw_32 pw_16) hV_Jx4a65c_size_8abf5 qr4 10 hqr5 rfl rfl rfl (Nat.le_of_ble_eq_true rfl) dX9_judgeMethods_7 ⟨Nat.le_of_ble_eq_true rfl, Nat.le_of_ble_eq_true rfl⟩ ⟨Nat.le_of_ble_eq_true rfl, Nat.le_of_ble_eq_true rfl⟩ (fun v3 u1 H locs hw2 hP hD hS => ?_)
      obtain ⟨w, _⟩ := u1
      obtain ⟨hw2, hO⟩ := hw2
      obtain rfl : v3 = some (.int (nI nlm)) := hw2
      have hO : OKP G h0 a (upd F 2 (nI sz)) R Z B J K2 w := hO.to rfl
      refine W.widen (k := 0) (n := 0) (Nat.le_of_ble_eq_true rfl) (Nat.le_of_ble_eq_true rfl) ?_
      refine W.eq (g2 := F0 m 10 ls [.int (nI nlm), .int (nI i2)]) rfl ?_
      refine lv_icmp_ge (tgt := 135) hx hb dX9_judgeMethods_10 (by decide) (fun c6 => ?_) (fun c6 => ?_)
      · have n7 : nlm ≤ i2 := (nI_leI (a := nlm) (b := i2) (by omega) (by omega)).mp c6
        have hz8 : LgK K K2 pq := hlg2
        have hz9 : Cln K2 pq → Cln K pq ∧ (JmA G K dr nd (B 11) sz d0 d1) := (fun z => ⟨(hcl2 z).1, JmA.mk hflm hlclm (fun i hi => (hcl2 z).2 i (by omega))⟩)
        have hO : OKP G h0 a (upd F 2 (nI sz)) R Z B J K2 w := hO.to rfl
        exact W.vret hx hb hr (fun t99 ht99 hW99 => ⟨⟨_, (w, K2), rfl, ⟨rfl, hz8, hz9, hO⟩, by rw [ht99]; exact hP, hD⟩, hS.F ht99⟩) hS.2.2 dX9_judgeMethods_135
      · have n10 : ¬ (nlm ≤ i2) := fun h9 => c6 ((nI_leI (a := nlm) (b := i2) (by omega) (by omega)).mpr h9)
        refine lv_aload_n hx hb dX9_judgeMethods_13 rfl (lv_at hl 1 rfl) ?_
        refine p_get (v := .ref lm) (C := RX2) (Tc := TX2) (N := 13) (ci := 2) hx hb hq pin_wsX20 hown hE hP hO (by rw [((LgK.T hlg2 d1).trans hd1)]; decide) (rep_4 ((LgK.T hlg2 d1).trans hd1)) rfl 8 (by decide) (hq _ pw_1093) (fun _ h9 => h9) (congrArg (fun z => some (va_rf z)) ((LgK.C hlg2 9 d1).trans hflm)) dX9_judgeMethods_14 ?_
        refine lv_iload_n hx hb dX9_judgeMethods_17 rfl (lv_at hl 0 rfl) ?_
        have hO : OKP G h0 a (upd F 2 (nI sz)) R Z B J K2 w := hO.to rfl
        obtain ⟨qr14, hqr15⟩ := p_recv hO (by rw [((LgK.T hlg2 lm).trans htlm)]; decide) (rep_5 ((LgK.T hlg2 lm).trans htlm))
        refine pc_V0 (G := G) (As := [.int (nI i2)]) (rest := []) hx hb hml hown hq hE hX pX0_al hP hD hS hA hl.1 (L_get l G h0 a (upd F 2 (nI sz)) R Z B J K2 w lm 3 nlm itlm i2 (LgK.ls hlg2 hlclm).ls (by omega) hO) (gV pw_517 pw_90 pw_91 pw_32 pw_25) hV_Jx4a65c_get_915e3 qr14 10 hqr15 rfl rfl rfl (Nat.le_of_ble_eq_true rfl) dX9_judgeMethods_18 ⟨Nat.le_of_ble_eq_true rfl, Nat.le_of_ble_eq_true rfl⟩ ⟨Nat.le_of_ble_eq_true rfl, Nat.le_of_ble_eq_true rfl⟩ (fun v13 u11 H locs hw12 hP hD hS => ?_)
        obtain ⟨w, _⟩ := u11
        obtain ⟨hw12, hO⟩ := hw12
        obtain rfl : v13 = some (.ref (itlm i2)) := hw12
        have hO : OKP G h0 a (upd F 2 (nI sz)) R Z B J K2 w := hO.to rfl
        refine W.widen (k := 0) (n := 0) (Nat.le_of_ble_eq_true rfl) (Nat.le_of_ble_eq_true rfl) ?_
        refine W.eq (g2 := F0 m 21 ls [.ref (itlm i2)]) rfl ?_
        have hf16 : K.1 (itlm i2) = 3 := hlclm.T (by omega)
        refine p_cast (C := RX6) (Tc := TX6) (N := 12) (ci := 12) hx hb hown (hq _ pw_515) hE hP hO (by rw [((LgK.T hlg2 (itlm i2)).trans hf16)]; decide) (rep_3 ((LgK.T hlg2 (itlm i2)).trans hf16)) rfl dX9_judgeMethods_21 ?_
        refine lv_astore (lv' := [(4, .ref (itlm i2)), (3, .int (nI i2)), (2, .ref d1), (1, .ref d0), (0, .ref pq)]) hx hb dX9_judgeMethods_24 hl (by decide) rfl (fun ls hl => ?_)
        refine lv_aload_n hx hb dX9_judgeMethods_26 rfl (lv_at hl 3 rfl) ?_
        refine lv_aload hx hb dX9_judgeMethods_27 (lv_at hl 0 rfl) ?_
        refine p_get (v := .int (K2.2.1 6 (itlm i2))) (C := RX6) (Tc := TX6) (N := 12) (ci := 12) hx hb hq pin_wsX60 hown hE hP hO (by rw [((LgK.T hlg2 (itlm i2)).trans hf16)]; decide) (rep_3 ((LgK.T hlg2 (itlm i2)).trans hf16)) rfl 1 (by decide) (hq _ pw_1094) (fun _ h9 => h9) rfl dX9_judgeMethods_29 ?_
        have hO : OKP G h0 a (upd F 2 (nI sz)) R Z B J K2 w := hO.to rfl
        obtain ⟨qr20, hqr21⟩ := p_recv hO (by rw [((LgK.T hlg2 d0).trans hd0)]; decide) (rep_4 ((LgK.T hlg2 d0).trans hd0))
        refine pc_V0 (G := G) (As := [.int (K2.2.1 6 (itlm i2))]) (rest := []) hx hb hml hown hq hE hX pX0_al hP hD hS hA hl.1 (Y_own l G h0 a (upd F 2 (nI sz)) R Z B J K2 w d0 (K2.2.1 6 (itlm i2)) g ((LgK.T hlg2 d0).trans hd0) (LgK.wp hlg2 hwp) hO) (gV pw_1099 pw_152 pw_153 pw_146 pw_149) hV_X2_own qr20 2 hqr21 rfl rfl rfl (Nat.le_of_ble_eq_true rfl) dX9_judgeMethods_32 ⟨Nat.le_of_ble_eq_true rfl, Nat.le_of_ble_eq_true rfl⟩ ⟨Nat.le_of_ble_eq_true rfl, Nat.le_of_ble_eq_true rfl⟩ (fun v19 u17 H locs hw18 hP hD hS => ?_)
        obtain ⟨w, o22⟩ := u17
        obtain ⟨hw18, h23, hO⟩ := hw18
        have h23 : OwP K2 d0 (K2.2.1 6 (itlm i2)) o22 := h23
        obtain rfl : v19 = some ((va_rf o22)) := hw18
        have hO : OKP G h0 a (upd F 2 (nI sz)) R Z B J K2 w := hO.to rfl
        refine W.widen (k := 0) (n := 0) (Nat.le_of_ble_eq_true rfl) (Nat.le_of_ble_eq_true rfl) ?_
        refine W.eq (g2 := F0 m 35 ls [(va_rf o22)]) rfl ?_
        rcases o22 with _ | d24
        · have hl : lv_has ls 7 [(4, .ref (itlm i2)), (3, .int (nI i2)), (2, .ref d1), (1, .ref d0), (0, .ref pq)] := hl
          refine W.eq (g2 := F0 m 35 ls [.null]) rfl ?_
          refine lv_astoreN (lv' := [(5, .null), (4, .ref (itlm i2)), (3, .int (nI i2)), (2, .ref d1), (1, .ref d0), (0, .ref pq)]) hx hb dX9_judgeMethods_35 hl (by decide) rfl (fun ls hl => ?_)
          refine lv_aloadN hx hb dX9_judgeMethods_37 (lv_at hl 0 rfl) ?_
          refine lv_ifnonnullN hx hb dX9_judgeMethods_39 ?_
          refine lv_aload_n hx hb dX9_judgeMethods_42 rfl (lv_at hl 5 rfl) ?_
          refine lv_aload_n hx hb dX9_judgeMethods_43 rfl (lv_at hl 4 rfl) ?_
          refine lv_aload hx hb dX9_judgeMethods_44 (lv_at hl 1 rfl) ?_
          refine p_get (v := .int (K2.2.1 6 (itlm i2))) (C := RX6) (Tc := TX6) (N := 12) (ci := 12) hx hb hq pin_wsX60 hown hE hP hO (by rw [((LgK.T hlg2 (itlm i2)).trans hf16)]; decide) (rep_3 ((LgK.T hlg2 (itlm i2)).trans hf16)) rfl 1 (by decide) (hq _ pw_1094) (fun _ h9 => h9) rfl dX9_judgeMethods_46 ?_
          have hO : OKP G h0 a (upd F 2 (nI sz)) R Z B J K2 w := hO.to rfl
          obtain ⟨qr28, hqr29⟩ := p_recv hO (by rw [((LgK.T hlg2 pq).trans hp1)]; decide) (rep_7 ((LgK.T hlg2 pq).trans hp1))
          refine pc_V0 (G := G) (As := [.ref d0, .int (K2.2.1 6 (itlm i2))]) (rest := []) hx hb hml hown hq hE hX pX0_al hP hD hS hA hl.1 (N_firstFrom l G h0 a (upd F 2 (nI sz)) R Z B J K2 w pq dr ml nd d0 k0 (K2.2.1 6 (itlm i2)) g (LgK.ps hlg2 hps).1 (LgK.ps hlg2 hps).2.1 ((LgK.T hlg2 d0).trans hd0) (LgK.wp hlg2 hwp) hk0 (by rw [LgK.E hlg2]; exact he0) ((LgK.I hlg2 15 d0 (by decide)).trans hn0) hO) (gV pw_1148 pw_1149 pw_1150 pw_106 pw_1142) hV_X9_firstFromAbove qr28 6 hqr29 rfl rfl rfl (Nat.le_of_ble_eq_true rfl) dX9_judgeMethods_49 ⟨Nat.le_of_ble_eq_true rfl, Nat.le_of_ble_eq_true rfl⟩ ⟨Nat.le_of_ble_eq_true rfl, Nat.le_of_ble_eq_true rfl⟩ (fun v27 u25 H locs hw26 hP hD hS => ?_)
          obtain ⟨w, o30⟩ := u25
          obtain ⟨hw26, h31, hO⟩ := hw26
          have h31 : FfQ K2 dr nd d0 (K2.2.1 6 (itlm i2)) o30 := h31
          obtain rfl : v27 = some ((va_rf o30)) := hw26
          have hO : OKP G h0 a (upd F 2 (nI sz)) R Z B J K2 w := hO.to rfl
          refine W.widen (k := 0) (n := 0) (Nat.le_of_ble_eq_true rfl) (Nat.le_of_ble_eq_true rfl) ?_
          refine W.eq (g2 := F0 m 52 ls [(va_rf o30)]) rfl ?_
          rcases o30 with _ | d32
          · have hl : lv_has ls 7 [(5, .null), (4, .ref (itlm i2)), (3, .int (nI i2)), (2, .ref d1), (1, .ref d0), (0, .ref pq)] := hl
            refine W.eq (g2 := F0 m 52 ls [.null]) rfl ?_
            refine lv_goto (tgt := 57) hx hb dX9_judgeMethods_52 (by decide) ?_
            refine lv_astoreN (lv' := [(6, .null), (5, .null), (4, .ref (itlm i2)), (3, .int (nI i2)), (2, .ref d1), (1, .ref d0), (0, .ref pq)]) hx hb dX9_judgeMethods_57 hl (by decide) rfl (fun ls hl => ?_)
            refine lv_aload_n hx hb dX9_judgeMethods_59 rfl (lv_at hl 6 rfl) ?_
            refine lv_aload hx hb dX9_judgeMethods_60 (lv_at hl 2 rfl) ?_
            refine lv_aloadN hx hb dX9_judgeMethods_62 (lv_at hl 0 rfl) ?_
            have hO : OKP G h0 a (upd (upd F 2 (nI sz)) 2 (nI sz)) R Z B J K2 w := hO.to rfl
            obtain ⟨qr36, hqr37⟩ := p_recv hO (by rw [((LgK.T hlg2 pq).trans hp1)]; decide) (rep_7 ((LgK.T hlg2 pq).trans hp1))
            refine pc_V0 (G := G) (As := [.ref (itlm i2), .null]) (rest := []) hx hb hml hown hq hE hX pX0_al hP hD hS hA hl.1 (N_oneSigN l G h0 a (upd F 2 (nI sz)) R Z B J K2 w pq dr ml nd (itlm i2) sz g (LgK.ps hlg2 hps).1 (by omega) ((LgK.T hlg2 (itlm i2)).trans hf16) (LgK.wp hlg2 hwp) hO) (gV pw_1151 pw_1152 pw_1153 pw_106 pw_1147) hV_X9_haveOneSignature qr36 6 hqr37 rfl rfl rfl (Nat.le_of_ble_eq_true rfl) dX9_judgeMethods_64 ⟨Nat.le_of_ble_eq_true rfl, Nat.le_of_ble_eq_true rfl⟩ ⟨Nat.le_of_ble_eq_true rfl, Nat.le_of_ble_eq_true rfl⟩ (fun v35 u33 H locs hw34 hP hD hS => ?_)
            obtain ⟨w, r38⟩ := u33
            obtain ⟨hw34, h39, h40, hO⟩ := hw34
            have h39 : r38 ≤ 1 := h39
            have h40 : r38 = 0 := h40
            obtain rfl : v35 = some (.int (nI r38)) := hw34
            have hO : OKP G h0 a (upd F 2 (nI sz)) R Z B J K2 w := hO.to rfl
            refine W.widen (k := 0) (n := 0) (Nat.le_of_ble_eq_true rfl) (Nat.le_of_ble_eq_true rfl) ?_
            refine W.eq (g2 := F0 m 67 ls [.int (nI r38)]) rfl ?_
            refine lv_if_ne (tgt := 93) hx hb dX9_judgeMethods_67 (by decide) (fun c41 => (absurd (by rw [show r38 = 0 by omega]; rfl) c41)) (fun c41 => ?_)
            refine lv_aload_n hx hb dX9_judgeMethods_70 rfl (lv_at hl 6 rfl) ?_
            refine lv_bipush (v := 7) hx hb dX9_judgeMethods_71 (by decide) ?_
            refine lv_aloadN hx hb dX9_judgeMethods_73 (lv_at hl 1 rfl) ?_
            refine lv_ifnonnullN hx hb dX9_judgeMethods_75 ?_
            refine lv_aload_n hx hb dX9_judgeMethods_78 rfl (lv_at hl 5 rfl) ?_
            refine p_get (v := .int (K2.2.1 17 d0)) (C := RX2) (Tc := TX2) (N := 13) (ci := 2) hx hb hq pin_wsX20 hown hE hP hO (by rw [((LgK.T hlg2 d0).trans hd0)]; decide) (rep_4 ((LgK.T hlg2 d0).trans hd0)) rfl 2 (by decide) (hq _ pw_1114) (fun _ h9 => h9) rfl dX9_judgeMethods_79 ?_
            refine lv_goto (tgt := 90) hx hb dX9_judgeMethods_82 (by decide) ?_
            have hO : OKP G h0 a (upd (upd F 2 (nI sz)) 2 (nI sz)) R Z B J K2 w := hO.to rfl
            obtain ⟨qr45, hqr46⟩ := p_recv hO (by rw [((LgK.T hlg2 pq).trans hp1)]; decide) (rep_7 ((LgK.T hlg2 pq).trans hp1))
            refine pc_V0 (G := G) (As := [.int 7, .int (K2.2.1 17 d0)]) (rest := []) hx hb hml hown hq hE hX pX0_al hP hD hS hA hl.1 (N_report l G h0 a (upd F 2 (nI sz)) R Z B J K2 w pq dr ml nd nm cp it s9 7 (K2.2.1 17 d0) sz g (by omega) (LgK.wp hlg2 hwp) (LgK.ps hlg2 hps) hO) (gV pw_1096 pw_1097 pw_1098 pw_106 pw_1084) hV_X9_report qr45 6 hqr46 rfl rfl rfl (Nat.le_of_ble_eq_true rfl) dX9_judgeMethods_90 ⟨Nat.le_of_ble_eq_true rfl, Nat.le_of_ble_eq_true rfl⟩ ⟨Nat.le_of_ble_eq_true rfl, Nat.le_of_ble_eq_true rfl⟩ (fun v44 u42 H locs hw43 hP hD hS => ?_)
            obtain ⟨w, K47⟩ := u42
            obtain ⟨hw43, h48, h49, hO⟩ := hw43
            have h48 : LgK K2 K47 pq := h48
            have h49 : RpX 7 K47 pq := h49
            obtain rfl : v44 = none := hw43
            have hO : OKP G h0 a (upd F 2 (nI sz)) R Z B J K47 w := hO.to rfl
            refine W.widen (k := 0) (n := 0) (Nat.le_of_ble_eq_true rfl) (Nat.le_of_ble_eq_true rfl) ?_
            refine W.eq (g2 := F0 m 93 ls []) rfl ?_
            have hlg50 : LgK K K47 pq := LgK.trans hlg2 h48
            have hm51 : Cln K47 pq → Cln K2 pq := fun z => absurd z (h49 (by decide))
            refine lv_aload_n hx hb dX9_judgeMethods_93 rfl (lv_at hl 4 rfl) ?_
            refine p_get (v := .int (K47.2.1 18 d1)) (C := RX2) (Tc := TX2) (N := 13) (ci := 2) hx hb hq pin_wsX20 hown hE hP hO (by rw [((LgK.T hlg50 d1).trans hd1)]; decide) (rep_4 ((LgK.T hlg50 d1).trans hd1)) rfl 3 (by decide) (hq _ pw_1101) (fun _ h9 => h9) rfl dX9_judgeMethods_94 ?_
            refine lv_if_eq (tgt := 129) hx hb dX9_judgeMethods_97 (by decide) (fun c52 => ?_) (fun c52 => ?_)
            · refine lv_iinc (v := (nI (i2 + 1))) (lv' := [(3, .int (nI (i2 + 1))), (6, .null), (5, .null), (4, .ref (itlm i2)), (2, .ref d1), (1, .ref d0), (0, .ref pq)]) hx hb dX9_judgeMethods_129 hl (k := 3) rfl (nI_1 i2) (by decide) rfl (fun ls hl => ?_)
              refine lv_goto (tgt := 2) hx hb dX9_judgeMethods_132 (by decide) ?_
              have hO : OKP G h0 a (upd F 2 (nI sz)) R Z B J K47 w := hO.to rfl
              exact ih_2 (i2 + 1) K47 _ _ _ _ (by omega) (by omega) hlg50 (fun z => absurd z (h49 (by decide))) hP hD hS hO (lv_sub hl [0, 4, 5, 6] rfl)
            · refine lv_aload_n hx hb dX9_judgeMethods_100 rfl (lv_at hl 5 rfl) ?_
              refine p_get (v := .int (K47.2.1 18 d0)) (C := RX2) (Tc := TX2) (N := 13) (ci := 2) hx hb hq pin_wsX20 hown hE hP hO (by rw [((LgK.T hlg50 d0).trans hd0)]; decide) (rep_4 ((LgK.T hlg50 d0).trans hd0)) rfl 3 (by decide) (hq _ pw_1101) (fun _ h9 => h9) rfl dX9_judgeMethods_101 ?_
              refine lv_if_ne (tgt := 129) hx hb dX9_judgeMethods_104 (by decide) (fun c53 => ?_) (fun c53 => ?_)
              · refine lv_iinc (v := (nI (i2 + 1))) (lv' := [(3, .int (nI (i2 + 1))), (6, .null), (5, .null), (4, .ref (itlm i2)), (2, .ref d1), (1, .ref d0), (0, .ref pq)]) hx hb dX9_judgeMethods_129 hl (k := 3) rfl (nI_1 i2) (by decide) rfl (fun ls hl => ?_)
                refine lv_goto (tgt := 2) hx hb dX9_judgeMethods_132 (by decide) ?_
                have hO : OKP G h0 a (upd F 2 (nI sz)) R Z B J K47 w := hO.to rfl
                exact ih_2 (i2 + 1) K47 _ _ _ _ (by omega) (by omega) hlg50 (fun z => absurd z (h49 (by decide))) hP hD hS hO (lv_sub hl [0, 4, 5, 6] rfl)
              · refine lv_aload_n hx hb dX9_judgeMethods_107 rfl (lv_at hl 5 rfl) ?_
                refine lv_aload hx hb dX9_judgeMethods_108 (lv_at hl 2 rfl) ?_
                refine p_get (v := .int (K47.2.1 6 (itlm i2))) (C := RX6) (Tc := TX6) (N := 12) (ci := 12) hx hb hq pin_wsX60 hown hE hP hO (by rw [((LgK.T hlg50 (itlm i2)).trans hf16)]; decide) (rep_3 ((LgK.T hlg50 (itlm i2)).trans hf16)) rfl 1 (by decide) (hq _ pw_1094) (fun _ h9 => h9) rfl dX9_judgeMethods_110 ?_
                have hO : OKP G h0 a (upd F 2 (nI sz)) R Z B J K47 w := hO.to rfl
                obtain ⟨qr57, hqr58⟩ := p_recv hO (by rw [((LgK.T hlg50 d0).trans hd0)]; decide) (rep_4 ((LgK.T hlg50 d0).trans hd0))
                refine pc_V0 (G := G) (As := [.int (K47.2.1 6 (itlm i2))]) (rest := []) hx hb hml hown hq hE hX pX0_al hP hD hS hA hl.1 (N_nearest l G h0 a (upd F 2 (nI sz)) R Z B J K47 w d0 (K47.2.1 6 (itlm i2)) g rk ((LgK.T hlg50 d0).trans hd0) (LgK.wp hlg50 hwp) (LgK.rko hlg50 hrk) hO) (gV pw_1154 pw_222 pw_223 pw_146 pw_154) hV_X2_nearest qr57 2 hqr58 rfl rfl rfl (Nat.le_of_ble_eq_true rfl) dX9_judgeMethods_113 ⟨Nat.le_of_ble_eq_true rfl, Nat.le_of_ble_eq_true rfl⟩ ⟨Nat.le_of_ble_eq_true rfl, Nat.le_of_ble_eq_true rfl⟩ (fun v56 u54 H locs hw55 hP hD hS => ?_)
                obtain ⟨w, o59⟩ := u54
                obtain ⟨hw55, h60, hO⟩ := hw55
                have h60 : NeQ K47 (K47.2.1 6 (itlm i2)) d0 o59 := h60
                obtain rfl : v56 = some ((va_rf o59)) := hw55
                have hO : OKP G h0 a (upd F 2 (nI sz)) R Z B J K47 w := hO.to rfl
                refine W.widen (k := 0) (n := 0) (Nat.le_of_ble_eq_true rfl) (Nat.le_of_ble_eq_true rfl) ?_
                refine W.eq (g2 := F0 m 116 ls [(va_rf o59)]) rfl ?_
                rcases o59 with _ | d61
                · have hl : lv_has ls 7 [(6, .null), (5, .null), (4, .ref (itlm i2)), (3, .int (nI i2)), (2, .ref d1), (1, .ref d0), (0, .ref pq)] := hl
                  refine W.eq (g2 := F0 m 116 ls [.null]) rfl ?_
                  refine lv_ifnonnullN hx hb dX9_judgeMethods_116 ?_
                  refine lv_aload_n hx hb dX9_judgeMethods_119 rfl (lv_at hl 6 rfl) ?_
                  refine lv_bipush (v := 8) hx hb dX9_judgeMethods_120 (by decide) ?_
                  refine lv_aload_n hx hb dX9_judgeMethods_122 rfl (lv_at hl 5 rfl) ?_
                  refine p_get (v := .int (K47.2.1 17 d0)) (C := RX2) (Tc := TX2) (N := 13) (ci := 2) hx hb hq pin_wsX20 hown hE hP hO (by rw [((LgK.T hlg50 d0).trans hd0)]; decide) (rep_4 ((LgK.T hlg50 d0).trans hd0)) rfl 2 (by decide) (hq _ pw_1114) (fun _ h9 => h9) rfl dX9_judgeMethods_123 ?_
                  have hO : OKP G h0 a (upd (upd F 2 (nI sz)) 2 (nI sz)) R Z B J K47 w := hO.to rfl
                  obtain ⟨qr65, hqr66⟩ := p_recv hO (by rw [((LgK.T hlg50 pq).trans hp1)]; decide) (rep_7 ((LgK.T hlg50 pq).trans hp1))
                  refine pc_V0 (G := G) (As := [.int 8, .int (K47.2.1 17 d0)]) (rest := []) hx hb hml hown hq hE hX pX0_al hP hD hS hA hl.1 (N_report l G h0 a (upd F 2 (nI sz)) R Z B J K47 w pq dr ml nd nm cp it s9 8 (K47.2.1 17 d0) sz g (by omega) (LgK.wp hlg50 hwp) (LgK.ps hlg50 hps) hO) (gV pw_1096 pw_1097 pw_1098 pw_106 pw_1084) hV_X9_report qr65 6 hqr66 rfl rfl rfl (Nat.le_of_ble_eq_true rfl) dX9_judgeMethods_126 ⟨Nat.le_of_ble_eq_true rfl, Nat.le_of_ble_eq_true rfl⟩ ⟨Nat.le_of_ble_eq_true rfl, Nat.le_of_ble_eq_true rfl⟩ (fun v64 u62 H locs hw63 hP hD hS => ?_)
                  obtain ⟨w, K67⟩ := u62
                  obtain ⟨hw63, h68, h69, hO⟩ := hw63
                  have h68 : LgK K47 K67 pq := h68
                  have h69 : RpX 8 K67 pq := h69
                  obtain rfl : v64 = none := hw63
                  have hO : OKP G h0 a (upd F 2 (nI sz)) R Z B J K67 w := hO.to rfl
                  refine W.widen (k := 0) (n := 0) (Nat.le_of_ble_eq_true rfl) (Nat.le_of_ble_eq_true rfl) ?_
                  refine W.eq (g2 := F0 m 129 ls []) rfl ?_
                  have hlg70 : LgK K K67 pq := LgK.trans hlg50 h68
                  have hm71 : Cln K67 pq → Cln K47 pq := fun z => absurd z (h69 (by decide))
                  refine lv_iinc (v := (nI (i2 + 1))) (lv' := [(3, .int (nI (i2 + 1))), (6, .null), (5, .null), (4, .ref (itlm i2)), (2, .ref d1), (1, .ref d0), (0, .ref pq)]) hx hb dX9_judgeMethods_129 hl (k := 3) rfl (nI_1 i2) (by decide) rfl (fun ls hl => ?_)
                  refine lv_goto (tgt := 2) hx hb dX9_judgeMethods_132 (by decide) ?_
                  have hO : OKP G h0 a (upd F 2 (nI sz)) R Z B J K67 w := hO.to rfl
                  exact ih_2 (i2 + 1) K67 _ _ _ _ (by omega) (by omega) hlg70 (fun z => absurd z (h69 (by decide))) hP hD hS hO (lv_sub hl [0, 4, 5, 6] rfl)
                · have hl : lv_has ls 7 [(6, .null), (5, .null), (4, .ref (itlm i2)), (3, .int (nI i2)), (2, .ref d1), (1, .ref d0), (0, .ref pq)] := hl
                  refine W.eq (g2 := F0 m 116 ls [.ref d61]) rfl ?_
                  refine lv_ifnonnull (tgt := 129) hx hb dX9_judgeMethods_116 (by decide) ?_
                  refine lv_iinc (v := (nI (i2 + 1))) (lv' := [(3, .int (nI (i2 + 1))), (6, .null), (5, .null), (4, .ref (itlm i2)), (2, .ref d1), (1, .ref d0), (0, .ref pq)]) hx hb dX9_judgeMethods_129 hl (k := 3) rfl (nI_1 i2) (by decide) rfl (fun ls hl => ?_)
                  refine lv_goto (tgt := 2) hx hb dX9_judgeMethods_132 (by decide) ?_
                  have hO : OKP G h0 a (upd F 2 (nI sz)) R Z B J K47 w := hO.to rfl
                  exact ih_2 (i2 + 1) K47 _ _ _ _ (by omega) (by omega) hlg50 (fun z => absurd z (h49 (by decide))) hP hD hS hO (lv_sub hl [0, 4, 5, 6] rfl)
          · have hl : lv_has ls 7 [(5, .null), (4, .ref (itlm i2)), (3, .int (nI i2)), (2, .ref d1), (1, .ref d0), (0, .ref pq)] := hl
            refine W.eq (g2 := F0 m 52 ls [.ref d32]) rfl ?_
            have hf72 : K.1 d32 = 3 := (LgK.T hlg2 d32).symm.trans (h31 d32 rfl).1
            refine lv_goto (tgt := 57) hx hb dX9_judgeMethods_52 (by decide) ?_
            refine lv_astore (lv' := [(6, .ref d32), (5, .null), (4, .ref (itlm i2)), (3, .int (nI i2)), (2, .ref d1), (1, .ref d0), (0, .ref pq)]) hx hb dX9_judgeMethods_57 hl (by decide) rfl (fun ls hl => ?_)
            refine lv_aload_n hx hb dX9_judgeMethods_59 rfl (lv_at hl 6 rfl) ?_
            refine lv_aload hx hb dX9_judgeMethods_60 (lv_at hl 2 rfl) ?_
            refine lv_aload hx hb dX9_judgeMethods_62 (lv_at hl 0 rfl) ?_
            have hO : OKP G h0 a (upd (upd F 2 (nI sz)) 2 (nI sz)) R Z B J K2 w := hO.to rfl
            obtain ⟨qr76, hqr77⟩ := p_recv hO (by rw [((LgK.T hlg2 pq).trans hp1)]; decide) (rep_7 ((LgK.T hlg2 pq).trans hp1))
            refine pc_V0 (G := G) (As := [.ref (itlm i2), .ref d32]) (rest := []) hx hb hml hown hq hE hX pX0_al hP hD hS hA hl.1 (N_oneSig l G h0 a (upd F 2 (nI sz)) R Z B J K2 w pq dr ml nd (itlm i2) sz d32 g (LgK.ps hlg2 hps).1 (by omega) ((LgK.T hlg2 (itlm i2)).trans hf16) ((LgK.T hlg2 d32).trans hf72) (LgK.wp hlg2 hwp) hO) (gV pw_1151 pw_1152 pw_1153 pw_106 pw_1147) hV_X9_haveOneSignature qr76 6 hqr77 rfl rfl rfl (Nat.le_of_ble_eq_true rfl) dX9_judgeMethods_64 ⟨Nat.le_of_ble_eq_true rfl, Nat.le_of_ble_eq_true rfl⟩ ⟨Nat.le_of_ble_eq_true rfl, Nat.le_of_ble_eq_true rfl⟩ (fun v75 u73 H locs hw74 hP hD hS => ?_)
            obtain ⟨w, r78⟩ := u73
            obtain ⟨hw74, h79, h80, hO⟩ := hw74
            have h79 : r78 ≤ 1 := h79
            have h80 : r78 = 1 → SgE G K2 ((B 11)) sz (itlm i2) d32 := h80
            obtain rfl : v75 = some (.int (nI r78)) := hw74
            have hO : OKP G h0 a (upd F 2 (nI sz)) R Z B J K2 w := hO.to rfl
            refine W.widen (k := 0) (n := 0) (Nat.le_of_ble_eq_true rfl) (Nat.le_of_ble_eq_true rfl) ?_
            refine W.eq (g2 := F0 m 67 ls [.int (nI r78)]) rfl ?_
            refine lv_if_ne (tgt := 93) hx hb dX9_judgeMethods_67 (by decide) (fun c81 => ?_) (fun c81 => ?_)
            · have n82 : ¬ (r78 = 0) := fun h9 => c81 ((nI_eq (a := r78) (b := 0) (by omega) (by omega)).mpr h9)
              have hsg9 := (LgK.sge hlg2 (h80 (by omega)))
              refine lv_aload_n hx hb dX9_judgeMethods_93 rfl (lv_at hl 4 rfl) ?_
              refine p_get (v := .int (K2.2.1 18 d1)) (C := RX2) (Tc := TX2) (N := 13) (ci := 2) hx hb hq pin_wsX20 hown hE hP hO (by rw [((LgK.T hlg2 d1).trans hd1)]; decide) (rep_4 ((LgK.T hlg2 d1).trans hd1)) rfl 3 (by decide) (hq _ pw_1101) (fun _ h9 => h9) rfl dX9_judgeMethods_94 ?_
              refine lv_if_eq (tgt := 129) hx hb dX9_judgeMethods_97 (by decide) (fun c83 => ?_) (fun c83 => ?_)
              · refine lv_iinc (v := (nI (i2 + 1))) (lv' := [(3, .int (nI (i2 + 1))), (6, .ref d32), (5, .null), (4, .ref (itlm i2)), (2, .ref d1), (1, .ref d0), (0, .ref pq)]) hx hb dX9_judgeMethods_129 hl (k := 3) rfl (nI_1 i2) (by decide) rfl (fun ls hl => ?_)
                refine lv_goto (tgt := 2) hx hb dX9_judgeMethods_132 (by decide) ?_
                have hO : OKP G h0 a (upd F 2 (nI sz)) R Z B J K2 w := hO.to rfl
                exact ih_2 (i2 + 1) K2 _ _ _ _ (by omega) (by omega) hlg2 (fun z => ⟨(hcl2 z).1, (alS (hcl2 z).2 ⟨⟨d32, Or.inr ⟨LgK.owp6 hlg2 h23, LgK.ffp6 hlg2 (h31 d32 rfl).2⟩, hsg9⟩, (fun y => absurd ((LgK.I hlg2 18 d1 (by decide)).symm.trans c83) y)⟩)⟩) hP hD hS hO (lv_sub hl [0, 4, 5, 6] rfl)
              · refine lv_aload_n hx hb dX9_judgeMethods_100 rfl (lv_at hl 5 rfl) ?_
                refine p_get (v := .int (K2.2.1 18 d0)) (C := RX2) (Tc := TX2) (N := 13) (ci := 2) hx hb hq pin_wsX20 hown hE hP hO (by rw [((LgK.T hlg2 d0).trans hd0)]; decide) (rep_4 ((LgK.T hlg2 d0).trans hd0)) rfl 3 (by decide) (hq _ pw_1101) (fun _ h9 => h9) rfl dX9_judgeMethods_101 ?_
                refine lv_if_ne (tgt := 129) hx hb dX9_judgeMethods_104 (by decide) (fun c84 => ?_) (fun c84 => ?_)
                · refine lv_iinc (v := (nI (i2 + 1))) (lv' := [(3, .int (nI (i2 + 1))), (6, .ref d32), (5, .null), (4, .ref (itlm i2)), (2, .ref d1), (1, .ref d0), (0, .ref pq)]) hx hb dX9_judgeMethods_129 hl (k := 3) rfl (nI_1 i2) (by decide) rfl (fun ls hl => ?_)
                  refine lv_goto (tgt := 2) hx hb dX9_judgeMethods_132 (by decide) ?_
                  have hO : OKP G h0 a (upd F 2 (nI sz)) R Z B J K2 w := hO.to rfl
                  exact ih_2 (i2 + 1) K2 _ _ _ _ (by omega) (by omega) hlg2 (fun z => ⟨(hcl2 z).1, (alS (hcl2 z).2 ⟨⟨d32, Or.inr ⟨LgK.owp6 hlg2 h23, LgK.ffp6 hlg2 (h31 d32 rfl).2⟩, hsg9⟩, (fun _ y => absurd ((LgK.I hlg2 18 d0 (by decide)).trans y) c84)⟩)⟩) hP hD hS hO (lv_sub hl [0, 4, 5, 6] rfl)
                · refine lv_aload_n hx hb dX9_judgeMethods_107 rfl (lv_at hl 5 rfl) ?_
                  refine lv_aload hx hb dX9_judgeMethods_108 (lv_at hl 2 rfl) ?_
                  refine p_get (v := .int (K2.2.1 6 (itlm i2))) (C := RX6) (Tc := TX6) (N := 12) (ci := 12) hx hb hq pin_wsX60 hown hE hP hO (by rw [((LgK.T hlg2 (itlm i2)).trans hf16)]; decide) (rep_3 ((LgK.T hlg2 (itlm i2)).trans hf16)) rfl 1 (by decide) (hq _ pw_1094) (fun _ h9 => h9) rfl dX9_judgeMethods_110 ?_
                  have hO : OKP G h0 a (upd F 2 (nI sz)) R Z B J K2 w := hO.to rfl
                  obtain ⟨qr88, hqr89⟩ := p_recv hO (by rw [((LgK.T hlg2 d0).trans hd0)]; decide) (rep_4 ((LgK.T hlg2 d0).trans hd0))
                  refine pc_V0 (G := G) (As := [.int (K2.2.1 6 (itlm i2))]) (rest := []) hx hb hml hown hq hE hX pX0_al hP hD hS hA hl.1 (N_nearest l G h0 a (upd F 2 (nI sz)) R Z B J K2 w d0 (K2.2.1 6 (itlm i2)) g rk ((LgK.T hlg2 d0).trans hd0) (LgK.wp hlg2 hwp) (LgK.rko hlg2 hrk) hO) (gV pw_1154 pw_222 pw_223 pw_146 pw_154) hV_X2_nearest qr88 2 hqr89 rfl rfl rfl (Nat.le_of_ble_eq_true rfl) dX9_judgeMethods_113 ⟨Nat.le_of_ble_eq_true rfl, Nat.le_of_ble_eq_true rfl⟩ ⟨Nat.le_of_ble_eq_true rfl, Nat.le_of_ble_eq_true rfl⟩ (fun v87 u85 H locs hw86 hP hD hS => ?_)
                  obtain ⟨w, o90⟩ := u85
                  obtain ⟨hw86, h91, hO⟩ := hw86
                  have h91 : NeQ K2 (K2.2.1 6 (itlm i2)) d0 o90 := h91
                  obtain rfl : v87 = some ((va_rf o90)) := hw86
                  have hO : OKP G h0 a (upd F 2 (nI sz)) R Z B J K2 w := hO.to rfl
                  refine W.widen (k := 0) (n := 0) (Nat.le_of_ble_eq_true rfl) (Nat.le_of_ble_eq_true rfl) ?_
                  refine W.eq (g2 := F0 m 116 ls [(va_rf o90)]) rfl ?_
                  rcases o90 with _ | d92
                  · have hl : lv_has ls 7 [(6, .ref d32), (5, .null), (4, .ref (itlm i2)), (3, .int (nI i2)), (2, .ref d1), (1, .ref d0), (0, .ref pq)] := hl
                    refine W.eq (g2 := F0 m 116 ls [.null]) rfl ?_
                    refine lv_ifnonnullN hx hb dX9_judgeMethods_116 ?_
                    refine lv_aload_n hx hb dX9_judgeMethods_119 rfl (lv_at hl 6 rfl) ?_
                    refine lv_bipush (v := 8) hx hb dX9_judgeMethods_120 (by decide) ?_
                    refine lv_aload_n hx hb dX9_judgeMethods_122 rfl (lv_at hl 5 rfl) ?_
                    refine p_get (v := .int (K2.2.1 17 d0)) (C := RX2) (Tc := TX2) (N := 13) (ci := 2) hx hb hq pin_wsX20 hown hE hP hO (by rw [((LgK.T hlg2 d0).trans hd0)]; decide) (rep_4 ((LgK.T hlg2 d0).trans hd0)) rfl 2 (by decide) (hq _ pw_1114) (fun _ h9 => h9) rfl dX9_judgeMethods_123 ?_
                    have hO : OKP G h0 a (upd (upd F 2 (nI sz)) 2 (nI sz)) R Z B J K2 w := hO.to rfl
                    obtain ⟨qr96, hqr97⟩ := p_recv hO (by rw [((LgK.T hlg2 pq).trans hp1)]; decide) (rep_7 ((LgK.T hlg2 pq).trans hp1))
                    refine pc_V0 (G := G) (As := [.int 8, .int (K2.2.1 17 d0)]) (rest := []) hx hb hml hown hq hE hX pX0_al hP hD hS hA hl.1 (N_report l G h0 a (upd F 2 (nI sz)) R Z B J K2 w pq dr ml nd nm cp it s9 8 (K2.2.1 17 d0) sz g (by omega) (LgK.wp hlg2 hwp) (LgK.ps hlg2 hps) hO) (gV pw_1096 pw_1097 pw_1098 pw_106 pw_1084) hV_X9_report qr96 6 hqr97 rfl rfl rfl (Nat.le_of_ble_eq_true rfl) dX9_judgeMethods_126 ⟨Nat.le_of_ble_eq_true rfl, Nat.le_of_ble_eq_true rfl⟩ ⟨Nat.le_of_ble_eq_true rfl, Nat.le_of_ble_eq_true rfl⟩ (fun v95 u93 H locs hw94 hP hD hS => ?_)
                    obtain ⟨w, K98⟩ := u93
                    obtain ⟨hw94, h99, h100, hO⟩ := hw94
                    have h99 : LgK K2 K98 pq := h99
                    have h100 : RpX 8 K98 pq := h100
                    obtain rfl : v95 = none := hw94
                    have hO : OKP G h0 a (upd F 2 (nI sz)) R Z B J K98 w := hO.to rfl
                    refine W.widen (k := 0) (n := 0) (Nat.le_of_ble_eq_true rfl) (Nat.le_of_ble_eq_true rfl) ?_
                    refine W.eq (g2 := F0 m 129 ls []) rfl ?_
                    have hlg101 : LgK K K98 pq := LgK.trans hlg2 h99
                    have hm102 : Cln K98 pq → Cln K2 pq := fun z => absurd z (h100 (by decide))
                    refine lv_iinc (v := (nI (i2 + 1))) (lv' := [(3, .int (nI (i2 + 1))), (6, .ref d32), (5, .null), (4, .ref (itlm i2)), (2, .ref d1), (1, .ref d0), (0, .ref pq)]) hx hb dX9_judgeMethods_129 hl (k := 3) rfl (nI_1 i2) (by decide) rfl (fun ls hl => ?_)
                    refine lv_goto (tgt := 2) hx hb dX9_judgeMethods_132 (by decide) ?_
                    have hO : OKP G h0 a (upd F 2 (nI sz)) R Z B J K98 w := hO.to rfl
                    exact ih_2 (i2 + 1) K98 _ _ _ _ (by omega) (by omega) hlg101 (fun z => absurd z (h100 (by decide))) hP hD hS hO (lv_sub hl [0, 4, 5, 6] rfl)
                  · have hl : lv_has ls 7 [(6, .ref d32), (5, .null), (4, .ref (itlm i2)), (3, .int (nI i2)), (2, .ref d1), (1, .ref d0), (0, .ref pq)] := hl
                    refine W.eq (g2 := F0 m 116 ls [.ref d92]) rfl ?_
                    refine lv_ifnonnull (tgt := 129) hx hb dX9_judgeMethods_116 (by decide) ?_
                    refine lv_iinc (v := (nI (i2 + 1))) (lv' := [(3, .int (nI (i2 + 1))), (6, .ref d32), (5, .null), (4, .ref (itlm i2)), (2, .ref d1), (1, .ref d0), (0, .ref pq)]) hx hb dX9_judgeMethods_129 hl (k := 3) rfl (nI_1 i2) (by decide) rfl (fun ls hl => ?_)
                    refine lv_goto (tgt := 2) hx hb dX9_judgeMethods_132 (by decide) ?_
                    have hO : OKP G h0 a (upd F 2 (nI sz)) R Z B J K2 w := hO.to rfl
                    exact ih_2 (i2 + 1) K2 _ _ _ _ (by omega) (by omega) hlg2 (fun z => ⟨(hcl2 z).1, (alS (hcl2 z).2 ⟨⟨d32, Or.inr ⟨LgK.owp6 hlg2 h23, LgK.ffp6 hlg2 (h31 d32 rfl).2⟩, hsg9⟩, (fun _ _ => ⟨d92, LgK.nep6 hlg2 (h91 d92 rfl).2⟩)⟩)⟩) hP hD hS hO (lv_sub hl [0, 4, 5, 6] rfl)
            · have n103 : r78 = 0 := (nI_eq (a := r78) (b := 0) (by omega) (by omega)).mp c81
              refine lv_aload_n hx hb dX9_judgeMethods_70 rfl (lv_at hl 6 rfl) ?_
              refine lv_bipush (v := 7) hx hb dX9_judgeMethods_71 (by decide) ?_
              refine lv_aloadN hx hb dX9_judgeMethods_73 (lv_at hl 1 rfl) ?_
              refine lv_ifnonnullN hx hb dX9_judgeMethods_75 ?_
              refine lv_aload_n hx hb dX9_judgeMethods_78 rfl (lv_at hl 5 rfl) ?_
              refine p_get (v := .int (K2.2.1 17 d0)) (C := RX2) (Tc := TX2) (N := 13) (ci := 2) hx hb hq pin_wsX20 hown hE hP hO (by rw [((LgK.T hlg2 d0).trans hd0)]; decide) (rep_4 ((LgK.T hlg2 d0).trans hd0)) rfl 2 (by decide) (hq _ pw_1114) (fun _ h9 => h9) rfl dX9_judgeMethods_79 ?_
              refine lv_goto (tgt := 90) hx hb dX9_judgeMethods_82 (by decide) ?_
              have hO : OKP G h0 a (upd (upd F 2 (nI sz)) 2 (nI sz)) R Z B J K2 w := hO.to rfl
              obtain ⟨qr107, hqr108⟩ := p_recv hO (by rw [((LgK.T hlg2 pq).trans hp1)]; decide) (rep_7 ((LgK.T hlg2 pq).trans hp1))
              refine pc_V0 (G := G) (As := [.int 7, .int (K2.2.1 17 d0)]) (rest := []) hx hb hml hown hq hE hX pX0_al hP hD hS hA hl.1 (N_report l G h0 a (upd F 2 (nI sz)) R Z B J K2 w pq dr ml nd nm cp it s9 7 (K2.2.1 17 d0) sz g (by omega) (LgK.wp hlg2 hwp) (LgK.ps hlg2 hps) hO) (gV pw_1096 pw_1097 pw_1098 pw_106 pw_1084) hV_X9_report qr107 6 hqr108 rfl rfl rfl (Nat.le_of_ble_eq_true rfl) dX9_judgeMethods_90 ⟨Nat.le_of_ble_eq_true rfl, Nat.le_of_ble_eq_true rfl⟩ ⟨Nat.le_of_ble_eq_true rfl, Nat.le_of_ble_eq_true rfl⟩ (fun v106 u104 H locs hw105 hP hD hS => ?_)
              obtain ⟨w, K109⟩ := u104
              obtain ⟨hw105, h110, h111, hO⟩ := hw105
              have h110 : LgK K2 K109 pq := h110
              have h111 : RpX 7 K109 pq := h111
              obtain rfl : v106 = none := hw105
              have hO : OKP G h0 a (upd F 2 (nI sz)) R Z B J K109 w := hO.to rfl
              refine W.widen (k := 0) (n := 0) (Nat.le_of_ble_eq_true rfl) (Nat.le_of_ble_eq_true rfl) ?_
              refine W.eq (g2 := F0 m 93 ls []) rfl ?_
              have hlg112 : LgK K K109 pq := LgK.trans hlg2 h110
              have hm113 : Cln K109 pq → Cln K2 pq := fun z => absurd z (h111 (by decide))
              refine lv_aload_n hx hb dX9_judgeMethods_93 rfl (lv_at hl 4 rfl) ?_
              refine p_get (v := .int (K109.2.1 18 d1)) (C := RX2) (Tc := TX2) (N := 13) (ci := 2) hx hb hq pin_wsX20 hown hE hP hO (by rw [((LgK.T hlg112 d1).trans hd1)]; decide) (rep_4 ((LgK.T hlg112 d1).trans hd1)) rfl 3 (by decide) (hq _ pw_1101) (fun _ h9 => h9) rfl dX9_judgeMethods_94 ?_
              refine lv_if_eq (tgt := 129) hx hb dX9_judgeMethods_97 (by decide) (fun c114 => ?_) (fun c114 => ?_)
              · refine lv_iinc (v := (nI (i2 + 1))) (lv' := [(3, .int (nI (i2 + 1))), (6, .ref d32), (5, .null), (4, .ref (itlm i2)), (2, .ref d1), (1, .ref d0), (0, .ref pq)]) hx hb dX9_judgeMethods_129 hl (k := 3) rfl (nI_1 i2) (by decide) rfl (fun ls hl => ?_)
                refine lv_goto (tgt := 2) hx hb dX9_judgeMethods_132 (by decide) ?_
                have hO : OKP G h0 a (upd F 2 (nI sz)) R Z B J K109 w := hO.to rfl
                exact ih_2 (i2 + 1) K109 _ _ _ _ (by omega) (by omega) hlg112 (fun z => absurd z (h111 (by decide))) hP hD hS hO (lv_sub hl [0, 4, 5, 6] rfl)
              · refine lv_aload_n hx hb dX9_judgeMethods_100 rfl (lv_at hl 5 rfl) ?_
                refine p_get (v := .int (K109.2.1 18 d0)) (C := RX2) (Tc := TX2) (N := 13) (ci := 2) hx hb hq pin_wsX20 hown hE hP hO (by rw [((LgK.T hlg112 d0).trans hd0)]; decide) (rep_4 ((LgK.T hlg112 d0).trans hd0)) rfl 3 (by decide) (hq _ pw_1101) (fun _ h9 => h9) rfl dX9_judgeMethods_101 ?_
                refine lv_if_ne (tgt := 129) hx hb dX9_judgeMethods_104 (by decide) (fun c115 => ?_) (fun c115 => ?_)
                · refine lv_iinc (v := (nI (i2 + 1))) (lv' := [(3, .int (nI (i2 + 1))), (6, .ref d32), (5, .null), (4, .ref (itlm i2)), (2, .ref d1), (1, .ref d0), (0, .ref pq)]) hx hb dX9_judgeMethods_129 hl (k := 3) rfl (nI_1 i2) (by decide) rfl (fun ls hl => ?_)
                  refine lv_goto (tgt := 2) hx hb dX9_judgeMethods_132 (by decide) ?_
                  have hO : OKP G h0 a (upd F 2 (nI sz)) R Z B J K109 w := hO.to rfl
                  exact ih_2 (i2 + 1) K109 _ _ _ _ (by omega) (by omega) hlg112 (fun z => absurd z (h111 (by decide))) hP hD hS hO (lv_sub hl [0, 4, 5, 6] rfl)
                · refine lv_aload_n hx hb dX9_judgeMethods_107 rfl (lv_at hl 5 rfl) ?_
                  refine lv_aload hx hb dX9_judgeMethods_108 (lv_at hl 2 rfl) ?_
                  refine p_get (v := .int (K109.2.1 6 (itlm i2))) (C := RX6) (Tc := TX6) (N := 12) (ci := 12) hx hb hq pin_wsX60 hown hE hP hO (by rw [((LgK.T hlg112 (itlm i2)).trans hf16)]; decide) (rep_3 ((LgK.T hlg112 (itlm i2)).trans hf16)) rfl 1 (by decide) (hq _ pw_1094) (fun _ h9 => h9) rfl dX9_judgeMethods_110 ?_
                  have hO : OKP G h0 a (upd F 2 (nI sz)) R Z B J K109 w := hO.to rfl
                  obtain ⟨qr119, hqr120⟩ := p_recv hO (by rw [((LgK.T hlg112 d0).trans hd0)]; decide) (rep_4 ((LgK.T hlg112 d0).trans hd0))
                  refine pc_V0 (G := G) (As := [.int (K109.2.1 6 (itlm i2))]) (rest := []) hx hb hml hown hq hE hX pX0_al hP hD hS hA hl.1 (N_nearest l G h0 a (upd F 2 (nI sz)) R Z B J K109 w d0 (K109.2.1 6 (itlm i2)) g rk ((LgK.T hlg112 d0).trans hd0) (LgK.wp hlg112 hwp) (LgK.rko hlg112 hrk) hO) (gV pw_1154 pw_222 pw_223 pw_146 pw_154) hV_X2_nearest qr119 2 hqr120 rfl rfl rfl (Nat.le_of_ble_eq_true rfl) dX9_judgeMethods_113 ⟨Nat.le_of_ble_eq_true rfl, Nat.le_of_ble_eq_true rfl⟩ ⟨Nat.le_of_ble_eq_true rfl, Nat.le_of_ble_eq_true rfl⟩ (fun v118 u116 H locs hw117 hP hD hS => ?_)
                  obtain ⟨w, o121⟩ := u116
                  obtain ⟨hw117, h122, hO⟩ := hw117
                  have h122 : NeQ K109 (K109.2.1 6 (itlm i2)) d0 o121 := h122
                  obtain rfl : v118 = some ((va_rf o121)) := hw117
                  have hO : OKP G h0 a (upd F 2 (nI sz)) R Z B J K109 w := hO.to rfl
                  refine W.widen (k := 0) (n := 0) (Nat.le_of_ble_eq_true rfl) (Nat.le_of_ble_eq_true rfl) ?_
                  refine W.eq (g2 := F0 m 116 ls [(va_rf o121)]) rfl ?_
                  rcases o121 with _ | d123
                  · have hl : lv_has ls 7 [(6, .ref d32), (5, .null), (4, .ref (itlm i2)), (3, .int (nI i2)), (2, .ref d1), (1, .ref d0), (0, .ref pq)] := hl
                    refine W.eq (g2 := F0 m 116 ls [.null]) rfl ?_
                    refine lv_ifnonnullN hx hb dX9_judgeMethods_116 ?_
                    refine lv_aload_n hx hb dX9_judgeMethods_119 rfl (lv_at hl 6 rfl) ?_
                    refine lv_bipush (v := 8) hx hb dX9_judgeMethods_120 (by decide) ?_
                    refine lv_aload_n hx hb dX9_judgeMethods_122 rfl (lv_at hl 5 rfl) ?_
                    refine p_get (v := .int (K109.2.1 17 d0)) (C := RX2) (Tc := TX2) (N := 13) (ci := 2) hx hb hq pin_wsX20 hown hE hP hO (by rw [((LgK.T hlg112 d0).trans hd0)]; decide) (rep_4 ((LgK.T hlg112 d0).trans hd0)) rfl 2 (by decide) (hq _ pw_1114) (fun _ h9 => h9) rfl dX9_judgeMethods_123 ?_
                    have hO : OKP G h0 a (upd (upd F 2 (nI sz)) 2 (nI sz)) R Z B J K109 w := hO.to rfl
                    obtain ⟨qr127, hqr128⟩ := p_recv hO (by rw [((LgK.T hlg112 pq).trans hp1)]; decide) (rep_7 ((LgK.T hlg112 pq).trans hp1))
                    refine pc_V0 (G := G) (As := [.int 8, .int (K109.2.1 17 d0)]) (rest := []) hx hb hml hown hq hE hX pX0_al hP hD hS hA hl.1 (N_report l G h0 a (upd F 2 (nI sz)) R Z B J K109 w pq dr ml nd nm cp it s9 8 (K109.2.1 17 d0) sz g (by omega) (LgK.wp hlg112 hwp) (LgK.ps hlg112 hps) hO) (gV pw_1096 pw_1097 pw_1098 pw_106 pw_1084) hV_X9_report qr127 6 hqr128 rfl rfl rfl (Nat.le_of_ble_eq_true rfl) dX9_judgeMethods_126 ⟨Nat.le_of_ble_eq_true rfl, Nat.le_of_ble_eq_true rfl⟩ ⟨Nat.le_of_ble_eq_true rfl, Nat.le_of_ble_eq_true rfl⟩ (fun v126 u124 H locs hw125 hP hD hS => ?_)
                    obtain ⟨w, K129⟩ := u124
                    obtain ⟨hw125, h130, h131, hO⟩ := hw125
                    have h130 : LgK K109 K129 pq := h130
                    have h131 : RpX 8 K129 pq := h131
                    obtain rfl : v126 = none := hw125
                    have hO : OKP G h0 a (upd F 2 (nI sz)) R Z B J K129 w := hO.to rfl
                    refine W.widen (k := 0) (n := 0) (Nat.le_of_ble_eq_true rfl) (Nat.le_of_ble_eq_true rfl) ?_
                    refine W.eq (g2 := F0 m 129 ls []) rfl ?_
                    have hlg132 : LgK K K129 pq := LgK.trans hlg112 h130
                    have hm133 : Cln K129 pq → Cln K109 pq := fun z => absurd z (h131 (by decide))
                    refine lv_iinc (v := (nI (i2 + 1))) (lv' := [(3, .int (nI (i2 + 1))), (6, .ref d32), (5, .null), (4, .ref (itlm i2)), (2, .ref d1), (1, .ref d0), (0, .ref pq)]) hx hb dX9_judgeMethods_129 hl (k := 3) rfl (nI_1 i2) (by decide) rfl (fun ls hl => ?_)
                    refine lv_goto (tgt := 2) hx hb dX9_judgeMethods_132 (by decide) ?_
                    have hO : OKP G h0 a (upd F 2 (nI sz)) R Z B J K129 w := hO.to rfl
                    exact ih_2 (i2 + 1) K129 _ _ _ _ (by omega) (by omega) hlg132 (fun z => absurd z (h131 (by decide))) hP hD hS hO (lv_sub hl [0, 4, 5, 6] rfl)
                  · have hl : lv_has ls 7 [(6, .ref d32), (5, .null), (4, .ref (itlm i2)), (3, .int (nI i2)), (2, .ref d1), (1, .ref d0), (0, .ref pq)] := hl
                    refine W.eq (g2 := F0 m 116 ls [.ref d123]) rfl ?_
                    refine lv_ifnonnull (tgt := 129) hx hb dX9_judgeMethods_116 (by decide) ?_
                    refine lv_iinc (v := (nI (i2 + 1))) (lv' := [(3, .int (nI (i2 + 1))), (6, .ref d32), (5, .null), (4, .ref (itlm i2)), (2, .ref d1), (1, .ref d0), (0, .ref pq)]) hx hb dX9_judgeMethods_129 hl (k := 3) rfl (nI_1 i2) (by decide) rfl (fun ls hl => ?_)
                    refine lv_goto (tgt := 2) hx hb dX9_judgeMethods_132 (by decide) ?_
                    have hO : OKP G h0 a (upd F 2 (nI sz)) R Z B J K109 w := hO.to rfl
                    exact ih_2 (i2 + 1) K109 _ _ _ _ (by omega) (by omega) hlg112 (fun z => absurd z (h111 (by decide))) hP hD hS hO (lv_sub hl [0, 4, 5, 6] rfl)
        · have hl : lv_has ls 7 [(4, .ref (itlm i2)), (3, .int (nI i2)), (2, .ref d1), (1, .ref d0), (0, .ref pq)] := hl
          refine W.eq (g2 := F0 m 35 ls [.ref d24]) rfl ?_
          have hf134 : K.1 d24 = 3 := hlclo.own hflo (LgK.owp hlg2 h23)
          refine lv_astore (lv' := [(5, .ref d24), (4, .ref (itlm i2)), (3, .int (nI i2)), (2, .ref d1), (1, .ref d0), (0, .ref pq)]) hx hb dX9_judgeMethods_35 hl (by decide) rfl (fun ls hl => ?_)
          refine lv_aload hx hb dX9_judgeMethods_37 (lv_at hl 0 rfl) ?_
          refine lv_ifnonnull (tgt := 55) hx hb dX9_judgeMethods_39 (by decide) ?_
          refine lv_aload hx hb dX9_judgeMethods_55 (lv_at hl 0 rfl) ?_
          refine lv_astore (lv' := [(6, .ref d24), (5, .ref d24), (4, .ref (itlm i2)), (3, .int (nI i2)), (2, .ref d1), (1, .ref d0), (0, .ref pq)]) hx hb dX9_judgeMethods_57 hl (by decide) rfl (fun ls hl => ?_)
          refine lv_aload_n hx hb dX9_judgeMethods_59 rfl (lv_at hl 6 rfl) ?_
          refine lv_aload hx hb dX9_judgeMethods_60 (lv_at hl 2 rfl) ?_
          refine lv_aload hx hb dX9_judgeMethods_62 (lv_at hl 0 rfl) ?_
          have hO : OKP G h0 a (upd (upd F 2 (nI sz)) 2 (nI sz)) R Z B J K2 w := hO.to rfl
          obtain ⟨qr138, hqr139⟩ := p_recv hO (by rw [((LgK.T hlg2 pq).trans hp1)]; decide) (rep_7 ((LgK.T hlg2 pq).trans hp1))
          refine pc_V0 (G := G) (As := [.ref (itlm i2), .ref d24]) (rest := []) hx hb hml hown hq hE hX pX0_al hP hD hS hA hl.1 (N_oneSig l G h0 a (upd F 2 (nI sz)) R Z B J K2 w pq dr ml nd (itlm i2) sz d24 g (LgK.ps hlg2 hps).1 (by omega) ((LgK.T hlg2 (itlm i2)).trans hf16) ((LgK.T hlg2 d24).trans hf134) (LgK.wp hlg2 hwp) hO) (gV pw_1151 pw_1152 pw_1153 pw_106 pw_1147) hV_X9_haveOneSignature qr138 6 hqr139 rfl rfl rfl (Nat.le_of_ble_eq_true rfl) dX9_judgeMethods_64 ⟨Nat.le_of_ble_eq_true rfl, Nat.le_of_ble_eq_true rfl⟩ ⟨Nat.le_of_ble_eq_true rfl, Nat.le_of_ble_eq_true rfl⟩ (fun v137 u135 H locs hw136 hP hD hS => ?_)
          obtain ⟨w, r140⟩ := u135
          obtain ⟨hw136, h141, h142, hO⟩ := hw136
          have h141 : r140 ≤ 1 := h141
          have h142 : r140 = 1 → SgE G K2 ((B 11)) sz (itlm i2) d24 := h142
          obtain rfl : v137 = some (.int (nI r140)) := hw136
          have hO : OKP G h0 a (upd F 2 (nI sz)) R Z B J K2 w := hO.to rfl
          refine W.widen (k := 0) (n := 0) (Nat.le_of_ble_eq_true rfl) (Nat.le_of_ble_eq_true rfl) ?_
          refine W.eq (g2 := F0 m 67 ls [.int (nI r140)]) rfl ?_
          refine lv_if_ne (tgt := 93) hx hb dX9_judgeMethods_67 (by decide) (fun c143 => ?_) (fun c143 => ?_)
          · have n144 : ¬ (r140 = 0) := fun h9 => c143 ((nI_eq (a := r140) (b := 0) (by omega) (by omega)).mpr h9)
            have hsg9 := (LgK.sge hlg2 (h142 (by omega)))
            refine lv_aload_n hx hb dX9_judgeMethods_93 rfl (lv_at hl 4 rfl) ?_
            refine p_get (v := .int (K2.2.1 18 d1)) (C := RX2) (Tc := TX2) (N := 13) (ci := 2) hx hb hq pin_wsX20 hown hE hP hO (by rw [((LgK.T hlg2 d1).trans hd1)]; decide) (rep_4 ((LgK.T hlg2 d1).trans hd1)) rfl 3 (by decide) (hq _ pw_1101) (fun _ h9 => h9) rfl dX9_judgeMethods_94 ?_
            refine lv_if_eq (tgt := 129) hx hb dX9_judgeMethods_97 (by decide) (fun c145 => ?_) (fun c145 => ?_)
            · refine lv_iinc (v := (nI (i2 + 1))) (lv' := [(3, .int (nI (i2 + 1))), (6, .ref d24), (5, .ref d24), (4, .ref (itlm i2)), (2, .ref d1), (1, .ref d0), (0, .ref pq)]) hx hb dX9_judgeMethods_129 hl (k := 3) rfl (nI_1 i2) (by decide) rfl (fun ls hl => ?_)
              refine lv_goto (tgt := 2) hx hb dX9_judgeMethods_132 (by decide) ?_
              have hO : OKP G h0 a (upd F 2 (nI sz)) R Z B J K2 w := hO.to rfl
              exact ih_2 (i2 + 1) K2 _ _ _ _ (by omega) (by omega) hlg2 (fun z => ⟨(hcl2 z).1, (alS (hcl2 z).2 ⟨⟨d24, Or.inl (LgK.owp6 hlg2 h23), hsg9⟩, (fun y => absurd ((LgK.I hlg2 18 d1 (by decide)).symm.trans c145) y)⟩)⟩) hP hD hS hO (lv_sub hl [0, 4, 5, 6] rfl)
            · refine lv_aload_n hx hb dX9_judgeMethods_100 rfl (lv_at hl 5 rfl) ?_
              refine p_get (v := .int (K2.2.1 18 d0)) (C := RX2) (Tc := TX2) (N := 13) (ci := 2) hx hb hq pin_wsX20 hown hE hP hO (by rw [((LgK.T hlg2 d0).trans hd0)]; decide) (rep_4 ((LgK.T hlg2 d0).trans hd0)) rfl 3 (by decide) (hq _ pw_1101) (fun _ h9 => h9) rfl dX9_judgeMethods_101 ?_
              refine lv_if_ne (tgt := 129) hx hb dX9_judgeMethods_104 (by decide) (fun c146 => ?_) (fun c146 => ?_)
              · refine lv_iinc (v := (nI (i2 + 1))) (lv' := [(3, .int (nI (i2 + 1))), (6, .ref d24), (5, .ref d24), (4, .ref (itlm i2)), (2, .ref d1), (1, .ref d0), (0, .ref pq)]) hx hb dX9_judgeMethods_129 hl (k := 3) rfl (nI_1 i2) (by decide) rfl (fun ls hl => ?_)
                refine lv_goto (tgt := 2) hx hb dX9_judgeMethods_132 (by decide) ?_
                have hO : OKP G h0 a (upd F 2 (nI sz)) R Z B J K2 w := hO.to rfl
                exact ih_2 (i2 + 1) K2 _ _ _ _ (by omega) (by omega) hlg2 (fun z => ⟨(hcl2 z).1, (alS (hcl2 z).2 ⟨⟨d24, Or.inl (LgK.owp6 hlg2 h23), hsg9⟩, (fun _ y => absurd ((LgK.I hlg2 18 d0 (by decide)).trans y) c146)⟩)⟩) hP hD hS hO (lv_sub hl [0, 4, 5, 6] rfl)
              · refine lv_aload_n hx hb dX9_judgeMethods_107 rfl (lv_at hl 5 rfl) ?_
                refine lv_aload hx hb dX9_judgeMethods_108 (lv_at hl 2 rfl) ?_
                refine p_get (v := .int (K2.2.1 6 (itlm i2))) (C := RX6) (Tc := TX6) (N := 12) (ci := 12) hx hb hq pin_wsX60 hown hE hP hO (by rw [((LgK.T hlg2 (itlm i2)).trans hf16)]; decide) (rep_3 ((LgK.T hlg2 (itlm i2)).trans hf16)) rfl 1 (by decide) (hq _ pw_1094) (fun _ h9 => h9) rfl dX9_judgeMethods_110 ?_
                have hO : OKP G h0 a (upd F 2 (nI sz)) R Z B J K2 w := hO.to rfl
                obtain ⟨qr150, hqr151⟩ := p_recv hO (by rw [((LgK.T hlg2 d0).trans hd0)]; decide) (rep_4 ((LgK.T hlg2 d0).trans hd0))
                refine pc_V0 (G := G) (As := [.int (K2.2.1 6 (itlm i2))]) (rest := []) hx hb hml hown hq hE hX pX0_al hP hD hS hA hl.1 (N_nearest l G h0 a (upd F 2 (nI sz)) R Z B J K2 w d0 (K2.2.1 6 (itlm i2)) g rk ((LgK.T hlg2 d0).trans hd0) (LgK.wp hlg2 hwp) (LgK.rko hlg2 hrk) hO) (gV pw_1154 pw_222 pw_223 pw_146 pw_154) hV_X2_nearest qr150 2 hqr151 rfl rfl rfl (Nat.le_of_ble_eq_true rfl) dX9_judgeMethods_113 ⟨Nat.le_of_ble_eq_true rfl, Nat.le_of_ble_eq_true rfl⟩ ⟨Nat.le_of_ble_eq_true rfl, Nat.le_of_ble_eq_true rfl⟩ (fun v149 u147 H locs hw148 hP hD hS => ?_)
                obtain ⟨w, o152⟩ := u147
                obtain ⟨hw148, h153, hO⟩ := hw148
                have h153 : NeQ K2 (K2.2.1 6 (itlm i2)) d0 o152 := h153
                obtain rfl : v149 = some ((va_rf o152)) := hw148
                have hO : OKP G h0 a (upd F 2 (nI sz)) R Z B J K2 w := hO.to rfl
                refine W.widen (k := 0) (n := 0) (Nat.le_of_ble_eq_true rfl) (Nat.le_of_ble_eq_true rfl) ?_
                refine W.eq (g2 := F0 m 116 ls [(va_rf o152)]) rfl ?_
                rcases o152 with _ | d154
                · have hl : lv_has ls 7 [(6, .ref d24), (5, .ref d24), (4, .ref (itlm i2)), (3, .int (nI i2)), (2, .ref d1), (1, .ref d0), (0, .ref pq)] := hl
                  refine W.eq (g2 := F0 m 116 ls [.null]) rfl ?_
                  refine lv_ifnonnullN hx hb dX9_judgeMethods_116 ?_
                  refine lv_aload_n hx hb dX9_judgeMethods_119 rfl (lv_at hl 6 rfl) ?_
                  refine lv_bipush (v := 8) hx hb dX9_judgeMethods_120 (by decide) ?_
                  refine lv_aload_n hx hb dX9_judgeMethods_122 rfl (lv_at hl 5 rfl) ?_
                  refine p_get (v := .int (K2.2.1 17 d0)) (C := RX2) (Tc := TX2) (N := 13) (ci := 2) hx hb hq pin_wsX20 hown hE hP hO (by rw [((LgK.T hlg2 d0).trans hd0)]; decide) (rep_4 ((LgK.T hlg2 d0).trans hd0)) rfl 2 (by decide) (hq _ pw_1114) (fun _ h9 => h9) rfl dX9_judgeMethods_123 ?_
                  have hO : OKP G h0 a (upd (upd F 2 (nI sz)) 2 (nI sz)) R Z B J K2 w := hO.to rfl
                  obtain ⟨qr158, hqr159⟩ := p_recv hO (by rw [((LgK.T hlg2 pq).trans hp1)]; decide) (rep_7 ((LgK.T hlg2 pq).trans hp1))
                  refine pc_V0 (G := G) (As := [.int 8, .int (K2.2.1 17 d0)]) (rest := []) hx hb hml hown hq hE hX pX0_al hP hD hS hA hl.1 (N_report l G h0 a (upd F 2 (nI sz)) R Z B J K2 w pq dr ml nd nm cp it s9 8 (K2.2.1 17 d0) sz g (by omega) (LgK.wp hlg2 hwp) (LgK.ps hlg2 hps) hO) (gV pw_1096 pw_1097 pw_1098 pw_106 pw_1084) hV_X9_report qr158 6 hqr159 rfl rfl rfl (Nat.le_of_ble_eq_true rfl) dX9_judgeMethods_126 ⟨Nat.le_of_ble_eq_true rfl, Nat.le_of_ble_eq_true rfl⟩ ⟨Nat.le_of_ble_eq_true rfl, Nat.le_of_ble_eq_true rfl⟩ (fun v157 u155 H locs hw156 hP hD hS => ?_)
                  obtain ⟨w, K160⟩ := u155
                  obtain ⟨hw156, h161, h162, hO⟩ := hw156
                  have h161 : LgK K2 K160 pq := h161
                  have h162 : RpX 8 K160 pq := h162
                  obtain rfl : v157 = none := hw156
                  have hO : OKP G h0 a (upd F 2 (nI sz)) R Z B J K160 w := hO.to rfl
                  refine W.widen (k := 0) (n := 0) (Nat.le_of_ble_eq_true rfl) (Nat.le_of_ble_eq_true rfl) ?_
                  refine W.eq (g2 := F0 m 129 ls []) rfl ?_
                  have hlg163 : LgK K K160 pq := LgK.trans hlg2 h161
                  have hm164 : Cln K160 pq → Cln K2 pq := fun z => absurd z (h162 (by decide))
                  refine lv_iinc (v := (nI (i2 + 1))) (lv' := [(3, .int (nI (i2 + 1))), (6, .ref d24), (5, .ref d24), (4, .ref (itlm i2)), (2, .ref d1), (1, .ref d0), (0, .ref pq)]) hx hb dX9_judgeMethods_129 hl (k := 3) rfl (nI_1 i2) (by decide) rfl (fun ls hl => ?_)
                  refine lv_goto (tgt := 2) hx hb dX9_judgeMethods_132 (by decide) ?_
                  have hO : OKP G h0 a (upd F 2 (nI sz)) R Z B J K160 w := hO.to rfl
                  exact ih_2 (i2 + 1) K160 _ _ _ _ (by omega) (by omega) hlg163 (fun z => absurd z (h162 (by decide))) hP hD hS hO (lv_sub hl [0, 4, 5, 6] rfl)
                · have hl : lv_has ls 7 [(6, .ref d24), (5, .ref d24), (4, .ref (itlm i2)), (3, .int (nI i2)), (2, .ref d1), (1, .ref d0), (0, .ref pq)] := hl
                  refine W.eq (g2 := F0 m 116 ls [.ref d154]) rfl ?_
                  refine lv_ifnonnull (tgt := 129) hx hb dX9_judgeMethods_116 (by decide) ?_
                  refine lv_iinc (v := (nI (i2 + 1))) (lv' := [(3, .int (nI (i2 + 1))), (6, .ref d24), (5, .ref d24), (4, .ref (itlm i2)), (2, .ref d1), (1, .ref d0), (0, .ref pq)]) hx hb dX9_judgeMethods_129 hl (k := 3) rfl (nI_1 i2) (by decide) rfl (fun ls hl => ?_)
                  refine lv_goto (tgt := 2) hx hb dX9_judgeMethods_132 (by decide) ?_
                  have hO : OKP G h0 a (upd F 2 (nI sz)) R Z B J K2 w := hO.to rfl
                  exact ih_2 (i2 + 1) K2 _ _ _ _ (by omega) (by omega) hlg2 (fun z => ⟨(hcl2 z).1, (alS (hcl2 z).2 ⟨⟨d24, Or.inl (LgK.owp6 hlg2 h23), hsg9⟩, (fun _ _ => ⟨d154, LgK.nep6 hlg2 (h153 d154 rfl).2⟩)⟩)⟩) hP hD hS hO (lv_sub hl [0, 4, 5, 6] rfl)
          · have n165 : r140 = 0 := (nI_eq (a := r140) (b := 0) (by omega) (by omega)).mp c143
            refine lv_aload_n hx hb dX9_judgeMethods_70 rfl (lv_at hl 6 rfl) ?_
            refine lv_bipush (v := 7) hx hb dX9_judgeMethods_71 (by decide) ?_
            refine lv_aload hx hb dX9_judgeMethods_73 (lv_at hl 1 rfl) ?_
            refine lv_ifnonnull (tgt := 85) hx hb dX9_judgeMethods_75 (by decide) ?_
            refine lv_aload hx hb dX9_judgeMethods_85 (lv_at hl 1 rfl) ?_
            refine p_get (v := .int (K2.2.1 7 d24)) (C := RX6) (Tc := TX6) (N := 12) (ci := 12) hx hb hq pin_wsX60 hown hE hP hO (by rw [((LgK.T hlg2 d24).trans hf134)]; decide) (rep_3 ((LgK.T hlg2 d24).trans hf134)) rfl 2 (by decide) (hq _ pw_1095) (fun _ h9 => h9) rfl dX9_judgeMethods_87 ?_
            have hO : OKP G h0 a (upd (upd F 2 (nI sz)) 2 (nI sz)) R Z B J K2 w := hO.to rfl
            obtain ⟨qr169, hqr170⟩ := p_recv hO (by rw [((LgK.T hlg2 pq).trans hp1)]; decide) (rep_7 ((LgK.T hlg2 pq).trans hp1))
            refine pc_V0 (G := G) (As := [.int 7, .int (K2.2.1 7 d24)]) (rest := []) hx hb hml hown hq hE hX pX0_al hP hD hS hA hl.1 (N_report l G h0 a (upd F 2 (nI sz)) R Z B J K2 w pq dr ml nd nm cp it s9 7 (K2.2.1 7 d24) sz g (by omega) (LgK.wp hlg2 hwp) (LgK.ps hlg2 hps) hO) (gV pw_1096 pw_1097 pw_1098 pw_106 pw_1084) hV_X9_report qr169 6 hqr170 rfl rfl rfl (Nat.le_of_ble_eq_true rfl) dX9_judgeMethods_90 ⟨Nat.le_of_ble_eq_true rfl, Nat.le_of_ble_eq_true rfl⟩ ⟨Nat.le_of_ble_eq_true rfl, Nat.le_of_ble_eq_true rfl⟩ (fun v168 u166 H locs hw167 hP hD hS => ?_)
            obtain ⟨w, K171⟩ := u166
            obtain ⟨hw167, h172, h173, hO⟩ := hw167
            have h172 : LgK K2 K171 pq := h172
            have h173 : RpX 7 K171 pq := h173
            obtain rfl : v168 = none := hw167
            have hO : OKP G h0 a (upd F 2 (nI sz)) R Z B J K171 w := hO.to rfl
            refine W.widen (k := 0) (n := 0) (Nat.le_of_ble_eq_true rfl) (Nat.le_of_ble_eq_true rfl) ?_
            refine W.eq (g2 := F0 m 93 ls []) rfl ?_
            have hlg174 : LgK K K171 pq := LgK.trans hlg2 h172
            have hm175 : Cln K171 pq → Cln K2 pq := fun z => absurd z (h173 (by decide))
            refine lv_aload_n hx hb dX9_judgeMethods_93 rfl (lv_at hl 4 rfl) ?_
            refine p_get (v := .int (K171.2.1 18 d1)) (C := RX2) (Tc := TX2) (N := 13) (ci := 2) hx hb hq pin_wsX20 hown hE hP hO (by rw [((LgK.T hlg174 d1).trans hd1)]; decide) (rep_4 ((LgK.T hlg174 d1).trans hd1)) rfl 3 (by decide) (hq _ pw_1101) (fun _ h9 => h9) rfl dX9_judgeMethods_94 ?_
            refine lv_if_eq (tgt := 129) hx hb dX9_judgeMethods_97 (by decide) (fun c176 => ?_) (fun c176 => ?_)
            · refine lv_iinc (v := (nI (i2 + 1))) (lv' := [(3, .int (nI (i2 + 1))), (6, .ref d24), (5, .ref d24), (4, .ref (itlm i2)), (2, .ref d1), (1, .ref d0), (0, .ref pq)]) hx hb dX9_judgeMethods_129 hl (k := 3) rfl (nI_1 i2) (by decide) rfl (fun ls hl => ?_)
              refine lv_goto (tgt := 2) hx hb dX9_judgeMethods_132 (by decide) ?_
              have hO : OKP G h0 a (upd F 2 (nI sz)) R Z B J K171 w := hO.to rfl
              exact ih_2 (i2 + 1) K171 _ _ _ _ (by omega) (by omega) hlg174 (fun z => absurd z (h173 (by decide))) hP hD hS hO (lv_sub hl [0, 4, 5, 6] rfl)
            · refine lv_aload_n hx hb dX9_judgeMethods_100 rfl (lv_at hl 5 rfl) ?_
              refine p_get (v := .int (K171.2.1 18 d0)) (C := RX2) (Tc := TX2) (N := 13) (ci := 2) hx hb hq pin_wsX20 hown hE hP hO (by rw [((LgK.T hlg174 d0).trans hd0)]; decide) (rep_4 ((LgK.T hlg174 d0).trans hd0)) rfl 3 (by decide) (hq _ pw_1101) (fun _ h9 => h9) rfl dX9_judgeMethods_101 ?_
              refine lv_if_ne (tgt := 129) hx hb dX9_judgeMethods_104 (by decide) (fun c177 => ?_) (fun c177 => ?_)
              · refine lv_iinc (v := (nI (i2 + 1))) (lv' := [(3, .int (nI (i2 + 1))), (6, .ref d24), (5, .ref d24), (4, .ref (itlm i2)), (2, .ref d1), (1, .ref d0), (0, .ref pq)]) hx hb dX9_judgeMethods_129 hl (k := 3) rfl (nI_1 i2) (by decide) rfl (fun ls hl => ?_)
                refine lv_goto (tgt := 2) hx hb dX9_judgeMethods_132 (by decide) ?_
                have hO : OKP G h0 a (upd F 2 (nI sz)) R Z B J K171 w := hO.to rfl
                exact ih_2 (i2 + 1) K171 _ _ _ _ (by omega) (by omega) hlg174 (fun z => absurd z (h173 (by decide))) hP hD hS hO (lv_sub hl [0, 4, 5, 6] rfl)
              · refine lv_aload_n hx hb dX9_judgeMethods_107 rfl (lv_at hl 5 rfl) ?_
                refine lv_aload hx hb dX9_judgeMethods_108 (lv_at hl 2 rfl) ?_
                refine p_get (v := .int (K171.2.1 6 (itlm i2))) (C := RX6) (Tc := TX6) (N := 12) (ci := 12) hx hb hq pin_wsX60 hown hE hP hO (by rw [((LgK.T hlg174 (itlm i2)).trans hf16)]; decide) (rep_3 ((LgK.T hlg174 (itlm i2)).trans hf16)) rfl 1 (by decide) (hq _ pw_1094) (fun _ h9 => h9) rfl dX9_judgeMethods_110 ?_
                have hO : OKP G h0 a (upd F 2 (nI sz)) R Z B J K171 w := hO.to rfl
                obtain ⟨qr181, hqr182⟩ := p_recv hO (by rw [((LgK.T hlg174 d0).trans hd0)]; decide) (rep_4 ((LgK.T hlg174 d0).trans hd0))
                refine pc_V0 (G := G) (As := [.int (K171.2.1 6 (itlm i2))]) (rest := []) hx hb hml hown hq hE hX pX0_al hP hD hS hA hl.1 (N_nearest l G h0 a (upd F 2 (nI sz)) R Z B J K171 w d0 (K171.2.1 6 (itlm i2)) g rk ((LgK.T hlg174 d0).trans hd0) (LgK.wp hlg174 hwp) (LgK.rko hlg174 hrk) hO) (gV pw_1154 pw_222 pw_223 pw_146 pw_154) hV_X2_nearest qr181 2 hqr182 rfl rfl rfl (Nat.le_of_ble_eq_true rfl) dX9_judgeMethods_113 ⟨Nat.le_of_ble_eq_true rfl, Nat.le_of_ble_eq_true rfl⟩ ⟨Nat.le_of_ble_eq_true rfl, Nat.le_of_ble_eq_true rfl⟩ (fun v180 u178 H locs hw179 hP hD hS => ?_)
                obtain ⟨w, o183⟩ := u178
                obtain ⟨hw179, h184, hO⟩ := hw179
                have h184 : NeQ K171 (K171.2.1 6 (itlm i2)) d0 o183 := h184
                obtain rfl : v180 = some ((va_rf o183)) := hw179
                have hO : OKP G h0 a (upd F 2 (nI sz)) R Z B J K171 w := hO.to rfl
                refine W.widen (k := 0) (n := 0) (Nat.le_of_ble_eq_true rfl) (Nat.le_of_ble_eq_true rfl) ?_
                refine W.eq (g2 := F0 m 116 ls [(va_rf o183)]) rfl ?_
                rcases o183 with _ | d185
                · have hl : lv_has ls 7 [(6, .ref d24), (5, .ref d24), (4, .ref (itlm i2)), (3, .int (nI i2)), (2, .ref d1), (1, .ref d0), (0, .ref pq)] := hl
                  refine W.eq (g2 := F0 m 116 ls [.null]) rfl ?_
                  refine lv_ifnonnullN hx hb dX9_judgeMethods_116 ?_
                  refine lv_aload_n hx hb dX9_judgeMethods_119 rfl (lv_at hl 6 rfl) ?_
                  refine lv_bipush (v := 8) hx hb dX9_judgeMethods_120 (by decide) ?_
                  refine lv_aload_n hx hb dX9_judgeMethods_122 rfl (lv_at hl 5 rfl) ?_
                  refine p_get (v := .int (K171.2.1 17 d0)) (C := RX2) (Tc := TX2) (N := 13) (ci := 2) hx hb hq pin_wsX20 hown hE hP hO (by rw [((LgK.T hlg174 d0).trans hd0)]; decide) (rep_4 ((LgK.T hlg174 d0).trans hd0)) rfl 2 (by decide) (hq _ pw_1114) (fun _ h9 => h9) rfl dX9_judgeMethods_123 ?_
                  have hO : OKP G h0 a (upd (upd F 2 (nI sz)) 2 (nI sz)) R Z B J K171 w := hO.to rfl
                  obtain ⟨qr189, hqr190⟩ := p_recv hO (by rw [((LgK.T hlg174 pq).trans hp1)]; decide) (rep_7 ((LgK.T hlg174 pq).trans hp1))
                  refine pc_V0 (G := G) (As := [.int 8, .int (K171.2.1 17 d0)]) (rest := []) hx hb hml hown hq hE hX pX0_al hP hD hS hA hl.1 (N_report l G h0 a (upd F 2 (nI sz)) R Z B J K171 w pq dr ml nd nm cp it s9 8 (K171.2.1 17 d0) sz g (by omega) (LgK.wp hlg174 hwp) (LgK.ps hlg174 hps) hO) (gV pw_1096 pw_1097 pw_1098 pw_106 pw_1084) hV_X9_report qr189 6 hqr190 rfl rfl rfl (Nat.le_of_ble_eq_true rfl) dX9_judgeMethods_126 ⟨Nat.le_of_ble_eq_true rfl, Nat.le_of_ble_eq_true rfl⟩ ⟨Nat.le_of_ble_eq_true rfl, Nat.le_of_ble_eq_true rfl⟩ (fun v188 u186 H locs hw187 hP hD hS => ?_)
                  obtain ⟨w, K191⟩ := u186
                  obtain ⟨hw187, h192, h193, hO⟩ := hw187
                  have h192 : LgK K171 K191 pq := h192
                  have h193 : RpX 8 K191 pq := h193
                  obtain rfl : v188 = none := hw187
                  have hO : OKP G h0 a (upd F 2 (nI sz)) R Z B J K191 w := hO.to rfl
                  refine W.widen (k := 0) (n := 0) (Nat.le_of_ble_eq_true rfl) (Nat.le_of_ble_eq_true rfl) ?_
                  refine W.eq (g2 := F0 m 129 ls []) rfl ?_
                  have hlg194 : LgK K K191 pq := LgK.trans hlg174 h192
                  have hm195 : Cln K191 pq → Cln K171 pq := fun z => absurd z (h193 (by decide))
                  refine lv_iinc (v := (nI (i2 + 1))) (lv' := [(3, .int (nI (i2 + 1))), (6, .ref d24), (5, .ref d24), (4, .ref (itlm i2)), (2, .ref d1), (1, .ref d0), (0, .ref pq)]) hx hb dX9_judgeMethods_129 hl (k := 3) rfl (nI_1 i2) (by decide) rfl (fun ls hl => ?_)
                  refine lv_goto (tgt := 2) hx hb dX9_judgeMethods_132 (by decide) ?_
                  have hO : OKP G h0 a (upd F 2 (nI sz)) R Z B J K191 w := hO.to rfl
                  exact ih_2 (i2 + 1) K191 _ _ _ _ (by omega) (by omega) hlg194 (fun z => absurd z (h193 (by decide))) hP hD hS hO (lv_sub hl [0, 4, 5, 6] rfl)
                · have hl : lv_has ls 7 [(6, .ref d24), (5, .ref d24), (4, .ref (itlm i2)), (3, .int (nI i2)), (2, .ref d1), (1, .ref d0), (0, .ref pq)] := hl
                  refine W.eq (g2 := F0 m 116 ls [.ref d185]) rfl ?_
                  refine lv_ifnonnull (tgt := 129) hx hb dX9_judgeMethods_116 (by decide) ?_
                  refine lv_iinc (v := (nI (i2 + 1))) (lv' := [(3, .int (nI (i2 + 1))), (6, .ref d24), (5, .ref d24), (4, .ref (itlm i2)), (2, .ref d1), (1, .ref d0), (0, .ref pq)]) hx hb dX9_judgeMethods_129 hl (k := 3) rfl (nI_1 i2) (by decide) rfl (fun ls hl => ?_)
                  refine lv_goto (tgt := 2) hx hb dX9_judgeMethods_132 (by decide) ?_
                  have hO : OKP G h0 a (upd F 2 (nI sz)) R Z B J K171 w := hO.to rfl
                  exact ih_2 (i2 + 1) K171 _ _ _ _ (by omega) (by omega) hlg174 (fun z => absurd z (h173 (by decide))) hP hD hS hO (lv_sub hl [0, 4, 5, 6] rfl)
  have hO : OKP G h0 a (upd F 2 (nI sz)) R Z B J K w := hO.to rfl
  exact loop_2 (nlm + 1) 0 K _ _ _ _ (by omega) (by omega) LgK.rfl (fun z => ⟨z, (fun i h => absurd h (by omega))⟩) hP hD hS hO (lv_sub hl [0, 3, 2, 1] rfl)
