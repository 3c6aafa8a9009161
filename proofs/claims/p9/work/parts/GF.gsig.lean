theorem dX9_firstFromAbove_0 : decode cX9_firstFromAbove 0 = .ok (.iconst 0, 1) := by decide +kernel
theorem dX9_firstFromAbove_1 : decode cX9_firstFromAbove 1 = .ok (.istore_n 3, 1) := by decide +kernel
theorem dX9_firstFromAbove_2 : decode cX9_firstFromAbove 2 = .ok (.iload_n 3, 1) := by decide +kernel
theorem dX9_firstFromAbove_3 : decode cX9_firstFromAbove 3 = .ok (.aload_n 0, 1) := by decide +kernel
theorem dX9_firstFromAbove_4 : decode cX9_firstFromAbove 4 = .ok (.getfield 33, 3) := by decide +kernel
theorem dX9_firstFromAbove_7 : decode cX9_firstFromAbove 7 = .ok (.if_icmp .ge 45, 3) := by decide +kernel
theorem dX9_firstFromAbove_52 : decode cX9_firstFromAbove 52 = .ok (.aconst_null, 1) := by decide +kernel
theorem dX9_firstFromAbove_53 : decode cX9_firstFromAbove 53 = .ok (.areturn, 1) := by decide +kernel
theorem dX9_firstFromAbove_10 : decode cX9_firstFromAbove 10 = .ok (.aload_n 0, 1) := by decide +kernel
theorem dX9_firstFromAbove_11 : decode cX9_firstFromAbove 11 = .ok (.iload_n 3, 1) := by decide +kernel
theorem dX9_firstFromAbove_12 : decode cX9_firstFromAbove 12 = .ok (.aload_n 1, 1) := by decide +kernel
theorem dX9_firstFromAbove_13 : decode cX9_firstFromAbove 13 = .ok (.getfield 178, 3) := by decide +kernel
theorem dX9_firstFromAbove_16 : decode cX9_firstFromAbove 16 = .ok (.invokevirtual 65, 3) := by decide +kernel
theorem dX9_firstFromAbove_19 : decode cX9_firstFromAbove 19 = .ok (.ifCond .eq 16, 3) := by decide +kernel
theorem dX9_firstFromAbove_35 : decode cX9_firstFromAbove 35 = .ok (.aconst_null, 1) := by decide +kernel
theorem dX9_firstFromAbove_36 : decode cX9_firstFromAbove 36 = .ok (.astore 4, 2) := by decide +kernel
theorem dX9_firstFromAbove_38 : decode cX9_firstFromAbove 38 = .ok (.aload 4, 2) := by decide +kernel
theorem dX9_firstFromAbove_40 : decode cX9_firstFromAbove 40 = .ok (.ifnull 6, 3) := by decide +kernel
theorem dX9_firstFromAbove_46 : decode cX9_firstFromAbove 46 = .ok (.iinc 3 1, 3) := by decide +kernel
theorem dX9_firstFromAbove_49 : decode cX9_firstFromAbove 49 = .ok (.goto (-47), 3) := by decide +kernel
theorem dX9_firstFromAbove_22 : decode cX9_firstFromAbove 22 = .ok (.aload_n 0, 1) := by decide +kernel
theorem dX9_firstFromAbove_23 : decode cX9_firstFromAbove 23 = .ok (.getfield 17, 3) := by decide +kernel
theorem dX9_firstFromAbove_26 : decode cX9_firstFromAbove 26 = .ok (.iload_n 3, 1) := by decide +kernel
theorem dX9_firstFromAbove_27 : decode cX9_firstFromAbove 27 = .ok (.aaload, 1) := by decide +kernel
theorem dX9_firstFromAbove_28 : decode cX9_firstFromAbove 28 = .ok (.iload_n 2, 1) := by decide +kernel
theorem dX9_firstFromAbove_29 : decode cX9_firstFromAbove 29 = .ok (.invokevirtual 143, 3) := by decide +kernel
theorem dX9_firstFromAbove_32 : decode cX9_firstFromAbove 32 = .ok (.goto 4, 3) := by decide +kernel
theorem dX9_firstFromAbove_43 : decode cX9_firstFromAbove 43 = .ok (.aload 4, 2) := by decide +kernel
theorem dX9_firstFromAbove_45 : decode cX9_firstFromAbove 45 = .ok (.areturn, 1) := by decide +kernel
set_option maxHeartbeats 6000000 in
set_option maxRecDepth 100000 in
theorem G_firstFrom (l : Launch) (G : pT) (h0 : Nat) (a : Nat → Nat) (F : Nat → Int32) (R : Nat → Value) (Z : Int64) (B : Nat → Nat → Int32) (J : Nat → Nat → Int64) (K : PK) (w : va_W) (pq : Nat) (dr : Nat) (ml : Nat) (nd : Nat) (d0 : Nat) (x : Int32) (g : Nat → Nat → Nat) (hpb : PgB K g (a 1) pq dr ml nd) (hdc : DcR K g dr nd) (hd0 : K.1 d0 = 4) (hwp : WPr G K g) (hO : OKP G h0 a F R Z B J K w) : PM l G pX0 yX9_firstFromAbove cX9_firstFromAbove 5 (some (.object "JinjaTongue$Method")) ({ frames := 6, cells := 0, slots := 0, locals := 146 }) [.ref pq, .ref d0, .int x] w (fun (v : Option Value) (u : va_W × (Option Nat)) => v = some ((va_rf u.2)) ∧ (MoN K u.2) ∧ (OKP G h0 a F R Z B J K u.1)) (fun u => u.1) := by
  intro sz
  refine Met.ofW (cc := cX9_firstFromAbove) (maxL := 5) (ret := (some (.object "JinjaTongue$Method"))) (by decide) rfl ?_
  intro p e s m args below meth c s₁ B9 hml hv
  obtain ⟨rfl, hsz, hP, hD0, hE, hX⟩ := hv
  have hx := B9.exec
  have hb := B9.bytes
  have hr := B9.returns
  have hts := atoms_spec (ws := Cond.code yX9_firstFromAbove cX9_firstFromAbove 5 (some (.object "JinjaTongue$Method")) :: pw) B9.pre
  have hq : ∀ w ∈ pw, w.before _ s = true := fun w h => hts w (List.mem_cons_of_mem _ h)
  have hown : s.vm.findClass RX9 = some m.cls := findClass_of_methodNamed B9.named
  have hlocks := B9.notSynchronized
  subst hsz
  have hD := hD0.self (sz := s.heap.size)
  have hA : ∀ q : Nat, s.heap.size ≤ q → va_A w s.heap.size q := fun q h => Or.inr h
  generalize va_A w s.heap.size = A at hD hE hA ⊢
  have hS : va_S A s.heap s.heap [] := va_S.rf
  have hl := lv_entry ([.ref pq, .ref d0, .int x]) (n := 5) (Nat.le_of_ble_eq_true rfl)
  rw [lg_entry_eq]
  generalize (lg_sl ([.ref pq, .ref d0, .int x]) ++ List.replicate (5 - (lg_sl ([.ref pq, .ref d0, .int x])).length) Slot.unset).toArray = ls at hl ⊢
  have hl : lv_has ls 5 [(0, .ref pq), (1, .ref d0), (2, .int x)] := hl
  have hp1 := hpb.1
  have hp2 := hpb.2.1
  have hp3 := hpb.2.2.1
  have hp4 := hpb.2.2.2.1
  have hp5 := hpb.2.2.2.2.1
  have hp6 := hpb.2.2.2.2.2.1
  have hp8 := hpb.2.2.2.2.2.2.2.1
  have hp9 := hpb.2.2.2.2.2.2.2.2
  refine lv_iconst (v := 0) hx hb dX9_firstFromAbove_0 (by decide) ?_
  refine lv_istore_n (lv' := [(3, .int 0), (0, .ref pq), (1, .ref d0), (2, .int x)]) hx hb dX9_firstFromAbove_1 rfl hl (by decide) rfl (fun ls hl => ?_)
  have loop_i : ∀ (n_i : Nat) (i2 : Nat) (H : Heap) (locs : List Loc) (ls : Array Slot) (w : va_W), i2 ≤ nd → nd + 1 ≤ i2 + n_i → va_P G.1 pCl w H → va_D A w → va_S A s.heap H locs → OKP G h0 a F R Z B J K w → lv_has ls 5 [(3, .int (nI i2)), (2, .int x), (1, .ref d0), (0, .ref pq)] → W p l e (headSpec (Cond.code yX9_firstFromAbove cX9_firstFromAbove 5 (some (.object "JinjaTongue$Method")) :: pw) ({ frames := 6, cells := 0, slots := 0, locals := 146 } : Room)).room s m ([.ref pq, .ref d0, .int x] : List Value).toArray below meth c H locs 0 0 (MQ below (pQ G A (fun (v : Option Value) (u : va_W × (Option Nat)) => v = some ((va_rf u.2)) ∧ (MoN K u.2) ∧ (OKP G h0 a F R Z B J K u.1)) (fun u => u.1)) ([.ref pq, .ref d0, .int x] : List Value).toArray s ({ frames := 6, cells := 0, slots := 0, locals := 146 } : Room).cells ({ frames := 6, cells := 0, slots := 0, locals := 146 } : Room).slots A) (F0 m 2 ls []) := by
    intro n_i
    induction n_i with
    | zero => intro i2 H locs ls w hk_i hn_i; omega
    | succ n_i ih_i =>
      intro i2 H locs ls w hk_i hn_i hP hD hS hO hl
      refine lv_iload_n hx hb dX9_firstFromAbove_2 rfl (lv_at hl 0 rfl) ?_
      refine lv_aload_n hx hb dX9_firstFromAbove_3 rfl (lv_at hl 3 rfl) ?_
      refine p_get (v := .int (nI nd)) (C := RX9) (Tc := TX9) (N := 5) (ci := 6) hx hb hq pin_wsX90 hown hE hP hO (by rw [hp1]; decide) (rep_7 hp1) rfl 2 (by decide) (hq _ pw_14) (fun _ h9 => h9) (congrArg (fun z => some (Value.int z)) hp8) dX9_firstFromAbove_4 ?_
      refine lv_icmp_ge (tgt := 52) hx hb dX9_firstFromAbove_7 (by decide) (fun c1 => ?_) (fun c1 => ?_)
      · have n2 : nd ≤ i2 := (nI_leI (a := nd) (b := i2) (by omega) (by omega)).mp c1
        refine lv_null hx hb dX9_firstFromAbove_52 ?_
        have hz3 : MoN K none := (fun d h => by cases h)
        have hO : OKP G h0 a F R Z B J K w := hO.to rfl
        exact W.aret (v := .null) hx hb hr (Or.inl ⟨_, rfl⟩) (Or.inl rfl) (fun t99 ht99 hW99 => ⟨⟨_, (w, none), rfl, ⟨rfl, hz3, hO⟩, by rw [ht99]; exact hP, hD⟩, hS.F ht99⟩) hS.2.2 dX9_firstFromAbove_53
      · have n4 : ¬ (nd ≤ i2) := fun h9 => c1 ((nI_leI (a := nd) (b := i2) (by omega) (by omega)).mpr h9)
        refine lv_aload_n hx hb dX9_firstFromAbove_10 rfl (lv_at hl 3 rfl) ?_
        refine lv_iload_n hx hb dX9_firstFromAbove_11 rfl (lv_at hl 0 rfl) ?_
        refine lv_aload_n hx hb dX9_firstFromAbove_12 rfl (lv_at hl 2 rfl) ?_
        refine p_get (v := .int (K.2.1 15 d0)) (C := RX2) (Tc := TX2) (N := 13) (ci := 2) hx hb hq pin_wsX20 hown hE hP hO (by rw [hd0]; decide) (rep_4 hd0) rfl 0 (by decide) (hq _ pw_1139) (fun _ h9 => h9) rfl dX9_firstFromAbove_13 ?_
        have hO : OKP G h0 a F R Z B J K w := hO.to rfl
        obtain ⟨qr8, hqr9⟩ := p_recv hO (by rw [hp1]; decide) (rep_7 hp1)
        refine pc_V0 (G := G) (As := [.int (nI i2), .int (K.2.1 15 d0)]) (rest := []) hx hb hml hown hq hE hX pX0_al hP hD hS hA hl.1 (G_isAbove l G h0 a F R Z B J K w pq dr ml nd (nI i2) (K.2.1 15 d0) g hpb hdc hO) (gV pw_107 pw_108 pw_109 pw_106 pw_101) hV_X9_isAbove qr8 6 hqr9 rfl rfl rfl (Nat.le_of_ble_eq_true rfl) dX9_firstFromAbove_16 ⟨Nat.le_of_ble_eq_true rfl, Nat.le_of_ble_eq_true rfl⟩ ⟨Nat.le_of_ble_eq_true rfl, Nat.le_of_ble_eq_true rfl⟩ (fun v7 u5 H locs hw6 hP hD hS => ?_)
        obtain ⟨w, r10⟩ := u5
        obtain ⟨hw6, h11, h12, hO⟩ := hw6
        have h11 : r10 ≤ 1 := h11
        have h12 : AbQ K dr nd (nI i2) (K.2.1 15 d0) r10 := h12
        obtain rfl : v7 = some (.int (nI r10)) := hw6
        have hO : OKP G h0 a F R Z B J K w := hO.to rfl
        refine W.widen (k := 0) (n := 0) (Nat.le_of_ble_eq_true rfl) (Nat.le_of_ble_eq_true rfl) ?_
        refine W.eq (g2 := F0 m 19 ls [.int (nI r10)]) rfl ?_
        refine lv_if_eq (tgt := 35) hx hb dX9_firstFromAbove_19 (by decide) (fun c13 => ?_) (fun c13 => ?_)
        · have n14 : r10 = 0 := (nI_eq (a := r10) (b := 0) (by omega) (by omega)).mp c13
          refine lv_null hx hb dX9_firstFromAbove_35 ?_
          refine lv_astoreN (lv' := [(4, .null), (3, .int (nI i2)), (2, .int x), (1, .ref d0), (0, .ref pq)]) hx hb dX9_firstFromAbove_36 hl (by decide) rfl (fun ls hl => ?_)
          refine lv_aloadN hx hb dX9_firstFromAbove_38 (lv_at hl 0 rfl) ?_
          refine lv_ifnullN (tgt := 46) hx hb dX9_firstFromAbove_40 (by decide) ?_
          refine lv_iinc (v := (nI (i2 + 1))) (lv' := [(3, .int (nI (i2 + 1))), (4, .null), (2, .int x), (1, .ref d0), (0, .ref pq)]) hx hb dX9_firstFromAbove_46 hl (k := 1) rfl (nI_1 i2) (by decide) rfl (fun ls hl => ?_)
          refine lv_goto (tgt := 2) hx hb dX9_firstFromAbove_49 (by decide) ?_
          have hO : OKP G h0 a F R Z B J K w := hO.to rfl
          exact ih_i (i2 + 1) _ _ _ _ (by omega) (by omega) hP hD hS hO (lv_sub hl [0, 2, 3, 4] rfl)
        · have n15 : ¬ (r10 = 0) := fun h9 => c13 ((nI_eq (a := r10) (b := 0) (by omega) (by omega)).mpr h9)
          refine lv_aload_n hx hb dX9_firstFromAbove_22 rfl (lv_at hl 3 rfl) ?_
          refine p_get (v := .ref dr) (C := RX9) (Tc := TX9) (N := 5) (ci := 6) hx hb hq pin_wsX90 hown hE hP hO (by rw [hp1]; decide) (rep_7 hp1) rfl 1 (by decide) (hq _ pw_15) (fun _ h9 => h9) (congrArg (fun z => some (va_rf z)) hp3) dX9_firstFromAbove_23 ?_
          refine lv_iload_n hx hb dX9_firstFromAbove_26 rfl (lv_at hl 0 rfl) ?_
          refine p_ald8 hx hb hE hP hO hp4 (vp_in_nI (by omega) (by omega)) dX9_firstFromAbove_27 ?_
          rw [nI_clamp (show i2 < 2 ^ 31 by omega)]
          obtain ⟨d16, hd17, hd18, hd19, hd20⟩ := hdc i2 (by omega)
          rw [hd17]
          refine W.eq (g2 := F0 m 28 ls [.ref d16]) rfl ?_
          refine lv_iload_n hx hb dX9_firstFromAbove_28 rfl (lv_at hl 1 rfl) ?_
          have hO : OKP G h0 a F R Z B J K w := hO.to rfl
          obtain ⟨qr24, hqr25⟩ := p_recv hO (by rw [hd18]; decide) (rep_4 hd18)
          refine pc_V0 (G := G) (As := [.int x]) (rest := []) hx hb hml hown hq hE hX pX0_al hP hD hS hA hl.1 (O_own l G h0 a F R Z B J K w d16 x g hd18 hwp hO) (gV pw_1099 pw_152 pw_153 pw_146 pw_149) hV_X2_own qr24 2 hqr25 rfl rfl rfl (Nat.le_of_ble_eq_true rfl) dX9_firstFromAbove_29 ⟨Nat.le_of_ble_eq_true rfl, Nat.le_of_ble_eq_true rfl⟩ ⟨Nat.le_of_ble_eq_true rfl, Nat.le_of_ble_eq_true rfl⟩ (fun v23 u21 H locs hw22 hP hD hS => ?_)
          obtain ⟨w, o26⟩ := u21
          obtain ⟨hw22, h27, hO⟩ := hw22
          have h27 : MoN K o26 := h27
          obtain rfl : v23 = some ((va_rf o26)) := hw22
          have hO : OKP G h0 a F R Z B J K w := hO.to rfl
          refine W.widen (k := 0) (n := 0) (Nat.le_of_ble_eq_true rfl) (Nat.le_of_ble_eq_true rfl) ?_
          refine W.eq (g2 := F0 m 32 ls [(va_rf o26)]) rfl ?_
          rcases o26 with _ | d28
          · have hl : lv_has ls 5 [(3, .int (nI i2)), (2, .int x), (1, .ref d0), (0, .ref pq)] := hl
            refine W.eq (g2 := F0 m 32 ls [.null]) rfl ?_
            refine lv_goto (tgt := 36) hx hb dX9_firstFromAbove_32 (by decide) ?_
            refine lv_astoreN (lv' := [(4, .null), (3, .int (nI i2)), (2, .int x), (1, .ref d0), (0, .ref pq)]) hx hb dX9_firstFromAbove_36 hl (by decide) rfl (fun ls hl => ?_)
            refine lv_aloadN hx hb dX9_firstFromAbove_38 (lv_at hl 0 rfl) ?_
            refine lv_ifnullN (tgt := 46) hx hb dX9_firstFromAbove_40 (by decide) ?_
            refine lv_iinc (v := (nI (i2 + 1))) (lv' := [(3, .int (nI (i2 + 1))), (4, .null), (2, .int x), (1, .ref d0), (0, .ref pq)]) hx hb dX9_firstFromAbove_46 hl (k := 1) rfl (nI_1 i2) (by decide) rfl (fun ls hl => ?_)
            refine lv_goto (tgt := 2) hx hb dX9_firstFromAbove_49 (by decide) ?_
            have hO : OKP G h0 a F R Z B J K w := hO.to rfl
            exact ih_i (i2 + 1) _ _ _ _ (by omega) (by omega) hP hD hS hO (lv_sub hl [0, 2, 3, 4] rfl)
          · have hl : lv_has ls 5 [(3, .int (nI i2)), (2, .int x), (1, .ref d0), (0, .ref pq)] := hl
            refine W.eq (g2 := F0 m 32 ls [.ref d28]) rfl ?_
            have hf29 : K.1 d28 = 3 := h27 d28 rfl
            refine lv_goto (tgt := 36) hx hb dX9_firstFromAbove_32 (by decide) ?_
            refine lv_astore (lv' := [(4, .ref d28), (3, .int (nI i2)), (2, .int x), (1, .ref d0), (0, .ref pq)]) hx hb dX9_firstFromAbove_36 hl (by decide) rfl (fun ls hl => ?_)
            refine lv_aload hx hb dX9_firstFromAbove_38 (lv_at hl 0 rfl) ?_
            refine lv_ifnull hx hb dX9_firstFromAbove_40 ?_
            refine lv_aload hx hb dX9_firstFromAbove_43 (lv_at hl 0 rfl) ?_
            have hz30 : MoN K (some d28) := (fun d h => by cases h; exact hf29)
            have hO : OKP G h0 a F R Z B J K w := hO.to rfl
            exact W.aret (v := .ref d28) hx hb hr (Or.inl ⟨_, rfl⟩) (Or.inr ⟨_, rfl⟩) (fun t99 ht99 hW99 => ⟨⟨_, (w, (some d28)), rfl, ⟨rfl, hz30, hO⟩, by rw [ht99]; exact hP, hD⟩, hS.F ht99⟩) hS.2.2 dX9_firstFromAbove_45
  have hO : OKP G h0 a F R Z B J K w := hO.to rfl
  exact loop_i (nd + 1) 0 _ _ _ _ (by omega) (by omega) hP hD hS hO (lv_sub hl [0, 3, 2, 1] rfl)
theorem dX9_haveOneSignature_0 : decode cX9_haveOneSignature 0 = .ok (.aload_n 2, 1) := by decide +kernel
theorem dX9_haveOneSignature_1 : decode cX9_haveOneSignature 1 = .ok (.ifnull 45, 3) := by decide +kernel
theorem dX9_haveOneSignature_46 : decode cX9_haveOneSignature 46 = .ok (.iconst 0, 1) := by decide +kernel
theorem dX9_haveOneSignature_47 : decode cX9_haveOneSignature 47 = .ok (.ireturn, 1) := by decide +kernel
set_option maxHeartbeats 16000000 in
set_option maxRecDepth 100000 in
theorem G_oneSigN (l : Launch) (G : pT) (h0 : Nat) (a : Nat → Nat) (F : Nat → Int32) (R : Nat → Value) (Z : Int64) (B : Nat → Nat → Int32) (J : Nat → Nat → Int64) (K : PK) (w : va_W) (pq : Nat) (dr : Nat) (ml : Nat) (nd : Nat) (m1 : Nat) (sz : Nat) (g : Nat → Nat → Nat) (hpb : PgB K g (a 1) pq dr ml nd) (hsz : sz ≤ 5000) (hm1 : K.1 m1 = 3) (hwp : WPr G K g) (hO : OKP G h0 a (upd F 2 (nI sz)) R Z B J K w) : PM l G pX0 yX9_haveOneSignature cX9_haveOneSignature 4 (some .boolean) ({ frames := 2, cells := 0, slots := 0, locals := 60 }) [.ref pq, .ref m1, .null] w (fun (v : Option Value) (u : va_W × (Nat)) => v = some (.int (nI u.2)) ∧ (u.2 ≤ 1) ∧ (OKP G h0 a (upd F 2 (nI sz)) R Z B J K u.1)) (fun u => u.1) := by
  intro sz
  refine Met.ofW (cc := cX9_haveOneSignature) (maxL := 4) (ret := (some .boolean)) (by decide) rfl ?_
  intro p e s m args below meth c s₁ B9 hml hv
  obtain ⟨rfl, hsz, hP, hD0, hE, hX⟩ := hv
  have hx := B9.exec
  have hb := B9.bytes
  have hr := B9.returns
  have hts := atoms_spec (ws := Cond.code yX9_haveOneSignature cX9_haveOneSignature 4 (some .boolean) :: pw) B9.pre
  have hq : ∀ w ∈ pw, w.before _ s = true := fun w h => hts w (List.mem_cons_of_mem _ h)
  have hown : s.vm.findClass RX9 = some m.cls := findClass_of_methodNamed B9.named
  have hlocks := B9.notSynchronized
  subst hsz
  have hD := hD0.self (sz := s.heap.size)
  have hA : ∀ q : Nat, s.heap.size ≤ q → va_A w s.heap.size q := fun q h => Or.inr h
  generalize va_A w s.heap.size = A at hD hE hA ⊢
  have hS : va_S A s.heap s.heap [] := va_S.rf
  have hl := lv_entry ([.ref pq, .ref m1, .null]) (n := 4) (Nat.le_of_ble_eq_true rfl)
  rw [lg_entry_eq]
  generalize (lg_sl ([.ref pq, .ref m1, .null]) ++ List.replicate (4 - (lg_sl ([.ref pq, .ref m1, .null])).length) Slot.unset).toArray = ls at hl ⊢
  have hl : lv_has ls 4 [(0, .ref pq), (1, .ref m1), (2, .null)] := hl
  have hp1 := hpb.1
  have hp2 := hpb.2.1
  have hp3 := hpb.2.2.1
  have hp4 := hpb.2.2.2.1
  have hp5 := hpb.2.2.2.2.1
  have hp6 := hpb.2.2.2.2.2.1
  have hp8 := hpb.2.2.2.2.2.2.2.1
  have hp9 := hpb.2.2.2.2.2.2.2.2
  refine lv_aload_nN hx hb dX9_haveOneSignature_0 rfl (lv_at hl 2 rfl) ?_
  refine lv_ifnullN (tgt := 46) hx hb dX9_haveOneSignature_1 (by decide) ?_
  refine lv_iconst (v := 0) hx hb dX9_haveOneSignature_46 (by decide) ?_
  have hz1 : 0 ≤ 1 := (by omega)
  have hO : OKP G h0 a (upd F 2 (nI sz)) R Z B J K w := hO.to rfl
  exact W.zret (v := 0) hx hb hr rfl (fun t99 ht99 hW99 => ⟨⟨_, (w, 0), rfl, ⟨rfl, hz1, hO⟩, by rw [ht99]; exact hP, hD⟩, hS.F ht99⟩) hS.2.2 dX9_haveOneSignature_47
theorem dX9_haveOneSignature_4 : decode cX9_haveOneSignature 4 = .ok (.aload_n 0, 1) := by decide +kernel
theorem dX9_haveOneSignature_5 : decode cX9_haveOneSignature 5 = .ok (.getfield 9, 3) := by decide +kernel
theorem dX9_haveOneSignature_8 : decode cX9_haveOneSignature 8 = .ok (.aload_n 1, 1) := by decide +kernel
theorem dX9_haveOneSignature_9 : decode cX9_haveOneSignature 9 = .ok (.getfield 191, 3) := by decide +kernel
theorem dX9_haveOneSignature_12 : decode cX9_haveOneSignature 12 = .ok (.invokevirtual 194, 3) := by decide +kernel
theorem dX9_haveOneSignature_15 : decode cX9_haveOneSignature 15 = .ok (.aload_n 0, 1) := by decide +kernel
theorem dX9_haveOneSignature_16 : decode cX9_haveOneSignature 16 = .ok (.getfield 9, 3) := by decide +kernel
theorem dX9_haveOneSignature_19 : decode cX9_haveOneSignature 19 = .ok (.aload_n 2, 1) := by decide +kernel
theorem dX9_haveOneSignature_20 : decode cX9_haveOneSignature 20 = .ok (.getfield 191, 3) := by decide +kernel
theorem dX9_haveOneSignature_23 : decode cX9_haveOneSignature 23 = .ok (.invokevirtual 194, 3) := by decide +kernel
theorem dX9_haveOneSignature_26 : decode cX9_haveOneSignature 26 = .ok (.if_icmp .ne 20, 3) := by decide +kernel
theorem dX9_haveOneSignature_29 : decode cX9_haveOneSignature 29 = .ok (.aload_n 1, 1) := by decide +kernel
theorem dX9_haveOneSignature_30 : decode cX9_haveOneSignature 30 = .ok (.getfield 197, 3) := by decide +kernel
theorem dX9_haveOneSignature_33 : decode cX9_haveOneSignature 33 = .ok (.invokevirtual 45, 3) := by decide +kernel
theorem dX9_haveOneSignature_36 : decode cX9_haveOneSignature 36 = .ok (.aload_n 2, 1) := by decide +kernel
theorem dX9_haveOneSignature_37 : decode cX9_haveOneSignature 37 = .ok (.getfield 197, 3) := by decide +kernel
theorem dX9_haveOneSignature_40 : decode cX9_haveOneSignature 40 = .ok (.invokevirtual 45, 3) := by decide +kernel
theorem dX9_haveOneSignature_43 : decode cX9_haveOneSignature 43 = .ok (.if_icmp .eq 5, 3) := by decide +kernel
theorem dX9_haveOneSignature_48 : decode cX9_haveOneSignature 48 = .ok (.iconst 0, 1) := by decide +kernel
theorem dX9_haveOneSignature_49 : decode cX9_haveOneSignature 49 = .ok (.istore_n 3, 1) := by decide +kernel
theorem dX9_haveOneSignature_50 : decode cX9_haveOneSignature 50 = .ok (.iload_n 3, 1) := by decide +kernel
theorem dX9_haveOneSignature_51 : decode cX9_haveOneSignature 51 = .ok (.aload_n 1, 1) := by decide +kernel
theorem dX9_haveOneSignature_52 : decode cX9_haveOneSignature 52 = .ok (.getfield 197, 3) := by decide +kernel
theorem dX9_haveOneSignature_55 : decode cX9_haveOneSignature 55 = .ok (.invokevirtual 45, 3) := by decide +kernel
theorem dX9_haveOneSignature_58 : decode cX9_haveOneSignature 58 = .ok (.if_icmp .ge 56, 3) := by decide +kernel
theorem dX9_haveOneSignature_114 : decode cX9_haveOneSignature 114 = .ok (.iconst 1, 1) := by decide +kernel
theorem dX9_haveOneSignature_115 : decode cX9_haveOneSignature 115 = .ok (.ireturn, 1) := by decide +kernel
theorem dX9_haveOneSignature_61 : decode cX9_haveOneSignature 61 = .ok (.aload_n 0, 1) := by decide +kernel
theorem dX9_haveOneSignature_62 : decode cX9_haveOneSignature 62 = .ok (.getfield 9, 3) := by decide +kernel
theorem dX9_haveOneSignature_65 : decode cX9_haveOneSignature 65 = .ok (.aload_n 1, 1) := by decide +kernel
theorem dX9_haveOneSignature_66 : decode cX9_haveOneSignature 66 = .ok (.getfield 197, 3) := by decide +kernel
theorem dX9_haveOneSignature_69 : decode cX9_haveOneSignature 69 = .ok (.iload_n 3, 1) := by decide +kernel
theorem dX9_haveOneSignature_70 : decode cX9_haveOneSignature 70 = .ok (.invokevirtual 48, 3) := by decide +kernel
theorem dX9_haveOneSignature_73 : decode cX9_haveOneSignature 73 = .ok (.checkcast 137, 3) := by decide +kernel
theorem dX9_haveOneSignature_76 : decode cX9_haveOneSignature 76 = .ok (.getfield 208, 3) := by decide +kernel
theorem dX9_haveOneSignature_79 : decode cX9_haveOneSignature 79 = .ok (.invokevirtual 194, 3) := by decide +kernel
theorem dX9_haveOneSignature_82 : decode cX9_haveOneSignature 82 = .ok (.aload_n 0, 1) := by decide +kernel
theorem dX9_haveOneSignature_83 : decode cX9_haveOneSignature 83 = .ok (.getfield 9, 3) := by decide +kernel
theorem dX9_haveOneSignature_86 : decode cX9_haveOneSignature 86 = .ok (.aload_n 2, 1) := by decide +kernel
theorem dX9_haveOneSignature_87 : decode cX9_haveOneSignature 87 = .ok (.getfield 197, 3) := by decide +kernel
theorem dX9_haveOneSignature_90 : decode cX9_haveOneSignature 90 = .ok (.iload_n 3, 1) := by decide +kernel
theorem dX9_haveOneSignature_91 : decode cX9_haveOneSignature 91 = .ok (.invokevirtual 48, 3) := by decide +kernel
theorem dX9_haveOneSignature_94 : decode cX9_haveOneSignature 94 = .ok (.checkcast 137, 3) := by decide +kernel
theorem dX9_haveOneSignature_97 : decode cX9_haveOneSignature 97 = .ok (.getfield 208, 3) := by decide +kernel
theorem dX9_haveOneSignature_100 : decode cX9_haveOneSignature 100 = .ok (.invokevirtual 194, 3) := by decide +kernel
theorem dX9_haveOneSignature_103 : decode cX9_haveOneSignature 103 = .ok (.if_icmp .eq 5, 3) := by decide +kernel
theorem dX9_haveOneSignature_108 : decode cX9_haveOneSignature 108 = .ok (.iinc 3 1, 3) := by decide +kernel
theorem dX9_haveOneSignature_111 : decode cX9_haveOneSignature 111 = .ok (.goto (-61), 3) := by decide +kernel
theorem dX9_haveOneSignature_106 : decode cX9_haveOneSignature 106 = .ok (.iconst 0, 1) := by decide +kernel
theorem dX9_haveOneSignature_107 : decode cX9_haveOneSignature 107 = .ok (.ireturn, 1) := by decide +kernel
theorem hV_X10_typeAt : yX10_typeAt.cls = RX10 ∧ yX10_typeAt.cls ≠ "java/lang/invoke/MethodHandle" ∧ yX10_typeAt.cls ≠ "java/lang/invoke/VarHandle" ∧ (parseMethodDescriptor yX10_typeAt.desc).map (fun d => d.parameters.length) = some 1 := by decide +kernel
set_option maxHeartbeats 16000000 in
set_option maxRecDepth 100000 in
theorem G_oneSig (l : Launch) (G : pT) (h0 : Nat) (a : Nat → Nat) (F : Nat → Int32) (R : Nat → Value) (Z : Int64) (B : Nat → Nat → Int32) (J : Nat → Nat → Int64) (K : PK) (w : va_W) (pq : Nat) (dr : Nat) (ml : Nat) (nd : Nat) (m1 : Nat) (sz : Nat) (m2 : Nat) (g : Nat → Nat → Nat) (hpb : PgB K g (a 1) pq dr ml nd) (hsz : sz ≤ 5000) (hm1 : K.1 m1 = 3) (hm2 : K.1 m2 = 3) (hwp : WPr G K g) (hO : OKP G h0 a (upd F 2 (nI sz)) R Z B J K w) : PM l G pX0 yX9_haveOneSignature cX9_haveOneSignature 4 (some .boolean) ({ frames := 5, cells := 0, slots := 0, locals := 124 }) [.ref pq, .ref m1, .ref m2] w (fun (v : Option Value) (u : va_W × (Nat)) => v = some (.int (nI u.2)) ∧ (u.2 ≤ 1) ∧ (OKP G h0 a (upd F 2 (nI sz)) R Z B J K u.1)) (fun u => u.1) := by
  intro sz
  refine Met.ofW (cc := cX9_haveOneSignature) (maxL := 4) (ret := (some .boolean)) (by decide) rfl ?_
  intro p e s m args below meth c s₁ B9 hml hv
  obtain ⟨rfl, hsz, hP, hD0, hE, hX⟩ := hv
  have hx := B9.exec
  have hb := B9.bytes
  have hr := B9.returns
  have hts := atoms_spec (ws := Cond.code yX9_haveOneSignature cX9_haveOneSignature 4 (some .boolean) :: pw) B9.pre
  have hq : ∀ w ∈ pw, w.before _ s = true := fun w h => hts w (List.mem_cons_of_mem _ h)
  have hown : s.vm.findClass RX9 = some m.cls := findClass_of_methodNamed B9.named
  have hlocks := B9.notSynchronized
  subst hsz
  have hD := hD0.self (sz := s.heap.size)
  have hA : ∀ q : Nat, s.heap.size ≤ q → va_A w s.heap.size q := fun q h => Or.inr h
  generalize va_A w s.heap.size = A at hD hE hA ⊢
  have hS : va_S A s.heap s.heap [] := va_S.rf
  have hl := lv_entry ([.ref pq, .ref m1, .ref m2]) (n := 4) (Nat.le_of_ble_eq_true rfl)
  rw [lg_entry_eq]
  generalize (lg_sl ([.ref pq, .ref m1, .ref m2]) ++ List.replicate (4 - (lg_sl ([.ref pq, .ref m1, .ref m2])).length) Slot.unset).toArray = ls at hl ⊢
  have hl : lv_has ls 4 [(0, .ref pq), (1, .ref m1), (2, .ref m2)] := hl
  have hp1 := hpb.1
  have hp2 := hpb.2.1
  have hp3 := hpb.2.2.1
  have hp4 := hpb.2.2.2.1
  have hp5 := hpb.2.2.2.2.1
  have hp6 := hpb.2.2.2.2.2.1
  have hp8 := hpb.2.2.2.2.2.2.2.1
  have hp9 := hpb.2.2.2.2.2.2.2.2
  obtain ⟨l1, hfl1, htl1, hrl1, hol1⟩ := (hwp.2.2.2 m1 hm1).1
  obtain ⟨nl1, itl1, cpl1, hlcl1, hnbl1, hcbl1⟩ := hwp.2.1 l1 htl1
  rw [hrl1] at hlcl1 hnbl1
  have hncl1 := hlcl1.2.2.1
  have hnbl1 : nl1 ≤ 5000 := hnbl1
  have hlcl1 : LsC G K l1 1 nl1 itl1 cpl1 := hlcl1
  obtain ⟨l2, hfl2, htl2, hrl2, hol2⟩ := (hwp.2.2.2 m2 hm2).1
  obtain ⟨nl2, itl2, cpl2, hlcl2, hnbl2, hcbl2⟩ := hwp.2.1 l2 htl2
  rw [hrl2] at hlcl2 hnbl2
  have hncl2 := hlcl2.2.2.1
  have hnbl2 : nl2 ≤ 5000 := hnbl2
  have hlcl2 : LsC G K l2 1 nl2 itl2 cpl2 := hlcl2
  refine lv_aload_n hx hb dX9_haveOneSignature_0 rfl (lv_at hl 2 rfl) ?_
  refine lv_ifnull hx hb dX9_haveOneSignature_1 ?_
  refine lv_aload_n hx hb dX9_haveOneSignature_4 rfl (lv_at hl 0 rfl) ?_
  refine p_get (v := .ref (a 1)) (C := RX9) (Tc := TX9) (N := 5) (ci := 6) hx hb hq pin_wsX90 hown hE hP hO (by rw [hp1]; decide) (rep_7 hp1) rfl 0 (by decide) (hq _ pw_784) (fun _ h9 => h9) (congrArg (fun z => some (va_rf z)) hp2) dX9_haveOneSignature_5 ?_
  refine lv_aload_n hx hb dX9_haveOneSignature_8 rfl (lv_at hl 1 rfl) ?_
  refine p_get (v := .int (K.2.1 8 m1)) (C := RX6) (Tc := TX6) (N := 12) (ci := 12) hx hb hq pin_wsX60 hown hE hP hO (by rw [hm1]; decide) (rep_3 hm1) rfl 3 (by decide) (hq _ pw_1143) (fun _ h9 => h9) rfl dX9_haveOneSignature_9 ?_
  have hO : OKW G h0 a (upd (upd F 2 (nI sz)) 2 (nI sz)) R Z B J K.1 (fun q99 x99 => x99 = rep G a K q99) w := hO.to rfl
  obtain ⟨_, qr4, hqr5⟩ := hO.2.1 2 _ (sg_2 G h0 a _ _ _ _ _)
  refine pc_V0 (G := G) (As := [.int (K.2.1 8 m1)]) (rest := []) hx hb hml hown hq hE hX pX0_al hP hD hS hA hl.1 (K_typeAt l G h0 a (upd F 2 (nI sz)) R Z B J K.1 (fun q99 x99 => x99 = rep G a K q99) w (K.2.1 8 m1) sz (by omega) hO) (gV pw_1146 pw_93 pw_94 pw_59 pw_36) hV_X10_typeAt qr4 7 hqr5 rfl rfl rfl (Nat.le_of_ble_eq_true rfl) dX9_haveOneSignature_12 ⟨Nat.le_of_ble_eq_true rfl, Nat.le_of_ble_eq_true rfl⟩ ⟨Nat.le_of_ble_eq_true rfl, Nat.le_of_ble_eq_true rfl⟩ (fun v3 u1 H locs hw2 hP hD hS => ?_)
  obtain ⟨w, r6⟩ := u1
  obtain ⟨hw2, hO⟩ := hw2
  obtain rfl : v3 = some (.int r6) := hw2
  have hO : OKP G h0 a (upd F 2 (nI sz)) R Z B J K w := hO.to rfl
  refine W.widen (k := 0) (n := 0) (Nat.le_of_ble_eq_true rfl) (Nat.le_of_ble_eq_true rfl) ?_
  refine W.eq (g2 := F0 m 15 ls [.int r6]) rfl ?_
  refine lv_aload_n hx hb dX9_haveOneSignature_15 rfl (lv_at hl 0 rfl) ?_
  refine p_get (v := .ref (a 1)) (C := RX9) (Tc := TX9) (N := 5) (ci := 6) hx hb hq pin_wsX90 hown hE hP hO (by rw [hp1]; decide) (rep_7 hp1) rfl 0 (by decide) (hq _ pw_784) (fun _ h9 => h9) (congrArg (fun z => some (va_rf z)) hp2) dX9_haveOneSignature_16 ?_
  refine lv_aload_n hx hb dX9_haveOneSignature_19 rfl (lv_at hl 2 rfl) ?_
  refine p_get (v := .int (K.2.1 8 m2)) (C := RX6) (Tc := TX6) (N := 12) (ci := 12) hx hb hq pin_wsX60 hown hE hP hO (by rw [hm2]; decide) (rep_3 hm2) rfl 3 (by decide) (hq _ pw_1143) (fun _ h9 => h9) rfl dX9_haveOneSignature_20 ?_
  have hO : OKW G h0 a (upd (upd F 2 (nI sz)) 2 (nI sz)) R Z B J K.1 (fun q99 x99 => x99 = rep G a K q99) w := hO.to rfl
  obtain ⟨_, qr10, hqr11⟩ := hO.2.1 2 _ (sg_2 G h0 a _ _ _ _ _)
  refine pc_V0 (G := G) (As := [.int (K.2.1 8 m2)]) (rest := [.int r6]) hx hb hml hown hq hE hX pX0_al hP hD hS hA hl.1 (K_typeAt l G h0 a (upd F 2 (nI sz)) R Z B J K.1 (fun q99 x99 => x99 = rep G a K q99) w (K.2.1 8 m2) sz (by omega) hO) (gV pw_1146 pw_93 pw_94 pw_59 pw_36) hV_X10_typeAt qr10 7 hqr11 rfl rfl rfl (Nat.le_of_ble_eq_true rfl) dX9_haveOneSignature_23 ⟨Nat.le_of_ble_eq_true rfl, Nat.le_of_ble_eq_true rfl⟩ ⟨Nat.le_of_ble_eq_true rfl, Nat.le_of_ble_eq_true rfl⟩ (fun v9 u7 H locs hw8 hP hD hS => ?_)
  obtain ⟨w, r12⟩ := u7
  obtain ⟨hw8, hO⟩ := hw8
  obtain rfl : v9 = some (.int r12) := hw8
  have hO : OKP G h0 a (upd F 2 (nI sz)) R Z B J K w := hO.to rfl
  refine W.widen (k := 0) (n := 0) (Nat.le_of_ble_eq_true rfl) (Nat.le_of_ble_eq_true rfl) ?_
  refine W.eq (g2 := F0 m 26 ls [.int r12, .int r6]) rfl ?_
  refine lv_icmp_ne (tgt := 46) hx hb dX9_haveOneSignature_26 (by decide) (fun c13 => ?_) (fun c13 => ?_)
  · refine lv_iconst (v := 0) hx hb dX9_haveOneSignature_46 (by decide) ?_
    have hz14 : 0 ≤ 1 := (by omega)
    have hO : OKP G h0 a (upd F 2 (nI sz)) R Z B J K w := hO.to rfl
    exact W.zret (v := 0) hx hb hr rfl (fun t99 ht99 hW99 => ⟨⟨_, (w, 0), rfl, ⟨rfl, hz14, hO⟩, by rw [ht99]; exact hP, hD⟩, hS.F ht99⟩) hS.2.2 dX9_haveOneSignature_47
  · refine lv_aload_n hx hb dX9_haveOneSignature_29 rfl (lv_at hl 1 rfl) ?_
    refine p_get (v := .ref l1) (C := RX6) (Tc := TX6) (N := 12) (ci := 12) hx hb hq pin_wsX60 hown hE hP hO (by rw [hm1]; decide) (rep_3 hm1) rfl 4 (by decide) (hq _ pw_1144) (fun _ h9 => h9) (congrArg (fun z => some (va_rf z)) hfl1) dX9_haveOneSignature_30 ?_
    have hO : OKP G h0 a (upd F 2 (nI sz)) R Z B J K w := hO.to rfl
    obtain ⟨qr18, hqr19⟩ := p_recv hO (by rw [htl1]; decide) (rep_5 htl1)
    refine pc_V0 (G := G) (As := []) (rest := []) hx hb hml hown hq hE hX pX0_al hP hD hS hA hl.1 (L_size l G h0 a (upd F 2 (nI sz)) R Z B J K w l1 1 nl1 itl1 hlcl1.ls hO) (gV pw_516 pw_87 pw_88 pw_32 pw_16) hV_Jx4a65c_size_8abf5 qr18 10 hqr19 rfl rfl rfl (Nat.le_of_ble_eq_true rfl) dX9_haveOneSignature_33 ⟨Nat.le_of_ble_eq_true rfl, Nat.le_of_ble_eq_true rfl⟩ ⟨Nat.le_of_ble_eq_true rfl, Nat.le_of_ble_eq_true rfl⟩ (fun v17 u15 H locs hw16 hP hD hS => ?_)
    obtain ⟨w, _⟩ := u15
    obtain ⟨hw16, hO⟩ := hw16
    obtain rfl : v17 = some (.int (nI nl1)) := hw16
    have hO : OKP G h0 a (upd F 2 (nI sz)) R Z B J K w := hO.to rfl
    refine W.widen (k := 0) (n := 0) (Nat.le_of_ble_eq_true rfl) (Nat.le_of_ble_eq_true rfl) ?_
    refine W.eq (g2 := F0 m 36 ls [.int (nI nl1)]) rfl ?_
    refine lv_aload_n hx hb dX9_haveOneSignature_36 rfl (lv_at hl 2 rfl) ?_
    refine p_get (v := .ref l2) (C := RX6) (Tc := TX6) (N := 12) (ci := 12) hx hb hq pin_wsX60 hown hE hP hO (by rw [hm2]; decide) (rep_3 hm2) rfl 4 (by decide) (hq _ pw_1144) (fun _ h9 => h9) (congrArg (fun z => some (va_rf z)) hfl2) dX9_haveOneSignature_37 ?_
    have hO : OKP G h0 a (upd F 2 (nI sz)) R Z B J K w := hO.to rfl
    obtain ⟨qr23, hqr24⟩ := p_recv hO (by rw [htl2]; decide) (rep_5 htl2)
    refine pc_V0 (G := G) (As := []) (rest := [.int (nI nl1)]) hx hb hml hown hq hE hX pX0_al hP hD hS hA hl.1 (L_size l G h0 a (upd F 2 (nI sz)) R Z B J K w l2 1 nl2 itl2 hlcl2.ls hO) (gV pw_516 pw_87 pw_88 pw_32 pw_16) hV_Jx4a65c_size_8abf5 qr23 10 hqr24 rfl rfl rfl (Nat.le_of_ble_eq_true rfl) dX9_haveOneSignature_40 ⟨Nat.le_of_ble_eq_true rfl, Nat.le_of_ble_eq_true rfl⟩ ⟨Nat.le_of_ble_eq_true rfl, Nat.le_of_ble_eq_true rfl⟩ (fun v22 u20 H locs hw21 hP hD hS => ?_)
    obtain ⟨w, _⟩ := u20
    obtain ⟨hw21, hO⟩ := hw21
    obtain rfl : v22 = some (.int (nI nl2)) := hw21
    have hO : OKP G h0 a (upd F 2 (nI sz)) R Z B J K w := hO.to rfl
    refine W.widen (k := 0) (n := 0) (Nat.le_of_ble_eq_true rfl) (Nat.le_of_ble_eq_true rfl) ?_
    refine W.eq (g2 := F0 m 43 ls [.int (nI nl2), .int (nI nl1)]) rfl ?_
    refine lv_icmp_eq (tgt := 48) hx hb dX9_haveOneSignature_43 (by decide) (fun c25 => ?_) (fun c25 => ?_)
    · have n26 : nl1 = nl2 := (nI_eq (a := nl1) (b := nl2) (by omega) (by omega)).mp c25
      refine lv_iconst (v := 0) hx hb dX9_haveOneSignature_48 (by decide) ?_
      refine lv_istore_n (lv' := [(3, .int 0), (0, .ref pq), (1, .ref m1), (2, .ref m2)]) hx hb dX9_haveOneSignature_49 rfl hl (by decide) rfl (fun ls hl => ?_)
      have loop_i : ∀ (n_i : Nat) (i2 : Nat) (H : Heap) (locs : List Loc) (ls : Array Slot) (w : va_W), i2 ≤ nl1 → nl1 + 1 ≤ i2 + n_i → va_P G.1 pCl w H → va_D A w → va_S A s.heap H locs → OKP G h0 a (upd F 2 (nI sz)) R Z B J K w → lv_has ls 4 [(3, .int (nI i2)), (2, .ref m2), (1, .ref m1), (0, .ref pq)] → W p l e (headSpec (Cond.code yX9_haveOneSignature cX9_haveOneSignature 4 (some .boolean) :: pw) ({ frames := 5, cells := 0, slots := 0, locals := 124 } : Room)).room s m ([.ref pq, .ref m1, .ref m2] : List Value).toArray below meth c H locs 0 0 (MQ below (pQ G A (fun (v : Option Value) (u : va_W × (Nat)) => v = some (.int (nI u.2)) ∧ (u.2 ≤ 1) ∧ (OKP G h0 a (upd F 2 (nI sz)) R Z B J K u.1)) (fun u => u.1)) ([.ref pq, .ref m1, .ref m2] : List Value).toArray s ({ frames := 5, cells := 0, slots := 0, locals := 124 } : Room).cells ({ frames := 5, cells := 0, slots := 0, locals := 124 } : Room).slots A) (F0 m 50 ls []) := by
        intro n_i
        induction n_i with
        | zero => intro i2 H locs ls w hk_i hn_i; omega
        | succ n_i ih_i =>
          intro i2 H locs ls w hk_i hn_i hP hD hS hO hl
          refine lv_iload_n hx hb dX9_haveOneSignature_50 rfl (lv_at hl 0 rfl) ?_
          refine lv_aload_n hx hb dX9_haveOneSignature_51 rfl (lv_at hl 2 rfl) ?_
          refine p_get (v := .ref l1) (C := RX6) (Tc := TX6) (N := 12) (ci := 12) hx hb hq pin_wsX60 hown hE hP hO (by rw [hm1]; decide) (rep_3 hm1) rfl 4 (by decide) (hq _ pw_1144) (fun _ h9 => h9) (congrArg (fun z => some (va_rf z)) hfl1) dX9_haveOneSignature_52 ?_
          have hO : OKP G h0 a (upd F 2 (nI sz)) R Z B J K w := hO.to rfl
          obtain ⟨qr30, hqr31⟩ := p_recv hO (by rw [htl1]; decide) (rep_5 htl1)
          refine pc_V0 (G := G) (As := []) (rest := [.int (nI i2)]) hx hb hml hown hq hE hX pX0_al hP hD hS hA hl.1 (L_size l G h0 a (upd F 2 (nI sz)) R Z B J K w l1 1 nl1 itl1 hlcl1.ls hO) (gV pw_516 pw_87 pw_88 pw_32 pw_16) hV_Jx4a65c_size_8abf5 qr30 10 hqr31 rfl rfl rfl (Nat.le_of_ble_eq_true rfl) dX9_haveOneSignature_55 ⟨Nat.le_of_ble_eq_true rfl, Nat.le_of_ble_eq_true rfl⟩ ⟨Nat.le_of_ble_eq_true rfl, Nat.le_of_ble_eq_true rfl⟩ (fun v29 u27 H locs hw28 hP hD hS => ?_)
          obtain ⟨w, _⟩ := u27
          obtain ⟨hw28, hO⟩ := hw28
          obtain rfl : v29 = some (.int (nI nl1)) := hw28
          have hO : OKP G h0 a (upd F 2 (nI sz)) R Z B J K w := hO.to rfl
          refine W.widen (k := 0) (n := 0) (Nat.le_of_ble_eq_true rfl) (Nat.le_of_ble_eq_true rfl) ?_
          refine W.eq (g2 := F0 m 58 ls [.int (nI nl1), .int (nI i2)]) rfl ?_
          refine lv_icmp_ge (tgt := 114) hx hb dX9_haveOneSignature_58 (by decide) (fun c32 => ?_) (fun c32 => ?_)
          · have n33 : nl1 ≤ i2 := (nI_leI (a := nl1) (b := i2) (by omega) (by omega)).mp c32
            refine lv_iconst (v := 1) hx hb dX9_haveOneSignature_114 (by decide) ?_
            have hz34 : 1 ≤ 1 := (by omega)
            have hO : OKP G h0 a (upd F 2 (nI sz)) R Z B J K w := hO.to rfl
            exact W.zret (v := 1) hx hb hr rfl (fun t99 ht99 hW99 => ⟨⟨_, (w, 1), rfl, ⟨rfl, hz34, hO⟩, by rw [ht99]; exact hP, hD⟩, hS.F ht99⟩) hS.2.2 dX9_haveOneSignature_115
          · have n35 : ¬ (nl1 ≤ i2) := fun h9 => c32 ((nI_leI (a := nl1) (b := i2) (by omega) (by omega)).mpr h9)
            refine lv_aload_n hx hb dX9_haveOneSignature_61 rfl (lv_at hl 3 rfl) ?_
            refine p_get (v := .ref (a 1)) (C := RX9) (Tc := TX9) (N := 5) (ci := 6) hx hb hq pin_wsX90 hown hE hP hO (by rw [hp1]; decide) (rep_7 hp1) rfl 0 (by decide) (hq _ pw_784) (fun _ h9 => h9) (congrArg (fun z => some (va_rf z)) hp2) dX9_haveOneSignature_62 ?_
            refine lv_aload_n hx hb dX9_haveOneSignature_65 rfl (lv_at hl 2 rfl) ?_
            refine p_get (v := .ref l1) (C := RX6) (Tc := TX6) (N := 12) (ci := 12) hx hb hq pin_wsX60 hown hE hP hO (by rw [hm1]; decide) (rep_3 hm1) rfl 4 (by decide) (hq _ pw_1144) (fun _ h9 => h9) (congrArg (fun z => some (va_rf z)) hfl1) dX9_haveOneSignature_66 ?_
            refine lv_iload_n hx hb dX9_haveOneSignature_69 rfl (lv_at hl 0 rfl) ?_
            have hO : OKP G h0 a (upd F 2 (nI sz)) R Z B J K w := hO.to rfl
            obtain ⟨qr39, hqr40⟩ := p_recv hO (by rw [htl1]; decide) (rep_5 htl1)
            refine pc_V0 (G := G) (As := [.int (nI i2)]) (rest := [.ref (a 1)]) hx hb hml hown hq hE hX pX0_al hP hD hS hA hl.1 (L_get l G h0 a (upd F 2 (nI sz)) R Z B J K w l1 1 nl1 itl1 i2 hlcl1.ls (by omega) hO) (gV pw_517 pw_90 pw_91 pw_32 pw_25) hV_Jx4a65c_get_915e3 qr39 10 hqr40 rfl rfl rfl (Nat.le_of_ble_eq_true rfl) dX9_haveOneSignature_70 ⟨Nat.le_of_ble_eq_true rfl, Nat.le_of_ble_eq_true rfl⟩ ⟨Nat.le_of_ble_eq_true rfl, Nat.le_of_ble_eq_true rfl⟩ (fun v38 u36 H locs hw37 hP hD hS => ?_)
            obtain ⟨w, _⟩ := u36
            obtain ⟨hw37, hO⟩ := hw37
            obtain rfl : v38 = some (.ref (itl1 i2)) := hw37
            have hO : OKP G h0 a (upd F 2 (nI sz)) R Z B J K w := hO.to rfl
            refine W.widen (k := 0) (n := 0) (Nat.le_of_ble_eq_true rfl) (Nat.le_of_ble_eq_true rfl) ?_
            refine W.eq (g2 := F0 m 73 ls [.ref (itl1 i2), .ref (a 1)]) rfl ?_
            have hf41 : K.1 (itl1 i2) = 1 := hlcl1.T (by omega)
            refine p_cast (C := RX7) (Tc := TX7) (N := 11) (ci := 13) hx hb hown (hq _ pw_1090) hE hP hO (by rw [hf41]; decide) (rep_1 hf41) rfl dX9_haveOneSignature_73 ?_
            refine p_get (v := .int (K.2.1 2 (itl1 i2))) (C := RX7) (Tc := TX7) (N := 11) (ci := 13) hx hb hq pin_wsX70 hown hE hP hO (by rw [hf41]; decide) (rep_1 hf41) rfl 2 (by decide) (hq _ pw_1145) (fun _ h9 => h9) rfl dX9_haveOneSignature_76 ?_
            have hO : OKW G h0 a (upd (upd F 2 (nI sz)) 2 (nI sz)) R Z B J K.1 (fun q99 x99 => x99 = rep G a K q99) w := hO.to rfl
            obtain ⟨_, qr45, hqr46⟩ := hO.2.1 2 _ (sg_2 G h0 a _ _ _ _ _)
            refine pc_V0 (G := G) (As := [.int (K.2.1 2 (itl1 i2))]) (rest := []) hx hb hml hown hq hE hX pX0_al hP hD hS hA hl.1 (K_typeAt l G h0 a (upd F 2 (nI sz)) R Z B J K.1 (fun q99 x99 => x99 = rep G a K q99) w (K.2.1 2 (itl1 i2)) sz (by omega) hO) (gV pw_1146 pw_93 pw_94 pw_59 pw_36) hV_X10_typeAt qr45 7 hqr46 rfl rfl rfl (Nat.le_of_ble_eq_true rfl) dX9_haveOneSignature_79 ⟨Nat.le_of_ble_eq_true rfl, Nat.le_of_ble_eq_true rfl⟩ ⟨Nat.le_of_ble_eq_true rfl, Nat.le_of_ble_eq_true rfl⟩ (fun v44 u42 H locs hw43 hP hD hS => ?_)
            obtain ⟨w, r47⟩ := u42
            obtain ⟨hw43, hO⟩ := hw43
            obtain rfl : v44 = some (.int r47) := hw43
            have hO : OKP G h0 a (upd F 2 (nI sz)) R Z B J K w := hO.to rfl
            refine W.widen (k := 0) (n := 0) (Nat.le_of_ble_eq_true rfl) (Nat.le_of_ble_eq_true rfl) ?_
            refine W.eq (g2 := F0 m 82 ls [.int r47]) rfl ?_
            refine lv_aload_n hx hb dX9_haveOneSignature_82 rfl (lv_at hl 3 rfl) ?_
            refine p_get (v := .ref (a 1)) (C := RX9) (Tc := TX9) (N := 5) (ci := 6) hx hb hq pin_wsX90 hown hE hP hO (by rw [hp1]; decide) (rep_7 hp1) rfl 0 (by decide) (hq _ pw_784) (fun _ h9 => h9) (congrArg (fun z => some (va_rf z)) hp2) dX9_haveOneSignature_83 ?_
            refine lv_aload_n hx hb dX9_haveOneSignature_86 rfl (lv_at hl 1 rfl) ?_
            refine p_get (v := .ref l2) (C := RX6) (Tc := TX6) (N := 12) (ci := 12) hx hb hq pin_wsX60 hown hE hP hO (by rw [hm2]; decide) (rep_3 hm2) rfl 4 (by decide) (hq _ pw_1144) (fun _ h9 => h9) (congrArg (fun z => some (va_rf z)) hfl2) dX9_haveOneSignature_87 ?_
            refine lv_iload_n hx hb dX9_haveOneSignature_90 rfl (lv_at hl 0 rfl) ?_
            have hO : OKP G h0 a (upd F 2 (nI sz)) R Z B J K w := hO.to rfl
            obtain ⟨qr51, hqr52⟩ := p_recv hO (by rw [htl2]; decide) (rep_5 htl2)
            refine pc_V0 (G := G) (As := [.int (nI i2)]) (rest := [.ref (a 1), .int r47]) hx hb hml hown hq hE hX pX0_al hP hD hS hA hl.1 (L_get l G h0 a (upd F 2 (nI sz)) R Z B J K w l2 1 nl2 itl2 i2 hlcl2.ls (by omega) hO) (gV pw_517 pw_90 pw_91 pw_32 pw_25) hV_Jx4a65c_get_915e3 qr51 10 hqr52 rfl rfl rfl (Nat.le_of_ble_eq_true rfl) dX9_haveOneSignature_91 ⟨Nat.le_of_ble_eq_true rfl, Nat.le_of_ble_eq_true rfl⟩ ⟨Nat.le_of_ble_eq_true rfl, Nat.le_of_ble_eq_true rfl⟩ (fun v50 u48 H locs hw49 hP hD hS => ?_)
            obtain ⟨w, _⟩ := u48
            obtain ⟨hw49, hO⟩ := hw49
            obtain rfl : v50 = some (.ref (itl2 i2)) := hw49
            have hO : OKP G h0 a (upd F 2 (nI sz)) R Z B J K w := hO.to rfl
            refine W.widen (k := 0) (n := 0) (Nat.le_of_ble_eq_true rfl) (Nat.le_of_ble_eq_true rfl) ?_
            refine W.eq (g2 := F0 m 94 ls [.ref (itl2 i2), .ref (a 1), .int r47]) rfl ?_
            have hf53 : K.1 (itl2 i2) = 1 := hlcl2.T (by omega)
            refine p_cast (C := RX7) (Tc := TX7) (N := 11) (ci := 13) hx hb hown (hq _ pw_1090) hE hP hO (by rw [hf53]; decide) (rep_1 hf53) rfl dX9_haveOneSignature_94 ?_
            refine p_get (v := .int (K.2.1 2 (itl2 i2))) (C := RX7) (Tc := TX7) (N := 11) (ci := 13) hx hb hq pin_wsX70 hown hE hP hO (by rw [hf53]; decide) (rep_1 hf53) rfl 2 (by decide) (hq _ pw_1145) (fun _ h9 => h9) rfl dX9_haveOneSignature_97 ?_
            have hO : OKW G h0 a (upd (upd F 2 (nI sz)) 2 (nI sz)) R Z B J K.1 (fun q99 x99 => x99 = rep G a K q99) w := hO.to rfl
            obtain ⟨_, qr57, hqr58⟩ := hO.2.1 2 _ (sg_2 G h0 a _ _ _ _ _)
            refine pc_V0 (G := G) (As := [.int (K.2.1 2 (itl2 i2))]) (rest := [.int r47]) hx hb hml hown hq hE hX pX0_al hP hD hS hA hl.1 (K_typeAt l G h0 a (upd F 2 (nI sz)) R Z B J K.1 (fun q99 x99 => x99 = rep G a K q99) w (K.2.1 2 (itl2 i2)) sz (by omega) hO) (gV pw_1146 pw_93 pw_94 pw_59 pw_36) hV_X10_typeAt qr57 7 hqr58 rfl rfl rfl (Nat.le_of_ble_eq_true rfl) dX9_haveOneSignature_100 ⟨Nat.le_of_ble_eq_true rfl, Nat.le_of_ble_eq_true rfl⟩ ⟨Nat.le_of_ble_eq_true rfl, Nat.le_of_ble_eq_true rfl⟩ (fun v56 u54 H locs hw55 hP hD hS => ?_)
            obtain ⟨w, r59⟩ := u54
            obtain ⟨hw55, hO⟩ := hw55
            obtain rfl : v56 = some (.int r59) := hw55
            have hO : OKP G h0 a (upd F 2 (nI sz)) R Z B J K w := hO.to rfl
            refine W.widen (k := 0) (n := 0) (Nat.le_of_ble_eq_true rfl) (Nat.le_of_ble_eq_true rfl) ?_
            refine W.eq (g2 := F0 m 103 ls [.int r59, .int r47]) rfl ?_
            refine lv_icmp_eq (tgt := 108) hx hb dX9_haveOneSignature_103 (by decide) (fun c60 => ?_) (fun c60 => ?_)
            · refine lv_iinc (v := (nI (i2 + 1))) (lv' := [(3, .int (nI (i2 + 1))), (2, .ref m2), (1, .ref m1), (0, .ref pq)]) hx hb dX9_haveOneSignature_108 hl (k := 0) rfl (nI_1 i2) (by decide) rfl (fun ls hl => ?_)
              refine lv_goto (tgt := 50) hx hb dX9_haveOneSignature_111 (by decide) ?_
              have hO : OKP G h0 a (upd F 2 (nI sz)) R Z B J K w := hO.to rfl
              exact ih_i (i2 + 1) _ _ _ _ (by omega) (by omega) hP hD hS hO (lv_sub hl [0, 1, 2, 3] rfl)
            · refine lv_iconst (v := 0) hx hb dX9_haveOneSignature_106 (by decide) ?_
              have hz61 : 0 ≤ 1 := (by omega)
              have hO : OKP G h0 a (upd F 2 (nI sz)) R Z B J K w := hO.to rfl
              exact W.zret (v := 0) hx hb hr rfl (fun t99 ht99 hW99 => ⟨⟨_, (w, 0), rfl, ⟨rfl, hz61, hO⟩, by rw [ht99]; exact hP, hD⟩, hS.F ht99⟩) hS.2.2 dX9_haveOneSignature_107
      have hO : OKP G h0 a (upd F 2 (nI sz)) R Z B J K w := hO.to rfl
      exact loop_i (nl1 + 1) 0 _ _ _ _ (by omega) (by omega) hP hD hS hO (lv_sub hl [0, 3, 2, 1] rfl)
    · have n62 : ¬ (nl1 = nl2) := fun h9 => c25 ((nI_eq (a := nl1) (b := nl2) (by omega) (by omega)).mpr h9)
      refine lv_iconst (v := 0) hx hb dX9_haveOneSignature_46 (by decide) ?_
      have hz63 : 0 ≤ 1 := (by omega)
      have hO : OKP G h0 a (upd F 2 (nI sz)) R Z B J K w := hO.to rfl
      exact W.zret (v := 0) hx hb hr rfl (fun t99 ht99 hW99 => ⟨⟨_, (w, 0), rfl, ⟨rfl, hz63, hO⟩, by rw [ht99]; exact hP, hD⟩, hS.F ht99⟩) hS.2.2 dX9_haveOneSignature_47
