def MoN (K : PK) (o : Option Nat) : Prop := ∀ q : Nat, o = some q → K.1 q = 3
/-- parents are lower -/
def RkO (K : PK) (rk : Nat → Nat) : Prop := ∀ q d : Nat, K.1 q = 4 → K.2.2.1 10 q = some d → K.1 d = 4 ∧ rk d < rk q ∧ rk q ≤ 100
def RkB (K : PK) (rk : Nat → Nat) (i : Nat) (o : Option Nat) : Prop := ∀ d : Nat, o = some d → K.1 d = 4 ∧ (i = 0 ∨ rk d + i ≤ 100)
theorem RkB.up {K : PK} {rk : Nat → Nat} {i d : Nat} {o : Option Nat} (h : RkO K rk) (hd : K.1 d = 4) (hi : i = 0 ∨ rk d + i ≤ 100) (ho : K.2.2.1 10 d = o) : RkB K rk (i + 1) o := fun e he => by
  subst he
  obtain ⟨h1, h2, h3⟩ := h d e hd ho
  exact ⟨h1, Or.inr (by omega)⟩
theorem dX2_own_0 : decode cX2_own 0 = .ok (.iconst 0, 1) := by decide +kernel
theorem dX2_own_1 : decode cX2_own 1 = .ok (.istore_n 2, 1) := by decide +kernel
theorem dX2_own_2 : decode cX2_own 2 = .ok (.iload_n 2, 1) := by decide +kernel
theorem dX2_own_3 : decode cX2_own 3 = .ok (.aload_n 0, 1) := by decide +kernel
theorem dX2_own_4 : decode cX2_own 4 = .ok (.getfield 35, 3) := by decide +kernel
theorem dX2_own_7 : decode cX2_own 7 = .ok (.invokevirtual 44, 3) := by decide +kernel
theorem dX2_own_10 : decode cX2_own 10 = .ok (.if_icmp .ge 39, 3) := by decide +kernel
theorem dX2_own_49 : decode cX2_own 49 = .ok (.aconst_null, 1) := by decide +kernel
theorem dX2_own_50 : decode cX2_own 50 = .ok (.areturn, 1) := by decide +kernel
theorem dX2_own_13 : decode cX2_own 13 = .ok (.aload_n 0, 1) := by decide +kernel
theorem dX2_own_14 : decode cX2_own 14 = .ok (.getfield 35, 3) := by decide +kernel
theorem dX2_own_17 : decode cX2_own 17 = .ok (.iload_n 2, 1) := by decide +kernel
theorem dX2_own_18 : decode cX2_own 18 = .ok (.invokevirtual 48, 3) := by decide +kernel
theorem dX2_own_21 : decode cX2_own 21 = .ok (.checkcast 55, 3) := by decide +kernel
theorem dX2_own_24 : decode cX2_own 24 = .ok (.getfield 57, 3) := by decide +kernel
theorem dX2_own_27 : decode cX2_own 27 = .ok (.iload_n 1, 1) := by decide +kernel
theorem dX2_own_28 : decode cX2_own 28 = .ok (.if_icmp .ne 15, 3) := by decide +kernel
theorem dX2_own_43 : decode cX2_own 43 = .ok (.iinc 2 1, 3) := by decide +kernel
theorem dX2_own_46 : decode cX2_own 46 = .ok (.goto (-44), 3) := by decide +kernel
theorem dX2_own_31 : decode cX2_own 31 = .ok (.aload_n 0, 1) := by decide +kernel
theorem dX2_own_32 : decode cX2_own 32 = .ok (.getfield 35, 3) := by decide +kernel
theorem dX2_own_35 : decode cX2_own 35 = .ok (.iload_n 2, 1) := by decide +kernel
theorem dX2_own_36 : decode cX2_own 36 = .ok (.invokevirtual 48, 3) := by decide +kernel
theorem dX2_own_39 : decode cX2_own 39 = .ok (.checkcast 55, 3) := by decide +kernel
theorem dX2_own_42 : decode cX2_own 42 = .ok (.areturn, 1) := by decide +kernel
set_option maxHeartbeats 6000000 in
set_option maxRecDepth 100000 in
theorem O_own (l : Launch) (G : pT) (h0 : Nat) (a : Nat → Nat) (F : Nat → Int32) (R : Nat → Value) (Z : Int64) (B : Nat → Nat → Int32) (J : Nat → Nat → Int64) (K : PK) (w : va_W) (d0 : Nat) (x : Int32) (g : Nat → Nat → Nat) (hd0 : K.1 d0 = 4) (hwp : WPr G K g) (hO : OKP G h0 a F R Z B J K w) : PM l G pX0 yX2_own cX2_own 3 (some (.object "JinjaTongue$Method")) ({ frames := 5, cells := 0, slots := 0, locals := 124 }) [.ref d0, .int x] w (fun (v : Option Value) (u : va_W × (Option Nat)) => v = some ((va_rf u.2)) ∧ (MoN K u.2) ∧ (OKP G h0 a F R Z B J K u.1)) (fun u => u.1) := by
  intro sz
  refine Met.ofW (cc := cX2_own) (maxL := 3) (ret := (some (.object "JinjaTongue$Method"))) (by decide) rfl ?_
  intro p e s m args below meth c s₁ B9 hml hv
  obtain ⟨rfl, hsz, hP, hD0, hE, hX⟩ := hv
  have hx := B9.exec
  have hb := B9.bytes
  have hr := B9.returns
  have hts := atoms_spec (ws := Cond.code yX2_own cX2_own 3 (some (.object "JinjaTongue$Method")) :: pw) B9.pre
  have hq : ∀ w ∈ pw, w.before _ s = true := fun w h => hts w (List.mem_cons_of_mem _ h)
  have hown : s.vm.findClass RX2 = some m.cls := findClass_of_methodNamed B9.named
  have hlocks := B9.notSynchronized
  subst hsz
  have hD := hD0.self (sz := s.heap.size)
  have hA : ∀ q : Nat, s.heap.size ≤ q → va_A w s.heap.size q := fun q h => Or.inr h
  generalize va_A w s.heap.size = A at hD hE hA ⊢
  have hS : va_S A s.heap s.heap [] := va_S.rf
  have hl := lv_entry ([.ref d0, .int x]) (n := 3) (Nat.le_of_ble_eq_true rfl)
  rw [lg_entry_eq]
  generalize (lg_sl ([.ref d0, .int x]) ++ List.replicate (3 - (lg_sl ([.ref d0, .int x])).length) Slot.unset).toArray = ls at hl ⊢
  have hl : lv_has ls 3 [(0, .ref d0), (1, .int x)] := hl
  obtain ⟨lm, hflm, htlm, hrlm, holm⟩ := (hwp.2.2.1 d0 hd0).2.1
  obtain ⟨nlm, itlm, cplm, hlclm, hnblm, hcblm⟩ := hwp.2.1 lm htlm
  rw [hrlm] at hlclm hnblm
  have hnclm := hlclm.2.2.1
  have hnblm : nlm ≤ 30 := hnblm
  have hlclm : LsC G K lm 3 nlm itlm cplm := hlclm
  refine lv_iconst (v := 0) hx hb dX2_own_0 (by decide) ?_
  refine lv_istore_n (lv' := [(2, .int 0), (0, .ref d0), (1, .int x)]) hx hb dX2_own_1 rfl hl (by decide) rfl (fun ls hl => ?_)
  have loop_i : ∀ (n_i : Nat) (i2 : Nat) (H : Heap) (locs : List Loc) (ls : Array Slot) (w : va_W), i2 ≤ nlm → nlm + 1 ≤ i2 + n_i → va_P G.1 pCl w H → va_D A w → va_S A s.heap H locs → OKP G h0 a F R Z B J K w → lv_has ls 3 [(2, .int (nI i2)), (1, .int x), (0, .ref d0)] → W p l e (headSpec (Cond.code yX2_own cX2_own 3 (some (.object "JinjaTongue$Method")) :: pw) ({ frames := 5, cells := 0, slots := 0, locals := 124 } : Room)).room s m ([.ref d0, .int x] : List Value).toArray below meth c H locs 0 0 (MQ below (pQ G A (fun (v : Option Value) (u : va_W × (Option Nat)) => v = some ((va_rf u.2)) ∧ (MoN K u.2) ∧ (OKP G h0 a F R Z B J K u.1)) (fun u => u.1)) ([.ref d0, .int x] : List Value).toArray s ({ frames := 5, cells := 0, slots := 0, locals := 124 } : Room).cells ({ frames := 5, cells := 0, slots := 0, locals := 124 } : Room).slots A) (F0 m 2 ls []) := by
    intro n_i
    induction n_i with
    | zero => intro i2 H locs ls w hk_i hn_i; omega
    | succ n_i ih_i =>
      intro i2 H locs ls w hk_i hn_i hP hD hS hO hl
      refine lv_iload_n hx hb dX2_own_2 rfl (lv_at hl 0 rfl) ?_
      refine lv_aload_n hx hb dX2_own_3 rfl (lv_at hl 2 rfl) ?_
      refine p_get (v := .ref lm) (C := RX2) (Tc := TX2) (N := 13) (ci := 2) hx hb hq pin_wsX20 hown hE hP hO (by rw [hd0]; decide) (rep_4 hd0) rfl 8 (by decide) (hq _ pw_148) (fun _ h9 => h9) (congrArg (fun z => some (va_rf z)) hflm) dX2_own_4 ?_
      have hO : OKP G h0 a F R Z B J K w := hO.to rfl
      obtain ⟨qr4, hqr5⟩ := p_recv hO (by rw [htlm]; decide) (rep_5 htlm)
      refine pc_V0 (G := G) (As := []) (rest := [.int (nI i2)]) hx hb hml hown hq hE hX pX0_al hP hD hS hA hl.1 (L_size l G h0 a F R Z B J K w lm 3 nlm itlm hlclm.ls hO) (gV pw_123 pw_87 pw_88 pw_32 pw_16) hV_Jx4a65c_size_8abf5 qr4 10 hqr5 rfl rfl rfl (Nat.le_of_ble_eq_true rfl) dX2_own_7 ⟨Nat.le_of_ble_eq_true rfl, Nat.le_of_ble_eq_true rfl⟩ ⟨Nat.le_of_ble_eq_true rfl, Nat.le_of_ble_eq_true rfl⟩ (fun v3 u1 H locs hw2 hP hD hS => ?_)
      obtain ⟨w, _⟩ := u1
      obtain ⟨hw2, hO⟩ := hw2
      obtain rfl : v3 = some (.int (nI nlm)) := hw2
      have hO : OKP G h0 a F R Z B J K w := hO.to rfl
      refine W.widen (k := 0) (n := 0) (Nat.le_of_ble_eq_true rfl) (Nat.le_of_ble_eq_true rfl) ?_
      refine W.eq (g2 := F0 m 10 ls [.int (nI nlm), .int (nI i2)]) rfl ?_
      refine lv_icmp_ge (tgt := 49) hx hb dX2_own_10 (by decide) (fun c6 => ?_) (fun c6 => ?_)
      · have n7 : nlm ≤ i2 := (nI_leI (a := nlm) (b := i2) (by omega) (by omega)).mp c6
        refine lv_null hx hb dX2_own_49 ?_
        have hz8 : MoN K none := (fun d h => by cases h)
        have hO : OKP G h0 a F R Z B J K w := hO.to rfl
        exact W.aret (v := .null) hx hb hr (Or.inl ⟨_, rfl⟩) (Or.inl rfl) (fun t99 ht99 hW99 => ⟨⟨_, (w, none), rfl, ⟨rfl, hz8, hO⟩, by rw [ht99]; exact hP, hD⟩, hS.F ht99⟩) hS.2.2 dX2_own_50
      · have n9 : ¬ (nlm ≤ i2) := fun h9 => c6 ((nI_leI (a := nlm) (b := i2) (by omega) (by omega)).mpr h9)
        refine lv_aload_n hx hb dX2_own_13 rfl (lv_at hl 2 rfl) ?_
        refine p_get (v := .ref lm) (C := RX2) (Tc := TX2) (N := 13) (ci := 2) hx hb hq pin_wsX20 hown hE hP hO (by rw [hd0]; decide) (rep_4 hd0) rfl 8 (by decide) (hq _ pw_148) (fun _ h9 => h9) (congrArg (fun z => some (va_rf z)) hflm) dX2_own_14 ?_
        refine lv_iload_n hx hb dX2_own_17 rfl (lv_at hl 0 rfl) ?_
        have hO : OKP G h0 a F R Z B J K w := hO.to rfl
        obtain ⟨qr13, hqr14⟩ := p_recv hO (by rw [htlm]; decide) (rep_5 htlm)
        refine pc_V0 (G := G) (As := [.int (nI i2)]) (rest := []) hx hb hml hown hq hE hX pX0_al hP hD hS hA hl.1 (L_get l G h0 a F R Z B J K w lm 3 nlm itlm i2 hlclm.ls (by omega) hO) (gV pw_124 pw_90 pw_91 pw_32 pw_25) hV_Jx4a65c_get_915e3 qr13 10 hqr14 rfl rfl rfl (Nat.le_of_ble_eq_true rfl) dX2_own_18 ⟨Nat.le_of_ble_eq_true rfl, Nat.le_of_ble_eq_true rfl⟩ ⟨Nat.le_of_ble_eq_true rfl, Nat.le_of_ble_eq_true rfl⟩ (fun v12 u10 H locs hw11 hP hD hS => ?_)
        obtain ⟨w, _⟩ := u10
        obtain ⟨hw11, hO⟩ := hw11
        obtain rfl : v12 = some (.ref (itlm i2)) := hw11
        have hO : OKP G h0 a F R Z B J K w := hO.to rfl
        refine W.widen (k := 0) (n := 0) (Nat.le_of_ble_eq_true rfl) (Nat.le_of_ble_eq_true rfl) ?_
        refine W.eq (g2 := F0 m 21 ls [.ref (itlm i2)]) rfl ?_
        have hf15 : K.1 (itlm i2) = 3 := hlclm.T (by omega)
        refine p_cast (C := RX6) (Tc := TX6) (N := 12) (ci := 12) hx hb hown (hq _ pw_121) hE hP hO (by rw [hf15]; decide) (rep_3 hf15) rfl dX2_own_21 ?_
        refine p_get (v := .int (K.2.1 6 (itlm i2))) (C := RX6) (Tc := TX6) (N := 12) (ci := 12) hx hb hq pin_wsX60 hown hE hP hO (by rw [hf15]; decide) (rep_3 hf15) rfl 1 (by decide) (hq _ pw_122) (fun _ h9 => h9) rfl dX2_own_24 ?_
        refine lv_iload_n hx hb dX2_own_27 rfl (lv_at hl 1 rfl) ?_
        refine lv_icmp_ne (tgt := 43) hx hb dX2_own_28 (by decide) (fun c16 => ?_) (fun c16 => ?_)
        · refine lv_iinc (v := (nI (i2 + 1))) (lv' := [(2, .int (nI (i2 + 1))), (1, .int x), (0, .ref d0)]) hx hb dX2_own_43 hl (k := 0) rfl (nI_1 i2) (by decide) rfl (fun ls hl => ?_)
          refine lv_goto (tgt := 2) hx hb dX2_own_46 (by decide) ?_
          have hO : OKP G h0 a F R Z B J K w := hO.to rfl
          exact ih_i (i2 + 1) _ _ _ _ (by omega) (by omega) hP hD hS hO (lv_sub hl [0, 1, 2] rfl)
        · refine lv_aload_n hx hb dX2_own_31 rfl (lv_at hl 2 rfl) ?_
          refine p_get (v := .ref lm) (C := RX2) (Tc := TX2) (N := 13) (ci := 2) hx hb hq pin_wsX20 hown hE hP hO (by rw [hd0]; decide) (rep_4 hd0) rfl 8 (by decide) (hq _ pw_148) (fun _ h9 => h9) (congrArg (fun z => some (va_rf z)) hflm) dX2_own_32 ?_
          refine lv_iload_n hx hb dX2_own_35 rfl (lv_at hl 0 rfl) ?_
          have hO : OKP G h0 a F R Z B J K w := hO.to rfl
          obtain ⟨qr20, hqr21⟩ := p_recv hO (by rw [htlm]; decide) (rep_5 htlm)
          refine pc_V0 (G := G) (As := [.int (nI i2)]) (rest := []) hx hb hml hown hq hE hX pX0_al hP hD hS hA hl.1 (L_get l G h0 a F R Z B J K w lm 3 nlm itlm i2 hlclm.ls (by omega) hO) (gV pw_124 pw_90 pw_91 pw_32 pw_25) hV_Jx4a65c_get_915e3 qr20 10 hqr21 rfl rfl rfl (Nat.le_of_ble_eq_true rfl) dX2_own_36 ⟨Nat.le_of_ble_eq_true rfl, Nat.le_of_ble_eq_true rfl⟩ ⟨Nat.le_of_ble_eq_true rfl, Nat.le_of_ble_eq_true rfl⟩ (fun v19 u17 H locs hw18 hP hD hS => ?_)
          obtain ⟨w, _⟩ := u17
          obtain ⟨hw18, hO⟩ := hw18
          obtain rfl : v19 = some (.ref (itlm i2)) := hw18
          have hO : OKP G h0 a F R Z B J K w := hO.to rfl
          refine W.widen (k := 0) (n := 0) (Nat.le_of_ble_eq_true rfl) (Nat.le_of_ble_eq_true rfl) ?_
          refine W.eq (g2 := F0 m 39 ls [.ref (itlm i2)]) rfl ?_
          have hf22 : K.1 (itlm i2) = 3 := hlclm.T (by omega)
          refine p_cast (C := RX6) (Tc := TX6) (N := 12) (ci := 12) hx hb hown (hq _ pw_121) hE hP hO (by rw [hf22]; decide) (rep_3 hf22) rfl dX2_own_39 ?_
          have hz23 : MoN K (some (itlm i2)) := (fun d h => by cases h; exact hf22)
          have hO : OKP G h0 a F R Z B J K w := hO.to rfl
          exact W.aret (v := .ref (itlm i2)) hx hb hr (Or.inl ⟨_, rfl⟩) (Or.inr ⟨_, rfl⟩) (fun t99 ht99 hW99 => ⟨⟨_, (w, (some (itlm i2))), rfl, ⟨rfl, hz23, hO⟩, by rw [ht99]; exact hP, hD⟩, hS.F ht99⟩) hS.2.2 dX2_own_42
  have hO : OKP G h0 a F R Z B J K w := hO.to rfl
  exact loop_i (nlm + 1) 0 _ _ _ _ (by omega) (by omega) hP hD hS hO (lv_sub hl [0, 2, 1] rfl)
theorem dX2_methodOf_0 : decode cX2_methodOf 0 = .ok (.iconst 0, 1) := by decide +kernel
theorem dX2_methodOf_1 : decode cX2_methodOf 1 = .ok (.istore_n 2, 1) := by decide +kernel
theorem dX2_methodOf_2 : decode cX2_methodOf 2 = .ok (.iload_n 2, 1) := by decide +kernel
theorem dX2_methodOf_3 : decode cX2_methodOf 3 = .ok (.aload_n 0, 1) := by decide +kernel
theorem dX2_methodOf_4 : decode cX2_methodOf 4 = .ok (.getfield 41, 3) := by decide +kernel
theorem dX2_methodOf_7 : decode cX2_methodOf 7 = .ok (.invokevirtual 44, 3) := by decide +kernel
theorem dX2_methodOf_10 : decode cX2_methodOf 10 = .ok (.if_icmp .ge 39, 3) := by decide +kernel
theorem dX2_methodOf_49 : decode cX2_methodOf 49 = .ok (.aconst_null, 1) := by decide +kernel
theorem dX2_methodOf_50 : decode cX2_methodOf 50 = .ok (.areturn, 1) := by decide +kernel
theorem dX2_methodOf_13 : decode cX2_methodOf 13 = .ok (.aload_n 0, 1) := by decide +kernel
theorem dX2_methodOf_14 : decode cX2_methodOf 14 = .ok (.getfield 41, 3) := by decide +kernel
theorem dX2_methodOf_17 : decode cX2_methodOf 17 = .ok (.iload_n 2, 1) := by decide +kernel
theorem dX2_methodOf_18 : decode cX2_methodOf 18 = .ok (.invokevirtual 48, 3) := by decide +kernel
theorem dX2_methodOf_21 : decode cX2_methodOf 21 = .ok (.checkcast 55, 3) := by decide +kernel
theorem dX2_methodOf_24 : decode cX2_methodOf 24 = .ok (.getfield 57, 3) := by decide +kernel
theorem dX2_methodOf_27 : decode cX2_methodOf 27 = .ok (.iload_n 1, 1) := by decide +kernel
theorem dX2_methodOf_28 : decode cX2_methodOf 28 = .ok (.if_icmp .ne 15, 3) := by decide +kernel
theorem dX2_methodOf_43 : decode cX2_methodOf 43 = .ok (.iinc 2 1, 3) := by decide +kernel
theorem dX2_methodOf_46 : decode cX2_methodOf 46 = .ok (.goto (-44), 3) := by decide +kernel
theorem dX2_methodOf_31 : decode cX2_methodOf 31 = .ok (.aload_n 0, 1) := by decide +kernel
theorem dX2_methodOf_32 : decode cX2_methodOf 32 = .ok (.getfield 41, 3) := by decide +kernel
theorem dX2_methodOf_35 : decode cX2_methodOf 35 = .ok (.iload_n 2, 1) := by decide +kernel
theorem dX2_methodOf_36 : decode cX2_methodOf 36 = .ok (.invokevirtual 48, 3) := by decide +kernel
theorem dX2_methodOf_39 : decode cX2_methodOf 39 = .ok (.checkcast 55, 3) := by decide +kernel
theorem dX2_methodOf_42 : decode cX2_methodOf 42 = .ok (.areturn, 1) := by decide +kernel
set_option maxHeartbeats 6000000 in
set_option maxRecDepth 100000 in
theorem O_methodOf (l : Launch) (G : pT) (h0 : Nat) (a : Nat → Nat) (F : Nat → Int32) (R : Nat → Value) (Z : Int64) (B : Nat → Nat → Int32) (J : Nat → Nat → Int64) (K : PK) (w : va_W) (d0 : Nat) (x : Int32) (g : Nat → Nat → Nat) (hd0 : K.1 d0 = 4) (hwp : WPr G K g) (hO : OKP G h0 a F R Z B J K w) : PM l G pX0 yX2_methodOf cX2_methodOf 3 (some (.object "JinjaTongue$Method")) ({ frames := 5, cells := 0, slots := 0, locals := 124 }) [.ref d0, .int x] w (fun (v : Option Value) (u : va_W × (Option Nat)) => v = some ((va_rf u.2)) ∧ (MoN K u.2) ∧ (OKP G h0 a F R Z B J K u.1)) (fun u => u.1) := by
  intro sz
  refine Met.ofW (cc := cX2_methodOf) (maxL := 3) (ret := (some (.object "JinjaTongue$Method"))) (by decide) rfl ?_
  intro p e s m args below meth c s₁ B9 hml hv
  obtain ⟨rfl, hsz, hP, hD0, hE, hX⟩ := hv
  have hx := B9.exec
  have hb := B9.bytes
  have hr := B9.returns
  have hts := atoms_spec (ws := Cond.code yX2_methodOf cX2_methodOf 3 (some (.object "JinjaTongue$Method")) :: pw) B9.pre
  have hq : ∀ w ∈ pw, w.before _ s = true := fun w h => hts w (List.mem_cons_of_mem _ h)
  have hown : s.vm.findClass RX2 = some m.cls := findClass_of_methodNamed B9.named
  have hlocks := B9.notSynchronized
  subst hsz
  have hD := hD0.self (sz := s.heap.size)
  have hA : ∀ q : Nat, s.heap.size ≤ q → va_A w s.heap.size q := fun q h => Or.inr h
  generalize va_A w s.heap.size = A at hD hE hA ⊢
  have hS : va_S A s.heap s.heap [] := va_S.rf
  have hl := lv_entry ([.ref d0, .int x]) (n := 3) (Nat.le_of_ble_eq_true rfl)
  rw [lg_entry_eq]
  generalize (lg_sl ([.ref d0, .int x]) ++ List.replicate (3 - (lg_sl ([.ref d0, .int x])).length) Slot.unset).toArray = ls at hl ⊢
  have hl : lv_has ls 3 [(0, .ref d0), (1, .int x)] := hl
  obtain ⟨lm, hflm, htlm, hrlm, holm⟩ := (hwp.2.2.1 d0 hd0).2.2.2.1
  obtain ⟨nlm, itlm, cplm, hlclm, hnblm, hcblm⟩ := hwp.2.1 lm htlm
  rw [hrlm] at hlclm hnblm
  have hnclm := hlclm.2.2.1
  have hnblm : nlm ≤ 5000 := hnblm
  have hlclm : LsC G K lm 3 nlm itlm cplm := hlclm
  refine lv_iconst (v := 0) hx hb dX2_methodOf_0 (by decide) ?_
  refine lv_istore_n (lv' := [(2, .int 0), (0, .ref d0), (1, .int x)]) hx hb dX2_methodOf_1 rfl hl (by decide) rfl (fun ls hl => ?_)
  have loop_i : ∀ (n_i : Nat) (i2 : Nat) (H : Heap) (locs : List Loc) (ls : Array Slot) (w : va_W), i2 ≤ nlm → nlm + 1 ≤ i2 + n_i → va_P G.1 pCl w H → va_D A w → va_S A s.heap H locs → OKP G h0 a F R Z B J K w → lv_has ls 3 [(2, .int (nI i2)), (1, .int x), (0, .ref d0)] → W p l e (headSpec (Cond.code yX2_methodOf cX2_methodOf 3 (some (.object "JinjaTongue$Method")) :: pw) ({ frames := 5, cells := 0, slots := 0, locals := 124 } : Room)).room s m ([.ref d0, .int x] : List Value).toArray below meth c H locs 0 0 (MQ below (pQ G A (fun (v : Option Value) (u : va_W × (Option Nat)) => v = some ((va_rf u.2)) ∧ (MoN K u.2) ∧ (OKP G h0 a F R Z B J K u.1)) (fun u => u.1)) ([.ref d0, .int x] : List Value).toArray s ({ frames := 5, cells := 0, slots := 0, locals := 124 } : Room).cells ({ frames := 5, cells := 0, slots := 0, locals := 124 } : Room).slots A) (F0 m 2 ls []) := by
    intro n_i
    induction n_i with
    | zero => intro i2 H locs ls w hk_i hn_i; omega
    | succ n_i ih_i =>
      intro i2 H locs ls w hk_i hn_i hP hD hS hO hl
      refine lv_iload_n hx hb dX2_methodOf_2 rfl (lv_at hl 0 rfl) ?_
      refine lv_aload_n hx hb dX2_methodOf_3 rfl (lv_at hl 2 rfl) ?_
      refine p_get (v := .ref lm) (C := RX2) (Tc := TX2) (N := 13) (ci := 2) hx hb hq pin_wsX20 hown hE hP hO (by rw [hd0]; decide) (rep_4 hd0) rfl 12 (by decide) (hq _ pw_120) (fun _ h9 => h9) (congrArg (fun z => some (va_rf z)) hflm) dX2_methodOf_4 ?_
      have hO : OKP G h0 a F R Z B J K w := hO.to rfl
      obtain ⟨qr4, hqr5⟩ := p_recv hO (by rw [htlm]; decide) (rep_5 htlm)
      refine pc_V0 (G := G) (As := []) (rest := [.int (nI i2)]) hx hb hml hown hq hE hX pX0_al hP hD hS hA hl.1 (L_size l G h0 a F R Z B J K w lm 3 nlm itlm hlclm.ls hO) (gV pw_123 pw_87 pw_88 pw_32 pw_16) hV_Jx4a65c_size_8abf5 qr4 10 hqr5 rfl rfl rfl (Nat.le_of_ble_eq_true rfl) dX2_methodOf_7 ⟨Nat.le_of_ble_eq_true rfl, Nat.le_of_ble_eq_true rfl⟩ ⟨Nat.le_of_ble_eq_true rfl, Nat.le_of_ble_eq_true rfl⟩ (fun v3 u1 H locs hw2 hP hD hS => ?_)
      obtain ⟨w, _⟩ := u1
      obtain ⟨hw2, hO⟩ := hw2
      obtain rfl : v3 = some (.int (nI nlm)) := hw2
      have hO : OKP G h0 a F R Z B J K w := hO.to rfl
      refine W.widen (k := 0) (n := 0) (Nat.le_of_ble_eq_true rfl) (Nat.le_of_ble_eq_true rfl) ?_
      refine W.eq (g2 := F0 m 10 ls [.int (nI nlm), .int (nI i2)]) rfl ?_
      refine lv_icmp_ge (tgt := 49) hx hb dX2_methodOf_10 (by decide) (fun c6 => ?_) (fun c6 => ?_)
      · have n7 : nlm ≤ i2 := (nI_leI (a := nlm) (b := i2) (by omega) (by omega)).mp c6
        refine lv_null hx hb dX2_methodOf_49 ?_
        have hz8 : MoN K none := (fun d h => by cases h)
        have hO : OKP G h0 a F R Z B J K w := hO.to rfl
        exact W.aret (v := .null) hx hb hr (Or.inl ⟨_, rfl⟩) (Or.inl rfl) (fun t99 ht99 hW99 => ⟨⟨_, (w, none), rfl, ⟨rfl, hz8, hO⟩, by rw [ht99]; exact hP, hD⟩, hS.F ht99⟩) hS.2.2 dX2_methodOf_50
      · have n9 : ¬ (nlm ≤ i2) := fun h9 => c6 ((nI_leI (a := nlm) (b := i2) (by omega) (by omega)).mpr h9)
        refine lv_aload_n hx hb dX2_methodOf_13 rfl (lv_at hl 2 rfl) ?_
        refine p_get (v := .ref lm) (C := RX2) (Tc := TX2) (N := 13) (ci := 2) hx hb hq pin_wsX20 hown hE hP hO (by rw [hd0]; decide) (rep_4 hd0) rfl 12 (by decide) (hq _ pw_120) (fun _ h9 => h9) (congrArg (fun z => some (va_rf z)) hflm) dX2_methodOf_14 ?_
        refine lv_iload_n hx hb dX2_methodOf_17 rfl (lv_at hl 0 rfl) ?_
        have hO : OKP G h0 a F R Z B J K w := hO.to rfl
        obtain ⟨qr13, hqr14⟩ := p_recv hO (by rw [htlm]; decide) (rep_5 htlm)
        refine pc_V0 (G := G) (As := [.int (nI i2)]) (rest := []) hx hb hml hown hq hE hX pX0_al hP hD hS hA hl.1 (L_get l G h0 a F R Z B J K w lm 3 nlm itlm i2 hlclm.ls (by omega) hO) (gV pw_124 pw_90 pw_91 pw_32 pw_25) hV_Jx4a65c_get_915e3 qr13 10 hqr14 rfl rfl rfl (Nat.le_of_ble_eq_true rfl) dX2_methodOf_18 ⟨Nat.le_of_ble_eq_true rfl, Nat.le_of_ble_eq_true rfl⟩ ⟨Nat.le_of_ble_eq_true rfl, Nat.le_of_ble_eq_true rfl⟩ (fun v12 u10 H locs hw11 hP hD hS => ?_)
        obtain ⟨w, _⟩ := u10
        obtain ⟨hw11, hO⟩ := hw11
        obtain rfl : v12 = some (.ref (itlm i2)) := hw11
        have hO : OKP G h0 a F R Z B J K w := hO.to rfl
        refine W.widen (k := 0) (n := 0) (Nat.le_of_ble_eq_true rfl) (Nat.le_of_ble_eq_true rfl) ?_
        refine W.eq (g2 := F0 m 21 ls [.ref (itlm i2)]) rfl ?_
        have hf15 : K.1 (itlm i2) = 3 := hlclm.T (by omega)
        refine p_cast (C := RX6) (Tc := TX6) (N := 12) (ci := 12) hx hb hown (hq _ pw_121) hE hP hO (by rw [hf15]; decide) (rep_3 hf15) rfl dX2_methodOf_21 ?_
        refine p_get (v := .int (K.2.1 6 (itlm i2))) (C := RX6) (Tc := TX6) (N := 12) (ci := 12) hx hb hq pin_wsX60 hown hE hP hO (by rw [hf15]; decide) (rep_3 hf15) rfl 1 (by decide) (hq _ pw_122) (fun _ h9 => h9) rfl dX2_methodOf_24 ?_
        refine lv_iload_n hx hb dX2_methodOf_27 rfl (lv_at hl 1 rfl) ?_
        refine lv_icmp_ne (tgt := 43) hx hb dX2_methodOf_28 (by decide) (fun c16 => ?_) (fun c16 => ?_)
        · refine lv_iinc (v := (nI (i2 + 1))) (lv' := [(2, .int (nI (i2 + 1))), (1, .int x), (0, .ref d0)]) hx hb dX2_methodOf_43 hl (k := 0) rfl (nI_1 i2) (by decide) rfl (fun ls hl => ?_)
          refine lv_goto (tgt := 2) hx hb dX2_methodOf_46 (by decide) ?_
          have hO : OKP G h0 a F R Z B J K w := hO.to rfl
          exact ih_i (i2 + 1) _ _ _ _ (by omega) (by omega) hP hD hS hO (lv_sub hl [0, 1, 2] rfl)
        · refine lv_aload_n hx hb dX2_methodOf_31 rfl (lv_at hl 2 rfl) ?_
          refine p_get (v := .ref lm) (C := RX2) (Tc := TX2) (N := 13) (ci := 2) hx hb hq pin_wsX20 hown hE hP hO (by rw [hd0]; decide) (rep_4 hd0) rfl 12 (by decide) (hq _ pw_120) (fun _ h9 => h9) (congrArg (fun z => some (va_rf z)) hflm) dX2_methodOf_32 ?_
          refine lv_iload_n hx hb dX2_methodOf_35 rfl (lv_at hl 0 rfl) ?_
          have hO : OKP G h0 a F R Z B J K w := hO.to rfl
          obtain ⟨qr20, hqr21⟩ := p_recv hO (by rw [htlm]; decide) (rep_5 htlm)
          refine pc_V0 (G := G) (As := [.int (nI i2)]) (rest := []) hx hb hml hown hq hE hX pX0_al hP hD hS hA hl.1 (L_get l G h0 a F R Z B J K w lm 3 nlm itlm i2 hlclm.ls (by omega) hO) (gV pw_124 pw_90 pw_91 pw_32 pw_25) hV_Jx4a65c_get_915e3 qr20 10 hqr21 rfl rfl rfl (Nat.le_of_ble_eq_true rfl) dX2_methodOf_36 ⟨Nat.le_of_ble_eq_true rfl, Nat.le_of_ble_eq_true rfl⟩ ⟨Nat.le_of_ble_eq_true rfl, Nat.le_of_ble_eq_true rfl⟩ (fun v19 u17 H locs hw18 hP hD hS => ?_)
          obtain ⟨w, _⟩ := u17
          obtain ⟨hw18, hO⟩ := hw18
          obtain rfl : v19 = some (.ref (itlm i2)) := hw18
          have hO : OKP G h0 a F R Z B J K w := hO.to rfl
          refine W.widen (k := 0) (n := 0) (Nat.le_of_ble_eq_true rfl) (Nat.le_of_ble_eq_true rfl) ?_
          refine W.eq (g2 := F0 m 39 ls [.ref (itlm i2)]) rfl ?_
          have hf22 : K.1 (itlm i2) = 3 := hlclm.T (by omega)
          refine p_cast (C := RX6) (Tc := TX6) (N := 12) (ci := 12) hx hb hown (hq _ pw_121) hE hP hO (by rw [hf22]; decide) (rep_3 hf22) rfl dX2_methodOf_39 ?_
          have hz23 : MoN K (some (itlm i2)) := (fun d h => by cases h; exact hf22)
          have hO : OKP G h0 a F R Z B J K w := hO.to rfl
          exact W.aret (v := .ref (itlm i2)) hx hb hr (Or.inl ⟨_, rfl⟩) (Or.inr ⟨_, rfl⟩) (fun t99 ht99 hW99 => ⟨⟨_, (w, (some (itlm i2))), rfl, ⟨rfl, hz23, hO⟩, by rw [ht99]; exact hP, hD⟩, hS.F ht99⟩) hS.2.2 dX2_methodOf_42
  have hO : OKP G h0 a F R Z B J K w := hO.to rfl
  exact loop_i (nlm + 1) 0 _ _ _ _ (by omega) (by omega) hP hD hS hO (lv_sub hl [0, 2, 1] rfl)
theorem dX2_fieldOf_0 : decode cX2_fieldOf 0 = .ok (.iconst 0, 1) := by decide +kernel
theorem dX2_fieldOf_1 : decode cX2_fieldOf 1 = .ok (.istore_n 2, 1) := by decide +kernel
theorem dX2_fieldOf_2 : decode cX2_fieldOf 2 = .ok (.iload_n 2, 1) := by decide +kernel
theorem dX2_fieldOf_3 : decode cX2_fieldOf 3 = .ok (.aload_n 0, 1) := by decide +kernel
theorem dX2_fieldOf_4 : decode cX2_fieldOf 4 = .ok (.getfield 38, 3) := by decide +kernel
theorem dX2_fieldOf_7 : decode cX2_fieldOf 7 = .ok (.invokevirtual 44, 3) := by decide +kernel
theorem dX2_fieldOf_10 : decode cX2_fieldOf 10 = .ok (.if_icmp .ge 39, 3) := by decide +kernel
theorem dX2_fieldOf_49 : decode cX2_fieldOf 49 = .ok (.aconst_null, 1) := by decide +kernel
theorem dX2_fieldOf_50 : decode cX2_fieldOf 50 = .ok (.areturn, 1) := by decide +kernel
theorem dX2_fieldOf_13 : decode cX2_fieldOf 13 = .ok (.aload_n 0, 1) := by decide +kernel
theorem dX2_fieldOf_14 : decode cX2_fieldOf 14 = .ok (.getfield 38, 3) := by decide +kernel
theorem dX2_fieldOf_17 : decode cX2_fieldOf 17 = .ok (.iload_n 2, 1) := by decide +kernel
theorem dX2_fieldOf_18 : decode cX2_fieldOf 18 = .ok (.invokevirtual 48, 3) := by decide +kernel
theorem dX2_fieldOf_21 : decode cX2_fieldOf 21 = .ok (.checkcast 52, 3) := by decide +kernel
theorem dX2_fieldOf_24 : decode cX2_fieldOf 24 = .ok (.getfield 54, 3) := by decide +kernel
theorem dX2_fieldOf_27 : decode cX2_fieldOf 27 = .ok (.iload_n 1, 1) := by decide +kernel
theorem dX2_fieldOf_28 : decode cX2_fieldOf 28 = .ok (.if_icmp .ne 15, 3) := by decide +kernel
theorem dX2_fieldOf_43 : decode cX2_fieldOf 43 = .ok (.iinc 2 1, 3) := by decide +kernel
theorem dX2_fieldOf_46 : decode cX2_fieldOf 46 = .ok (.goto (-44), 3) := by decide +kernel
theorem dX2_fieldOf_31 : decode cX2_fieldOf 31 = .ok (.aload_n 0, 1) := by decide +kernel
theorem dX2_fieldOf_32 : decode cX2_fieldOf 32 = .ok (.getfield 38, 3) := by decide +kernel
theorem dX2_fieldOf_35 : decode cX2_fieldOf 35 = .ok (.iload_n 2, 1) := by decide +kernel
theorem dX2_fieldOf_36 : decode cX2_fieldOf 36 = .ok (.invokevirtual 48, 3) := by decide +kernel
theorem dX2_fieldOf_39 : decode cX2_fieldOf 39 = .ok (.checkcast 52, 3) := by decide +kernel
theorem dX2_fieldOf_42 : decode cX2_fieldOf 42 = .ok (.areturn, 1) := by decide +kernel
theorem dX2_nearest_0 : decode cX2_nearest 0 = .ok (.aload_n 0, 1) := by decide +kernel
theorem dX2_nearest_1 : decode cX2_nearest 1 = .ok (.astore_n 2, 1) := by decide +kernel
theorem dX2_nearest_2 : decode cX2_nearest 2 = .ok (.aload_n 2, 1) := by decide +kernel
theorem dX2_nearest_3 : decode cX2_nearest 3 = .ok (.ifnull 23, 3) := by decide +kernel
theorem dX2_nearest_26 : decode cX2_nearest 26 = .ok (.aconst_null, 1) := by decide +kernel
theorem dX2_nearest_27 : decode cX2_nearest 27 = .ok (.areturn, 1) := by decide +kernel
theorem dX2_nearest_6 : decode cX2_nearest 6 = .ok (.aload_n 2, 1) := by decide +kernel
theorem dX2_nearest_7 : decode cX2_nearest 7 = .ok (.iload_n 1, 1) := by decide +kernel
theorem dX2_nearest_8 : decode cX2_nearest 8 = .ok (.invokevirtual 58, 3) := by decide +kernel
theorem dX2_nearest_11 : decode cX2_nearest 11 = .ok (.astore_n 3, 1) := by decide +kernel
theorem dX2_nearest_12 : decode cX2_nearest 12 = .ok (.aload_n 3, 1) := by decide +kernel
theorem dX2_nearest_13 : decode cX2_nearest 13 = .ok (.ifnull 5, 3) := by decide +kernel
theorem dX2_nearest_18 : decode cX2_nearest 18 = .ok (.aload_n 2, 1) := by decide +kernel
theorem dX2_nearest_19 : decode cX2_nearest 19 = .ok (.getfield 62, 3) := by decide +kernel
theorem dX2_nearest_22 : decode cX2_nearest 22 = .ok (.astore_n 2, 1) := by decide +kernel
theorem dX2_nearest_23 : decode cX2_nearest 23 = .ok (.goto (-21), 3) := by decide +kernel
theorem dX2_nearest_16 : decode cX2_nearest 16 = .ok (.aload_n 3, 1) := by decide +kernel
theorem dX2_nearest_17 : decode cX2_nearest 17 = .ok (.areturn, 1) := by decide +kernel
theorem hV_X2_own : yX2_own.cls = RX2 ∧ yX2_own.cls ≠ "java/lang/invoke/MethodHandle" ∧ yX2_own.cls ≠ "java/lang/invoke/VarHandle" ∧ (parseMethodDescriptor yX2_own.desc).map (fun d => d.parameters.length) = some 1 := by decide +kernel
set_option maxHeartbeats 6000000 in
set_option maxRecDepth 100000 in
theorem O_nearest (l : Launch) (G : pT) (h0 : Nat) (a : Nat → Nat) (F : Nat → Int32) (R : Nat → Value) (Z : Int64) (B : Nat → Nat → Int32) (J : Nat → Nat → Int64) (K : PK) (w : va_W) (d0 : Nat) (x : Int32) (g : Nat → Nat → Nat) (rk : Nat → Nat) (hd0 : K.1 d0 = 4) (hwp : WPr G K g) (hrk : RkO K rk) (hO : OKP G h0 a F R Z B J K w) : PM l G pX0 yX2_nearest cX2_nearest 4 (some (.object "JinjaTongue$Method")) ({ frames := 6, cells := 0, slots := 0, locals := 146 }) [.ref d0, .int x] w (fun (v : Option Value) (u : va_W × (Option Nat)) => v = some ((va_rf u.2)) ∧ (MoN K u.2) ∧ (OKP G h0 a F R Z B J K u.1)) (fun u => u.1) := by
  intro sz
  refine Met.ofW (cc := cX2_nearest) (maxL := 4) (ret := (some (.object "JinjaTongue$Method"))) (by decide) rfl ?_
  intro p e s m args below meth c s₁ B9 hml hv
  obtain ⟨rfl, hsz, hP, hD0, hE, hX⟩ := hv
  have hx := B9.exec
  have hb := B9.bytes
  have hr := B9.returns
  have hts := atoms_spec (ws := Cond.code yX2_nearest cX2_nearest 4 (some (.object "JinjaTongue$Method")) :: pw) B9.pre
  have hq : ∀ w ∈ pw, w.before _ s = true := fun w h => hts w (List.mem_cons_of_mem _ h)
  have hown : s.vm.findClass RX2 = some m.cls := findClass_of_methodNamed B9.named
  have hlocks := B9.notSynchronized
  subst hsz
  have hD := hD0.self (sz := s.heap.size)
  have hA : ∀ q : Nat, s.heap.size ≤ q → va_A w s.heap.size q := fun q h => Or.inr h
  generalize va_A w s.heap.size = A at hD hE hA ⊢
  have hS : va_S A s.heap s.heap [] := va_S.rf
  have hl := lv_entry ([.ref d0, .int x]) (n := 4) (Nat.le_of_ble_eq_true rfl)
  rw [lg_entry_eq]
  generalize (lg_sl ([.ref d0, .int x]) ++ List.replicate (4 - (lg_sl ([.ref d0, .int x])).length) Slot.unset).toArray = ls at hl ⊢
  have hl : lv_has ls 4 [(0, .ref d0), (1, .int x)] := hl
  refine lv_aload_n hx hb dX2_nearest_0 rfl (lv_at hl 0 rfl) ?_
  refine lv_astore_n (lv' := [(2, .ref d0), (0, .ref d0), (1, .int x)]) hx hb dX2_nearest_1 rfl hl (by decide) rfl (fun ls hl => ?_)
  have loop_i : ∀ (n_i : Nat) (i2 : Nat) (o2 : Option Nat) (H : Heap) (locs : List Loc) (ls : Array Slot) (w : va_W), i2 ≤ 101 → 101 + 1 ≤ i2 + n_i → (RkB K rk i2 o2) → va_P G.1 pCl w H → va_D A w → va_S A s.heap H locs → OKP G h0 a F R Z B J K w → lv_has ls 4 [(2, va_rf o2), (1, .int x), (0, .ref d0)] → W p l e (headSpec (Cond.code yX2_nearest cX2_nearest 4 (some (.object "JinjaTongue$Method")) :: pw) ({ frames := 6, cells := 0, slots := 0, locals := 146 } : Room)).room s m ([.ref d0, .int x] : List Value).toArray below meth c H locs 0 0 (MQ below (pQ G A (fun (v : Option Value) (u : va_W × (Option Nat)) => v = some ((va_rf u.2)) ∧ (MoN K u.2) ∧ (OKP G h0 a F R Z B J K u.1)) (fun u => u.1)) ([.ref d0, .int x] : List Value).toArray s ({ frames := 6, cells := 0, slots := 0, locals := 146 } : Room).cells ({ frames := 6, cells := 0, slots := 0, locals := 146 } : Room).slots A) (F0 m 2 ls []) := by
    intro n_i
    induction n_i with
    | zero => intro i2 o2 H locs ls w hk_i hn_i; omega
    | succ n_i ih_i =>
      intro i2 o2 H locs ls w hk_i hn_i hrb hP hD hS hO hl
      rcases o2 with _ | d2
      · have hl : lv_has ls 4 [(2, .null), (1, .int x), (0, .ref d0)] := hl
        refine W.eq (g2 := F0 m 2 ls []) rfl ?_
        refine lv_aload_nN hx hb dX2_nearest_2 rfl (lv_at hl 0 rfl) ?_
        refine lv_ifnullN (tgt := 26) hx hb dX2_nearest_3 (by decide) ?_
        refine lv_null hx hb dX2_nearest_26 ?_
        have hz1 : MoN K none := (fun d h => by cases h)
        have hO : OKP G h0 a F R Z B J K w := hO.to rfl
        exact W.aret (v := .null) hx hb hr (Or.inl ⟨_, rfl⟩) (Or.inl rfl) (fun t99 ht99 hW99 => ⟨⟨_, (w, none), rfl, ⟨rfl, hz1, hO⟩, by rw [ht99]; exact hP, hD⟩, hS.F ht99⟩) hS.2.2 dX2_nearest_27
      · have hl : lv_has ls 4 [(2, .ref d2), (1, .int x), (0, .ref d0)] := hl
        refine W.eq (g2 := F0 m 2 ls []) rfl ?_
        obtain ⟨hcT, hcR⟩ := hrb d2 rfl
        refine lv_aload_n hx hb dX2_nearest_2 rfl (lv_at hl 0 rfl) ?_
        refine lv_ifnull hx hb dX2_nearest_3 ?_
        refine lv_aload_n hx hb dX2_nearest_6 rfl (lv_at hl 0 rfl) ?_
        refine lv_iload_n hx hb dX2_nearest_7 rfl (lv_at hl 1 rfl) ?_
        have hO : OKP G h0 a F R Z B J K w := hO.to rfl
        obtain ⟨qr5, hqr6⟩ := p_recv hO (by rw [hcT]; decide) (rep_4 hcT)
        refine pc_V0 (G := G) (As := [.int x]) (rest := []) hx hb hml hown hq hE hX pX0_al hP hD hS hA hl.1 (O_own l G h0 a F R Z B J K w d2 x g hcT hwp hO) (gV pw_151 pw_152 pw_153 pw_146 pw_149) hV_X2_own qr5 2 hqr6 rfl rfl rfl (Nat.le_of_ble_eq_true rfl) dX2_nearest_8 ⟨Nat.le_of_ble_eq_true rfl, Nat.le_of_ble_eq_true rfl⟩ ⟨Nat.le_of_ble_eq_true rfl, Nat.le_of_ble_eq_true rfl⟩ (fun v4 u2 H locs hw3 hP hD hS => ?_)
        obtain ⟨w, o7⟩ := u2
        obtain ⟨hw3, h8, hO⟩ := hw3
        have h8 : MoN K o7 := h8
        obtain rfl : v4 = some ((va_rf o7)) := hw3
        have hO : OKP G h0 a F R Z B J K w := hO.to rfl
        refine W.widen (k := 0) (n := 0) (Nat.le_of_ble_eq_true rfl) (Nat.le_of_ble_eq_true rfl) ?_
        refine W.eq (g2 := F0 m 11 ls [(va_rf o7)]) rfl ?_
        rcases o7 with _ | d9
        · have hl : lv_has ls 4 [(2, .ref d2), (1, .int x), (0, .ref d0)] := hl
          refine W.eq (g2 := F0 m 11 ls [.null]) rfl ?_
          refine lv_astore_nN (lv' := [(3, .null), (2, .ref d2), (1, .int x), (0, .ref d0)]) hx hb dX2_nearest_11 rfl hl (by decide) rfl (fun ls hl => ?_)
          refine lv_aload_nN hx hb dX2_nearest_12 rfl (lv_at hl 0 rfl) ?_
          refine lv_ifnullN (tgt := 18) hx hb dX2_nearest_13 (by decide) ?_
          refine lv_aload_n hx hb dX2_nearest_18 rfl (lv_at hl 1 rfl) ?_
          rcases ho11 : K.2.2.1 10 d2 with _ | o10
          · skip
            refine p_get (v := .null) (C := RX2) (Tc := TX2) (N := 13) (ci := 2) hx hb hq pin_wsX20 hown hE hP hO (by rw [hcT]; decide) (rep_4 hcT) rfl 9 (by decide) (hq _ pw_150) (fun _ h9 => h9) (congrArg (fun z => some (va_rf z)) ho11) dX2_nearest_19 ?_
            refine lv_astore_nN (lv' := [(2, .null), (3, .null), (1, .int x), (0, .ref d0)]) hx hb dX2_nearest_22 rfl hl (by decide) rfl (fun ls hl => ?_)
            refine lv_goto (tgt := 2) hx hb dX2_nearest_23 (by decide) ?_
            have hO : OKP G h0 a F R Z B J K w := hO.to rfl
            exact ih_i (i2 + 1) none _ _ _ _ (by omega) (by omega) (RkB.up hrk hcT hcR ho11) hP hD hS hO (lv_sub hl [0, 2, 3] rfl)
          · skip
            refine p_get (v := .ref o10) (C := RX2) (Tc := TX2) (N := 13) (ci := 2) hx hb hq pin_wsX20 hown hE hP hO (by rw [hcT]; decide) (rep_4 hcT) rfl 9 (by decide) (hq _ pw_150) (fun _ h9 => h9) (congrArg (fun z => some (va_rf z)) ho11) dX2_nearest_19 ?_
            refine lv_astore_n (lv' := [(2, .ref o10), (3, .null), (1, .int x), (0, .ref d0)]) hx hb dX2_nearest_22 rfl hl (by decide) rfl (fun ls hl => ?_)
            refine lv_goto (tgt := 2) hx hb dX2_nearest_23 (by decide) ?_
            have hO : OKP G h0 a F R Z B J K w := hO.to rfl
            exact ih_i (i2 + 1) (some o10) _ _ _ _ (by omega) (by omega) (RkB.up hrk hcT hcR ho11) hP hD hS hO (lv_sub hl [0, 2, 3] rfl)
        · have hl : lv_has ls 4 [(2, .ref d2), (1, .int x), (0, .ref d0)] := hl
          refine W.eq (g2 := F0 m 11 ls [.ref d9]) rfl ?_
          have hf12 : K.1 d9 = 3 := h8 d9 rfl
          refine lv_astore_n (lv' := [(3, .ref d9), (2, .ref d2), (1, .int x), (0, .ref d0)]) hx hb dX2_nearest_11 rfl hl (by decide) rfl (fun ls hl => ?_)
          refine lv_aload_n hx hb dX2_nearest_12 rfl (lv_at hl 0 rfl) ?_
          refine lv_ifnull hx hb dX2_nearest_13 ?_
          refine lv_aload_n hx hb dX2_nearest_16 rfl (lv_at hl 0 rfl) ?_
          have hz13 : MoN K (some d9) := (fun d h => by cases h; exact hf12)
          have hO : OKP G h0 a F R Z B J K w := hO.to rfl
          exact W.aret (v := .ref d9) hx hb hr (Or.inl ⟨_, rfl⟩) (Or.inr ⟨_, rfl⟩) (fun t99 ht99 hW99 => ⟨⟨_, (w, (some d9)), rfl, ⟨rfl, hz13, hO⟩, by rw [ht99]; exact hP, hD⟩, hS.F ht99⟩) hS.2.2 dX2_nearest_17
  have hO : OKP G h0 a F R Z B J K w := hO.to rfl
  exact loop_i (101 + 1) 0 (some d0) _ _ _ _ (by omega) (by omega) (fun d h => by cases h; exact ⟨hd0, Or.inl rfl⟩) hP hD hS hO (lv_sub hl [0, 2, 1] rfl)
