def AbQ (K : PK) (dr nd : Nat) (x1 x2 : Int32) (r : Nat) : Prop := ∀ k lo d : Nat, k < nd → lo < nd → x1 = nI k → x2 = nI lo → K.2.2.2.2.1 dr lo = some d → (r = 1 ↔ bitL (K.2.2.2.1 d) k)
section AQ
variable {K : PK} {dr nd k9 k8 d9 r : Nat} {x1 x2 : Int32}
theorem AbQ.no1 (h : ∀ k : Nat, k < nd → ¬ x1 = nI k) : AbQ K dr nd x1 x2 r := fun k _ _ hk _ e _ _ => absurd e (h k hk)
theorem AbQ.no2 (h : ∀ k : Nat, k < nd → ¬ x2 = nI k) : AbQ K dr nd x1 x2 r := fun _ lo _ _ hl _ e _ => absurd e (h lo hl)
theorem AbQ.mk (e1 : x1 = nI k9) (e2 : x2 = nI k8) (h9 : k9 < 2 ^ 31) (h8 : k8 < 2 ^ 31) (hd : K.2.2.2.2.1 dr k8 = some d9) (hb : r = 1 ↔ bitL (K.2.2.2.1 d9) k9) (hnd : nd ≤ 37) : AbQ K dr nd x1 x2 r := fun k lo d hk hl f1 f2 f3 => by
  have z1 : k9 = k := (nI_eq (a := k9) (b := k) h9 (by omega)).mp (e1.symm.trans f1)
  have z2 : k8 = lo := (nI_eq (a := k8) (b := lo) h8 (by omega)).mp (e2.symm.trans f2)
  subst z1; subst z2
  rw [hd] at f3
  cases f3
  exact hb
end AQ
theorem dX9_isAbove_0 : decode cX9_isAbove 0 = .ok (.iload_n 1, 1) := by decide +kernel
theorem dX9_isAbove_1 : decode cX9_isAbove 1 = .ok (.ifCond .lt 45, 3) := by decide +kernel
theorem dX9_isAbove_46 : decode cX9_isAbove 46 = .ok (.iconst 0, 1) := by decide +kernel
theorem dX9_isAbove_47 : decode cX9_isAbove 47 = .ok (.ireturn, 1) := by decide +kernel
theorem dX9_isAbove_4 : decode cX9_isAbove 4 = .ok (.iload_n 1, 1) := by decide +kernel
theorem dX9_isAbove_5 : decode cX9_isAbove 5 = .ok (.aload_n 0, 1) := by decide +kernel
theorem dX9_isAbove_6 : decode cX9_isAbove 6 = .ok (.getfield 33, 3) := by decide +kernel
theorem dX9_isAbove_9 : decode cX9_isAbove 9 = .ok (.if_icmp .ge 37, 3) := by decide +kernel
theorem dX9_isAbove_12 : decode cX9_isAbove 12 = .ok (.iload_n 2, 1) := by decide +kernel
theorem dX9_isAbove_13 : decode cX9_isAbove 13 = .ok (.ifCond .lt 33, 3) := by decide +kernel
theorem dX9_isAbove_16 : decode cX9_isAbove 16 = .ok (.iload_n 2, 1) := by decide +kernel
theorem dX9_isAbove_17 : decode cX9_isAbove 17 = .ok (.aload_n 0, 1) := by decide +kernel
theorem dX9_isAbove_18 : decode cX9_isAbove 18 = .ok (.getfield 33, 3) := by decide +kernel
theorem dX9_isAbove_21 : decode cX9_isAbove 21 = .ok (.if_icmp .ge 25, 3) := by decide +kernel
theorem dX9_isAbove_24 : decode cX9_isAbove 24 = .ok (.aload_n 0, 1) := by decide +kernel
theorem dX9_isAbove_25 : decode cX9_isAbove 25 = .ok (.getfield 17, 3) := by decide +kernel
theorem dX9_isAbove_28 : decode cX9_isAbove 28 = .ok (.iload_n 2, 1) := by decide +kernel
theorem dX9_isAbove_29 : decode cX9_isAbove 29 = .ok (.aaload, 1) := by decide +kernel
theorem dX9_isAbove_30 : decode cX9_isAbove 30 = .ok (.getfield 57, 3) := by decide +kernel
theorem dX9_isAbove_33 : decode cX9_isAbove 33 = .ok (.iload_n 1, 1) := by decide +kernel
theorem dX9_isAbove_34 : decode cX9_isAbove 34 = .ok (.lushr, 1) := by decide +kernel
theorem dX9_isAbove_35 : decode cX9_isAbove 35 = .ok (.lconst 1, 1) := by decide +kernel
theorem dX9_isAbove_36 : decode cX9_isAbove 36 = .ok (.land, 1) := by decide +kernel
theorem dX9_isAbove_37 : decode cX9_isAbove 37 = .ok (.lconst 1, 1) := by decide +kernel
theorem dX9_isAbove_38 : decode cX9_isAbove 38 = .ok (.lcmp, 1) := by decide +kernel
theorem dX9_isAbove_39 : decode cX9_isAbove 39 = .ok (.ifCond .ne 7, 3) := by decide +kernel
theorem dX9_isAbove_42 : decode cX9_isAbove 42 = .ok (.iconst 1, 1) := by decide +kernel
theorem dX9_isAbove_43 : decode cX9_isAbove 43 = .ok (.goto 4, 3) := by decide +kernel
set_option maxHeartbeats 6000000 in
set_option maxRecDepth 100000 in
theorem G_isAbove (l : Launch) (G : pT) (h0 : Nat) (a : Nat → Nat) (F : Nat → Int32) (R : Nat → Value) (Z : Int64) (B : Nat → Nat → Int32) (J : Nat → Nat → Int64) (K : PK) (w : va_W) (pq : Nat) (dr : Nat) (ml : Nat) (nd : Nat) (x1 : Int32) (x2 : Int32) (g : Nat → Nat → Nat) (hpb : PgB K g (a 1) pq dr ml nd) (hdc : DcR K g dr nd) (hO : OKP G h0 a F R Z B J K w) : PM l G pX0 yX9_isAbove cX9_isAbove 3 (some .boolean) ({ frames := 2, cells := 0, slots := 0, locals := 60 }) [.ref pq, .int x1, .int x2] w (fun (v : Option Value) (u : va_W × (Nat)) => v = some (.int (nI u.2)) ∧ (u.2 ≤ 1) ∧ (AbQ K dr nd x1 x2 u.2) ∧ (OKP G h0 a F R Z B J K u.1)) (fun u => u.1) := by
  intro sz
  refine Met.ofW (cc := cX9_isAbove) (maxL := 3) (ret := (some .boolean)) (by decide) rfl ?_
  intro p e s m args below meth c s₁ B9 hml hv
  obtain ⟨rfl, hsz, hP, hD0, hE, hX⟩ := hv
  have hx := B9.exec
  have hb := B9.bytes
  have hr := B9.returns
  have hts := atoms_spec (ws := Cond.code yX9_isAbove cX9_isAbove 3 (some .boolean) :: pw) B9.pre
  have hq : ∀ w ∈ pw, w.before _ s = true := fun w h => hts w (List.mem_cons_of_mem _ h)
  have hown : s.vm.findClass RX9 = some m.cls := findClass_of_methodNamed B9.named
  have hlocks := B9.notSynchronized
  subst hsz
  have hD := hD0.self (sz := s.heap.size)
  have hA : ∀ q : Nat, s.heap.size ≤ q → va_A w s.heap.size q := fun q h => Or.inr h
  generalize va_A w s.heap.size = A at hD hE hA ⊢
  have hS : va_S A s.heap s.heap [] := va_S.rf
  have hl := lv_entry ([.ref pq, .int x1, .int x2]) (n := 3) (Nat.le_of_ble_eq_true rfl)
  rw [lg_entry_eq]
  generalize (lg_sl ([.ref pq, .int x1, .int x2]) ++ List.replicate (3 - (lg_sl ([.ref pq, .int x1, .int x2])).length) Slot.unset).toArray = ls at hl ⊢
  have hl : lv_has ls 3 [(0, .ref pq), (1, .int x1), (2, .int x2)] := hl
  have hp1 := hpb.1
  have hp2 := hpb.2.1
  have hp3 := hpb.2.2.1
  have hp4 := hpb.2.2.2.1
  have hp5 := hpb.2.2.2.2.1
  have hp6 := hpb.2.2.2.2.2.1
  have hp8 := hpb.2.2.2.2.2.2.2.1
  have hp9 := hpb.2.2.2.2.2.2.2.2
  refine lv_iload_n hx hb dX9_isAbove_0 rfl (lv_at hl 1 rfl) ?_
  refine lv_if_lt (tgt := 46) hx hb dX9_isAbove_1 (by decide) (fun c1 => ?_) (fun c1 => ?_)
  · refine lv_iconst (v := 0) hx hb dX9_isAbove_46 (by decide) ?_
    have hz2 : 0 ≤ 1 := (by omega)
    have hz3 : AbQ K dr nd x1 x2 0 := (AbQ.no1 (fun k hk e => by rw [e] at c1; exact nI_pos (by omega) c1))
    have hO : OKP G h0 a F R Z B J K w := hO.to rfl
    exact W.zret (v := 0) hx hb hr rfl (fun t99 ht99 hW99 => ⟨⟨_, (w, 0), rfl, ⟨rfl, hz2, hz3, hO⟩, by rw [ht99]; exact hP, hD⟩, hS.F ht99⟩) hS.2.2 dX9_isAbove_47
  · obtain ⟨k9, ht_k9, hb_k9⟩ := nI_nn2 c1
    rw [ht_k9] at hl
    refine lv_iload_n hx hb dX9_isAbove_4 rfl (lv_at hl 1 rfl) ?_
    refine lv_aload_n hx hb dX9_isAbove_5 rfl (lv_at hl 0 rfl) ?_
    refine p_get (v := .int (nI nd)) (C := RX9) (Tc := TX9) (N := 5) (ci := 6) hx hb hq pin_wsX90 hown hE hP hO (by rw [hp1]; decide) (rep_7 hp1) rfl 2 (by decide) (hq _ pw_14) (fun _ h9 => h9) (congrArg (fun z => some (Value.int z)) hp8) dX9_isAbove_6 ?_
    refine lv_icmp_ge (tgt := 46) hx hb dX9_isAbove_9 (by decide) (fun c4 => ?_) (fun c4 => ?_)
    · have n5 : nd ≤ k9 := (nI_leI (a := nd) (b := k9) (by omega) (by omega)).mp c4
      refine lv_iconst (v := 0) hx hb dX9_isAbove_46 (by decide) ?_
      have hz6 : 0 ≤ 1 := (by omega)
      have hz7 : AbQ K dr nd x1 x2 0 := (AbQ.no1 (fun k hk e => by have z := (nI_eq (a := k9) (b := k) (by omega) (by omega)).mp (ht_k9.symm.trans e); omega))
      have hO : OKP G h0 a F R Z B J K w := hO.to rfl
      exact W.zret (v := 0) hx hb hr rfl (fun t99 ht99 hW99 => ⟨⟨_, (w, 0), rfl, ⟨rfl, hz6, hz7, hO⟩, by rw [ht99]; exact hP, hD⟩, hS.F ht99⟩) hS.2.2 dX9_isAbove_47
    · have n8 : ¬ (nd ≤ k9) := fun h9 => c4 ((nI_leI (a := nd) (b := k9) (by omega) (by omega)).mpr h9)
      refine lv_iload_n hx hb dX9_isAbove_12 rfl (lv_at hl 2 rfl) ?_
      refine lv_if_lt (tgt := 46) hx hb dX9_isAbove_13 (by decide) (fun c9 => ?_) (fun c9 => ?_)
      · refine lv_iconst (v := 0) hx hb dX9_isAbove_46 (by decide) ?_
        have hz10 : 0 ≤ 1 := (by omega)
        have hz11 : AbQ K dr nd x1 x2 0 := (AbQ.no2 (fun k hk e => by rw [e] at c9; exact nI_pos (by omega) c9))
        have hO : OKP G h0 a F R Z B J K w := hO.to rfl
        exact W.zret (v := 0) hx hb hr rfl (fun t99 ht99 hW99 => ⟨⟨_, (w, 0), rfl, ⟨rfl, hz10, hz11, hO⟩, by rw [ht99]; exact hP, hD⟩, hS.F ht99⟩) hS.2.2 dX9_isAbove_47
      · obtain ⟨k8, ht_k8, hb_k8⟩ := nI_nn2 c9
        rw [ht_k8] at hl
        refine lv_iload_n hx hb dX9_isAbove_16 rfl (lv_at hl 2 rfl) ?_
        refine lv_aload_n hx hb dX9_isAbove_17 rfl (lv_at hl 0 rfl) ?_
        refine p_get (v := .int (nI nd)) (C := RX9) (Tc := TX9) (N := 5) (ci := 6) hx hb hq pin_wsX90 hown hE hP hO (by rw [hp1]; decide) (rep_7 hp1) rfl 2 (by decide) (hq _ pw_14) (fun _ h9 => h9) (congrArg (fun z => some (Value.int z)) hp8) dX9_isAbove_18 ?_
        refine lv_icmp_ge (tgt := 46) hx hb dX9_isAbove_21 (by decide) (fun c12 => ?_) (fun c12 => ?_)
        · have n13 : nd ≤ k8 := (nI_leI (a := nd) (b := k8) (by omega) (by omega)).mp c12
          refine lv_iconst (v := 0) hx hb dX9_isAbove_46 (by decide) ?_
          have hz14 : 0 ≤ 1 := (by omega)
          have hz15 : AbQ K dr nd x1 x2 0 := (AbQ.no2 (fun k hk e => by have z := (nI_eq (a := k8) (b := k) (by omega) (by omega)).mp (ht_k8.symm.trans e); omega))
          have hO : OKP G h0 a F R Z B J K w := hO.to rfl
          exact W.zret (v := 0) hx hb hr rfl (fun t99 ht99 hW99 => ⟨⟨_, (w, 0), rfl, ⟨rfl, hz14, hz15, hO⟩, by rw [ht99]; exact hP, hD⟩, hS.F ht99⟩) hS.2.2 dX9_isAbove_47
        · have n16 : ¬ (nd ≤ k8) := fun h9 => c12 ((nI_leI (a := nd) (b := k8) (by omega) (by omega)).mpr h9)
          refine lv_aload_n hx hb dX9_isAbove_24 rfl (lv_at hl 0 rfl) ?_
          refine p_get (v := .ref dr) (C := RX9) (Tc := TX9) (N := 5) (ci := 6) hx hb hq pin_wsX90 hown hE hP hO (by rw [hp1]; decide) (rep_7 hp1) rfl 1 (by decide) (hq _ pw_15) (fun _ h9 => h9) (congrArg (fun z => some (va_rf z)) hp3) dX9_isAbove_25 ?_
          refine lv_iload_n hx hb dX9_isAbove_28 rfl (lv_at hl 2 rfl) ?_
          refine p_ald8 hx hb hE hP hO hp4 (vp_in_nI (by omega) (by omega)) dX9_isAbove_29 ?_
          rw [nI_clamp (show k8 < 2 ^ 31 by omega)]
          obtain ⟨d17, hd18, hd19, hd20, hd21⟩ := hdc k8 (by omega)
          rw [hd18]
          refine W.eq (g2 := F0 m 30 ls [.ref d17]) rfl ?_
          refine p_get (v := .long (K.2.2.2.1 d17)) (C := RX2) (Tc := TX2) (N := 13) (ci := 2) hx hb hq pin_wsX20 hown hE hP hO (by rw [hd19]; decide) (rep_4 hd19) rfl 10 (by decide) (hq _ pw_102) (fun _ h9 => h9) rfl dX9_isAbove_30 ?_
          refine lv_iload_n hx hb dX9_isAbove_33 rfl (lv_at hl 1 rfl) ?_
          refine lv_lushr hx hb dX9_isAbove_34 rfl ?_
          refine lv_topl (fun x22 e23 => ?_)
          refine lv_lconst (v := 1) hx hb dX9_isAbove_35 (by decide) ?_
          refine lv_land hx hb dX9_isAbove_36 ?_
          refine lv_topl (fun x24 e25 => ?_)
          refine lv_lconst (v := 1) hx hb dX9_isAbove_37 (by decide) ?_
          refine W.lcmp hx hb dX9_isAbove_38 ?_
          refine lv_topi (fun x26 e27 => ?_)
          refine lv_if_ne (tgt := 46) hx hb dX9_isAbove_39 (by decide) (fun c28 => ?_) (fun c28 => ?_)
          · have hbt : ¬ bitL (K.2.2.2.1 d17) k9 := fun z => c28 (e27.trans ((lg_cmp_eq _ _).mpr (by rw [e25, e23]; exact (bitL_test (by omega)).mpr z)))
            refine lv_iconst (v := 0) hx hb dX9_isAbove_46 (by decide) ?_
            have hz29 : 0 ≤ 1 := (by omega)
            have hz30 : AbQ K dr nd x1 x2 0 := (AbQ.mk ht_k9 ht_k8 (by omega) (by omega) hd18 ⟨fun z => absurd z (by decide), fun z => absurd z hbt⟩ (by omega))
            have hO : OKP G h0 a F R Z B J K w := hO.to rfl
            exact W.zret (v := 0) hx hb hr rfl (fun t99 ht99 hW99 => ⟨⟨_, (w, 0), rfl, ⟨rfl, hz29, hz30, hO⟩, by rw [ht99]; exact hP, hD⟩, hS.F ht99⟩) hS.2.2 dX9_isAbove_47
          · have hbt : bitL (K.2.2.2.1 d17) k9 := (bitL_test (by omega)).mp (by rw [← e23, ← e25]; exact (lg_cmp_eq _ _).mp (e27.symm.trans c28))
            refine lv_iconst (v := 1) hx hb dX9_isAbove_42 (by decide) ?_
            refine lv_goto (tgt := 47) hx hb dX9_isAbove_43 (by decide) ?_
            have hz31 : 1 ≤ 1 := (by omega)
            have hz32 : AbQ K dr nd x1 x2 1 := (AbQ.mk ht_k9 ht_k8 (by omega) (by omega) hd18 ⟨fun _ => hbt, fun _ => rfl⟩ (by omega))
            have hO : OKP G h0 a F R Z B J K w := hO.to rfl
            exact W.zret (v := 1) hx hb hr rfl (fun t99 ht99 hW99 => ⟨⟨_, (w, 1), rfl, ⟨rfl, hz31, hz32, hO⟩, by rw [ht99]; exact hP, hD⟩, hS.F ht99⟩) hS.2.2 dX9_isAbove_47
theorem dX9_isReference_0 : decode cX9_isReference 0 = .ok (.iload_n 0, 1) := by decide +kernel
theorem dX9_isReference_1 : decode cX9_isReference 1 = .ok (.bipush 60, 2) := by decide +kernel
theorem dX9_isReference_3 : decode cX9_isReference 3 = .ok (.if_icmp .eq 19, 3) := by decide +kernel
theorem dX9_isReference_22 : decode cX9_isReference 22 = .ok (.iconst 0, 1) := by decide +kernel
theorem dX9_isReference_23 : decode cX9_isReference 23 = .ok (.ireturn, 1) := by decide +kernel
theorem dX9_isReference_6 : decode cX9_isReference 6 = .ok (.iload_n 0, 1) := by decide +kernel
theorem dX9_isReference_7 : decode cX9_isReference 7 = .ok (.bipush 61, 2) := by decide +kernel
theorem dX9_isReference_9 : decode cX9_isReference 9 = .ok (.if_icmp .eq 13, 3) := by decide +kernel
theorem dX9_isReference_12 : decode cX9_isReference 12 = .ok (.iload_n 0, 1) := by decide +kernel
theorem dX9_isReference_13 : decode cX9_isReference 13 = .ok (.bipush 63, 2) := by decide +kernel
theorem dX9_isReference_15 : decode cX9_isReference 15 = .ok (.if_icmp .eq 7, 3) := by decide +kernel
theorem dX9_isReference_18 : decode cX9_isReference 18 = .ok (.iconst 1, 1) := by decide +kernel
theorem dX9_isReference_19 : decode cX9_isReference 19 = .ok (.goto 4, 3) := by decide +kernel
set_option maxHeartbeats 2000000 in
set_option maxRecDepth 100000 in
theorem G_isReference (l : Launch) (G : pT) (h0 : Nat) (a : Nat → Nat) (F : Nat → Int32) (R : Nat → Value) (Z : Int64) (B : Nat → Nat → Int32) (J : Nat → Nat → Int64) (T : Nat → Nat) (Pi : Nat → va_E → Prop) (w : va_W) (x : Int32) (hO : OKW G h0 a F R Z B J T Pi w) : PM l G pX0 yX9_isReference cX9_isReference 1 (some .boolean) ({ frames := 2, cells := 0, slots := 0, locals := 60 }) [.int x] w (fun (v : Option Value) (u : va_W × (Nat)) => v = some (.int (nI u.2)) ∧ (u.2 ≤ 1) ∧ (OKW G h0 a F R Z B J T Pi u.1)) (fun u => u.1) := by
  intro sz
  refine Met.ofW (cc := cX9_isReference) (maxL := 1) (ret := (some .boolean)) (by decide) rfl ?_
  intro p e s m args below meth c s₁ B9 hml hv
  obtain ⟨rfl, hsz, hP, hD0, hE, hX⟩ := hv
  have hx := B9.exec
  have hb := B9.bytes
  have hr := B9.returns
  have hts := atoms_spec (ws := Cond.code yX9_isReference cX9_isReference 1 (some .boolean) :: pw) B9.pre
  have hq : ∀ w ∈ pw, w.before _ s = true := fun w h => hts w (List.mem_cons_of_mem _ h)
  have hown : s.vm.findClass RX9 = some m.cls := findClass_of_methodNamed B9.named
  have hlocks := B9.notSynchronized
  subst hsz
  have hD := hD0.self (sz := s.heap.size)
  have hA : ∀ q : Nat, s.heap.size ≤ q → va_A w s.heap.size q := fun q h => Or.inr h
  generalize va_A w s.heap.size = A at hD hE hA ⊢
  have hS : va_S A s.heap s.heap [] := va_S.rf
  have hl := lv_entry ([.int x]) (n := 1) (Nat.le_of_ble_eq_true rfl)
  rw [lg_entry_eq]
  generalize (lg_sl ([.int x]) ++ List.replicate (1 - (lg_sl ([.int x])).length) Slot.unset).toArray = ls at hl ⊢
  have hl : lv_has ls 1 [(0, .int x)] := hl
  refine lv_iload_n hx hb dX9_isReference_0 rfl (lv_at hl 0 rfl) ?_
  refine lv_bipush (v := 60) hx hb dX9_isReference_1 (by decide) ?_
  refine lv_icmp_eq (tgt := 22) hx hb dX9_isReference_3 (by decide) (fun c1 => ?_) (fun c1 => ?_)
  · refine lv_iconst (v := 0) hx hb dX9_isReference_22 (by decide) ?_
    have hz2 : 0 ≤ 1 := (by omega)
    have hO : OKW G h0 a F R Z B J T Pi w := hO.to rfl
    exact W.zret (v := 0) hx hb hr rfl (fun t99 ht99 hW99 => ⟨⟨_, (w, 0), rfl, ⟨rfl, hz2, hO⟩, by rw [ht99]; exact hP, hD⟩, hS.F ht99⟩) hS.2.2 dX9_isReference_23
  · refine lv_iload_n hx hb dX9_isReference_6 rfl (lv_at hl 0 rfl) ?_
    refine lv_bipush (v := 61) hx hb dX9_isReference_7 (by decide) ?_
    refine lv_icmp_eq (tgt := 22) hx hb dX9_isReference_9 (by decide) (fun c3 => ?_) (fun c3 => ?_)
    · refine lv_iconst (v := 0) hx hb dX9_isReference_22 (by decide) ?_
      have hz4 : 0 ≤ 1 := (by omega)
      have hO : OKW G h0 a F R Z B J T Pi w := hO.to rfl
      exact W.zret (v := 0) hx hb hr rfl (fun t99 ht99 hW99 => ⟨⟨_, (w, 0), rfl, ⟨rfl, hz4, hO⟩, by rw [ht99]; exact hP, hD⟩, hS.F ht99⟩) hS.2.2 dX9_isReference_23
    · refine lv_iload_n hx hb dX9_isReference_12 rfl (lv_at hl 0 rfl) ?_
      refine lv_bipush (v := 63) hx hb dX9_isReference_13 (by decide) ?_
      refine lv_icmp_eq (tgt := 22) hx hb dX9_isReference_15 (by decide) (fun c5 => ?_) (fun c5 => ?_)
      · refine lv_iconst (v := 0) hx hb dX9_isReference_22 (by decide) ?_
        have hz6 : 0 ≤ 1 := (by omega)
        have hO : OKW G h0 a F R Z B J T Pi w := hO.to rfl
        exact W.zret (v := 0) hx hb hr rfl (fun t99 ht99 hW99 => ⟨⟨_, (w, 0), rfl, ⟨rfl, hz6, hO⟩, by rw [ht99]; exact hP, hD⟩, hS.F ht99⟩) hS.2.2 dX9_isReference_23
      · refine lv_iconst (v := 1) hx hb dX9_isReference_18 (by decide) ?_
        refine lv_goto (tgt := 23) hx hb dX9_isReference_19 (by decide) ?_
        have hz7 : 1 ≤ 1 := (by omega)
        have hO : OKW G h0 a F R Z B J T Pi w := hO.to rfl
        exact W.zret (v := 1) hx hb hr rfl (fun t99 ht99 hW99 => ⟨⟨_, (w, 1), rfl, ⟨rfl, hz7, hO⟩, by rw [ht99]; exact hP, hD⟩, hS.F ht99⟩) hS.2.2 dX9_isReference_23
theorem dX9_fits_0 : decode cX9_fits 0 = .ok (.iload_n 1, 1) := by decide +kernel
theorem dX9_fits_1 : decode cX9_fits 1 = .ok (.bipush 63, 2) := by decide +kernel
theorem dX9_fits_3 : decode cX9_fits 3 = .ok (.if_icmp .eq 9, 3) := by decide +kernel
theorem dX9_fits_12 : decode cX9_fits 12 = .ok (.iconst 0, 1) := by decide +kernel
theorem dX9_fits_13 : decode cX9_fits 13 = .ok (.ireturn, 1) := by decide +kernel
theorem dX9_fits_6 : decode cX9_fits 6 = .ok (.iload_n 2, 1) := by decide +kernel
theorem dX9_fits_7 : decode cX9_fits 7 = .ok (.bipush 63, 2) := by decide +kernel
theorem dX9_fits_9 : decode cX9_fits 9 = .ok (.if_icmp .ne 5, 3) := by decide +kernel
theorem dX9_fits_14 : decode cX9_fits 14 = .ok (.iload_n 1, 1) := by decide +kernel
theorem dX9_fits_15 : decode cX9_fits 15 = .ok (.iload_n 2, 1) := by decide +kernel
theorem dX9_fits_16 : decode cX9_fits 16 = .ok (.if_icmp .ne 5, 3) := by decide +kernel
theorem dX9_fits_21 : decode cX9_fits 21 = .ok (.iload_n 1, 1) := by decide +kernel
theorem dX9_fits_22 : decode cX9_fits 22 = .ok (.bipush 62, 2) := by decide +kernel
theorem dX9_fits_24 : decode cX9_fits 24 = .ok (.if_icmp .eq 7, 3) := by decide +kernel
theorem dX9_fits_31 : decode cX9_fits 31 = .ok (.iload_n 1, 1) := by decide +kernel
theorem dX9_fits_32 : decode cX9_fits 32 = .ok (.invokestatic 61, 3) := by decide +kernel
theorem dX9_fits_35 : decode cX9_fits 35 = .ok (.ifCond .eq 14, 3) := by decide +kernel
theorem dX9_fits_49 : decode cX9_fits 49 = .ok (.iconst 0, 1) := by decide +kernel
theorem dX9_fits_50 : decode cX9_fits 50 = .ok (.ireturn, 1) := by decide +kernel
theorem dX9_fits_38 : decode cX9_fits 38 = .ok (.iload_n 2, 1) := by decide +kernel
theorem dX9_fits_39 : decode cX9_fits 39 = .ok (.invokestatic 61, 3) := by decide +kernel
theorem dX9_fits_42 : decode cX9_fits 42 = .ok (.ifCond .eq 7, 3) := by decide +kernel
theorem dX9_fits_45 : decode cX9_fits 45 = .ok (.iconst 1, 1) := by decide +kernel
theorem dX9_fits_46 : decode cX9_fits 46 = .ok (.goto 4, 3) := by decide +kernel
theorem dX9_fits_27 : decode cX9_fits 27 = .ok (.iload_n 2, 1) := by decide +kernel
theorem dX9_fits_28 : decode cX9_fits 28 = .ok (.ifCond .ne 23, 3) := by decide +kernel
theorem dX9_fits_51 : decode cX9_fits 51 = .ok (.iload_n 1, 1) := by decide +kernel
theorem dX9_fits_52 : decode cX9_fits 52 = .ok (.bipush 64, 2) := by decide +kernel
theorem dX9_fits_54 : decode cX9_fits 54 = .ok (.if_icmp .lt 22, 3) := by decide +kernel
theorem dX9_fits_76 : decode cX9_fits 76 = .ok (.aload_n 0, 1) := by decide +kernel
theorem dX9_fits_77 : decode cX9_fits 77 = .ok (.iload_n 2, 1) := by decide +kernel
theorem dX9_fits_78 : decode cX9_fits 78 = .ok (.iload_n 1, 1) := by decide +kernel
theorem dX9_fits_79 : decode cX9_fits 79 = .ok (.invokevirtual 65, 3) := by decide +kernel
theorem dX9_fits_82 : decode cX9_fits 82 = .ok (.ireturn, 1) := by decide +kernel
theorem dX9_fits_57 : decode cX9_fits 57 = .ok (.iload_n 2, 1) := by decide +kernel
theorem dX9_fits_58 : decode cX9_fits 58 = .ok (.bipush 64, 2) := by decide +kernel
theorem dX9_fits_60 : decode cX9_fits 60 = .ok (.if_icmp .lt 16, 3) := by decide +kernel
theorem dX9_fits_63 : decode cX9_fits 63 = .ok (.aload_n 0, 1) := by decide +kernel
theorem dX9_fits_64 : decode cX9_fits 64 = .ok (.iload_n 2, 1) := by decide +kernel
theorem dX9_fits_65 : decode cX9_fits 65 = .ok (.bipush 64, 2) := by decide +kernel
theorem dX9_fits_67 : decode cX9_fits 67 = .ok (.isub, 1) := by decide +kernel
theorem dX9_fits_68 : decode cX9_fits 68 = .ok (.iload_n 1, 1) := by decide +kernel
theorem dX9_fits_69 : decode cX9_fits 69 = .ok (.bipush 64, 2) := by decide +kernel
theorem dX9_fits_71 : decode cX9_fits 71 = .ok (.isub, 1) := by decide +kernel
theorem dX9_fits_72 : decode cX9_fits 72 = .ok (.invokevirtual 65, 3) := by decide +kernel
theorem dX9_fits_75 : decode cX9_fits 75 = .ok (.ireturn, 1) := by decide +kernel
theorem dX9_fits_19 : decode cX9_fits 19 = .ok (.iconst 1, 1) := by decide +kernel
theorem dX9_fits_20 : decode cX9_fits 20 = .ok (.ireturn, 1) := by decide +kernel
theorem hS_X9_isReference : yX9_isReference.cls ≠ "java/lang/invoke/MethodHandle" ∧ yX9_isReference.cls ≠ "java/lang/invoke/VarHandle" ∧ (parseMethodDescriptor yX9_isReference.desc).map (fun d => d.parameters.length) = some 1 := by decide +kernel
theorem hV_X9_isAbove : yX9_isAbove.cls = RX9 ∧ yX9_isAbove.cls ≠ "java/lang/invoke/MethodHandle" ∧ yX9_isAbove.cls ≠ "java/lang/invoke/VarHandle" ∧ (parseMethodDescriptor yX9_isAbove.desc).map (fun d => d.parameters.length) = some 2 := by decide +kernel
set_option maxHeartbeats 20000000 in
set_option maxRecDepth 100000 in
theorem G_fits (l : Launch) (G : pT) (h0 : Nat) (a : Nat → Nat) (F : Nat → Int32) (R : Nat → Value) (Z : Int64) (B : Nat → Nat → Int32) (J : Nat → Nat → Int64) (K : PK) (w : va_W) (pq : Nat) (dr : Nat) (ml : Nat) (nd : Nat) (x1 : Int32) (x2 : Int32) (g : Nat → Nat → Nat) (hpb : PgB K g (a 1) pq dr ml nd) (hdc : DcR K g dr nd) (hO : OKP G h0 a F R Z B J K w) : PM l G pX0 yX9_fits cX9_fits 3 (some .boolean) ({ frames := 3, cells := 0, slots := 0, locals := 82 }) [.ref pq, .int x1, .int x2] w (fun (v : Option Value) (u : va_W × (Nat)) => v = some (.int (nI u.2)) ∧ (u.2 ≤ 1) ∧ (OKP G h0 a F R Z B J K u.1)) (fun u => u.1) := by
  intro sz
  refine Met.ofW (cc := cX9_fits) (maxL := 3) (ret := (some .boolean)) (by decide) rfl ?_
  intro p e s m args below meth c s₁ B9 hml hv
  obtain ⟨rfl, hsz, hP, hD0, hE, hX⟩ := hv
  have hx := B9.exec
  have hb := B9.bytes
  have hr := B9.returns
  have hts := atoms_spec (ws := Cond.code yX9_fits cX9_fits 3 (some .boolean) :: pw) B9.pre
  have hq : ∀ w ∈ pw, w.before _ s = true := fun w h => hts w (List.mem_cons_of_mem _ h)
  have hown : s.vm.findClass RX9 = some m.cls := findClass_of_methodNamed B9.named
  have hlocks := B9.notSynchronized
  subst hsz
  have hD := hD0.self (sz := s.heap.size)
  have hA : ∀ q : Nat, s.heap.size ≤ q → va_A w s.heap.size q := fun q h => Or.inr h
  generalize va_A w s.heap.size = A at hD hE hA ⊢
  have hS : va_S A s.heap s.heap [] := va_S.rf
  have hl := lv_entry ([.ref pq, .int x1, .int x2]) (n := 3) (Nat.le_of_ble_eq_true rfl)
  rw [lg_entry_eq]
  generalize (lg_sl ([.ref pq, .int x1, .int x2]) ++ List.replicate (3 - (lg_sl ([.ref pq, .int x1, .int x2])).length) Slot.unset).toArray = ls at hl ⊢
  have hl : lv_has ls 3 [(0, .ref pq), (1, .int x1), (2, .int x2)] := hl
  have hp1 := hpb.1
  have hp2 := hpb.2.1
  have hp3 := hpb.2.2.1
  have hp4 := hpb.2.2.2.1
  have hp5 := hpb.2.2.2.2.1
  have hp6 := hpb.2.2.2.2.2.1
  have hp8 := hpb.2.2.2.2.2.2.2.1
  have hp9 := hpb.2.2.2.2.2.2.2.2
  refine lv_iload_n hx hb dX9_fits_0 rfl (lv_at hl 1 rfl) ?_
  refine lv_bipush (v := 63) hx hb dX9_fits_1 (by decide) ?_
  refine lv_icmp_eq (tgt := 12) hx hb dX9_fits_3 (by decide) (fun c1 => ?_) (fun c1 => ?_)
  · refine lv_iconst (v := 0) hx hb dX9_fits_12 (by decide) ?_
    have hz2 : 0 ≤ 1 := (by omega)
    have hO : OKP G h0 a F R Z B J K w := hO.to rfl
    exact W.zret (v := 0) hx hb hr rfl (fun t99 ht99 hW99 => ⟨⟨_, (w, 0), rfl, ⟨rfl, hz2, hO⟩, by rw [ht99]; exact hP, hD⟩, hS.F ht99⟩) hS.2.2 dX9_fits_13
  · refine lv_iload_n hx hb dX9_fits_6 rfl (lv_at hl 2 rfl) ?_
    refine lv_bipush (v := 63) hx hb dX9_fits_7 (by decide) ?_
    refine lv_icmp_ne (tgt := 14) hx hb dX9_fits_9 (by decide) (fun c3 => ?_) (fun c3 => ?_)
    · refine lv_iload_n hx hb dX9_fits_14 rfl (lv_at hl 1 rfl) ?_
      refine lv_iload_n hx hb dX9_fits_15 rfl (lv_at hl 2 rfl) ?_
      refine lv_icmp_ne (tgt := 21) hx hb dX9_fits_16 (by decide) (fun c4 => ?_) (fun c4 => ?_)
      · refine lv_iload_n hx hb dX9_fits_21 rfl (lv_at hl 1 rfl) ?_
        refine lv_bipush (v := 62) hx hb dX9_fits_22 (by decide) ?_
        refine lv_icmp_eq (tgt := 31) hx hb dX9_fits_24 (by decide) (fun c5 => ?_) (fun c5 => ?_)
        · refine lv_iload_n hx hb dX9_fits_31 rfl (lv_at hl 1 rfl) ?_
          have hO : OKW G h0 a F R Z B J K.1 (fun q99 x99 => x99 = rep G a K q99) w := hO.to rfl
          refine pc_S0 (G := G) (As := [.int x1]) (rest := []) hx hb hml hown hq hE hX pX0_al hP hD hS hA hl.1 (G_isReference l G h0 a F R Z B J K.1 (fun q99 x99 => x99 = rep G a K q99) w x1 hO) (gS pw_104 pw_105 pw_106 pw_100) hS_X9_isReference rfl (Nat.le_of_ble_eq_true rfl) dX9_fits_32 ⟨Nat.le_of_ble_eq_true rfl, Nat.le_of_ble_eq_true rfl⟩ ⟨Nat.le_of_ble_eq_true rfl, Nat.le_of_ble_eq_true rfl⟩ (fun v8 u6 H locs hw7 hP hD hS => ?_)
          obtain ⟨w, r9⟩ := u6
          obtain ⟨hw7, h10, hO⟩ := hw7
          have h10 : r9 ≤ 1 := h10
          obtain rfl : v8 = some (.int (nI r9)) := hw7
          have hO : OKP G h0 a F R Z B J K w := hO.to rfl
          refine W.widen (k := 0) (n := 0) (Nat.le_of_ble_eq_true rfl) (Nat.le_of_ble_eq_true rfl) ?_
          refine W.eq (g2 := F0 m 35 ls [.int (nI r9)]) rfl ?_
          refine lv_if_eq (tgt := 49) hx hb dX9_fits_35 (by decide) (fun c11 => ?_) (fun c11 => ?_)
          · have n12 : r9 = 0 := (nI_eq (a := r9) (b := 0) (by omega) (by omega)).mp c11
            refine lv_iconst (v := 0) hx hb dX9_fits_49 (by decide) ?_
            have hz13 : 0 ≤ 1 := (by omega)
            have hO : OKP G h0 a F R Z B J K w := hO.to rfl
            exact W.zret (v := 0) hx hb hr rfl (fun t99 ht99 hW99 => ⟨⟨_, (w, 0), rfl, ⟨rfl, hz13, hO⟩, by rw [ht99]; exact hP, hD⟩, hS.F ht99⟩) hS.2.2 dX9_fits_50
          · have n14 : ¬ (r9 = 0) := fun h9 => c11 ((nI_eq (a := r9) (b := 0) (by omega) (by omega)).mpr h9)
            refine lv_iload_n hx hb dX9_fits_38 rfl (lv_at hl 2 rfl) ?_
            have hO : OKW G h0 a F R Z B J K.1 (fun q99 x99 => x99 = rep G a K q99) w := hO.to rfl
            refine pc_S0 (G := G) (As := [.int x2]) (rest := []) hx hb hml hown hq hE hX pX0_al hP hD hS hA hl.1 (G_isReference l G h0 a F R Z B J K.1 (fun q99 x99 => x99 = rep G a K q99) w x2 hO) (gS pw_104 pw_105 pw_106 pw_100) hS_X9_isReference rfl (Nat.le_of_ble_eq_true rfl) dX9_fits_39 ⟨Nat.le_of_ble_eq_true rfl, Nat.le_of_ble_eq_true rfl⟩ ⟨Nat.le_of_ble_eq_true rfl, Nat.le_of_ble_eq_true rfl⟩ (fun v17 u15 H locs hw16 hP hD hS => ?_)
            obtain ⟨w, r18⟩ := u15
            obtain ⟨hw16, h19, hO⟩ := hw16
            have h19 : r18 ≤ 1 := h19
            obtain rfl : v17 = some (.int (nI r18)) := hw16
            have hO : OKP G h0 a F R Z B J K w := hO.to rfl
            refine W.widen (k := 0) (n := 0) (Nat.le_of_ble_eq_true rfl) (Nat.le_of_ble_eq_true rfl) ?_
            refine W.eq (g2 := F0 m 42 ls [.int (nI r18)]) rfl ?_
            refine lv_if_eq (tgt := 49) hx hb dX9_fits_42 (by decide) (fun c20 => ?_) (fun c20 => ?_)
            · have n21 : r18 = 0 := (nI_eq (a := r18) (b := 0) (by omega) (by omega)).mp c20
              refine lv_iconst (v := 0) hx hb dX9_fits_49 (by decide) ?_
              have hz22 : 0 ≤ 1 := (by omega)
              have hO : OKP G h0 a F R Z B J K w := hO.to rfl
              exact W.zret (v := 0) hx hb hr rfl (fun t99 ht99 hW99 => ⟨⟨_, (w, 0), rfl, ⟨rfl, hz22, hO⟩, by rw [ht99]; exact hP, hD⟩, hS.F ht99⟩) hS.2.2 dX9_fits_50
            · have n23 : ¬ (r18 = 0) := fun h9 => c20 ((nI_eq (a := r18) (b := 0) (by omega) (by omega)).mpr h9)
              refine lv_iconst (v := 1) hx hb dX9_fits_45 (by decide) ?_
              refine lv_goto (tgt := 50) hx hb dX9_fits_46 (by decide) ?_
              have hz24 : 1 ≤ 1 := (by omega)
              have hO : OKP G h0 a F R Z B J K w := hO.to rfl
              exact W.zret (v := 1) hx hb hr rfl (fun t99 ht99 hW99 => ⟨⟨_, (w, 1), rfl, ⟨rfl, hz24, hO⟩, by rw [ht99]; exact hP, hD⟩, hS.F ht99⟩) hS.2.2 dX9_fits_50
        · refine lv_iload_n hx hb dX9_fits_27 rfl (lv_at hl 2 rfl) ?_
          refine lv_if_ne (tgt := 51) hx hb dX9_fits_28 (by decide) (fun c25 => ?_) (fun c25 => ?_)
          · refine lv_iload_n hx hb dX9_fits_51 rfl (lv_at hl 1 rfl) ?_
            refine lv_bipush (v := 64) hx hb dX9_fits_52 (by decide) ?_
            refine lv_icmp_lt (tgt := 76) hx hb dX9_fits_54 (by decide) (fun c26 => ?_) (fun c26 => ?_)
            · refine lv_aload_n hx hb dX9_fits_76 rfl (lv_at hl 0 rfl) ?_
              refine lv_iload_n hx hb dX9_fits_77 rfl (lv_at hl 2 rfl) ?_
              refine lv_iload_n hx hb dX9_fits_78 rfl (lv_at hl 1 rfl) ?_
              have hO : OKP G h0 a F R Z B J K w := hO.to rfl
              obtain ⟨qr30, hqr31⟩ := p_recv hO (by rw [hp1]; decide) (rep_7 hp1)
              refine pc_V0 (G := G) (As := [.int x2, .int x1]) (rest := []) hx hb hml hown hq hE hX pX0_al hP hD hS hA hl.1 (G_isAbove l G h0 a F R Z B J K w pq dr ml nd x2 x1 g hpb hdc hO) (gV pw_107 pw_108 pw_109 pw_106 pw_101) hV_X9_isAbove qr30 6 hqr31 rfl rfl rfl (Nat.le_of_ble_eq_true rfl) dX9_fits_79 ⟨Nat.le_of_ble_eq_true rfl, Nat.le_of_ble_eq_true rfl⟩ ⟨Nat.le_of_ble_eq_true rfl, Nat.le_of_ble_eq_true rfl⟩ (fun v29 u27 H locs hw28 hP hD hS => ?_)
              obtain ⟨w, r32⟩ := u27
              obtain ⟨hw28, h33, h34, hO⟩ := hw28
              have h33 : r32 ≤ 1 := h33
              have h34 : AbQ K dr nd x2 x1 r32 := h34
              obtain rfl : v29 = some (.int (nI r32)) := hw28
              have hO : OKP G h0 a F R Z B J K w := hO.to rfl
              refine W.widen (k := 0) (n := 0) (Nat.le_of_ble_eq_true rfl) (Nat.le_of_ble_eq_true rfl) ?_
              refine W.eq (g2 := F0 m 82 ls [.int (nI r32)]) rfl ?_
              have hz35 : r32 ≤ 1 := (by omega)
              have hO : OKP G h0 a F R Z B J K w := hO.to rfl
              exact W.zret (v := (nI r32)) hx hb hr (nI_nar (by omega)) (fun t99 ht99 hW99 => ⟨⟨_, (w, r32), rfl, ⟨rfl, hz35, hO⟩, by rw [ht99]; exact hP, hD⟩, hS.F ht99⟩) hS.2.2 dX9_fits_82
            · refine lv_iload_n hx hb dX9_fits_57 rfl (lv_at hl 2 rfl) ?_
              refine lv_bipush (v := 64) hx hb dX9_fits_58 (by decide) ?_
              refine lv_icmp_lt (tgt := 76) hx hb dX9_fits_60 (by decide) (fun c36 => ?_) (fun c36 => ?_)
              · refine lv_aload_n hx hb dX9_fits_76 rfl (lv_at hl 0 rfl) ?_
                refine lv_iload_n hx hb dX9_fits_77 rfl (lv_at hl 2 rfl) ?_
                refine lv_iload_n hx hb dX9_fits_78 rfl (lv_at hl 1 rfl) ?_
                have hO : OKP G h0 a F R Z B J K w := hO.to rfl
                obtain ⟨qr40, hqr41⟩ := p_recv hO (by rw [hp1]; decide) (rep_7 hp1)
                refine pc_V0 (G := G) (As := [.int x2, .int x1]) (rest := []) hx hb hml hown hq hE hX pX0_al hP hD hS hA hl.1 (G_isAbove l G h0 a F R Z B J K w pq dr ml nd x2 x1 g hpb hdc hO) (gV pw_107 pw_108 pw_109 pw_106 pw_101) hV_X9_isAbove qr40 6 hqr41 rfl rfl rfl (Nat.le_of_ble_eq_true rfl) dX9_fits_79 ⟨Nat.le_of_ble_eq_true rfl, Nat.le_of_ble_eq_true rfl⟩ ⟨Nat.le_of_ble_eq_true rfl, Nat.le_of_ble_eq_true rfl⟩ (fun v39 u37 H locs hw38 hP hD hS => ?_)
                obtain ⟨w, r42⟩ := u37
                obtain ⟨hw38, h43, h44, hO⟩ := hw38
                have h43 : r42 ≤ 1 := h43
                have h44 : AbQ K dr nd x2 x1 r42 := h44
                obtain rfl : v39 = some (.int (nI r42)) := hw38
                have hO : OKP G h0 a F R Z B J K w := hO.to rfl
                refine W.widen (k := 0) (n := 0) (Nat.le_of_ble_eq_true rfl) (Nat.le_of_ble_eq_true rfl) ?_
                refine W.eq (g2 := F0 m 82 ls [.int (nI r42)]) rfl ?_
                have hz45 : r42 ≤ 1 := (by omega)
                have hO : OKP G h0 a F R Z B J K w := hO.to rfl
                exact W.zret (v := (nI r42)) hx hb hr (nI_nar (by omega)) (fun t99 ht99 hW99 => ⟨⟨_, (w, r42), rfl, ⟨rfl, hz45, hO⟩, by rw [ht99]; exact hP, hD⟩, hS.F ht99⟩) hS.2.2 dX9_fits_82
              · refine lv_aload_n hx hb dX9_fits_63 rfl (lv_at hl 0 rfl) ?_
                refine lv_iload_n hx hb dX9_fits_64 rfl (lv_at hl 2 rfl) ?_
                refine lv_bipush (v := 64) hx hb dX9_fits_65 (by decide) ?_
                refine lv_isub hx hb dX9_fits_67 ?_
                refine lv_topi (fun x46 e47 => ?_)
                refine lv_iload_n hx hb dX9_fits_68 rfl (lv_at hl 1 rfl) ?_
                refine lv_bipush (v := 64) hx hb dX9_fits_69 (by decide) ?_
                refine lv_isub hx hb dX9_fits_71 ?_
                refine lv_topi (fun x48 e49 => ?_)
                have hO : OKP G h0 a F R Z B J K w := hO.to rfl
                obtain ⟨qr53, hqr54⟩ := p_recv hO (by rw [hp1]; decide) (rep_7 hp1)
                refine pc_V0 (G := G) (As := [.int x46, .int x48]) (rest := []) hx hb hml hown hq hE hX pX0_al hP hD hS hA hl.1 (G_isAbove l G h0 a F R Z B J K w pq dr ml nd x46 x48 g hpb hdc hO) (gV pw_107 pw_108 pw_109 pw_106 pw_101) hV_X9_isAbove qr53 6 hqr54 rfl rfl rfl (Nat.le_of_ble_eq_true rfl) dX9_fits_72 ⟨Nat.le_of_ble_eq_true rfl, Nat.le_of_ble_eq_true rfl⟩ ⟨Nat.le_of_ble_eq_true rfl, Nat.le_of_ble_eq_true rfl⟩ (fun v52 u50 H locs hw51 hP hD hS => ?_)
                obtain ⟨w, r55⟩ := u50
                obtain ⟨hw51, h56, h57, hO⟩ := hw51
                have h56 : r55 ≤ 1 := h56
                have h57 : AbQ K dr nd x46 x48 r55 := h57
                obtain rfl : v52 = some (.int (nI r55)) := hw51
                have hO : OKP G h0 a F R Z B J K w := hO.to rfl
                refine W.widen (k := 0) (n := 0) (Nat.le_of_ble_eq_true rfl) (Nat.le_of_ble_eq_true rfl) ?_
                refine W.eq (g2 := F0 m 75 ls [.int (nI r55)]) rfl ?_
                have hz58 : r55 ≤ 1 := (by omega)
                have hO : OKP G h0 a F R Z B J K w := hO.to rfl
                exact W.zret (v := (nI r55)) hx hb hr (nI_nar (by omega)) (fun t99 ht99 hW99 => ⟨⟨_, (w, r55), rfl, ⟨rfl, hz58, hO⟩, by rw [ht99]; exact hP, hD⟩, hS.F ht99⟩) hS.2.2 dX9_fits_75
          · refine lv_iload_n hx hb dX9_fits_31 rfl (lv_at hl 1 rfl) ?_
            have hO : OKW G h0 a F R Z B J K.1 (fun q99 x99 => x99 = rep G a K q99) w := hO.to rfl
            refine pc_S0 (G := G) (As := [.int x1]) (rest := []) hx hb hml hown hq hE hX pX0_al hP hD hS hA hl.1 (G_isReference l G h0 a F R Z B J K.1 (fun q99 x99 => x99 = rep G a K q99) w x1 hO) (gS pw_104 pw_105 pw_106 pw_100) hS_X9_isReference rfl (Nat.le_of_ble_eq_true rfl) dX9_fits_32 ⟨Nat.le_of_ble_eq_true rfl, Nat.le_of_ble_eq_true rfl⟩ ⟨Nat.le_of_ble_eq_true rfl, Nat.le_of_ble_eq_true rfl⟩ (fun v61 u59 H locs hw60 hP hD hS => ?_)
            obtain ⟨w, r62⟩ := u59
            obtain ⟨hw60, h63, hO⟩ := hw60
            have h63 : r62 ≤ 1 := h63
            obtain rfl : v61 = some (.int (nI r62)) := hw60
            have hO : OKP G h0 a F R Z B J K w := hO.to rfl
            refine W.widen (k := 0) (n := 0) (Nat.le_of_ble_eq_true rfl) (Nat.le_of_ble_eq_true rfl) ?_
            refine W.eq (g2 := F0 m 35 ls [.int (nI r62)]) rfl ?_
            refine lv_if_eq (tgt := 49) hx hb dX9_fits_35 (by decide) (fun c64 => ?_) (fun c64 => ?_)
            · have n65 : r62 = 0 := (nI_eq (a := r62) (b := 0) (by omega) (by omega)).mp c64
              refine lv_iconst (v := 0) hx hb dX9_fits_49 (by decide) ?_
              have hz66 : 0 ≤ 1 := (by omega)
              have hO : OKP G h0 a F R Z B J K w := hO.to rfl
              exact W.zret (v := 0) hx hb hr rfl (fun t99 ht99 hW99 => ⟨⟨_, (w, 0), rfl, ⟨rfl, hz66, hO⟩, by rw [ht99]; exact hP, hD⟩, hS.F ht99⟩) hS.2.2 dX9_fits_50
            · have n67 : ¬ (r62 = 0) := fun h9 => c64 ((nI_eq (a := r62) (b := 0) (by omega) (by omega)).mpr h9)
              refine lv_iload_n hx hb dX9_fits_38 rfl (lv_at hl 2 rfl) ?_
              have hO : OKW G h0 a F R Z B J K.1 (fun q99 x99 => x99 = rep G a K q99) w := hO.to rfl
              refine pc_S0 (G := G) (As := [.int x2]) (rest := []) hx hb hml hown hq hE hX pX0_al hP hD hS hA hl.1 (G_isReference l G h0 a F R Z B J K.1 (fun q99 x99 => x99 = rep G a K q99) w x2 hO) (gS pw_104 pw_105 pw_106 pw_100) hS_X9_isReference rfl (Nat.le_of_ble_eq_true rfl) dX9_fits_39 ⟨Nat.le_of_ble_eq_true rfl, Nat.le_of_ble_eq_true rfl⟩ ⟨Nat.le_of_ble_eq_true rfl, Nat.le_of_ble_eq_true rfl⟩ (fun v70 u68 H locs hw69 hP hD hS => ?_)
              obtain ⟨w, r71⟩ := u68
              obtain ⟨hw69, h72, hO⟩ := hw69
              have h72 : r71 ≤ 1 := h72
              obtain rfl : v70 = some (.int (nI r71)) := hw69
              have hO : OKP G h0 a F R Z B J K w := hO.to rfl
              refine W.widen (k := 0) (n := 0) (Nat.le_of_ble_eq_true rfl) (Nat.le_of_ble_eq_true rfl) ?_
              refine W.eq (g2 := F0 m 42 ls [.int (nI r71)]) rfl ?_
              refine lv_if_eq (tgt := 49) hx hb dX9_fits_42 (by decide) (fun c73 => ?_) (fun c73 => ?_)
              · have n74 : r71 = 0 := (nI_eq (a := r71) (b := 0) (by omega) (by omega)).mp c73
                refine lv_iconst (v := 0) hx hb dX9_fits_49 (by decide) ?_
                have hz75 : 0 ≤ 1 := (by omega)
                have hO : OKP G h0 a F R Z B J K w := hO.to rfl
                exact W.zret (v := 0) hx hb hr rfl (fun t99 ht99 hW99 => ⟨⟨_, (w, 0), rfl, ⟨rfl, hz75, hO⟩, by rw [ht99]; exact hP, hD⟩, hS.F ht99⟩) hS.2.2 dX9_fits_50
              · have n76 : ¬ (r71 = 0) := fun h9 => c73 ((nI_eq (a := r71) (b := 0) (by omega) (by omega)).mpr h9)
                refine lv_iconst (v := 1) hx hb dX9_fits_45 (by decide) ?_
                refine lv_goto (tgt := 50) hx hb dX9_fits_46 (by decide) ?_
                have hz77 : 1 ≤ 1 := (by omega)
                have hO : OKP G h0 a F R Z B J K w := hO.to rfl
                exact W.zret (v := 1) hx hb hr rfl (fun t99 ht99 hW99 => ⟨⟨_, (w, 1), rfl, ⟨rfl, hz77, hO⟩, by rw [ht99]; exact hP, hD⟩, hS.F ht99⟩) hS.2.2 dX9_fits_50
      · refine lv_iconst (v := 1) hx hb dX9_fits_19 (by decide) ?_
        have hz78 : 1 ≤ 1 := (by omega)
        have hO : OKP G h0 a F R Z B J K w := hO.to rfl
        exact W.zret (v := 1) hx hb hr rfl (fun t99 ht99 hW99 => ⟨⟨_, (w, 1), rfl, ⟨rfl, hz78, hO⟩, by rw [ht99]; exact hP, hD⟩, hS.F ht99⟩) hS.2.2 dX9_fits_20
    · refine lv_iconst (v := 0) hx hb dX9_fits_12 (by decide) ?_
      have hz79 : 0 ≤ 1 := (by omega)
      have hO : OKP G h0 a F R Z B J K w := hO.to rfl
      exact W.zret (v := 0) hx hb hr rfl (fun t99 ht99 hW99 => ⟨⟨_, (w, 0), rfl, ⟨rfl, hz79, hO⟩, by rw [ht99]; exact hP, hD⟩, hS.F ht99⟩) hS.2.2 dX9_fits_13
theorem dX9_common_0 : decode cX9_common 0 = .ok (.iload_n 1, 1) := by decide +kernel
theorem dX9_common_1 : decode cX9_common 1 = .ok (.iload_n 2, 1) := by decide +kernel
theorem dX9_common_2 : decode cX9_common 2 = .ok (.if_icmp .eq 26, 3) := by decide +kernel
theorem dX9_common_28 : decode cX9_common 28 = .ok (.iload_n 2, 1) := by decide +kernel
theorem dX9_common_29 : decode cX9_common 29 = .ok (.ireturn, 1) := by decide +kernel
theorem dX9_common_5 : decode cX9_common 5 = .ok (.iload_n 1, 1) := by decide +kernel
theorem dX9_common_6 : decode cX9_common 6 = .ok (.invokestatic 61, 3) := by decide +kernel
theorem dX9_common_9 : decode cX9_common 9 = .ok (.ifCond .eq 21, 3) := by decide +kernel
theorem dX9_common_30 : decode cX9_common 30 = .ok (.iload_n 1, 1) := by decide +kernel
theorem dX9_common_31 : decode cX9_common 31 = .ok (.invokestatic 61, 3) := by decide +kernel
theorem dX9_common_34 : decode cX9_common 34 = .ok (.ifCond .eq 23, 3) := by decide +kernel
theorem dX9_common_57 : decode cX9_common 57 = .ok (.bipush 63, 2) := by decide +kernel
theorem dX9_common_59 : decode cX9_common 59 = .ok (.ireturn, 1) := by decide +kernel
theorem dX9_common_37 : decode cX9_common 37 = .ok (.iload_n 2, 1) := by decide +kernel
theorem dX9_common_38 : decode cX9_common 38 = .ok (.invokestatic 61, 3) := by decide +kernel
theorem dX9_common_41 : decode cX9_common 41 = .ok (.ifCond .eq 16, 3) := by decide +kernel
theorem dX9_common_44 : decode cX9_common 44 = .ok (.aload_n 0, 1) := by decide +kernel
theorem dX9_common_45 : decode cX9_common 45 = .ok (.iload_n 2, 1) := by decide +kernel
theorem dX9_common_46 : decode cX9_common 46 = .ok (.iload_n 1, 1) := by decide +kernel
theorem dX9_common_47 : decode cX9_common 47 = .ok (.invokevirtual 69, 3) := by decide +kernel
theorem dX9_common_50 : decode cX9_common 50 = .ok (.ifCond .eq 7, 3) := by decide +kernel
theorem dX9_common_53 : decode cX9_common 53 = .ok (.iload_n 1, 1) := by decide +kernel
theorem dX9_common_54 : decode cX9_common 54 = .ok (.goto 5, 3) := by decide +kernel
theorem dX9_common_12 : decode cX9_common 12 = .ok (.iload_n 2, 1) := by decide +kernel
theorem dX9_common_13 : decode cX9_common 13 = .ok (.invokestatic 61, 3) := by decide +kernel
theorem dX9_common_16 : decode cX9_common 16 = .ok (.ifCond .eq 14, 3) := by decide +kernel
theorem dX9_common_19 : decode cX9_common 19 = .ok (.aload_n 0, 1) := by decide +kernel
theorem dX9_common_20 : decode cX9_common 20 = .ok (.iload_n 1, 1) := by decide +kernel
theorem dX9_common_21 : decode cX9_common 21 = .ok (.iload_n 2, 1) := by decide +kernel
theorem dX9_common_22 : decode cX9_common 22 = .ok (.invokevirtual 69, 3) := by decide +kernel
theorem dX9_common_25 : decode cX9_common 25 = .ok (.ifCond .eq 5, 3) := by decide +kernel
theorem hV_X9_fits : yX9_fits.cls = RX9 ∧ yX9_fits.cls ≠ "java/lang/invoke/MethodHandle" ∧ yX9_fits.cls ≠ "java/lang/invoke/VarHandle" ∧ (parseMethodDescriptor yX9_fits.desc).map (fun d => d.parameters.length) = some 2 := by decide +kernel
set_option maxHeartbeats 20000000 in
set_option maxRecDepth 100000 in
theorem G_common (l : Launch) (G : pT) (h0 : Nat) (a : Nat → Nat) (F : Nat → Int32) (R : Nat → Value) (Z : Int64) (B : Nat → Nat → Int32) (J : Nat → Nat → Int64) (K : PK) (w : va_W) (pq : Nat) (dr : Nat) (ml : Nat) (nd : Nat) (x1 : Int32) (x2 : Int32) (g : Nat → Nat → Nat) (hpb : PgB K g (a 1) pq dr ml nd) (hdc : DcR K g dr nd) (hO : OKP G h0 a F R Z B J K w) : PM l G pX0 yX9_common cX9_common 3 (some .int) ({ frames := 4, cells := 0, slots := 0, locals := 104 }) [.ref pq, .int x1, .int x2] w (fun (v : Option Value) (u : va_W × (Int32)) => v = some (.int u.2) ∧ (OKP G h0 a F R Z B J K u.1)) (fun u => u.1) := by
  intro sz
  refine Met.ofW (cc := cX9_common) (maxL := 3) (ret := (some .int)) (by decide) rfl ?_
  intro p e s m args below meth c s₁ B9 hml hv
  obtain ⟨rfl, hsz, hP, hD0, hE, hX⟩ := hv
  have hx := B9.exec
  have hb := B9.bytes
  have hr := B9.returns
  have hts := atoms_spec (ws := Cond.code yX9_common cX9_common 3 (some .int) :: pw) B9.pre
  have hq : ∀ w ∈ pw, w.before _ s = true := fun w h => hts w (List.mem_cons_of_mem _ h)
  have hown : s.vm.findClass RX9 = some m.cls := findClass_of_methodNamed B9.named
  have hlocks := B9.notSynchronized
  subst hsz
  have hD := hD0.self (sz := s.heap.size)
  have hA : ∀ q : Nat, s.heap.size ≤ q → va_A w s.heap.size q := fun q h => Or.inr h
  generalize va_A w s.heap.size = A at hD hE hA ⊢
  have hS : va_S A s.heap s.heap [] := va_S.rf
  have hl := lv_entry ([.ref pq, .int x1, .int x2]) (n := 3) (Nat.le_of_ble_eq_true rfl)
  rw [lg_entry_eq]
  generalize (lg_sl ([.ref pq, .int x1, .int x2]) ++ List.replicate (3 - (lg_sl ([.ref pq, .int x1, .int x2])).length) Slot.unset).toArray = ls at hl ⊢
  have hl : lv_has ls 3 [(0, .ref pq), (1, .int x1), (2, .int x2)] := hl
  have hp1 := hpb.1
  have hp2 := hpb.2.1
  have hp3 := hpb.2.2.1
  have hp4 := hpb.2.2.2.1
  have hp5 := hpb.2.2.2.2.1
  have hp6 := hpb.2.2.2.2.2.1
  have hp8 := hpb.2.2.2.2.2.2.2.1
  have hp9 := hpb.2.2.2.2.2.2.2.2
  refine lv_iload_n hx hb dX9_common_0 rfl (lv_at hl 1 rfl) ?_
  refine lv_iload_n hx hb dX9_common_1 rfl (lv_at hl 2 rfl) ?_
  refine lv_icmp_eq (tgt := 28) hx hb dX9_common_2 (by decide) (fun c1 => ?_) (fun c1 => ?_)
  · refine lv_iload_n hx hb dX9_common_28 rfl (lv_at hl 2 rfl) ?_
    have hO : OKP G h0 a F R Z B J K w := hO.to rfl
    exact W.iret (v := x2) hx hb hr (fun t99 ht99 hW99 => ⟨⟨_, (w, x2), rfl, ⟨rfl, hO⟩, by rw [ht99]; exact hP, hD⟩, hS.F ht99⟩) hS.2.2 dX9_common_29
  · refine lv_iload_n hx hb dX9_common_5 rfl (lv_at hl 1 rfl) ?_
    have hO : OKW G h0 a F R Z B J K.1 (fun q99 x99 => x99 = rep G a K q99) w := hO.to rfl
    refine pc_S0 (G := G) (As := [.int x1]) (rest := []) hx hb hml hown hq hE hX pX0_al hP hD hS hA hl.1 (G_isReference l G h0 a F R Z B J K.1 (fun q99 x99 => x99 = rep G a K q99) w x1 hO) (gS pw_104 pw_105 pw_106 pw_100) hS_X9_isReference rfl (Nat.le_of_ble_eq_true rfl) dX9_common_6 ⟨Nat.le_of_ble_eq_true rfl, Nat.le_of_ble_eq_true rfl⟩ ⟨Nat.le_of_ble_eq_true rfl, Nat.le_of_ble_eq_true rfl⟩ (fun v4 u2 H locs hw3 hP hD hS => ?_)
    obtain ⟨w, r5⟩ := u2
    obtain ⟨hw3, h6, hO⟩ := hw3
    have h6 : r5 ≤ 1 := h6
    obtain rfl : v4 = some (.int (nI r5)) := hw3
    have hO : OKP G h0 a F R Z B J K w := hO.to rfl
    refine W.widen (k := 0) (n := 0) (Nat.le_of_ble_eq_true rfl) (Nat.le_of_ble_eq_true rfl) ?_
    refine W.eq (g2 := F0 m 9 ls [.int (nI r5)]) rfl ?_
    refine lv_if_eq (tgt := 30) hx hb dX9_common_9 (by decide) (fun c7 => ?_) (fun c7 => ?_)
    · have n8 : r5 = 0 := (nI_eq (a := r5) (b := 0) (by omega) (by omega)).mp c7
      refine lv_iload_n hx hb dX9_common_30 rfl (lv_at hl 1 rfl) ?_
      have hO : OKW G h0 a F R Z B J K.1 (fun q99 x99 => x99 = rep G a K q99) w := hO.to rfl
      refine pc_S0 (G := G) (As := [.int x1]) (rest := []) hx hb hml hown hq hE hX pX0_al hP hD hS hA hl.1 (G_isReference l G h0 a F R Z B J K.1 (fun q99 x99 => x99 = rep G a K q99) w x1 hO) (gS pw_104 pw_105 pw_106 pw_100) hS_X9_isReference rfl (Nat.le_of_ble_eq_true rfl) dX9_common_31 ⟨Nat.le_of_ble_eq_true rfl, Nat.le_of_ble_eq_true rfl⟩ ⟨Nat.le_of_ble_eq_true rfl, Nat.le_of_ble_eq_true rfl⟩ (fun v11 u9 H locs hw10 hP hD hS => ?_)
      obtain ⟨w, r12⟩ := u9
      obtain ⟨hw10, h13, hO⟩ := hw10
      have h13 : r12 ≤ 1 := h13
      obtain rfl : v11 = some (.int (nI r12)) := hw10
      have hO : OKP G h0 a F R Z B J K w := hO.to rfl
      refine W.widen (k := 0) (n := 0) (Nat.le_of_ble_eq_true rfl) (Nat.le_of_ble_eq_true rfl) ?_
      refine W.eq (g2 := F0 m 34 ls [.int (nI r12)]) rfl ?_
      refine lv_if_eq (tgt := 57) hx hb dX9_common_34 (by decide) (fun c14 => ?_) (fun c14 => ?_)
      · have n15 : r12 = 0 := (nI_eq (a := r12) (b := 0) (by omega) (by omega)).mp c14
        refine lv_bipush (v := 63) hx hb dX9_common_57 (by decide) ?_
        have hO : OKP G h0 a F R Z B J K w := hO.to rfl
        exact W.iret (v := 63) hx hb hr (fun t99 ht99 hW99 => ⟨⟨_, (w, (63 : Int32)), rfl, ⟨rfl, hO⟩, by rw [ht99]; exact hP, hD⟩, hS.F ht99⟩) hS.2.2 dX9_common_59
      · have n16 : ¬ (r12 = 0) := fun h9 => c14 ((nI_eq (a := r12) (b := 0) (by omega) (by omega)).mpr h9)
        refine lv_iload_n hx hb dX9_common_37 rfl (lv_at hl 2 rfl) ?_
        have hO : OKW G h0 a F R Z B J K.1 (fun q99 x99 => x99 = rep G a K q99) w := hO.to rfl
        refine pc_S0 (G := G) (As := [.int x2]) (rest := []) hx hb hml hown hq hE hX pX0_al hP hD hS hA hl.1 (G_isReference l G h0 a F R Z B J K.1 (fun q99 x99 => x99 = rep G a K q99) w x2 hO) (gS pw_104 pw_105 pw_106 pw_100) hS_X9_isReference rfl (Nat.le_of_ble_eq_true rfl) dX9_common_38 ⟨Nat.le_of_ble_eq_true rfl, Nat.le_of_ble_eq_true rfl⟩ ⟨Nat.le_of_ble_eq_true rfl, Nat.le_of_ble_eq_true rfl⟩ (fun v19 u17 H locs hw18 hP hD hS => ?_)
        obtain ⟨w, r20⟩ := u17
        obtain ⟨hw18, h21, hO⟩ := hw18
        have h21 : r20 ≤ 1 := h21
        obtain rfl : v19 = some (.int (nI r20)) := hw18
        have hO : OKP G h0 a F R Z B J K w := hO.to rfl
        refine W.widen (k := 0) (n := 0) (Nat.le_of_ble_eq_true rfl) (Nat.le_of_ble_eq_true rfl) ?_
        refine W.eq (g2 := F0 m 41 ls [.int (nI r20)]) rfl ?_
        refine lv_if_eq (tgt := 57) hx hb dX9_common_41 (by decide) (fun c22 => ?_) (fun c22 => ?_)
        · have n23 : r20 = 0 := (nI_eq (a := r20) (b := 0) (by omega) (by omega)).mp c22
          refine lv_bipush (v := 63) hx hb dX9_common_57 (by decide) ?_
          have hO : OKP G h0 a F R Z B J K w := hO.to rfl
          exact W.iret (v := 63) hx hb hr (fun t99 ht99 hW99 => ⟨⟨_, (w, (63 : Int32)), rfl, ⟨rfl, hO⟩, by rw [ht99]; exact hP, hD⟩, hS.F ht99⟩) hS.2.2 dX9_common_59
        · have n24 : ¬ (r20 = 0) := fun h9 => c22 ((nI_eq (a := r20) (b := 0) (by omega) (by omega)).mpr h9)
          refine lv_aload_n hx hb dX9_common_44 rfl (lv_at hl 0 rfl) ?_
          refine lv_iload_n hx hb dX9_common_45 rfl (lv_at hl 2 rfl) ?_
          refine lv_iload_n hx hb dX9_common_46 rfl (lv_at hl 1 rfl) ?_
          have hO : OKP G h0 a F R Z B J K w := hO.to rfl
          obtain ⟨qr28, hqr29⟩ := p_recv hO (by rw [hp1]; decide) (rep_7 hp1)
          refine pc_V0 (G := G) (As := [.int x2, .int x1]) (rest := []) hx hb hml hown hq hE hX pX0_al hP hD hS hA hl.1 (G_fits l G h0 a F R Z B J K w pq dr ml nd x2 x1 g hpb hdc hO) (gV pw_136 pw_112 pw_113 pw_106 pw_103) hV_X9_fits qr28 6 hqr29 rfl rfl rfl (Nat.le_of_ble_eq_true rfl) dX9_common_47 ⟨Nat.le_of_ble_eq_true rfl, Nat.le_of_ble_eq_true rfl⟩ ⟨Nat.le_of_ble_eq_true rfl, Nat.le_of_ble_eq_true rfl⟩ (fun v27 u25 H locs hw26 hP hD hS => ?_)
          obtain ⟨w, r30⟩ := u25
          obtain ⟨hw26, h31, hO⟩ := hw26
          have h31 : r30 ≤ 1 := h31
          obtain rfl : v27 = some (.int (nI r30)) := hw26
          have hO : OKP G h0 a F R Z B J K w := hO.to rfl
          refine W.widen (k := 0) (n := 0) (Nat.le_of_ble_eq_true rfl) (Nat.le_of_ble_eq_true rfl) ?_
          refine W.eq (g2 := F0 m 50 ls [.int (nI r30)]) rfl ?_
          refine lv_if_eq (tgt := 57) hx hb dX9_common_50 (by decide) (fun c32 => ?_) (fun c32 => ?_)
          · have n33 : r30 = 0 := (nI_eq (a := r30) (b := 0) (by omega) (by omega)).mp c32
            refine lv_bipush (v := 63) hx hb dX9_common_57 (by decide) ?_
            have hO : OKP G h0 a F R Z B J K w := hO.to rfl
            exact W.iret (v := 63) hx hb hr (fun t99 ht99 hW99 => ⟨⟨_, (w, (63 : Int32)), rfl, ⟨rfl, hO⟩, by rw [ht99]; exact hP, hD⟩, hS.F ht99⟩) hS.2.2 dX9_common_59
          · have n34 : ¬ (r30 = 0) := fun h9 => c32 ((nI_eq (a := r30) (b := 0) (by omega) (by omega)).mpr h9)
            refine lv_iload_n hx hb dX9_common_53 rfl (lv_at hl 1 rfl) ?_
            refine lv_goto (tgt := 59) hx hb dX9_common_54 (by decide) ?_
            have hO : OKP G h0 a F R Z B J K w := hO.to rfl
            exact W.iret (v := x1) hx hb hr (fun t99 ht99 hW99 => ⟨⟨_, (w, x1), rfl, ⟨rfl, hO⟩, by rw [ht99]; exact hP, hD⟩, hS.F ht99⟩) hS.2.2 dX9_common_59
    · have n35 : ¬ (r5 = 0) := fun h9 => c7 ((nI_eq (a := r5) (b := 0) (by omega) (by omega)).mpr h9)
      refine lv_iload_n hx hb dX9_common_12 rfl (lv_at hl 2 rfl) ?_
      have hO : OKW G h0 a F R Z B J K.1 (fun q99 x99 => x99 = rep G a K q99) w := hO.to rfl
      refine pc_S0 (G := G) (As := [.int x2]) (rest := []) hx hb hml hown hq hE hX pX0_al hP hD hS hA hl.1 (G_isReference l G h0 a F R Z B J K.1 (fun q99 x99 => x99 = rep G a K q99) w x2 hO) (gS pw_104 pw_105 pw_106 pw_100) hS_X9_isReference rfl (Nat.le_of_ble_eq_true rfl) dX9_common_13 ⟨Nat.le_of_ble_eq_true rfl, Nat.le_of_ble_eq_true rfl⟩ ⟨Nat.le_of_ble_eq_true rfl, Nat.le_of_ble_eq_true rfl⟩ (fun v38 u36 H locs hw37 hP hD hS => ?_)
      obtain ⟨w, r39⟩ := u36
      obtain ⟨hw37, h40, hO⟩ := hw37
      have h40 : r39 ≤ 1 := h40
      obtain rfl : v38 = some (.int (nI r39)) := hw37
      have hO : OKP G h0 a F R Z B J K w := hO.to rfl
      refine W.widen (k := 0) (n := 0) (Nat.le_of_ble_eq_true rfl) (Nat.le_of_ble_eq_true rfl) ?_
      refine W.eq (g2 := F0 m 16 ls [.int (nI r39)]) rfl ?_
      refine lv_if_eq (tgt := 30) hx hb dX9_common_16 (by decide) (fun c41 => ?_) (fun c41 => ?_)
      · have n42 : r39 = 0 := (nI_eq (a := r39) (b := 0) (by omega) (by omega)).mp c41
        refine lv_iload_n hx hb dX9_common_30 rfl (lv_at hl 1 rfl) ?_
        have hO : OKW G h0 a F R Z B J K.1 (fun q99 x99 => x99 = rep G a K q99) w := hO.to rfl
        refine pc_S0 (G := G) (As := [.int x1]) (rest := []) hx hb hml hown hq hE hX pX0_al hP hD hS hA hl.1 (G_isReference l G h0 a F R Z B J K.1 (fun q99 x99 => x99 = rep G a K q99) w x1 hO) (gS pw_104 pw_105 pw_106 pw_100) hS_X9_isReference rfl (Nat.le_of_ble_eq_true rfl) dX9_common_31 ⟨Nat.le_of_ble_eq_true rfl, Nat.le_of_ble_eq_true rfl⟩ ⟨Nat.le_of_ble_eq_true rfl, Nat.le_of_ble_eq_true rfl⟩ (fun v45 u43 H locs hw44 hP hD hS => ?_)
        obtain ⟨w, r46⟩ := u43
        obtain ⟨hw44, h47, hO⟩ := hw44
        have h47 : r46 ≤ 1 := h47
        obtain rfl : v45 = some (.int (nI r46)) := hw44
        have hO : OKP G h0 a F R Z B J K w := hO.to rfl
        refine W.widen (k := 0) (n := 0) (Nat.le_of_ble_eq_true rfl) (Nat.le_of_ble_eq_true rfl) ?_
        refine W.eq (g2 := F0 m 34 ls [.int (nI r46)]) rfl ?_
        refine lv_if_eq (tgt := 57) hx hb dX9_common_34 (by decide) (fun c48 => ?_) (fun c48 => ?_)
        · have n49 : r46 = 0 := (nI_eq (a := r46) (b := 0) (by omega) (by omega)).mp c48
          refine lv_bipush (v := 63) hx hb dX9_common_57 (by decide) ?_
          have hO : OKP G h0 a F R Z B J K w := hO.to rfl
          exact W.iret (v := 63) hx hb hr (fun t99 ht99 hW99 => ⟨⟨_, (w, (63 : Int32)), rfl, ⟨rfl, hO⟩, by rw [ht99]; exact hP, hD⟩, hS.F ht99⟩) hS.2.2 dX9_common_59
        · have n50 : ¬ (r46 = 0) := fun h9 => c48 ((nI_eq (a := r46) (b := 0) (by omega) (by omega)).mpr h9)
          refine lv_iload_n hx hb dX9_common_37 rfl (lv_at hl 2 rfl) ?_
          have hO : OKW G h0 a F R Z B J K.1 (fun q99 x99 => x99 = rep G a K q99) w := hO.to rfl
          refine pc_S0 (G := G) (As := [.int x2]) (rest := []) hx hb hml hown hq hE hX pX0_al hP hD hS hA hl.1 (G_isReference l G h0 a F R Z B J K.1 (fun q99 x99 => x99 = rep G a K q99) w x2 hO) (gS pw_104 pw_105 pw_106 pw_100) hS_X9_isReference rfl (Nat.le_of_ble_eq_true rfl) dX9_common_38 ⟨Nat.le_of_ble_eq_true rfl, Nat.le_of_ble_eq_true rfl⟩ ⟨Nat.le_of_ble_eq_true rfl, Nat.le_of_ble_eq_true rfl⟩ (fun v53 u51 H locs hw52 hP hD hS => ?_)
          obtain ⟨w, r54⟩ := u51
          obtain ⟨hw52, h55, hO⟩ := hw52
          have h55 : r54 ≤ 1 := h55
          obtain rfl : v53 = some (.int (nI r54)) := hw52
          have hO : OKP G h0 a F R Z B J K w := hO.to rfl
          refine W.widen (k := 0) (n := 0) (Nat.le_of_ble_eq_true rfl) (Nat.le_of_ble_eq_true rfl) ?_
          refine W.eq (g2 := F0 m 41 ls [.int (nI r54)]) rfl ?_
          refine lv_if_eq (tgt := 57) hx hb dX9_common_41 (by decide) (fun c56 => ?_) (fun c56 => ?_)
          · have n57 : r54 = 0 := (nI_eq (a := r54) (b := 0) (by omega) (by omega)).mp c56
            refine lv_bipush (v := 63) hx hb dX9_common_57 (by decide) ?_
            have hO : OKP G h0 a F R Z B J K w := hO.to rfl
            exact W.iret (v := 63) hx hb hr (fun t99 ht99 hW99 => ⟨⟨_, (w, (63 : Int32)), rfl, ⟨rfl, hO⟩, by rw [ht99]; exact hP, hD⟩, hS.F ht99⟩) hS.2.2 dX9_common_59
          · have n58 : ¬ (r54 = 0) := fun h9 => c56 ((nI_eq (a := r54) (b := 0) (by omega) (by omega)).mpr h9)
            refine lv_aload_n hx hb dX9_common_44 rfl (lv_at hl 0 rfl) ?_
            refine lv_iload_n hx hb dX9_common_45 rfl (lv_at hl 2 rfl) ?_
            refine lv_iload_n hx hb dX9_common_46 rfl (lv_at hl 1 rfl) ?_
            have hO : OKP G h0 a F R Z B J K w := hO.to rfl
            obtain ⟨qr62, hqr63⟩ := p_recv hO (by rw [hp1]; decide) (rep_7 hp1)
            refine pc_V0 (G := G) (As := [.int x2, .int x1]) (rest := []) hx hb hml hown hq hE hX pX0_al hP hD hS hA hl.1 (G_fits l G h0 a F R Z B J K w pq dr ml nd x2 x1 g hpb hdc hO) (gV pw_136 pw_112 pw_113 pw_106 pw_103) hV_X9_fits qr62 6 hqr63 rfl rfl rfl (Nat.le_of_ble_eq_true rfl) dX9_common_47 ⟨Nat.le_of_ble_eq_true rfl, Nat.le_of_ble_eq_true rfl⟩ ⟨Nat.le_of_ble_eq_true rfl, Nat.le_of_ble_eq_true rfl⟩ (fun v61 u59 H locs hw60 hP hD hS => ?_)
            obtain ⟨w, r64⟩ := u59
            obtain ⟨hw60, h65, hO⟩ := hw60
            have h65 : r64 ≤ 1 := h65
            obtain rfl : v61 = some (.int (nI r64)) := hw60
            have hO : OKP G h0 a F R Z B J K w := hO.to rfl
            refine W.widen (k := 0) (n := 0) (Nat.le_of_ble_eq_true rfl) (Nat.le_of_ble_eq_true rfl) ?_
            refine W.eq (g2 := F0 m 50 ls [.int (nI r64)]) rfl ?_
            refine lv_if_eq (tgt := 57) hx hb dX9_common_50 (by decide) (fun c66 => ?_) (fun c66 => ?_)
            · have n67 : r64 = 0 := (nI_eq (a := r64) (b := 0) (by omega) (by omega)).mp c66
              refine lv_bipush (v := 63) hx hb dX9_common_57 (by decide) ?_
              have hO : OKP G h0 a F R Z B J K w := hO.to rfl
              exact W.iret (v := 63) hx hb hr (fun t99 ht99 hW99 => ⟨⟨_, (w, (63 : Int32)), rfl, ⟨rfl, hO⟩, by rw [ht99]; exact hP, hD⟩, hS.F ht99⟩) hS.2.2 dX9_common_59
            · have n68 : ¬ (r64 = 0) := fun h9 => c66 ((nI_eq (a := r64) (b := 0) (by omega) (by omega)).mpr h9)
              refine lv_iload_n hx hb dX9_common_53 rfl (lv_at hl 1 rfl) ?_
              refine lv_goto (tgt := 59) hx hb dX9_common_54 (by decide) ?_
              have hO : OKP G h0 a F R Z B J K w := hO.to rfl
              exact W.iret (v := x1) hx hb hr (fun t99 ht99 hW99 => ⟨⟨_, (w, x1), rfl, ⟨rfl, hO⟩, by rw [ht99]; exact hP, hD⟩, hS.F ht99⟩) hS.2.2 dX9_common_59
      · have n69 : ¬ (r39 = 0) := fun h9 => c41 ((nI_eq (a := r39) (b := 0) (by omega) (by omega)).mpr h9)
        refine lv_aload_n hx hb dX9_common_19 rfl (lv_at hl 0 rfl) ?_
        refine lv_iload_n hx hb dX9_common_20 rfl (lv_at hl 1 rfl) ?_
        refine lv_iload_n hx hb dX9_common_21 rfl (lv_at hl 2 rfl) ?_
        have hO : OKP G h0 a F R Z B J K w := hO.to rfl
        obtain ⟨qr73, hqr74⟩ := p_recv hO (by rw [hp1]; decide) (rep_7 hp1)
        refine pc_V0 (G := G) (As := [.int x1, .int x2]) (rest := []) hx hb hml hown hq hE hX pX0_al hP hD hS hA hl.1 (G_fits l G h0 a F R Z B J K w pq dr ml nd x1 x2 g hpb hdc hO) (gV pw_136 pw_112 pw_113 pw_106 pw_103) hV_X9_fits qr73 6 hqr74 rfl rfl rfl (Nat.le_of_ble_eq_true rfl) dX9_common_22 ⟨Nat.le_of_ble_eq_true rfl, Nat.le_of_ble_eq_true rfl⟩ ⟨Nat.le_of_ble_eq_true rfl, Nat.le_of_ble_eq_true rfl⟩ (fun v72 u70 H locs hw71 hP hD hS => ?_)
        obtain ⟨w, r75⟩ := u70
        obtain ⟨hw71, h76, hO⟩ := hw71
        have h76 : r75 ≤ 1 := h76
        obtain rfl : v72 = some (.int (nI r75)) := hw71
        have hO : OKP G h0 a F R Z B J K w := hO.to rfl
        refine W.widen (k := 0) (n := 0) (Nat.le_of_ble_eq_true rfl) (Nat.le_of_ble_eq_true rfl) ?_
        refine W.eq (g2 := F0 m 25 ls [.int (nI r75)]) rfl ?_
        refine lv_if_eq (tgt := 30) hx hb dX9_common_25 (by decide) (fun c77 => ?_) (fun c77 => ?_)
        · have n78 : r75 = 0 := (nI_eq (a := r75) (b := 0) (by omega) (by omega)).mp c77
          refine lv_iload_n hx hb dX9_common_30 rfl (lv_at hl 1 rfl) ?_
          have hO : OKW G h0 a F R Z B J K.1 (fun q99 x99 => x99 = rep G a K q99) w := hO.to rfl
          refine pc_S0 (G := G) (As := [.int x1]) (rest := []) hx hb hml hown hq hE hX pX0_al hP hD hS hA hl.1 (G_isReference l G h0 a F R Z B J K.1 (fun q99 x99 => x99 = rep G a K q99) w x1 hO) (gS pw_104 pw_105 pw_106 pw_100) hS_X9_isReference rfl (Nat.le_of_ble_eq_true rfl) dX9_common_31 ⟨Nat.le_of_ble_eq_true rfl, Nat.le_of_ble_eq_true rfl⟩ ⟨Nat.le_of_ble_eq_true rfl, Nat.le_of_ble_eq_true rfl⟩ (fun v81 u79 H locs hw80 hP hD hS => ?_)
          obtain ⟨w, r82⟩ := u79
          obtain ⟨hw80, h83, hO⟩ := hw80
          have h83 : r82 ≤ 1 := h83
          obtain rfl : v81 = some (.int (nI r82)) := hw80
          have hO : OKP G h0 a F R Z B J K w := hO.to rfl
          refine W.widen (k := 0) (n := 0) (Nat.le_of_ble_eq_true rfl) (Nat.le_of_ble_eq_true rfl) ?_
          refine W.eq (g2 := F0 m 34 ls [.int (nI r82)]) rfl ?_
          refine lv_if_eq (tgt := 57) hx hb dX9_common_34 (by decide) (fun c84 => ?_) (fun c84 => ?_)
          · have n85 : r82 = 0 := (nI_eq (a := r82) (b := 0) (by omega) (by omega)).mp c84
            refine lv_bipush (v := 63) hx hb dX9_common_57 (by decide) ?_
            have hO : OKP G h0 a F R Z B J K w := hO.to rfl
            exact W.iret (v := 63) hx hb hr (fun t99 ht99 hW99 => ⟨⟨_, (w, (63 : Int32)), rfl, ⟨rfl, hO⟩, by rw [ht99]; exact hP, hD⟩, hS.F ht99⟩) hS.2.2 dX9_common_59
          · have n86 : ¬ (r82 = 0) := fun h9 => c84 ((nI_eq (a := r82) (b := 0) (by omega) (by omega)).mpr h9)
            refine lv_iload_n hx hb dX9_common_37 rfl (lv_at hl 2 rfl) ?_
            have hO : OKW G h0 a F R Z B J K.1 (fun q99 x99 => x99 = rep G a K q99) w := hO.to rfl
            refine pc_S0 (G := G) (As := [.int x2]) (rest := []) hx hb hml hown hq hE hX pX0_al hP hD hS hA hl.1 (G_isReference l G h0 a F R Z B J K.1 (fun q99 x99 => x99 = rep G a K q99) w x2 hO) (gS pw_104 pw_105 pw_106 pw_100) hS_X9_isReference rfl (Nat.le_of_ble_eq_true rfl) dX9_common_38 ⟨Nat.le_of_ble_eq_true rfl, Nat.le_of_ble_eq_true rfl⟩ ⟨Nat.le_of_ble_eq_true rfl, Nat.le_of_ble_eq_true rfl⟩ (fun v89 u87 H locs hw88 hP hD hS => ?_)
            obtain ⟨w, r90⟩ := u87
            obtain ⟨hw88, h91, hO⟩ := hw88
            have h91 : r90 ≤ 1 := h91
            obtain rfl : v89 = some (.int (nI r90)) := hw88
            have hO : OKP G h0 a F R Z B J K w := hO.to rfl
            refine W.widen (k := 0) (n := 0) (Nat.le_of_ble_eq_true rfl) (Nat.le_of_ble_eq_true rfl) ?_
            refine W.eq (g2 := F0 m 41 ls [.int (nI r90)]) rfl ?_
            refine lv_if_eq (tgt := 57) hx hb dX9_common_41 (by decide) (fun c92 => ?_) (fun c92 => ?_)
            · have n93 : r90 = 0 := (nI_eq (a := r90) (b := 0) (by omega) (by omega)).mp c92
              refine lv_bipush (v := 63) hx hb dX9_common_57 (by decide) ?_
              have hO : OKP G h0 a F R Z B J K w := hO.to rfl
              exact W.iret (v := 63) hx hb hr (fun t99 ht99 hW99 => ⟨⟨_, (w, (63 : Int32)), rfl, ⟨rfl, hO⟩, by rw [ht99]; exact hP, hD⟩, hS.F ht99⟩) hS.2.2 dX9_common_59
            · have n94 : ¬ (r90 = 0) := fun h9 => c92 ((nI_eq (a := r90) (b := 0) (by omega) (by omega)).mpr h9)
              refine lv_aload_n hx hb dX9_common_44 rfl (lv_at hl 0 rfl) ?_
              refine lv_iload_n hx hb dX9_common_45 rfl (lv_at hl 2 rfl) ?_
              refine lv_iload_n hx hb dX9_common_46 rfl (lv_at hl 1 rfl) ?_
              have hO : OKP G h0 a F R Z B J K w := hO.to rfl
              obtain ⟨qr98, hqr99⟩ := p_recv hO (by rw [hp1]; decide) (rep_7 hp1)
              refine pc_V0 (G := G) (As := [.int x2, .int x1]) (rest := []) hx hb hml hown hq hE hX pX0_al hP hD hS hA hl.1 (G_fits l G h0 a F R Z B J K w pq dr ml nd x2 x1 g hpb hdc hO) (gV pw_136 pw_112 pw_113 pw_106 pw_103) hV_X9_fits qr98 6 hqr99 rfl rfl rfl (Nat.le_of_ble_eq_true rfl) dX9_common_47 ⟨Nat.le_of_ble_eq_true rfl, Nat.le_of_ble_eq_true rfl⟩ ⟨Nat.le_of_ble_eq_true rfl, Nat.le_of_ble_eq_true rfl⟩ (fun v97 u95 H locs hw96 hP hD hS => ?_)
              obtain ⟨w, r100⟩ := u95
              obtain ⟨hw96, h101, hO⟩ := hw96
              have h101 : r100 ≤ 1 := h101
              obtain rfl : v97 = some (.int (nI r100)) := hw96
              have hO : OKP G h0 a F R Z B J K w := hO.to rfl
              refine W.widen (k := 0) (n := 0) (Nat.le_of_ble_eq_true rfl) (Nat.le_of_ble_eq_true rfl) ?_
              refine W.eq (g2 := F0 m 50 ls [.int (nI r100)]) rfl ?_
              refine lv_if_eq (tgt := 57) hx hb dX9_common_50 (by decide) (fun c102 => ?_) (fun c102 => ?_)
              · have n103 : r100 = 0 := (nI_eq (a := r100) (b := 0) (by omega) (by omega)).mp c102
                refine lv_bipush (v := 63) hx hb dX9_common_57 (by decide) ?_
                have hO : OKP G h0 a F R Z B J K w := hO.to rfl
                exact W.iret (v := 63) hx hb hr (fun t99 ht99 hW99 => ⟨⟨_, (w, (63 : Int32)), rfl, ⟨rfl, hO⟩, by rw [ht99]; exact hP, hD⟩, hS.F ht99⟩) hS.2.2 dX9_common_59
              · have n104 : ¬ (r100 = 0) := fun h9 => c102 ((nI_eq (a := r100) (b := 0) (by omega) (by omega)).mpr h9)
                refine lv_iload_n hx hb dX9_common_53 rfl (lv_at hl 1 rfl) ?_
                refine lv_goto (tgt := 59) hx hb dX9_common_54 (by decide) ?_
                have hO : OKP G h0 a F R Z B J K w := hO.to rfl
                exact W.iret (v := x1) hx hb hr (fun t99 ht99 hW99 => ⟨⟨_, (w, x1), rfl, ⟨rfl, hO⟩, by rw [ht99]; exact hP, hD⟩, hS.F ht99⟩) hS.2.2 dX9_common_59
        · have n105 : ¬ (r75 = 0) := fun h9 => c77 ((nI_eq (a := r75) (b := 0) (by omega) (by omega)).mpr h9)
          refine lv_iload_n hx hb dX9_common_28 rfl (lv_at hl 2 rfl) ?_
          have hO : OKP G h0 a F R Z B J K w := hO.to rfl
          exact W.iret (v := x2) hx hb hr (fun t99 ht99 hW99 => ⟨⟨_, (w, x2), rfl, ⟨rfl, hO⟩, by rw [ht99]; exact hP, hD⟩, hS.F ht99⟩) hS.2.2 dX9_common_29
