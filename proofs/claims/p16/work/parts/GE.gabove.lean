def AbQ (K : PK) (dr nd : Nat) (x1 x2 : Int32) (r : Nat) : Prop := ∀ k lo d : Nat, k < nd → lo < nd → x1 = nI k → x2 = nI lo → K.2.2.2.2.1 dr lo = some d → (r = 1 ↔ bitL (K.2.2.2.1 d) k)
section AQ
variable {K : PK} {dr nd k9 k8 d9 r : Nat} {x1 x2 : Int32}
theorem AbQ.no1 (h : ∀ k : Nat, k < nd → ¬ x1 = nI k) : AbQ K dr nd x1 x2 r := fun k _ _ hk _ e _ _ => absurd e (h k hk)
theorem AbQ.no2 (h : ∀ k : Nat, k < nd → ¬ x2 = nI k) : AbQ K dr nd x1 x2 r := fun _ lo _ _ hl _ e _ => absurd e (h lo hl)
theorem AbQ.mk (e1 : x1 = nI k9) (e2 : x2 = nI k8) (h9 : k9 < 2 ^ 31) (h8 : k8 < 2 ^ 31) (hd : K.2.2.2.2.1 dr k8 = some d9) (hb : r = 1 ↔ bitL (K.2.2.2.1 d9) k9) (hnd : nd ≤ 37) : AbQ K dr nd x1 x2 r := fun k lo d hk hl f1 f2 f3 => by
  have z1 : k9 = k := (nI_eq (a := k9) (b := k) h9 (by omega)).mp (e1.symm.trans f1)
  have z2 : k8 = lo := (nI_eq (a := k8) (b := lo) h8 (by omega)).mp (e2.symm.trans f2)
  subst z1; subst z2
  rw [hd] at f3
  cases f3
  exact hb
end AQ
theorem dX9_isAbove_0 : decode cX9_isAbove 0 = .ok (.iload_n 1, 1) := by decide +kernel
theorem dX9_isAbove_1 : decode cX9_isAbove 1 = .ok (.ifCond .lt 45, 3) := by decide +kernel
theorem dX9_isAbove_46 : decode cX9_isAbove 46 = .ok (.iconst 0, 1) := by decide +kernel
theorem dX9_isAbove_47 : decode cX9_isAbove 47 = .ok (.ireturn, 1) := by decide +kernel
theorem dX9_isAbove_4 : decode cX9_isAbove 4 = .ok (.iload_n 1, 1) := by decide +kernel
theorem dX9_isAbove_5 : decode cX9_isAbove 5 = .ok (.aload_n 0, 1) := by decide +kernel
theorem dX9_isAbove_6 : decode cX9_isAbove 6 = .ok (.getfield 33, 3) := by decide +kernel
theorem dX9_isAbove_9 : decode cX9_isAbove 9 = .ok (.if_icmp .ge 37, 3) := by decide +kernel
theorem dX9_isAbove_12 : decode cX9_isAbove 12 = .ok (.iload_n 2, 1) := by decide +kernel
theorem dX9_isAbove_13 : decode cX9_isAbove 13 = .ok (.ifCond .lt 33, 3) := by decide +kernel
theorem dX9_isAbove_16 : decode cX9_isAbove 16 = .ok (.iload_n 2, 1) := by decide +kernel
theorem dX9_isAbove_17 : decode cX9_isAbove 17 = .ok (.aload_n 0, 1) := by decide +kernel
theorem dX9_isAbove_18 : decode cX9_isAbove 18 = .ok (.getfield 33, 3) := by decide +kernel
theorem dX9_isAbove_21 : decode cX9_isAbove 21 = .ok (.if_icmp .ge 25, 3) := by decide +kernel
theorem dX9_isAbove_24 : decode cX9_isAbove 24 = .ok (.aload_n 0, 1) := by decide +kernel
theorem dX9_isAbove_25 : decode cX9_isAbove 25 = .ok (.getfield 17, 3) := by decide +kernel
theorem dX9_isAbove_28 : decode cX9_isAbove 28 = .ok (.iload_n 2, 1) := by decide +kernel
theorem dX9_isAbove_29 : decode cX9_isAbove 29 = .ok (.aaload, 1) := by decide +kernel
theorem dX9_isAbove_30 : decode cX9_isAbove 30 = .ok (.getfield 57, 3) := by decide +kernel
theorem dX9_isAbove_33 : decode cX9_isAbove 33 = .ok (.iload_n 1, 1) := by decide +kernel
theorem dX9_isAbove_34 : decode cX9_isAbove 34 = .ok (.lushr, 1) := by decide +kernel
theorem dX9_isAbove_35 : decode cX9_isAbove 35 = .ok (.lconst 1, 1) := by decide +kernel
theorem dX9_isAbove_36 : decode cX9_isAbove 36 = .ok (.land, 1) := by decide +kernel
theorem dX9_isAbove_37 : decode cX9_isAbove 37 = .ok (.lconst 1, 1) := by decide +kernel
theorem dX9_isAbove_38 : decode cX9_isAbove 38 = .ok (.lcmp, 1) := by decide +kernel
theorem dX9_isAbove_39 : decode cX9_isAbove 39 = .ok (.ifCond .ne 7, 3) := by decide +kernel
theorem dX9_isAbove_42 : decode cX9_isAbove 42 = .ok (.iconst 1, 1) := by decide +kernel
theorem dX9_isAbove_43 : decode cX9_isAbove 43 = .ok (.goto 4, 3) := by decide +kernel
set_option maxHeartbeats 6000000 in
set_option maxRecDepth 100000 in
theorem G_isAbove (l : Launch) (G : pT) (h0 : Nat) (a : Nat → Nat) (F : Nat → Int32) (R : Nat → Value) (Z : Int64) (B : Nat → Nat → Int32) (J : Nat → Nat → Int64) (K : PK) (w : va_W) (pq : Nat) (dr : Nat) (ml : Nat) (nd : Nat) (x1 : Int32) (x2 : Int32) (g : Nat → Nat → Nat) (hpb : PgB K g (a 1) pq dr ml nd) (hdc : DcR K g dr nd) (hO : OKP G h0 a F R Z B J K w) : PM l G pX0 yX9_isAbove cX9_isAbove 3 (some .boolean) ({ frames := 2, cells := 0, slots := 0, locals := 60 }) [.ref pq, .int x1, .int x2] w (fun (v : Option Value) (u : va_W × (Nat)) => v = some (.int (nI u.2)) ∧ (u.2 ≤ 1) ∧ (AbQ K dr nd x1 x2 u.2) ∧ (OKP G h0 a F R Z B J K u.1)) (fun u => u.1) := by
  intro sz
  refine Met.ofW (cc := cX9_isAbove) (maxL := 3) (ret := (some .boolean)) (by decide) rfl ?_
  intro p e s m args below meth c s₁ B9 hml hv
  obtain ⟨rfl, hsz, hP, hD0, hE, hX⟩ := hv
  have hx := B9.exec
  have hb := B9.bytes
  have hr := B9.returns
  have hts := atoms_spec (ws := Cond.code yX9_isAbove cX9_isAbove 3 (some .boolean) :: pw) B9.pre
  have hq : ∀ w ∈ pw, w.before _ s = true := fun w h => hts w (List.mem_cons_of_mem _ h)
  have hown : s.vm.findClass RX9 = some m.cls := findClass_of_methodNamed B9.named
  have hlocks := B9.notSynchronized
  subst hsz
  have hD := hD0.self (sz := s.heap.size)
  have hA : ∀ q : Nat, s.heap.size ≤ q → va_A w s.heap.size q := fun q h => Or.inr h
  generalize va_A w s.heap.size = A at hD hE hA ⊢
  have hS : va_S A s.heap s.heap [] := va_S.rf
  have hl := lv_entry ([.ref pq, .int x1, .int x2]) (n := 3) (Nat.le_of_ble_eq_true rfl)
  rw [lg_entry_eq]
  generalize (lg_sl ([.ref pq, .int x1, .int x2]) ++ List.replicate (3 - (lg_sl ([.ref pq, .int x1, .int x2])).length) Slot.unset).toArray = ls at hl ⊢
  have hl : lv_has ls 3 [(0, .ref pq), (1, .int x1), (2, .int x2)] := hl
  have hp1 := hpb.1
  have hp2 := hpb.2.1
  have hp3 := hpb.2.2.1
  have hp4 := hpb.2.2.2.1
  have hp5 := hpb.2.2.2.2.1
  have hp6 := hpb.2.2.2.2.2.1
  have hp8 := hpb.2.2.2.2.2.2.2.1
  have hp9 := hpb.2.2.2.2.2.2.2.2
  refine lv_iload_n hx hb dX9_isAbove_0 rfl (lv_at hl 1 rfl) ?_
  refine lv_if_lt (tgt := 46) hx hb dX9_isAbove_1 (by decide) (fun c1 => ?_) (fun c1 => ?_)
  · refine lv_iconst (v := 0) hx hb dX9_isAbove_46 (by decide) ?_
    have hz2 : 0 ≤ 1 := (by omega)
    have hz3 : AbQ K dr nd x1 x2 0 := (AbQ.no1 (fun k hk e => by rw [e] at c1; exact nI_pos (by omega) c1))
    have hO : OKP G h0 a F R Z B J K w := hO.to rfl
    exact W.zret (v := 0) hx hb hr rfl (fun t99 ht99 hW99 => ⟨⟨_, (w, 0), rfl, ⟨rfl, hz2, hz3, hO⟩, by rw [ht99]; exact hP, hD⟩, hS.F ht99⟩) hS.2.2 dX9_isAbove_47
  · obtain ⟨k9, ht_k9, hb_k9⟩ := nI_nn2 c1
    rw [ht_k9] at hl
    refine lv_iload_n hx hb dX9_isAbove_4 rfl (lv_at hl 1 rfl) ?_
    refine lv_aload_n hx hb dX9_isAbove_5 rfl (lv_at hl 0 rfl) ?_
    refine p_get (v := .int (nI nd)) (C := RX9) (Tc := TX9) (N := 5) (ci := 6) hx hb hq pin_wsX90 hown hE hP hO (by rw [hp1]; decide) (rep_7 hp1) rfl 2 (by decide) (hq _ pw_14) (fun _ h9 => h9) (congrArg (fun z => some (Value.int z)) hp8) dX9_isAbove_6 ?_
    refine lv_icmp_ge (tgt := 46) hx hb dX9_isAbove_9 (by decide) (fun c4 => ?_) (fun c4 => ?_)
    · have n5 : nd ≤ k9 := (nI_leI (a := nd) (b := k9) (by omega) (by omega)).mp c4
      refine lv_iconst (v := 0) hx hb dX9_isAbove_46 (by decide) ?_
      have hz6 : 0 ≤ 1 := (by omega)
      have hz7 : AbQ K dr nd x1 x2 0 := (AbQ.no1 (fun k hk e => by have z := (nI_eq (a := k9) (b := k) (by omega) (by omega)).mp (ht_k9.symm.trans e); omega))
      have hO : OKP G h0 a F R Z B J K w := hO.to rfl
      exact W.zret (v := 0) hx hb hr rfl (fun t99 ht99 hW99 => ⟨⟨_, (w, 0), rfl, ⟨rfl, hz6, hz7, hO⟩, by rw [ht99]; exact hP, hD⟩, hS.F ht99⟩) hS.2.2 dX9_isAbove_47
    · have n8 : ¬ (nd ≤ k9) := fun h9 => c4 ((nI_leI (a := nd) (b := k9) (by omega) (by omega)).mpr h9)
      refine lv_iload_n hx hb dX9_isAbove_12 rfl (lv_at hl 2 rfl) ?_
      refine lv_if_lt (tgt := 46) hx hb dX9_isAbove_13 (by decide) (fun c9 => ?_) (fun c9 => ?_)
      · refine lv_iconst (v := 0) hx hb dX9_isAbove_46 (by decide) ?_
        have hz10 : 0 ≤ 1 := (by omega)
        have hz11 : AbQ K dr nd x1 x2 0 := (AbQ.no2 (fun k hk e => by rw [e] at c9; exact nI_pos (by omega) c9))
        have hO : OKP G h0 a F R Z B J K w := hO.to rfl
        exact W.zret (v := 0) hx hb hr rfl (fun t99 ht99 hW99 => ⟨⟨_, (w, 0), rfl, ⟨rfl, hz10, hz11, hO⟩, by rw [ht99]; exact hP, hD⟩, hS.F ht99⟩) hS.2.2 dX9_isAbove_47
      · obtain ⟨k8, ht_k8, hb_k8⟩ := nI_nn2 c9
        rw [ht_k8] at hl
        refine lv_iload_n hx hb dX9_isAbove_16 rfl (lv_at hl 2 rfl) ?_
        refine lv_aload_n hx hb dX9_isAbove_17 rfl (lv_at hl 0 rfl) ?_
        refine p_get (v := .int (nI nd)) (C := RX9) (Tc := TX9) (N := 5) (ci := 6) hx hb hq pin_wsX90 hown hE hP hO (by rw [hp1]; decide) (rep_7 hp1) rfl 2 (by decide) (hq _ pw_14) (fun _ h9 => h9) (congrArg (fun z => some (Value.int z)) hp8) dX9_isAbove_18 ?_
        refine lv_icmp_ge (tgt := 46) hx hb dX9_isAbove_21 (by decide) (fun c12 => ?_) (fun c12 => ?_)
        · have n13 : nd ≤ k8 := (nI_leI (a := nd) (b := k8) (by omega) (by omega)).mp c12
          refine lv_iconst (v := 0) hx hb dX9_isAbove_46 (by decide) ?_
          have hz14 : 0 ≤ 1 := (by omega)
          have hz15 : AbQ K dr nd x1 x2 0 := (AbQ.no2 (fun k hk e => by have z := (nI_eq (a := k8) (b := k) (by omega) (by omega)).mp (ht_k8.symm.trans e); omega))
          have hO : OKP G h0 a F R Z B J K w := hO.to rfl
          exact W.zret (v := 0) hx hb hr rfl (fun t99 ht99 hW99 => ⟨⟨_, (w, 0), rfl, ⟨rfl, hz14, hz15, hO⟩, by rw [ht99]; exact hP, hD⟩, hS.F ht99⟩) hS.2.2 dX9_isAbove_47
        · have n16 : ¬ (nd ≤ k8) := fun h9 => c12 ((nI_leI (a := nd) (b := k8) (by omega) (by omega)).mpr h9)
          refine lv_aload_n hx hb dX9_isAbove_24 rfl (lv_at hl 0 rfl) ?_
          refine p_get (v := .ref dr) (C := RX9) (Tc := TX9) (N := 5) (ci := 6) hx hb hq pin_wsX90 hown hE hP hO (by rw [hp1]; decide) (rep_7 hp1) rfl 1 (by decide) (hq _ pw_15) (fun _ h9 => h9) (congrArg (fun z => some (va_rf z)) hp3) dX9_isAbove_25 ?_
          refine lv_iload_n hx hb dX9_isAbove_28 rfl (lv_at hl 2 rfl) ?_
          refine p_ald8 hx hb hE hP hO hp4 (vp_in_nI (by omega) (by omega)) dX9_isAbove_29 ?_
          rw [nI_clamp (show k8 < 2 ^ 31 by omega)]
          obtain ⟨d17, hd18, hd19, hd20, hd21⟩ := hdc k8 (by omega)
          rw [hd18]
          refine W.eq (g2 := F0 m 30 ls [.ref d17]) rfl ?_
          refine p_get (v := .long (K.2.2.2.1 d17)) (C := RX2) (Tc := TX2) (N := 13) (ci := 2) hx hb hq pin_wsX20 hown hE hP hO (by rw [hd19]; decide) (rep_4 hd19) rfl 10 (by decide) (hq _ pw_102) (fun _ h9 => h9) rfl dX9_isAbove_30 ?_
          refine lv_iload_n hx hb dX9_isAbove_33 rfl (lv_at hl 1 rfl) ?_
          refine lv_lushr hx hb dX9_isAbove_34 rfl ?_
          refine lv_topl (fun x22 e23 => ?_)
          refine lv_lconst (v := 1) hx hb dX9_isAbove_35 (by decide) ?_
          refine lv_land hx hb dX9_isAbove_36 ?_
          refine lv_topl (fun x24 e25 => ?_)
          refine lv_lconst (v := 1) hx hb dX9_isAbove_37 (by decide) ?_
          refine W.lcmp hx hb dX9_isAbove_38 ?_
          refine lv_topi (fun x26 e27 => ?_)
          refine lv_if_ne (tgt := 46) hx hb dX9_isAbove_39 (by decide) (fun c28 => ?_) (fun c28 => ?_)
          · have hbt : ¬ bitL (K.2.2.2.1 d17) k9 := fun z => c28 (e27.trans ((lg_cmp_eq _ _).mpr (by rw [e25, e23]; exact (bitL_test (by omega)).mpr z)))
            refine lv_iconst (v := 0) hx hb dX9_isAbove_46 (by decide) ?_
            have hz29 : 0 ≤ 1 := (by omega)
            have hz30 : AbQ K dr nd x1 x2 0 := (AbQ.mk ht_k9 ht_k8 (by omega) (by omega) hd18 ⟨fun z => absurd z (by decide), fun z => absurd z hbt⟩ (by omega))
            have hO : OKP G h0 a F R Z B J K w := hO.to rfl
            exact W.zret (v := 0) hx hb hr rfl (fun t99 ht99 hW99 => ⟨⟨_, (w, 0), rfl, ⟨rfl, hz29, hz30, hO⟩, by rw [ht99]; exact hP, hD⟩, hS.F ht99⟩) hS.2.2 dX9_isAbove_47
          · have hbt : bitL (K.2.2.2.1 d17) k9 := (bitL_test (by omega)).mp (by rw [← e23, ← e25]; exact (lg_cmp_eq _ _).mp (e27.symm.trans c28))
            refine lv_iconst (v := 1) hx hb dX9_isAbove_42 (by decide) ?_
            refine lv_goto (tgt := 47) hx hb dX9_isAbove_43 (by decide) ?_
            have hz31 : 1 ≤ 1 := (by omega)
            have hz32 : AbQ K dr nd x1 x2 1 := (AbQ.mk ht_k9 ht_k8 (by omega) (by omega) hd18 ⟨fun _ => hbt, fun _ => rfl⟩ (by omega))
            have hO : OKP G h0 a F R Z B J K w := hO.to rfl
            exact W.zret (v := 1) hx hb hr rfl (fun t99 ht99 hW99 => ⟨⟨_, (w, 1), rfl, ⟨rfl, hz31, hz32, hO⟩, by rw [ht99]; exact hP, hD⟩, hS.F ht99⟩) hS.2.2 dX9_isAbove_47
theorem dX9_isReference_0 : decode cX9_isReference 0 = .ok (.iload_n 0, 1) := by decide +kernel
theorem dX9_isReference_1 : decode cX9_isReference 1 = .ok (.bipush 60, 2) := by decide +kernel
theorem dX9_isReference_3 : decode cX9_isReference 3 = .ok (.if_icmp .eq 19, 3) := by decide +kernel
theorem dX9_isReference_22 : decode cX9_isReference 22 = .ok (.iconst 0, 1) := by decide +kernel
theorem dX9_isReference_23 : decode cX9_isReference 23 = .ok (.ireturn, 1) := by decide +kernel
theorem dX9_isReference_6 : decode cX9_isReference 6 = .ok (.iload_n 0, 1) := by decide +kernel
theorem dX9_isReference_7 : decode cX9_isReference 7 = .ok (.bipush 61, 2) := by decide +kernel
theorem dX9_isReference_9 : decode cX9_isReference 9 = .ok (.if_icmp .eq 13, 3) := by decide +kernel
theorem dX9_isReference_12 : decode cX9_isReference 12 = .ok (.iload_n 0, 1) := by decide +kernel
theorem dX9_isReference_13 : decode cX9_isReference 13 = .ok (.bipush 63, 2) := by decide +kernel
theorem dX9_isReference_15 : decode cX9_isReference 15 = .ok (.if_icmp .eq 7, 3) := by decide +kernel
theorem dX9_isReference_18 : decode cX9_isReference 18 = .ok (.iconst 1, 1) := by decide +kernel
theorem dX9_isReference_19 : decode cX9_isReference 19 = .ok (.goto 4, 3) := by decide +kernel
theorem dX9_fits_0 : decode cX9_fits 0 = .ok (.iload_n 1, 1) := by decide +kernel
theorem dX9_fits_1 : decode cX9_fits 1 = .ok (.bipush 63, 2) := by decide +kernel
theorem dX9_fits_3 : decode cX9_fits 3 = .ok (.if_icmp .eq 9, 3) := by decide +kernel
theorem dX9_fits_12 : decode cX9_fits 12 = .ok (.iconst 0, 1) := by decide +kernel
theorem dX9_fits_13 : decode cX9_fits 13 = .ok (.ireturn, 1) := by decide +kernel
theorem dX9_fits_6 : decode cX9_fits 6 = .ok (.iload_n 2, 1) := by decide +kernel
theorem dX9_fits_7 : decode cX9_fits 7 = .ok (.bipush 63, 2) := by decide +kernel
theorem dX9_fits_9 : decode cX9_fits 9 = .ok (.if_icmp .ne 5, 3) := by decide +kernel
theorem dX9_fits_14 : decode cX9_fits 14 = .ok (.iload_n 1, 1) := by decide +kernel
theorem dX9_fits_15 : decode cX9_fits 15 = .ok (.iload_n 2, 1) := by decide +kernel
theorem dX9_fits_16 : decode cX9_fits 16 = .ok (.if_icmp .ne 5, 3) := by decide +kernel
theorem dX9_fits_21 : decode cX9_fits 21 = .ok (.iload_n 1, 1) := by decide +kernel
theorem dX9_fits_22 : decode cX9_fits 22 = .ok (.bipush 62, 2) := by decide +kernel
theorem dX9_fits_24 : decode cX9_fits 24 = .ok (.if_icmp .eq 7, 3) := by decide +kernel
theorem dX9_fits_31 : decode cX9_fits 31 = .ok (.iload_n 1, 1) := by decide +kernel
theorem dX9_fits_32 : decode cX9_fits 32 = .ok (.invokestatic 61, 3) := by decide +kernel
theorem dX9_fits_35 : decode cX9_fits 35 = .ok (.ifCond .eq 14, 3) := by decide +kernel
theorem dX9_fits_49 : decode cX9_fits 49 = .ok (.iconst 0, 1) := by decide +kernel
theorem dX9_fits_50 : decode cX9_fits 50 = .ok (.ireturn, 1) := by decide +kernel
theorem dX9_fits_38 : decode cX9_fits 38 = .ok (.iload_n 2, 1) := by decide +kernel
theorem dX9_fits_39 : decode cX9_fits 39 = .ok (.invokestatic 61, 3) := by decide +kernel
theorem dX9_fits_42 : decode cX9_fits 42 = .ok (.ifCond .eq 7, 3) := by decide +kernel
theorem dX9_fits_45 : decode cX9_fits 45 = .ok (.iconst 1, 1) := by decide +kernel
theorem dX9_fits_46 : decode cX9_fits 46 = .ok (.goto 4, 3) := by decide +kernel
theorem dX9_fits_27 : decode cX9_fits 27 = .ok (.iload_n 2, 1) := by decide +kernel
theorem dX9_fits_28 : decode cX9_fits 28 = .ok (.ifCond .ne 23, 3) := by decide +kernel
theorem dX9_fits_51 : decode cX9_fits 51 = .ok (.iload_n 1, 1) := by decide +kernel
theorem dX9_fits_52 : decode cX9_fits 52 = .ok (.bipush 64, 2) := by decide +kernel
theorem dX9_fits_54 : decode cX9_fits 54 = .ok (.if_icmp .lt 22, 3) := by decide +kernel
theorem dX9_fits_76 : decode cX9_fits 76 = .ok (.aload_n 0, 1) := by decide +kernel
theorem dX9_fits_77 : decode cX9_fits 77 = .ok (.iload_n 2, 1) := by decide +kernel
theorem dX9_fits_78 : decode cX9_fits 78 = .ok (.iload_n 1, 1) := by decide +kernel
theorem dX9_fits_79 : decode cX9_fits 79 = .ok (.invokevirtual 65, 3) := by decide +kernel
theorem dX9_fits_82 : decode cX9_fits 82 = .ok (.ireturn, 1) := by decide +kernel
theorem dX9_fits_57 : decode cX9_fits 57 = .ok (.iload_n 2, 1) := by decide +kernel
theorem dX9_fits_58 : decode cX9_fits 58 = .ok (.bipush 64, 2) := by decide +kernel
theorem dX9_fits_60 : decode cX9_fits 60 = .ok (.if_icmp .lt 16, 3) := by decide +kernel
theorem dX9_fits_63 : decode cX9_fits 63 = .ok (.aload_n 0, 1) := by decide +kernel
theorem dX9_fits_64 : decode cX9_fits 64 = .ok (.iload_n 2, 1) := by decide +kernel
theorem dX9_fits_65 : decode cX9_fits 65 = .ok (.bipush 64, 2) := by decide +kernel
theorem dX9_fits_67 : decode cX9_fits 67 = .ok (.isub, 1) := by decide +kernel
theorem dX9_fits_68 : decode cX9_fits 68 = .ok (.iload_n 1, 1) := by decide +kernel
theorem dX9_fits_69 : decode cX9_fits 69 = .ok (.bipush 64, 2) := by decide +kernel
theorem dX9_fits_71 : decode cX9_fits 71 = .ok (.isub, 1) := by decide +kernel
theorem dX9_fits_72 : decode cX9_fits 72 = .ok (.invokevirtual 65, 3) := by decide +kernel
theorem dX9_fits_75 : decode cX9_fits 75 = .ok (.ireturn, 1) := by decide +kernel
theorem dX9_fits_19 : decode cX9_fits 19 = .ok (.iconst 1, 1) := by decide +kernel
theorem dX9_fits_20 : decode cX9_fits 20 = .ok (.ireturn, 1) := by decide +kernel
theorem hS_X9_isReference : yX9_isReference.cls ≠ "java/lang/invoke/MethodHandle" ∧ yX9_isReference.cls ≠ "java/lang/invoke/VarHandle" ∧ (parseMethodDescriptor yX9_isReference.desc).map (fun d => d.parameters.length) = some 1 := by decide +kernel
theorem hV_X9_isAbove : yX9_isAbove.cls = RX9 ∧ yX9_isAbove.cls ≠ "java/lang/invoke/MethodHandle" ∧ yX9_isAbove.cls ≠ "java/lang/invoke/VarHandle" ∧ (parseMethodDescriptor yX9_isAbove.desc).map (fun d => d.parameters.length) = some 2 := by decide +kernel
theorem dX9_common_0 : decode cX9_common 0 = .ok (.iload_n 1, 1) := by decide +kernel
theorem dX9_common_1 : decode cX9_common 1 = .ok (.iload_n 2, 1) := by decide +kernel
theorem dX9_common_2 : decode cX9_common 2 = .ok (.if_icmp .eq 26, 3) := by decide +kernel
theorem dX9_common_28 : decode cX9_common 28 = .ok (.iload_n 2, 1) := by decide +kernel
theorem dX9_common_29 : decode cX9_common 29 = .ok (.ireturn, 1) := by decide +kernel
theorem dX9_common_5 : decode cX9_common 5 = .ok (.iload_n 1, 1) := by decide +kernel
theorem dX9_common_6 : decode cX9_common 6 = .ok (.invokestatic 61, 3) := by decide +kernel
theorem dX9_common_9 : decode cX9_common 9 = .ok (.ifCond .eq 21, 3) := by decide +kernel
theorem dX9_common_30 : decode cX9_common 30 = .ok (.iload_n 1, 1) := by decide +kernel
theorem dX9_common_31 : decode cX9_common 31 = .ok (.invokestatic 61, 3) := by decide +kernel
theorem dX9_common_34 : decode cX9_common 34 = .ok (.ifCond .eq 23, 3) := by decide +kernel
theorem dX9_common_57 : decode cX9_common 57 = .ok (.bipush 63, 2) := by decide +kernel
theorem dX9_common_59 : decode cX9_common 59 = .ok (.ireturn, 1) := by decide +kernel
theorem dX9_common_37 : decode cX9_common 37 = .ok (.iload_n 2, 1) := by decide +kernel
theorem dX9_common_38 : decode cX9_common 38 = .ok (.invokestatic 61, 3) := by decide +kernel
theorem dX9_common_41 : decode cX9_common 41 = .ok (.ifCond .eq 16, 3) := by decide +kernel
theorem dX9_common_44 : decode cX9_common 44 = .ok (.aload_n 0, 1) := by decide +kernel
theorem dX9_common_45 : decode cX9_common 45 = .ok (.iload_n 2, 1) := by decide +kernel
theorem dX9_common_46 : decode cX9_common 46 = .ok (.iload_n 1, 1) := by decide +kernel
theorem dX9_common_47 : decode cX9_common 47 = .ok (.invokevirtual 69, 3) := by decide +kernel
theorem dX9_common_50 : decode cX9_common 50 = .ok (.ifCond .eq 7, 3) := by decide +kernel
theorem dX9_common_53 : decode cX9_common 53 = .ok (.iload_n 1, 1) := by decide +kernel
theorem dX9_common_54 : decode cX9_common 54 = .ok (.goto 5, 3) := by decide +kernel
theorem dX9_common_12 : decode cX9_common 12 = .ok (.iload_n 2, 1) := by decide +kernel
theorem dX9_common_13 : decode cX9_common 13 = .ok (.invokestatic 61, 3) := by decide +kernel
theorem dX9_common_16 : decode cX9_common 16 = .ok (.ifCond .eq 14, 3) := by decide +kernel
theorem dX9_common_19 : decode cX9_common 19 = .ok (.aload_n 0, 1) := by decide +kernel
theorem dX9_common_20 : decode cX9_common 20 = .ok (.iload_n 1, 1) := by decide +kernel
theorem dX9_common_21 : decode cX9_common 21 = .ok (.iload_n 2, 1) := by decide +kernel
theorem dX9_common_22 : decode cX9_common 22 = .ok (.invokevirtual 69, 3) := by decide +kernel
theorem dX9_common_25 : decode cX9_common 25 = .ok (.ifCond .eq 5, 3) := by decide +kernel
theorem hV_X9_fits : yX9_fits.cls = RX9 ∧ yX9_fits.cls ≠ "java/lang/invoke/MethodHandle" ∧ yX9_fits.cls ≠ "java/lang/invoke/VarHandle" ∧ (parseMethodDescriptor yX9_fits.desc).map (fun d => d.parameters.length) = some 2 := by decide +kernel