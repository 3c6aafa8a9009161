set_option maxHeartbeats 6000000 in
set_option maxRecDepth 100000 in
theorem N_decl (l : Launch) (G : pT) (h0 : Nat) (a : Nat → Nat) (F : Nat → Int32) (R : Nat → Value) (Z : Int64) (B : Nat → Nat → Int32) (J : Nat → Nat → Int64) (K : PK) (w : va_W) (pq : Nat) (dr : Nat) (ml : Nat) (nd : Nat) (x : Int32) (g : Nat → Nat → Nat) (hpb : PgB K g (a 1) pq dr ml nd) (hdc : DcR K g dr nd) (hO : OKP G h0 a F R Z B J K w) : PM l G pX0 yX9_decl cX9_decl 2 (some (.object "JinjaTongue$Decl")) ({ frames := 2, cells := 0, slots := 0, locals := 60 }) [.ref pq, .int x] w (fun (v : Option Value) (u : va_W × (Option Nat)) => v = some ((va_rf u.2)) ∧ (DoN K u.2) ∧ (DoK K dr nd x u.2) ∧ (DoA K dr nd x u.2) ∧ (OKP G h0 a F R Z B J K u.1)) (fun u => u.1) := by
  intro sz
  refine Met.ofW (cc := cX9_decl) (maxL := 2) (ret := (some (.object "JinjaTongue$Decl"))) (by decide) rfl ?_
  intro p e s m args below meth c s₁ B9 hml hv
  obtain ⟨rfl, hsz, hP, hD0, hE, hX⟩ := hv
  have hx := B9.exec
  have hb := B9.bytes
  have hr := B9.returns
  have hts := atoms_spec (ws := Cond.code yX9_decl cX9_decl 2 (some (.object "JinjaTongue$Decl")) :: pw) B9.pre
  have hq : ∀ w ∈ pw, w.before _ s = true := fun w h => hts w (List.mem_cons_of_mem _ h)
  have hown : s.vm.findClass RX9 = some m.cls := findClass_of_methodNamed B9.named
  have hlocks := B9.notSynchronized
  subst hsz
  have hD := hD0.self (sz := s.heap.size)
  have hA : ∀ q : Nat, s.heap.size ≤ q → va_A w s.heap.size q := fun q h => Or.inr h
  generalize va_A w s.heap.size = A at hD hE hA ⊢
  have hS : va_S A s.heap s.heap [] := va_S.rf
  have hl := lv_entry ([.ref pq, .int x]) (n := 2) (Nat.le_of_ble_eq_true rfl)
  rw [lg_entry_eq]
  generalize (lg_sl ([.ref pq, .int x]) ++ List.replicate (2 - (lg_sl ([.ref pq, .int x])).length) Slot.unset).toArray = ls at hl ⊢
  have hl : lv_has ls 2 [(0, .ref pq), (1, .int x)] := hl
  have hp1 := hpb.1
  have hp2 := hpb.2.1
  have hp3 := hpb.2.2.1
  have hp4 := hpb.2.2.2.1
  have hp5 := hpb.2.2.2.2.1
  have hp6 := hpb.2.2.2.2.2.1
  have hp8 := hpb.2.2.2.2.2.2.2.1
  have hp9 := hpb.2.2.2.2.2.2.2.2
  refine lv_iload_n hx hb dX9_decl_0 rfl (lv_at hl 1 rfl) ?_
  refine lv_if_lt (tgt := 21) hx hb dX9_decl_1 (by decide) (fun c1 => ?_) (fun c1 => ?_)
  · refine lv_null hx hb dX9_decl_21 ?_
    have hz2 : DoN K none := (fun d h => by cases h)
    have hz3 : DoK K dr nd x none := (fun d h => by cases h)
    have hz4 : DoA K dr nd x none := (fun k e hk hx _ => absurd (show nI k < 0 by rw [← hx]; exact c1) (nI_pos (by omega)))
    have hO : OKP G h0 a F R Z B J K w := hO.to rfl
    exact W.aret (v := .null) hx hb hr (Or.inl ⟨_, rfl⟩) (Or.inl rfl) (fun t99 ht99 hW99 => ⟨⟨_, (w, none), rfl, ⟨rfl, hz2, hz3, hz4, hO⟩, by rw [ht99]; exact hP, hD⟩, hS.F ht99⟩) hS.2.2 dX9_decl_22
  · obtain ⟨k9, ht_k9, hb_k9⟩ := nI_nn2 c1
    rw [ht_k9] at hl
    refine lv_iload_n hx hb dX9_decl_4 rfl (lv_at hl 1 rfl) ?_
    refine lv_aload_n hx hb dX9_decl_5 rfl (lv_at hl 0 rfl) ?_
    refine p_get (v := .int (nI nd)) (C := RX9) (Tc := TX9) (N := 5) (ci := 6) hx hb hq pin_wsX90 hown hE hP hO (by rw [hp1]; decide) (rep_7 hp1) rfl 2 (by decide) (hq _ pw_14) (fun _ h9 => h9) (congrArg (fun z => some (Value.int z)) hp8) dX9_decl_6 ?_
    refine lv_icmp_ge (tgt := 21) hx hb dX9_decl_9 (by decide) (fun c5 => ?_) (fun c5 => ?_)
    · have n6 : nd ≤ k9 := (nI_leI (a := nd) (b := k9) (by omega) (by omega)).mp c5
      refine lv_null hx hb dX9_decl_21 ?_
      have hz7 : DoN K none := (fun d h => by cases h)
      have hz8 : DoK K dr nd x none := (fun d h => by cases h)
      have hz9 : DoA K dr nd x none := (fun k e hk hx _ => absurd ((nI_eq (a := k9) (b := k) (by omega) (by omega)).mp (ht_k9.symm.trans hx)) (by omega))
      have hO : OKP G h0 a F R Z B J K w := hO.to rfl
      exact W.aret (v := .null) hx hb hr (Or.inl ⟨_, rfl⟩) (Or.inl rfl) (fun t99 ht99 hW99 => ⟨⟨_, (w, none), rfl, ⟨rfl, hz7, hz8, hz9, hO⟩, by rw [ht99]; exact hP, hD⟩, hS.F ht99⟩) hS.2.2 dX9_decl_22
    · have n10 : ¬ (nd ≤ k9) := fun h9 => c5 ((nI_leI (a := nd) (b := k9) (by omega) (by omega)).mpr h9)
      refine lv_aload_n hx hb dX9_decl_12 rfl (lv_at hl 0 rfl) ?_
      refine p_get (v := .ref dr) (C := RX9) (Tc := TX9) (N := 5) (ci := 6) hx hb hq pin_wsX90 hown hE hP hO (by rw [hp1]; decide) (rep_7 hp1) rfl 1 (by decide) (hq _ pw_15) (fun _ h9 => h9) (congrArg (fun z => some (va_rf z)) hp3) dX9_decl_13 ?_
      refine lv_iload_n hx hb dX9_decl_16 rfl (lv_at hl 1 rfl) ?_
      refine p_ald8 hx hb hE hP hO hp4 (vp_in_nI (by omega) (by omega)) dX9_decl_17 ?_
      rw [nI_clamp (show k9 < 2 ^ 31 by omega)]
      obtain ⟨d11, hd12, hd13, hd14, hd15⟩ := hdc k9 (by omega)
      rw [hd12]
      refine W.eq (g2 := F0 m 18 ls [.ref d11]) rfl ?_
      refine lv_goto (tgt := 22) hx hb dX9_decl_18 (by decide) ?_
      have hz16 : DoN K (some d11) := (fun d h => by cases h; exact hd13)
      have hz17 : DoK K dr nd x (some d11) := (fun d h => by cases h; exact ⟨k9, by omega, ht_k9, hd12⟩)
      have hz18 : DoA K dr nd x (some d11) := (fun k e hk hx he => by cases (nI_eq (a := k9) (b := k) (by omega) (by omega)).mp (ht_k9.symm.trans hx); exact hd12.symm.trans he)
      have hO : OKP G h0 a F R Z B J K w := hO.to rfl
      exact W.aret (v := .ref d11) hx hb hr (Or.inl ⟨_, rfl⟩) (Or.inr ⟨_, rfl⟩) (fun t99 ht99 hW99 => ⟨⟨_, (w, (some d11)), rfl, ⟨rfl, hz16, hz17, hz18, hO⟩, by rw [ht99]; exact hP, hD⟩, hS.F ht99⟩) hS.2.2 dX9_decl_22
