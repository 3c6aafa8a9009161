def DoN (K : PK) (o : Option Nat) : Prop := ∀ d : Nat, o = some d → K.1 d = 4
def DoK (K : PK) (dr nd : Nat) (x : Int32) (o : Option Nat) : Prop := ∀ d : Nat, o = some d → ∃ k : Nat, k < nd ∧ x = nI k ∧ K.2.2.2.2.1 dr k = some d
def FnQ (x : Int32) (nd : Nat) : Prop := x = -1 ∨ ∃ k : Nat, k < nd ∧ x = nI k
theorem LsC.T {G : pT} {K : PK} {q es n cap i : Nat} {it : Nat → Nat} (h : LsC G K q es n it cap) (hi : i < n) : K.1 (it i) = es := by
  obtain ⟨e9, _, _, _, _, _, h6⟩ := h.ls.at hi
  exact h6
theorem dX9_isFull_0 : decode cX9_isFull 0 = .ok (.aload_n 0, 1) := by decide +kernel
theorem dX9_isFull_1 : decode cX9_isFull 1 = .ok (.getfield 33, 3) := by decide +kernel
theorem dX9_isFull_4 : decode cX9_isFull 4 = .ok (.aload_n 0, 1) := by decide +kernel
theorem dX9_isFull_5 : decode cX9_isFull 5 = .ok (.getfield 17, 3) := by decide +kernel
theorem dX9_isFull_8 : decode cX9_isFull 8 = .ok (.arraylength, 1) := by decide +kernel
theorem dX9_isFull_9 : decode cX9_isFull 9 = .ok (.if_icmp .lt 7, 3) := by decide +kernel
theorem dX9_isFull_16 : decode cX9_isFull 16 = .ok (.iconst 0, 1) := by decide +kernel
theorem dX9_isFull_17 : decode cX9_isFull 17 = .ok (.ireturn, 1) := by decide +kernel
theorem dX9_isFull_12 : decode cX9_isFull 12 = .ok (.iconst 1, 1) := by decide +kernel
theorem dX9_isFull_13 : decode cX9_isFull 13 = .ok (.goto 4, 3) := by decide +kernel
set_option maxHeartbeats 6000000 in
set_option maxRecDepth 100000 in
theorem G_isFull (l : Launch) (G : pT) (h0 : Nat) (a : Nat → Nat) (F : Nat → Int32) (R : Nat → Value) (Z : Int64) (B : Nat → Nat → Int32) (J : Nat → Nat → Int64) (K : PK) (w : va_W) (pq : Nat) (dr : Nat) (ml : Nat) (nd : Nat) (g : Nat → Nat → Nat) (hpb : PgB K g (a 1) pq dr ml nd) (hO : OKP G h0 a F R Z B J K w) : PM l G pX0 yX9_isFull cX9_isFull 1 (some .boolean) ({ frames := 2, cells := 0, slots := 0, locals := 60 }) [.ref pq] w (fun (v : Option Value) (u : va_W × (Nat)) => v = some (.int (nI u.2)) ∧ (u.2 ≤ 1) ∧ (nd + 1 ≤ 37 + u.2) ∧ (OKP G h0 a F R Z B J K u.1)) (fun u => u.1) := by
  intro sz
  refine Met.ofW (cc := cX9_isFull) (maxL := 1) (ret := (some .boolean)) (by decide) rfl ?_
  intro p e s m args below meth c s₁ B9 hml hv
  obtain ⟨rfl, hsz, hP, hD0, hE, hX⟩ := hv
  have hx := B9.exec
  have hb := B9.bytes
  have hr := B9.returns
  have hts := atoms_spec (ws := Cond.code yX9_isFull cX9_isFull 1 (some .boolean) :: pw) B9.pre
  have hq : ∀ w ∈ pw, w.before _ s = true := fun w h => hts w (List.mem_cons_of_mem _ h)
  have hown : s.vm.findClass RX9 = some m.cls := findClass_of_methodNamed B9.named
  have hlocks := B9.notSynchronized
  subst hsz
  have hD := hD0.self (sz := s.heap.size)
  have hA : ∀ q : Nat, s.heap.size ≤ q → va_A w s.heap.size q := fun q h => Or.inr h
  generalize va_A w s.heap.size = A at hD hE hA ⊢
  have hS : va_S A s.heap s.heap [] := va_S.rf
  have hl := lv_entry ([.ref pq]) (n := 1) (Nat.le_of_ble_eq_true rfl)
  rw [lg_entry_eq]
  generalize (lg_sl ([.ref pq]) ++ List.replicate (1 - (lg_sl ([.ref pq])).length) Slot.unset).toArray = ls at hl ⊢
  have hl : lv_has ls 1 [(0, .ref pq)] := hl
  have hp1 := hpb.1
  have hp2 := hpb.2.1
  have hp3 := hpb.2.2.1
  have hp4 := hpb.2.2.2.1
  have hp5 := hpb.2.2.2.2.1
  have hp6 := hpb.2.2.2.2.2.1
  have hp8 := hpb.2.2.2.2.2.2.2.1
  have hp9 := hpb.2.2.2.2.2.2.2.2
  refine lv_aload_n hx hb dX9_isFull_0 rfl (lv_at hl 0 rfl) ?_
  refine p_get (v := .int (nI nd)) (C := RX9) (Tc := TX9) (N := 5) (ci := 6) hx hb hq pin_wsX90 hown hE hP hO (by rw [hp1]; decide) (rep_7 hp1) rfl 2 (by decide) (hq _ pw_14) (fun _ h9 => h9) (congrArg (fun z => some (Value.int z)) hp8) dX9_isFull_1 ?_
  refine lv_aload_n hx hb dX9_isFull_4 rfl (lv_at hl 0 rfl) ?_
  refine p_get (v := .ref dr) (C := RX9) (Tc := TX9) (N := 5) (ci := 6) hx hb hq pin_wsX90 hown hE hP hO (by rw [hp1]; decide) (rep_7 hp1) rfl 1 (by decide) (hq _ pw_15) (fun _ h9 => h9) (congrArg (fun z => some (va_rf z)) hp3) dX9_isFull_5 ?_
  refine p_alen8 hx hb hE hP hO hp4 dX9_isFull_8 ?_
  refine lv_icmp_lt (tgt := 16) hx hb dX9_isFull_9 (by decide) (fun c1 => ?_) (fun c1 => ?_)
  · have n2 : nd < 37 := (nI_ltI (a := nd) (b := 37) (by omega) (by omega)).mp c1
    refine lv_iconst (v := 0) hx hb dX9_isFull_16 (by decide) ?_
    have hz3 : 0 ≤ 1 := (by omega)
    have hz4 : nd + 1 ≤ 37 + 0 := (by omega)
    have hO : OKP G h0 a F R Z B J K w := hO.to rfl
    exact W.zret (v := 0) hx hb hr rfl (fun t99 ht99 hW99 => ⟨⟨_, (w, 0), rfl, ⟨rfl, hz3, hz4, hO⟩, by rw [ht99]; exact hP, hD⟩, hS.F ht99⟩) hS.2.2 dX9_isFull_17
  · have n5 : ¬ (nd < 37) := fun h9 => c1 ((nI_ltI (a := nd) (b := 37) (by omega) (by omega)).mpr h9)
    refine lv_iconst (v := 1) hx hb dX9_isFull_12 (by decide) ?_
    refine lv_goto (tgt := 17) hx hb dX9_isFull_13 (by decide) ?_
    have hz6 : 1 ≤ 1 := (by omega)
    have hz7 : nd + 1 ≤ 37 + 1 := (by omega)
    have hO : OKP G h0 a F R Z B J K w := hO.to rfl
    exact W.zret (v := 1) hx hb hr rfl (fun t99 ht99 hW99 => ⟨⟨_, (w, 1), rfl, ⟨rfl, hz6, hz7, hO⟩, by rw [ht99]; exact hP, hD⟩, hS.F ht99⟩) hS.2.2 dX9_isFull_17
theorem dX9_decl_0 : decode cX9_decl 0 = .ok (.iload_n 1, 1) := by decide +kernel
theorem dX9_decl_1 : decode cX9_decl 1 = .ok (.ifCond .lt 20, 3) := by decide +kernel
theorem dX9_decl_21 : decode cX9_decl 21 = .ok (.aconst_null, 1) := by decide +kernel
theorem dX9_decl_22 : decode cX9_decl 22 = .ok (.areturn, 1) := by decide +kernel
theorem dX9_decl_4 : decode cX9_decl 4 = .ok (.iload_n 1, 1) := by decide +kernel
theorem dX9_decl_5 : decode cX9_decl 5 = .ok (.aload_n 0, 1) := by decide +kernel
theorem dX9_decl_6 : decode cX9_decl 6 = .ok (.getfield 33, 3) := by decide +kernel
theorem dX9_decl_9 : decode cX9_decl 9 = .ok (.if_icmp .ge 12, 3) := by decide +kernel
theorem dX9_decl_12 : decode cX9_decl 12 = .ok (.aload_n 0, 1) := by decide +kernel
theorem dX9_decl_13 : decode cX9_decl 13 = .ok (.getfield 17, 3) := by decide +kernel
theorem dX9_decl_16 : decode cX9_decl 16 = .ok (.iload_n 1, 1) := by decide +kernel
theorem dX9_decl_17 : decode cX9_decl 17 = .ok (.aaload, 1) := by decide +kernel
theorem dX9_decl_18 : decode cX9_decl 18 = .ok (.goto 4, 3) := by decide +kernel
set_option maxHeartbeats 6000000 in
set_option maxRecDepth 100000 in
theorem G_decl (l : Launch) (G : pT) (h0 : Nat) (a : Nat → Nat) (F : Nat → Int32) (R : Nat → Value) (Z : Int64) (B : Nat → Nat → Int32) (J : Nat → Nat → Int64) (K : PK) (w : va_W) (pq : Nat) (dr : Nat) (ml : Nat) (nd : Nat) (x : Int32) (g : Nat → Nat → Nat) (hpb : PgB K g (a 1) pq dr ml nd) (hdc : DcR K g dr nd) (hO : OKP G h0 a F R Z B J K w) : PM l G pX0 yX9_decl cX9_decl 2 (some (.object "JinjaTongue$Decl")) ({ frames := 2, cells := 0, slots := 0, locals := 60 }) [.ref pq, .int x] w (fun (v : Option Value) (u : va_W × (Option Nat)) => v = some ((va_rf u.2)) ∧ (DoN K u.2) ∧ (DoK K dr nd x u.2) ∧ (OKP G h0 a F R Z B J K u.1)) (fun u => u.1) := by
  intro sz
  refine Met.ofW (cc := cX9_decl) (maxL := 2) (ret := (some (.object "JinjaTongue$Decl"))) (by decide) rfl ?_
  intro p e s m args below meth c s₁ B9 hml hv
  obtain ⟨rfl, hsz, hP, hD0, hE, hX⟩ := hv
  have hx := B9.exec
  have hb := B9.bytes
  have hr := B9.returns
  have hts := atoms_spec (ws := Cond.code yX9_decl cX9_decl 2 (some (.object "JinjaTongue$Decl")) :: pw) B9.pre
  have hq : ∀ w ∈ pw, w.before _ s = true := fun w h => hts w (List.mem_cons_of_mem _ h)
  have hown : s.vm.findClass RX9 = some m.cls := findClass_of_methodNamed B9.named
  have hlocks := B9.notSynchronized
  subst hsz
  have hD := hD0.self (sz := s.heap.size)
  have hA : ∀ q : Nat, s.heap.size ≤ q → va_A w s.heap.size q := fun q h => Or.inr h
  generalize va_A w s.heap.size = A at hD hE hA ⊢
  have hS : va_S A s.heap s.heap [] := va_S.rf
  have hl := lv_entry ([.ref pq, .int x]) (n := 2) (Nat.le_of_ble_eq_true rfl)
  rw [lg_entry_eq]
  generalize (lg_sl ([.ref pq, .int x]) ++ List.replicate (2 - (lg_sl ([.ref pq, .int x])).length) Slot.unset).toArray = ls at hl ⊢
  have hl : lv_has ls 2 [(0, .ref pq), (1, .int x)] := hl
  have hp1 := hpb.1
  have hp2 := hpb.2.1
  have hp3 := hpb.2.2.1
  have hp4 := hpb.2.2.2.1
  have hp5 := hpb.2.2.2.2.1
  have hp6 := hpb.2.2.2.2.2.1
  have hp8 := hpb.2.2.2.2.2.2.2.1
  have hp9 := hpb.2.2.2.2.2.2.2.2
  refine lv_iload_n hx hb dX9_decl_0 rfl (lv_at hl 1 rfl) ?_
  refine lv_if_lt (tgt := 21) hx hb dX9_decl_1 (by decide) (fun c1 => ?_) (fun c1 => ?_)
  · refine lv_null hx hb dX9_decl_21 ?_
    have hz2 : DoN K none := (fun d h => by cases h)
    have hz3 : DoK K dr nd x none := (fun d h => by cases h)
    have hO : OKP G h0 a F R Z B J K w := hO.to rfl
    exact W.aret (v := .null) hx hb hr (Or.inl ⟨_, rfl⟩) (Or.inl rfl) (fun t99 ht99 hW99 => ⟨⟨_, (w, none), rfl, ⟨rfl, hz2, hz3, hO⟩, by rw [ht99]; exact hP, hD⟩, hS.F ht99⟩) hS.2.2 dX9_decl_22
  · obtain ⟨k9, ht_k9, hb_k9⟩ := nI_nn2 c1
    rw [ht_k9] at hl
    refine lv_iload_n hx hb dX9_decl_4 rfl (lv_at hl 1 rfl) ?_
    refine lv_aload_n hx hb dX9_decl_5 rfl (lv_at hl 0 rfl) ?_
    refine p_get (v := .int (nI nd)) (C := RX9) (Tc := TX9) (N := 5) (ci := 6) hx hb hq pin_wsX90 hown hE hP hO (by rw [hp1]; decide) (rep_7 hp1) rfl 2 (by decide) (hq _ pw_14) (fun _ h9 => h9) (congrArg (fun z => some (Value.int z)) hp8) dX9_decl_6 ?_
    refine lv_icmp_ge (tgt := 21) hx hb dX9_decl_9 (by decide) (fun c4 => ?_) (fun c4 => ?_)
    · have n5 : nd ≤ k9 := (nI_leI (a := nd) (b := k9) (by omega) (by omega)).mp c4
      refine lv_null hx hb dX9_decl_21 ?_
      have hz6 : DoN K none := (fun d h => by cases h)
      have hz7 : DoK K dr nd x none := (fun d h => by cases h)
      have hO : OKP G h0 a F R Z B J K w := hO.to rfl
      exact W.aret (v := .null) hx hb hr (Or.inl ⟨_, rfl⟩) (Or.inl rfl) (fun t99 ht99 hW99 => ⟨⟨_, (w, none), rfl, ⟨rfl, hz6, hz7, hO⟩, by rw [ht99]; exact hP, hD⟩, hS.F ht99⟩) hS.2.2 dX9_decl_22
    · have n8 : ¬ (nd ≤ k9) := fun h9 => c4 ((nI_leI (a := nd) (b := k9) (by omega) (by omega)).mpr h9)
      refine lv_aload_n hx hb dX9_decl_12 rfl (lv_at hl 0 rfl) ?_
      refine p_get (v := .ref dr) (C := RX9) (Tc := TX9) (N := 5) (ci := 6) hx hb hq pin_wsX90 hown hE hP hO (by rw [hp1]; decide) (rep_7 hp1) rfl 1 (by decide) (hq _ pw_15) (fun _ h9 => h9) (congrArg (fun z => some (va_rf z)) hp3) dX9_decl_13 ?_
      refine lv_iload_n hx hb dX9_decl_16 rfl (lv_at hl 1 rfl) ?_
      refine p_ald8 hx hb hE hP hO hp4 (vp_in_nI (by omega) (by omega)) dX9_decl_17 ?_
      rw [nI_clamp (show k9 < 2 ^ 31 by omega)]
      obtain ⟨d9, hd10, hd11, hd12, hd13⟩ := hdc k9 (by omega)
      rw [hd10]
      refine W.eq (g2 := F0 m 18 ls [.ref d9]) rfl ?_
      refine lv_goto (tgt := 22) hx hb dX9_decl_18 (by decide) ?_
      have hz14 : DoN K (some d9) := (fun d h => by cases h; exact hd11)
      have hz15 : DoK K dr nd x (some d9) := (fun d h => by cases h; exact ⟨k9, by omega, ht_k9, hd10⟩)
      have hO : OKP G h0 a F R Z B J K w := hO.to rfl
      exact W.aret (v := .ref d9) hx hb hr (Or.inl ⟨_, rfl⟩) (Or.inr ⟨_, rfl⟩) (fun t99 ht99 hW99 => ⟨⟨_, (w, (some d9)), rfl, ⟨rfl, hz14, hz15, hO⟩, by rw [ht99]; exact hP, hD⟩, hS.F ht99⟩) hS.2.2 dX9_decl_22
theorem dX9_find_0 : decode cX9_find 0 = .ok (.iconst 0, 1) := by decide +kernel
theorem dX9_find_1 : decode cX9_find 1 = .ok (.istore_n 2, 1) := by decide +kernel
theorem dX9_find_2 : decode cX9_find 2 = .ok (.iload_n 2, 1) := by decide +kernel
theorem dX9_find_3 : decode cX9_find 3 = .ok (.aload_n 0, 1) := by decide +kernel
theorem dX9_find_4 : decode cX9_find 4 = .ok (.getfield 33, 3) := by decide +kernel
theorem dX9_find_7 : decode cX9_find 7 = .ok (.if_icmp .ge 24, 3) := by decide +kernel
theorem dX9_find_31 : decode cX9_find 31 = .ok (.iconst (-1), 1) := by decide +kernel
theorem dX9_find_32 : decode cX9_find 32 = .ok (.ireturn, 1) := by decide +kernel
theorem dX9_find_10 : decode cX9_find 10 = .ok (.aload_n 0, 1) := by decide +kernel
theorem dX9_find_11 : decode cX9_find 11 = .ok (.getfield 17, 3) := by decide +kernel
theorem dX9_find_14 : decode cX9_find 14 = .ok (.iload_n 2, 1) := by decide +kernel
theorem dX9_find_15 : decode cX9_find 15 = .ok (.aaload, 1) := by decide +kernel
theorem dX9_find_16 : decode cX9_find 16 = .ok (.getfield 54, 3) := by decide +kernel
theorem dX9_find_19 : decode cX9_find 19 = .ok (.iload_n 1, 1) := by decide +kernel
theorem dX9_find_20 : decode cX9_find 20 = .ok (.if_icmp .ne 5, 3) := by decide +kernel
theorem dX9_find_25 : decode cX9_find 25 = .ok (.iinc 2 1, 3) := by decide +kernel
theorem dX9_find_28 : decode cX9_find 28 = .ok (.goto (-26), 3) := by decide +kernel
theorem dX9_find_23 : decode cX9_find 23 = .ok (.iload_n 2, 1) := by decide +kernel
theorem dX9_find_24 : decode cX9_find 24 = .ok (.ireturn, 1) := by decide +kernel
set_option maxHeartbeats 6000000 in
set_option maxRecDepth 100000 in
theorem G_find (l : Launch) (G : pT) (h0 : Nat) (a : Nat → Nat) (F : Nat → Int32) (R : Nat → Value) (Z : Int64) (B : Nat → Nat → Int32) (J : Nat → Nat → Int64) (K : PK) (w : va_W) (pq : Nat) (dr : Nat) (ml : Nat) (nd : Nat) (x : Int32) (g : Nat → Nat → Nat) (hpb : PgB K g (a 1) pq dr ml nd) (hdc : DcR K g dr nd) (hO : OKP G h0 a F R Z B J K w) : PM l G pX0 yX9_find cX9_find 3 (some .int) ({ frames := 2, cells := 0, slots := 0, locals := 60 }) [.ref pq, .int x] w (fun (v : Option Value) (u : va_W × (Int32)) => v = some (.int u.2) ∧ (FnQ u.2 nd) ∧ (OKP G h0 a F R Z B J K u.1)) (fun u => u.1) := by
  intro sz
  refine Met.ofW (cc := cX9_find) (maxL := 3) (ret := (some .int)) (by decide) rfl ?_
  intro p e s m args below meth c s₁ B9 hml hv
  obtain ⟨rfl, hsz, hP, hD0, hE, hX⟩ := hv
  have hx := B9.exec
  have hb := B9.bytes
  have hr := B9.returns
  have hts := atoms_spec (ws := Cond.code yX9_find cX9_find 3 (some .int) :: pw) B9.pre
  have hq : ∀ w ∈ pw, w.before _ s = true := fun w h => hts w (List.mem_cons_of_mem _ h)
  have hown : s.vm.findClass RX9 = some m.cls := findClass_of_methodNamed B9.named
  have hlocks := B9.notSynchronized
  subst hsz
  have hD := hD0.self (sz := s.heap.size)
  have hA : ∀ q : Nat, s.heap.size ≤ q → va_A w s.heap.size q := fun q h => Or.inr h
  generalize va_A w s.heap.size = A at hD hE hA ⊢
  have hS : va_S A s.heap s.heap [] := va_S.rf
  have hl := lv_entry ([.ref pq, .int x]) (n := 3) (Nat.le_of_ble_eq_true rfl)
  rw [lg_entry_eq]
  generalize (lg_sl ([.ref pq, .int x]) ++ List.replicate (3 - (lg_sl ([.ref pq, .int x])).length) Slot.unset).toArray = ls at hl ⊢
  have hl : lv_has ls 3 [(0, .ref pq), (1, .int x)] := hl
  have hp1 := hpb.1
  have hp2 := hpb.2.1
  have hp3 := hpb.2.2.1
  have hp4 := hpb.2.2.2.1
  have hp5 := hpb.2.2.2.2.1
  have hp6 := hpb.2.2.2.2.2.1
  have hp8 := hpb.2.2.2.2.2.2.2.1
  have hp9 := hpb.2.2.2.2.2.2.2.2
  refine lv_iconst (v := 0) hx hb dX9_find_0 (by decide) ?_
  refine lv_istore_n (lv' := [(2, .int 0), (0, .ref pq), (1, .int x)]) hx hb dX9_find_1 rfl hl (by decide) rfl (fun ls hl => ?_)
  have loop_i : ∀ (n_i : Nat) (i2 : Nat) (H : Heap) (locs : List Loc) (ls : Array Slot) (w : va_W), i2 ≤ nd → nd + 1 ≤ i2 + n_i → va_P G.1 pCl w H → va_D A w → va_S A s.heap H locs → OKP G h0 a F R Z B J K w → lv_has ls 3 [(2, .int (nI i2)), (1, .int x), (0, .ref pq)] → W p l e (headSpec (Cond.code yX9_find cX9_find 3 (some .int) :: pw) ({ frames := 2, cells := 0, slots := 0, locals := 60 } : Room)).room s m ([.ref pq, .int x] : List Value).toArray below meth c H locs 0 0 (MQ below (pQ G A (fun (v : Option Value) (u : va_W × (Int32)) => v = some (.int u.2) ∧ (FnQ u.2 nd) ∧ (OKP G h0 a F R Z B J K u.1)) (fun u => u.1)) ([.ref pq, .int x] : List Value).toArray s ({ frames := 2, cells := 0, slots := 0, locals := 60 } : Room).cells ({ frames := 2, cells := 0, slots := 0, locals := 60 } : Room).slots A) (F0 m 2 ls []) := by
    intro n_i
    induction n_i with
    | zero => intro i2 H locs ls w hk_i hn_i; omega
    | succ n_i ih_i =>
      intro i2 H locs ls w hk_i hn_i hP hD hS hO hl
      have hp1 := hpb.1
      have hp2 := hpb.2.1
      have hp3 := hpb.2.2.1
      have hp4 := hpb.2.2.2.1
      have hp5 := hpb.2.2.2.2.1
      have hp6 := hpb.2.2.2.2.2.1
      have hp8 := hpb.2.2.2.2.2.2.2.1
      have hp9 := hpb.2.2.2.2.2.2.2.2
      refine lv_iload_n hx hb dX9_find_2 rfl (lv_at hl 0 rfl) ?_
      refine lv_aload_n hx hb dX9_find_3 rfl (lv_at hl 2 rfl) ?_
      refine p_get (v := .int (nI nd)) (C := RX9) (Tc := TX9) (N := 5) (ci := 6) hx hb hq pin_wsX90 hown hE hP hO (by rw [hp1]; decide) (rep_7 hp1) rfl 2 (by decide) (hq _ pw_14) (fun _ h9 => h9) (congrArg (fun z => some (Value.int z)) hp8) dX9_find_4 ?_
      refine lv_icmp_ge (tgt := 31) hx hb dX9_find_7 (by decide) (fun c1 => ?_) (fun c1 => ?_)
      · have n2 : nd ≤ i2 := (nI_leI (a := nd) (b := i2) (by omega) (by omega)).mp c1
        refine lv_iconst (v := (-1)) hx hb dX9_find_31 (by decide) ?_
        have hz3 : FnQ ((-1) : Int32) nd := (Or.inl rfl)
        have hO : OKP G h0 a F R Z B J K w := hO.to rfl
        exact W.iret (v := (-1)) hx hb hr (fun t99 ht99 hW99 => ⟨⟨_, (w, ((-1) : Int32)), rfl, ⟨rfl, hz3, hO⟩, by rw [ht99]; exact hP, hD⟩, hS.F ht99⟩) hS.2.2 dX9_find_32
      · have n4 : ¬ (nd ≤ i2) := fun h9 => c1 ((nI_leI (a := nd) (b := i2) (by omega) (by omega)).mpr h9)
        refine lv_aload_n hx hb dX9_find_10 rfl (lv_at hl 2 rfl) ?_
        refine p_get (v := .ref dr) (C := RX9) (Tc := TX9) (N := 5) (ci := 6) hx hb hq pin_wsX90 hown hE hP hO (by rw [hp1]; decide) (rep_7 hp1) rfl 1 (by decide) (hq _ pw_15) (fun _ h9 => h9) (congrArg (fun z => some (va_rf z)) hp3) dX9_find_11 ?_
        refine lv_iload_n hx hb dX9_find_14 rfl (lv_at hl 0 rfl) ?_
        refine p_ald8 hx hb hE hP hO hp4 (vp_in_nI (by omega) (by omega)) dX9_find_15 ?_
        rw [nI_clamp (show i2 < 2 ^ 31 by omega)]
        obtain ⟨d5, hd6, hd7, hd8, hd9⟩ := hdc i2 (by omega)
        rw [hd6]
        refine W.eq (g2 := F0 m 16 ls [.ref d5]) rfl ?_
        refine p_get (v := .int (K.2.1 16 d5)) (C := RX2) (Tc := TX2) (N := 13) (ci := 2) hx hb hq pin_wsX20 hown hE hP hO (by rw [hd7]; decide) (rep_4 hd7) rfl 1 (by decide) (hq _ pw_510) (fun _ h9 => h9) rfl dX9_find_16 ?_
        refine lv_iload_n hx hb dX9_find_19 rfl (lv_at hl 1 rfl) ?_
        refine lv_icmp_ne (tgt := 25) hx hb dX9_find_20 (by decide) (fun c10 => ?_) (fun c10 => ?_)
        · refine lv_iinc (v := (nI (i2 + 1))) (lv' := [(2, .int (nI (i2 + 1))), (1, .int x), (0, .ref pq)]) hx hb dX9_find_25 hl (k := 0) rfl (nI_1 i2) (by decide) rfl (fun ls hl => ?_)
          refine lv_goto (tgt := 2) hx hb dX9_find_28 (by decide) ?_
          have hO : OKP G h0 a F R Z B J K w := hO.to rfl
          exact ih_i (i2 + 1) _ _ _ _ (by omega) (by omega) hP hD hS hO (lv_sub hl [0, 1, 2] rfl)
        · refine lv_iload_n hx hb dX9_find_23 rfl (lv_at hl 0 rfl) ?_
          have hz11 : FnQ (nI i2) nd := (Or.inr ⟨i2, by omega, rfl⟩)
          have hO : OKP G h0 a F R Z B J K w := hO.to rfl
          exact W.iret (v := (nI i2)) hx hb hr (fun t99 ht99 hW99 => ⟨⟨_, (w, (nI i2)), rfl, ⟨rfl, hz11, hO⟩, by rw [ht99]; exact hP, hD⟩, hS.F ht99⟩) hS.2.2 dX9_find_24
  have hO : OKP G h0 a F R Z B J K w := hO.to rfl
  exact loop_i (nd + 1) 0 _ _ _ _ (by omega) (by omega) hP hD hS hO (lv_sub hl [0, 2, 1] rfl)
theorem dX9_method_0 : decode cX9_method 0 = .ok (.iload_n 1, 1) := by decide +kernel
theorem dX9_method_1 : decode cX9_method 1 = .ok (.ifCond .lt 28, 3) := by decide +kernel
theorem dX9_method_29 : decode cX9_method 29 = .ok (.aconst_null, 1) := by decide +kernel
theorem dX9_method_30 : decode cX9_method 30 = .ok (.areturn, 1) := by decide +kernel
theorem dX9_method_4 : decode cX9_method 4 = .ok (.iload_n 1, 1) := by decide +kernel
theorem dX9_method_5 : decode cX9_method 5 = .ok (.aload_n 0, 1) := by decide +kernel
theorem dX9_method_6 : decode cX9_method 6 = .ok (.getfield 24, 3) := by decide +kernel
theorem dX9_method_9 : decode cX9_method 9 = .ok (.invokevirtual 45, 3) := by decide +kernel
theorem dX9_method_12 : decode cX9_method 12 = .ok (.if_icmp .ge 17, 3) := by decide +kernel
theorem dX9_method_15 : decode cX9_method 15 = .ok (.aload_n 0, 1) := by decide +kernel
theorem dX9_method_16 : decode cX9_method 16 = .ok (.getfield 24, 3) := by decide +kernel
theorem dX9_method_19 : decode cX9_method 19 = .ok (.iload_n 1, 1) := by decide +kernel
theorem dX9_method_20 : decode cX9_method 20 = .ok (.invokevirtual 48, 3) := by decide +kernel
theorem dX9_method_23 : decode cX9_method 23 = .ok (.checkcast 52, 3) := by decide +kernel
theorem dX9_method_26 : decode cX9_method 26 = .ok (.goto 4, 3) := by decide +kernel
theorem hV_Jx4a65c_size_8abf5 : yJx4a65c_size_8abf5.cls = RJx4a65c ∧ yJx4a65c_size_8abf5.cls ≠ "java/lang/invoke/MethodHandle" ∧ yJx4a65c_size_8abf5.cls ≠ "java/lang/invoke/VarHandle" ∧ (parseMethodDescriptor yJx4a65c_size_8abf5.desc).map (fun d => d.parameters.length) = some 0 := by decide +kernel
theorem hV_Jx4a65c_get_915e3 : yJx4a65c_get_915e3.cls = RJx4a65c ∧ yJx4a65c_get_915e3.cls ≠ "java/lang/invoke/MethodHandle" ∧ yJx4a65c_get_915e3.cls ≠ "java/lang/invoke/VarHandle" ∧ (parseMethodDescriptor yJx4a65c_get_915e3.desc).map (fun d => d.parameters.length) = some 1 := by decide +kernel