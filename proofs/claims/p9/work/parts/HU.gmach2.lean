theorem dX5_check_0 : decode cX5_check 0 = .ok (.aload_n 0, 1) := by decide +kernel
theorem dX5_check_1 : decode cX5_check 1 = .ok (.invokevirtual 180, 3) := by decide +kernel
theorem dX5_check_4 : decode cX5_check 4 = .ok (.lstore_n 3, 1) := by decide +kernel
theorem dX5_check_5 : decode cX5_check 5 = .ok (.lload_n 3, 1) := by decide +kernel
theorem dX5_check_6 : decode cX5_check 6 = .ok (.lconst 0, 1) := by decide +kernel
theorem dX5_check_7 : decode cX5_check 7 = .ok (.lcmp, 1) := by decide +kernel
theorem dX5_check_8 : decode cX5_check 8 = .ok (.ifCond .eq 26, 3) := by decide +kernel
theorem dX5_check_34 : decode cX5_check 34 = .ok (.iconst 0, 1) := by decide +kernel
theorem dX5_check_35 : decode cX5_check 35 = .ok (.istore 5, 2) := by decide +kernel
theorem dX5_check_37 : decode cX5_check 37 = .ok (.iload_n 1, 1) := by decide +kernel
theorem dX5_check_38 : decode cX5_check 38 = .ok (.ifCond .ne 12, 3) := by decide +kernel
theorem dX5_check_50 : decode cX5_check 50 = .ok (.iload 5, 2) := by decide +kernel
theorem dX5_check_52 : decode cX5_check 52 = .ok (.ifCond .ne 9, 3) := by decide +kernel
theorem dX5_check_55 : decode cX5_check 55 = .ok (.lload_n 3, 1) := by decide +kernel
theorem dX5_check_56 : decode cX5_check 56 = .ok (.lconst 0, 1) := by decide +kernel
theorem dX5_check_57 : decode cX5_check 57 = .ok (.lcmp, 1) := by decide +kernel
theorem dX5_check_58 : decode cX5_check 58 = .ok (.ifCond .ne 11, 3) := by decide +kernel
theorem dX5_check_69 : decode cX5_check 69 = .ok (.aload_n 0, 1) := by decide +kernel
theorem dX5_check_70 : decode cX5_check 70 = .ok (.iconst 2, 1) := by decide +kernel
theorem dX5_check_71 : decode cX5_check 71 = .ok (.invokevirtual 252, 3) := by decide +kernel
theorem dX5_check_74 : decode cX5_check 74 = .ok (.return_, 1) := by decide +kernel
theorem dX5_check_61 : decode cX5_check 61 = .ok (.aload_n 0, 1) := by decide +kernel
theorem dX5_check_62 : decode cX5_check 62 = .ok (.lload_n 3, 1) := by decide +kernel
theorem dX5_check_63 : decode cX5_check 63 = .ok (.invokevirtual 172, 3) := by decide +kernel
theorem dX5_check_66 : decode cX5_check 66 = .ok (.goto 8, 3) := by decide +kernel
theorem dX5_check_41 : decode cX5_check 41 = .ok (.aload_n 0, 1) := by decide +kernel
theorem dX5_check_42 : decode cX5_check 42 = .ok (.iload 5, 2) := by decide +kernel
theorem dX5_check_44 : decode cX5_check 44 = .ok (.invokevirtual 240, 3) := by decide +kernel
theorem dX5_check_47 : decode cX5_check 47 = .ok (.goto 27, 3) := by decide +kernel
theorem dX5_check_11 : decode cX5_check 11 = .ok (.aload_n 0, 1) := by decide +kernel
theorem dX5_check_12 : decode cX5_check 12 = .ok (.getfield 47, 3) := by decide +kernel
theorem dX5_check_15 : decode cX5_check 15 = .ok (.aload_n 0, 1) := by decide +kernel
theorem dX5_check_16 : decode cX5_check 16 = .ok (.getfield 18, 3) := by decide +kernel
theorem dX5_check_19 : decode cX5_check 19 = .ok (.lload_n 3, 1) := by decide +kernel
theorem dX5_check_20 : decode cX5_check 20 = .ok (.invokevirtual 51, 3) := by decide +kernel
theorem dX5_check_23 : decode cX5_check 23 = .ok (.iload_n 2, 1) := by decide +kernel
theorem dX5_check_24 : decode cX5_check 24 = .ok (.invokevirtual 257, 3) := by decide +kernel
theorem dX5_check_27 : decode cX5_check 27 = .ok (.ifCond .eq 7, 3) := by decide +kernel
theorem dX5_check_30 : decode cX5_check 30 = .ok (.iconst 1, 1) := by decide +kernel
theorem dX5_check_31 : decode cX5_check 31 = .ok (.goto 4, 3) := by decide +kernel
theorem hV_X3_typeOf : yX3_typeOf.cls = RX3 ∧ yX3_typeOf.cls ≠ "java/lang/invoke/MethodHandle" ∧ yX3_typeOf.cls ≠ "java/lang/invoke/VarHandle" ∧ (parseMethodDescriptor yX3_typeOf.desc).map (fun d => d.parameters.length) = some 1 := by decide +kernel
set_option maxHeartbeats 8000000 in
set_option maxRecDepth 100000 in
theorem M_check (l : Launch) (G : pT) (h0 : Nat) (a : Nat → Nat) (F : Nat → Int32) (R : Nat → Value) (Z : Int64) (B : Nat → Nat → Int32) (J : Nat → Nat → Int64) (K : PK) (w : va_W) (b9 : Nat) (x : Int32) (tp : Nat) (sp : Nat) (op : Nat) (ht : Nat) (pq : Nat) (dr : Nat) (ml : Nat) (nd : Nat) (g : Nat → Nat → Nat) (htp : tp ≤ 32000) (hsp : (sp = 34 ∧ op = 35) ∨ (sp = 35 ∧ op = 34)) (hht : 8 ≤ ht ∧ ht ≤ 3008) (hpb : PgB K g (a 1) pq dr ml nd) (hdc : DcR K g dr nd) (hb9 : b9 ≤ 1) (hO : OKP G h0 a (upd (upd F 19 (nI tp)) 26 (nI ht)) (updR (updR (updR R 5 (.ref pq)) 7 (.ref (a sp))) 8 (.ref (a op))) Z B J K w) : PM l G pX0 yX5_check cX5_check 6 none ({ frames := 5, cells := 0, slots := 0, locals := 128 }) [.ref (a 5), .int (nI b9), .int x] w (fun (v : Option Value) (u : va_W × (Nat × Int32 × Int32 × (Nat → Nat → Int64) × Int64)) => v = none ∧ (u.2.1 ≤ 32000) ∧ (OKP G h0 a (upd (upd (upd (upd F 19 (nI u.2.1)) 23 u.2.2.1) 25 u.2.2.2.1) 26 (nI ht)) (updR (updR (updR R 5 (.ref pq)) 7 (.ref (a sp))) 8 (.ref (a op))) u.2.2.2.2.2 B u.2.2.2.2.1 K u.1)) (fun u => u.1) := by
  intro sz
  refine Met.ofW (cc := cX5_check) (maxL := 6) (ret := none) (by decide) rfl ?_
  intro p e s m args below meth c s₁ B9 hml hv
  obtain ⟨rfl, hsz, hP, hD0, hE, hX⟩ := hv
  have hx := B9.exec
  have hb := B9.bytes
  have hr := B9.returns
  have hts := atoms_spec (ws := Cond.code yX5_check cX5_check 6 none :: pw) B9.pre
  have hq : ∀ w ∈ pw, w.before _ s = true := fun w h => hts w (List.mem_cons_of_mem _ h)
  have hown : s.vm.findClass RX5 = some m.cls := findClass_of_methodNamed B9.named
  have hlocks := B9.notSynchronized
  subst hsz
  have hD := hD0.self (sz := s.heap.size)
  have hA : ∀ q : Nat, s.heap.size ≤ q → va_A w s.heap.size q := fun q h => Or.inr h
  generalize va_A w s.heap.size = A at hD hE hA ⊢
  have hS : va_S A s.heap s.heap [] := va_S.rf
  have hl := lv_entry ([.ref (a 5), .int (nI b9), .int x]) (n := 6) (Nat.le_of_ble_eq_true rfl)
  rw [lg_entry_eq]
  generalize (lg_sl ([.ref (a 5), .int (nI b9), .int x]) ++ List.replicate (6 - (lg_sl ([.ref (a 5), .int (nI b9), .int x])).length) Slot.unset).toArray = ls at hl ⊢
  have hl : lv_has ls 6 [(0, .ref (a 5)), (1, .int (nI b9)), (2, .int x)] := hl
  have hpg := hpb
  have hp1 := hpg.1
  have hp2 := hpg.2.1
  have hp3 := hpg.2.2.1
  have hp4 := hpg.2.2.2.1
  have hp5 := hpg.2.2.2.2.1
  have hp6 := hpg.2.2.2.2.2.1
  have hp8 := hpg.2.2.2.2.2.2.2.1
  have hp9 := hpg.2.2.2.2.2.2.2.2
  refine lv_aload_n hx hb dX5_check_0 rfl (lv_at hl 0 rfl) ?_
  have hO : OKW G h0 a (upd (upd (upd F 19 (nI tp)) 26 (nI ht)) 19 (nI tp)) (updR (updR (updR R 5 (.ref pq)) 7 (.ref (a sp))) 8 (.ref (a op))) Z B J K.1 (fun q99 x99 => x99 = rep G a K q99) w := hO.to rfl
  obtain ⟨_, qr4, hqr5⟩ := hO.2.1 28 _ (sg_28 G h0 a _ _ _ _ _)
  refine pc_V0 (G := G) (As := []) (rest := []) hx hb hml hown hq hE hX pX0_al hP hD hS hA hl.1 (M_pop l G h0 a (upd (upd F 19 (nI tp)) 26 (nI ht)) (updR (updR (updR R 5 (.ref pq)) 7 (.ref (a sp))) 8 (.ref (a op))) Z B J K.1 (fun q99 x99 => x99 = rep G a K q99) w tp (by omega) hO) (gV pw_598 pw_599 pw_600 pw_539 pw_595) hV_X5_pop qr4 4 hqr5 rfl rfl rfl (Nat.le_of_ble_eq_true rfl) dX5_check_1 ⟨Nat.le_of_ble_eq_true rfl, Nat.le_of_ble_eq_true rfl⟩ ⟨Nat.le_of_ble_eq_true rfl, Nat.le_of_ble_eq_true rfl⟩ (fun v3 u1 H locs hw2 hP hD hS => ?_)
  obtain ⟨w, r6, tp7, en8, rf9, J10⟩ := u1
  obtain ⟨hw2, h11, hO⟩ := hw2
  have h11 : tp7 ≤ 32000 := h11
  obtain rfl : v3 = some (.long r6) := hw2
  have hO : OKP G h0 a (upd (upd (upd (upd F 19 (nI tp7)) 23 en8) 25 rf9) 26 (nI ht)) (updR (updR (updR R 5 (.ref pq)) 7 (.ref (a sp))) 8 (.ref (a op))) Z B J10 K w := hO.to rfl
  refine W.widen (k := 0) (n := 0) (Nat.le_of_ble_eq_true rfl) (Nat.le_of_ble_eq_true rfl) ?_
  refine W.eq (g2 := F0 m 4 ls [.long r6]) rfl ?_
  refine lv_lstore_n (lv' := [(3, .long r6), (0, .ref (a 5)), (1, .int (nI b9)), (2, .int x)]) hx hb dX5_check_4 rfl hl (by decide) rfl (fun ls hl => ?_)
  refine lv_lload_n hx hb dX5_check_5 rfl (lv_at hl 0 rfl) ?_
  refine lv_lconst (v := 0) hx hb dX5_check_6 (by decide) ?_
  refine W.lcmp hx hb dX5_check_7 ?_
  refine lv_topi (fun x12 e13 => ?_)
  refine lv_if_eq (tgt := 34) hx hb dX5_check_8 (by decide) (fun c14 => ?_) (fun c14 => ?_)
  · refine lv_iconst (v := 0) hx hb dX5_check_34 (by decide) ?_
    refine lv_istore (lv' := [(5, .int 0), (3, .long r6), (0, .ref (a 5)), (1, .int (nI b9)), (2, .int x)]) hx hb dX5_check_35 hl (by decide) rfl (fun ls hl => ?_)
    refine lv_iload_n hx hb dX5_check_37 rfl (lv_at hl 3 rfl) ?_
    refine lv_if_ne (tgt := 50) hx hb dX5_check_38 (by decide) (fun c15 => ?_) (fun c15 => ?_)
    · have n16 : ¬ (b9 = 0) := fun h9 => c15 ((nI_eq (a := b9) (b := 0) (by omega) (by omega)).mpr h9)
      refine lv_iload hx hb dX5_check_50 (lv_at hl 0 rfl) ?_
      refine lv_if_ne (tgt := 61) hx hb dX5_check_52 (by decide) (fun c17 => absurd c17 (by decide)) (fun c17 => ?_)
      refine lv_lload_n hx hb dX5_check_55 rfl (lv_at hl 1 rfl) ?_
      refine lv_lconst (v := 0) hx hb dX5_check_56 (by decide) ?_
      refine W.lcmp hx hb dX5_check_57 ?_
      refine lv_topi (fun x18 e19 => ?_)
      refine lv_if_ne (tgt := 69) hx hb dX5_check_58 (by decide) (fun c20 => ?_) (fun c20 => ?_)
      · refine lv_aload_n hx hb dX5_check_69 rfl (lv_at hl 2 rfl) ?_
        refine lv_iconst (v := 2) hx hb dX5_check_70 (by decide) ?_
        have hO : OKW G h0 a (upd (upd (upd (upd F 19 (nI tp7)) 23 en8) 25 rf9) 26 (nI ht)) (updR (updR (updR R 5 (.ref pq)) 7 (.ref (a sp))) 8 (.ref (a op))) Z B J10 K.1 (fun q99 x99 => x99 = rep G a K q99) w := hO.to rfl
        obtain ⟨_, qr24, hqr25⟩ := hO.2.1 28 _ (sg_28 G h0 a _ _ _ _ _)
        refine pc_V0 (G := G) (As := [.int 2]) (rest := []) hx hb hml hown hq hE hX pX0_al hP hD hS hA hl.1 (M_raise l G h0 a (upd (upd (upd (upd F 19 (nI tp7)) 23 en8) 25 rf9) 26 (nI ht)) (updR (updR (updR R 5 (.ref pq)) 7 (.ref (a sp))) 8 (.ref (a op))) Z B J10 K.1 (fun q99 x99 => x99 = rep G a K q99) w 2 hO) (gV pw_570 pw_571 pw_572 pw_539 pw_561) hV_X5_raise qr24 4 hqr25 rfl rfl rfl (Nat.le_of_ble_eq_true rfl) dX5_check_71 ⟨Nat.le_of_ble_eq_true rfl, Nat.le_of_ble_eq_true rfl⟩ ⟨Nat.le_of_ble_eq_true rfl, Nat.le_of_ble_eq_true rfl⟩ (fun v23 u21 H locs hw22 hP hD hS => ?_)
        obtain ⟨w, z26⟩ := u21
        obtain ⟨hw22, hO⟩ := hw22
        obtain rfl : v23 = none := hw22
        have hO : OKP G h0 a (upd (upd (upd (upd F 19 (nI tp7)) 23 en8) 25 rf9) 26 (nI ht)) (updR (updR (updR R 5 (.ref pq)) 7 (.ref (a sp))) 8 (.ref (a op))) z26 B J10 K w := hO.to rfl
        refine W.widen (k := 0) (n := 0) (Nat.le_of_ble_eq_true rfl) (Nat.le_of_ble_eq_true rfl) ?_
        refine W.eq (g2 := F0 m 74 ls []) rfl ?_
        have hz27 : tp7 ≤ 32000 := (by omega)
        have hO : OKP G h0 a (upd (upd (upd (upd F 19 (nI tp7)) 23 en8) 25 rf9) 26 (nI ht)) (updR (updR (updR R 5 (.ref pq)) 7 (.ref (a sp))) 8 (.ref (a op))) z26 B J10 K w := hO.to rfl
        exact W.vret hx hb hr (fun t99 ht99 hW99 => ⟨⟨_, (w, (tp7, en8, rf9, J10, z26)), rfl, ⟨rfl, hz27, hO⟩, by rw [ht99]; exact hP, hD⟩, hS.F ht99⟩) hS.2.2 dX5_check_74
      · refine lv_aload_n hx hb dX5_check_61 rfl (lv_at hl 2 rfl) ?_
        refine lv_lload_n hx hb dX5_check_62 rfl (lv_at hl 1 rfl) ?_
        have hO : OKW G h0 a (upd (upd (upd (upd (upd F 19 (nI tp7)) 23 en8) 25 rf9) 26 (nI ht)) 19 (nI tp7)) (updR (updR (updR R 5 (.ref pq)) 7 (.ref (a sp))) 8 (.ref (a op))) Z B J10 K.1 (fun q99 x99 => x99 = rep G a K q99) w := hO.to rfl
        obtain ⟨_, qr31, hqr32⟩ := hO.2.1 28 _ (sg_28 G h0 a _ _ _ _ _)
        refine pc_V0 (G := G) (As := [.long r6]) (rest := []) hx hb hml hown hq hE hX pX0_al hP hD hS hA hl.1 (M_push l G h0 a (upd (upd (upd (upd F 19 (nI tp7)) 23 en8) 25 rf9) 26 (nI ht)) (updR (updR (updR R 5 (.ref pq)) 7 (.ref (a sp))) 8 (.ref (a op))) Z B J10 K.1 (fun q99 x99 => x99 = rep G a K q99) w r6 tp7 (by omega) hO) (gV pw_549 pw_550 pw_551 pw_539 pw_535) hV_X5_push qr31 4 hqr32 rfl rfl rfl (Nat.le_of_ble_eq_true rfl) dX5_check_63 ⟨Nat.le_of_ble_eq_true rfl, Nat.le_of_ble_eq_true rfl⟩ ⟨Nat.le_of_ble_eq_true rfl, Nat.le_of_ble_eq_true rfl⟩ (fun v30 u28 H locs hw29 hP hD hS => ?_)
        obtain ⟨w, tp33, en34, rf35, J36⟩ := u28
        obtain ⟨hw29, h37, hO⟩ := hw29
        have h37 : tp33 ≤ 32000 := h37
        obtain rfl : v30 = none := hw29
        have hO : OKP G h0 a (upd (upd (upd (upd F 19 (nI tp33)) 23 en34) 25 rf35) 26 (nI ht)) (updR (updR (updR R 5 (.ref pq)) 7 (.ref (a sp))) 8 (.ref (a op))) Z B J36 K w := hO.to rfl
        refine W.widen (k := 0) (n := 0) (Nat.le_of_ble_eq_true rfl) (Nat.le_of_ble_eq_true rfl) ?_
        refine W.eq (g2 := F0 m 66 ls []) rfl ?_
        refine lv_goto (tgt := 74) hx hb dX5_check_66 (by decide) ?_
        have hz38 : tp33 ≤ 32000 := (by omega)
        have hO : OKP G h0 a (upd (upd (upd (upd F 19 (nI tp33)) 23 en34) 25 rf35) 26 (nI ht)) (updR (updR (updR R 5 (.ref pq)) 7 (.ref (a sp))) 8 (.ref (a op))) Z B J36 K w := hO.to rfl
        exact W.vret hx hb hr (fun t99 ht99 hW99 => ⟨⟨_, (w, (tp33, en34, rf35, J36, Z)), rfl, ⟨rfl, hz38, hO⟩, by rw [ht99]; exact hP, hD⟩, hS.F ht99⟩) hS.2.2 dX5_check_74
    · have n39 : b9 = 0 := (nI_eq (a := b9) (b := 0) (by omega) (by omega)).mp c15
      refine lv_aload_n hx hb dX5_check_41 rfl (lv_at hl 2 rfl) ?_
      refine lv_iload hx hb dX5_check_42 (lv_at hl 0 rfl) ?_
      have hO : OKW G h0 a (upd (upd (upd (upd (upd F 19 (nI tp7)) 23 en8) 25 rf9) 26 (nI ht)) 19 (nI tp7)) (updR (updR (updR R 5 (.ref pq)) 7 (.ref (a sp))) 8 (.ref (a op))) Z B J10 K.1 (fun q99 x99 => x99 = rep G a K q99) w := hO.to rfl
      obtain ⟨_, qr43, hqr44⟩ := hO.2.1 28 _ (sg_28 G h0 a _ _ _ _ _)
      refine pc_V0 (G := G) (As := [.int (nI 0)]) (rest := []) hx hb hml hown hq hE hX pX0_al hP hD hS hA hl.1 (M_pushTruth l G h0 a (upd (upd (upd (upd F 19 (nI tp7)) 23 en8) 25 rf9) 26 (nI ht)) (updR (updR (updR R 5 (.ref pq)) 7 (.ref (a sp))) 8 (.ref (a op))) Z B J10 K.1 (fun q99 x99 => x99 = rep G a K q99) w 0 tp7 (by omega) (by omega) hO) (gV pw_609 pw_610 pw_611 pw_539 pw_601) hV_X5_pushTruth qr43 4 hqr44 rfl rfl rfl (Nat.le_of_ble_eq_true rfl) dX5_check_44 ⟨Nat.le_of_ble_eq_true rfl, Nat.le_of_ble_eq_true rfl⟩ ⟨Nat.le_of_ble_eq_true rfl, Nat.le_of_ble_eq_true rfl⟩ (fun v42 u40 H locs hw41 hP hD hS => ?_)
      obtain ⟨w, tp45, en46, rf47, J48⟩ := u40
      obtain ⟨hw41, h49, hO⟩ := hw41
      have h49 : tp45 ≤ 32000 := h49
      obtain rfl : v42 = none := hw41
      have hO : OKP G h0 a (upd (upd (upd (upd F 19 (nI tp45)) 23 en46) 25 rf47) 26 (nI ht)) (updR (updR (updR R 5 (.ref pq)) 7 (.ref (a sp))) 8 (.ref (a op))) Z B J48 K w := hO.to rfl
      refine W.widen (k := 0) (n := 0) (Nat.le_of_ble_eq_true rfl) (Nat.le_of_ble_eq_true rfl) ?_
      refine W.eq (g2 := F0 m 47 ls []) rfl ?_
      refine lv_goto (tgt := 74) hx hb dX5_check_47 (by decide) ?_
      have hz50 : tp45 ≤ 32000 := (by omega)
      have hO : OKP G h0 a (upd (upd (upd (upd F 19 (nI tp45)) 23 en46) 25 rf47) 26 (nI ht)) (updR (updR (updR R 5 (.ref pq)) 7 (.ref (a sp))) 8 (.ref (a op))) Z B J48 K w := hO.to rfl
      exact W.vret hx hb hr (fun t99 ht99 hW99 => ⟨⟨_, (w, (tp45, en46, rf47, J48, Z)), rfl, ⟨rfl, hz50, hO⟩, by rw [ht99]; exact hP, hD⟩, hS.F ht99⟩) hS.2.2 dX5_check_74
  · refine lv_aload_n hx hb dX5_check_11 rfl (lv_at hl 1 rfl) ?_
    refine c_get (v := .ref pq) (C := RX5) (Tc := TX5) (N := 19) (ci := 4) hx hb hq pin_wsX50 hown hE hP hO 28 (sg_28 G h0 a _ _ _ _ _) rfl 8 (by decide) (hq _ pw_486) (fun _ h9 => h9) rfl dX5_check_12 ?_
    refine lv_aload_n hx hb dX5_check_15 rfl (lv_at hl 1 rfl) ?_
    refine c_get (v := .ref (a 28)) (C := RX5) (Tc := TX5) (N := 19) (ci := 4) hx hb hq pin_wsX50 hown hE hP hO 28 (sg_28 G h0 a _ _ _ _ _) rfl 1 (by decide) (hq _ pw_473) (fun _ h9 => h9) rfl dX5_check_16 ?_
    refine lv_lload_n hx hb dX5_check_19 rfl (lv_at hl 0 rfl) ?_
    have hO : OKW G h0 a (upd (upd (upd (upd (upd F 19 (nI tp7)) 23 en8) 25 rf9) 26 (nI ht)) 26 (nI ht)) (updR (updR (updR (updR (updR R 5 (.ref pq)) 7 (.ref (a sp))) 8 (.ref (a op))) 7 (.ref (a sp))) 8 (.ref (a op))) Z B J10 K.1 (fun q99 x99 => x99 = rep G a K q99) w := hO.to rfl
    obtain ⟨_, qr54, hqr55⟩ := hO.2.1 29 _ (sg_29 G h0 a _ _ _ _ _)
    refine pc_V0 (G := G) (As := [.long r6]) (rest := [.ref pq]) hx hb hml hown hq hE hX pX0_al hP hD hS hA hl.1 (K_typeOf l G h0 a (upd (upd (upd (upd F 19 (nI tp7)) 23 en8) 25 rf9) 26 (nI ht)) (updR (updR (updR R 5 (.ref pq)) 7 (.ref (a sp))) 8 (.ref (a op))) Z B J10 K.1 (fun q99 x99 => x99 = rep G a K q99) w r6 sp op ht hsp (by omega) hO) (gV pw_489 pw_490 pw_491 pw_440 pw_441) hV_X3_typeOf qr54 3 hqr55 rfl rfl rfl (Nat.le_of_ble_eq_true rfl) dX5_check_20 ⟨Nat.le_of_ble_eq_true rfl, Nat.le_of_ble_eq_true rfl⟩ ⟨Nat.le_of_ble_eq_true rfl, Nat.le_of_ble_eq_true rfl⟩ (fun v53 u51 H locs hw52 hP hD hS => ?_)
    obtain ⟨w, r56⟩ := u51
    obtain ⟨hw52, hO⟩ := hw52
    obtain rfl : v53 = some (.int r56) := hw52
    have hO : OKP G h0 a (upd (upd (upd (upd F 19 (nI tp7)) 23 en8) 25 rf9) 26 (nI ht)) (updR (updR (updR R 5 (.ref pq)) 7 (.ref (a sp))) 8 (.ref (a op))) Z B J10 K w := hO.to rfl
    refine W.widen (k := 0) (n := 0) (Nat.le_of_ble_eq_true rfl) (Nat.le_of_ble_eq_true rfl) ?_
    refine W.eq (g2 := F0 m 23 ls [.int r56, .ref pq]) rfl ?_
    refine lv_iload_n hx hb dX5_check_23 rfl (lv_at hl 3 rfl) ?_
    have hO : OKP G h0 a (upd (upd (upd (upd F 19 (nI tp7)) 23 en8) 25 rf9) 26 (nI ht)) (updR (updR (updR R 5 (.ref pq)) 7 (.ref (a sp))) 8 (.ref (a op))) Z B J10 K w := hO.to rfl
    obtain ⟨qr60, hqr61⟩ := p_recv hO (by rw [hp1]; decide) (rep_7 hp1)
    refine pc_V0 (G := G) (As := [.int r56, .int x]) (rest := []) hx hb hml hown hq hE hX pX0_al hP hD hS hA hl.1 (G_fits l G h0 a (upd (upd (upd (upd F 19 (nI tp7)) 23 en8) 25 rf9) 26 (nI ht)) (updR (updR (updR R 5 (.ref pq)) 7 (.ref (a sp))) 8 (.ref (a op))) Z B J10 K w pq dr ml nd r56 x g hpb hdc hO) (gV pw_644 pw_112 pw_113 pw_106 pw_103) hV_X9_fits qr60 6 hqr61 rfl rfl rfl (Nat.le_of_ble_eq_true rfl) dX5_check_24 ⟨Nat.le_of_ble_eq_true rfl, Nat.le_of_ble_eq_true rfl⟩ ⟨Nat.le_of_ble_eq_true rfl, Nat.le_of_ble_eq_true rfl⟩ (fun v59 u57 H locs hw58 hP hD hS => ?_)
    obtain ⟨w, r62⟩ := u57
    obtain ⟨hw58, h63, hO⟩ := hw58
    have h63 : r62 ≤ 1 := h63
    obtain rfl : v59 = some (.int (nI r62)) := hw58
    have hO : OKP G h0 a (upd (upd (upd (upd F 19 (nI tp7)) 23 en8) 25 rf9) 26 (nI ht)) (updR (updR (updR R 5 (.ref pq)) 7 (.ref (a sp))) 8 (.ref (a op))) Z B J10 K w := hO.to rfl
    refine W.widen (k := 0) (n := 0) (Nat.le_of_ble_eq_true rfl) (Nat.le_of_ble_eq_true rfl) ?_
    refine W.eq (g2 := F0 m 27 ls [.int (nI r62)]) rfl ?_
    refine lv_if_eq (tgt := 34) hx hb dX5_check_27 (by decide) (fun c64 => ?_) (fun c64 => ?_)
    · have n65 : r62 = 0 := (nI_eq (a := r62) (b := 0) (by omega) (by omega)).mp c64
      refine lv_iconst (v := 0) hx hb dX5_check_34 (by decide) ?_
      refine lv_istore (lv' := [(5, .int 0), (3, .long r6), (0, .ref (a 5)), (1, .int (nI b9)), (2, .int x)]) hx hb dX5_check_35 hl (by decide) rfl (fun ls hl => ?_)
      refine lv_iload_n hx hb dX5_check_37 rfl (lv_at hl 3 rfl) ?_
      refine lv_if_ne (tgt := 50) hx hb dX5_check_38 (by decide) (fun c66 => ?_) (fun c66 => ?_)
      · have n67 : ¬ (b9 = 0) := fun h9 => c66 ((nI_eq (a := b9) (b := 0) (by omega) (by omega)).mpr h9)
        refine lv_iload hx hb dX5_check_50 (lv_at hl 0 rfl) ?_
        refine lv_if_ne (tgt := 61) hx hb dX5_check_52 (by decide) (fun c68 => absurd c68 (by decide)) (fun c68 => ?_)
        refine lv_lload_n hx hb dX5_check_55 rfl (lv_at hl 1 rfl) ?_
        refine lv_lconst (v := 0) hx hb dX5_check_56 (by decide) ?_
        refine W.lcmp hx hb dX5_check_57 ?_
        refine lv_topi (fun x69 e70 => ?_)
        refine lv_if_ne (tgt := 69) hx hb dX5_check_58 (by decide) (fun c71 => ?_) (fun c71 => ?_)
        · refine lv_aload_n hx hb dX5_check_69 rfl (lv_at hl 2 rfl) ?_
          refine lv_iconst (v := 2) hx hb dX5_check_70 (by decide) ?_
          have hO : OKW G h0 a (upd (upd (upd (upd F 19 (nI tp7)) 23 en8) 25 rf9) 26 (nI ht)) (updR (updR (updR R 5 (.ref pq)) 7 (.ref (a sp))) 8 (.ref (a op))) Z B J10 K.1 (fun q99 x99 => x99 = rep G a K q99) w := hO.to rfl
          obtain ⟨_, qr75, hqr76⟩ := hO.2.1 28 _ (sg_28 G h0 a _ _ _ _ _)
          refine pc_V0 (G := G) (As := [.int 2]) (rest := []) hx hb hml hown hq hE hX pX0_al hP hD hS hA hl.1 (M_raise l G h0 a (upd (upd (upd (upd F 19 (nI tp7)) 23 en8) 25 rf9) 26 (nI ht)) (updR (updR (updR R 5 (.ref pq)) 7 (.ref (a sp))) 8 (.ref (a op))) Z B J10 K.1 (fun q99 x99 => x99 = rep G a K q99) w 2 hO) (gV pw_570 pw_571 pw_572 pw_539 pw_561) hV_X5_raise qr75 4 hqr76 rfl rfl rfl (Nat.le_of_ble_eq_true rfl) dX5_check_71 ⟨Nat.le_of_ble_eq_true rfl, Nat.le_of_ble_eq_true rfl⟩ ⟨Nat.le_of_ble_eq_true rfl, Nat.le_of_ble_eq_true rfl⟩ (fun v74 u72 H locs hw73 hP hD hS => ?_)
          obtain ⟨w, z77⟩ := u72
          obtain ⟨hw73, hO⟩ := hw73
          obtain rfl : v74 = none := hw73
          have hO : OKP G h0 a (upd (upd (upd (upd F 19 (nI tp7)) 23 en8) 25 rf9) 26 (nI ht)) (updR (updR (updR R 5 (.ref pq)) 7 (.ref (a sp))) 8 (.ref (a op))) z77 B J10 K w := hO.to rfl
          refine W.widen (k := 0) (n := 0) (Nat.le_of_ble_eq_true rfl) (Nat.le_of_ble_eq_true rfl) ?_
          refine W.eq (g2 := F0 m 74 ls []) rfl ?_
          have hz78 : tp7 ≤ 32000 := (by omega)
          have hO : OKP G h0 a (upd (upd (upd (upd F 19 (nI tp7)) 23 en8) 25 rf9) 26 (nI ht)) (updR (updR (updR R 5 (.ref pq)) 7 (.ref (a sp))) 8 (.ref (a op))) z77 B J10 K w := hO.to rfl
          exact W.vret hx hb hr (fun t99 ht99 hW99 => ⟨⟨_, (w, (tp7, en8, rf9, J10, z77)), rfl, ⟨rfl, hz78, hO⟩, by rw [ht99]; exact hP, hD⟩, hS.F ht99⟩) hS.2.2 dX5_check_74
        · refine lv_aload_n hx hb dX5_check_61 rfl (lv_at hl 2 rfl) ?_
          refine lv_lload_n hx hb dX5_check_62 rfl (lv_at hl 1 rfl) ?_
          have hO : OKW G h0 a (upd (upd (upd (upd (upd F 19 (nI tp7)) 23 en8) 25 rf9) 26 (nI ht)) 19 (nI tp7)) (updR (updR (updR R 5 (.ref pq)) 7 (.ref (a sp))) 8 (.ref (a op))) Z B J10 K.1 (fun q99 x99 => x99 = rep G a K q99) w := hO.to rfl
          obtain ⟨_, qr82, hqr83⟩ := hO.2.1 28 _ (sg_28 G h0 a _ _ _ _ _)
          refine pc_V0 (G := G) (As := [.long r6]) (rest := []) hx hb hml hown hq hE hX pX0_al hP hD hS hA hl.1 (M_push l G h0 a (upd (upd (upd (upd F 19 (nI tp7)) 23 en8) 25 rf9) 26 (nI ht)) (updR (updR (updR R 5 (.ref pq)) 7 (.ref (a sp))) 8 (.ref (a op))) Z B J10 K.1 (fun q99 x99 => x99 = rep G a K q99) w r6 tp7 (by omega) hO) (gV pw_549 pw_550 pw_551 pw_539 pw_535) hV_X5_push qr82 4 hqr83 rfl rfl rfl (Nat.le_of_ble_eq_true rfl) dX5_check_63 ⟨Nat.le_of_ble_eq_true rfl, Nat.le_of_ble_eq_true rfl⟩ ⟨Nat.le_of_ble_eq_true rfl, Nat.le_of_ble_eq_true rfl⟩ (fun v81 u79 H locs hw80 hP hD hS => ?_)
          obtain ⟨w, tp84, en85, rf86, J87⟩ := u79
          obtain ⟨hw80, h88, hO⟩ := hw80
          have h88 : tp84 ≤ 32000 := h88
          obtain rfl : v81 = none := hw80
          have hO : OKP G h0 a (upd (upd (upd (upd F 19 (nI tp84)) 23 en85) 25 rf86) 26 (nI ht)) (updR (updR (updR R 5 (.ref pq)) 7 (.ref (a sp))) 8 (.ref (a op))) Z B J87 K w := hO.to rfl
          refine W.widen (k := 0) (n := 0) (Nat.le_of_ble_eq_true rfl) (Nat.le_of_ble_eq_true rfl) ?_
          refine W.eq (g2 := F0 m 66 ls []) rfl ?_
          refine lv_goto (tgt := 74) hx hb dX5_check_66 (by decide) ?_
          have hz89 : tp84 ≤ 32000 := (by omega)
          have hO : OKP G h0 a (upd (upd (upd (upd F 19 (nI tp84)) 23 en85) 25 rf86) 26 (nI ht)) (updR (updR (updR R 5 (.ref pq)) 7 (.ref (a sp))) 8 (.ref (a op))) Z B J87 K w := hO.to rfl
          exact W.vret hx hb hr (fun t99 ht99 hW99 => ⟨⟨_, (w, (tp84, en85, rf86, J87, Z)), rfl, ⟨rfl, hz89, hO⟩, by rw [ht99]; exact hP, hD⟩, hS.F ht99⟩) hS.2.2 dX5_check_74
      · have n90 : b9 = 0 := (nI_eq (a := b9) (b := 0) (by omega) (by omega)).mp c66
        refine lv_aload_n hx hb dX5_check_41 rfl (lv_at hl 2 rfl) ?_
        refine lv_iload hx hb dX5_check_42 (lv_at hl 0 rfl) ?_
        have hO : OKW G h0 a (upd (upd (upd (upd (upd F 19 (nI tp7)) 23 en8) 25 rf9) 26 (nI ht)) 19 (nI tp7)) (updR (updR (updR R 5 (.ref pq)) 7 (.ref (a sp))) 8 (.ref (a op))) Z B J10 K.1 (fun q99 x99 => x99 = rep G a K q99) w := hO.to rfl
        obtain ⟨_, qr94, hqr95⟩ := hO.2.1 28 _ (sg_28 G h0 a _ _ _ _ _)
        refine pc_V0 (G := G) (As := [.int (nI 0)]) (rest := []) hx hb hml hown hq hE hX pX0_al hP hD hS hA hl.1 (M_pushTruth l G h0 a (upd (upd (upd (upd F 19 (nI tp7)) 23 en8) 25 rf9) 26 (nI ht)) (updR (updR (updR R 5 (.ref pq)) 7 (.ref (a sp))) 8 (.ref (a op))) Z B J10 K.1 (fun q99 x99 => x99 = rep G a K q99) w 0 tp7 (by omega) (by omega) hO) (gV pw_609 pw_610 pw_611 pw_539 pw_601) hV_X5_pushTruth qr94 4 hqr95 rfl rfl rfl (Nat.le_of_ble_eq_true rfl) dX5_check_44 ⟨Nat.le_of_ble_eq_true rfl, Nat.le_of_ble_eq_true rfl⟩ ⟨Nat.le_of_ble_eq_true rfl, Nat.le_of_ble_eq_true rfl⟩ (fun v93 u91 H locs hw92 hP hD hS => ?_)
        obtain ⟨w, tp96, en97, rf98, J99⟩ := u91
        obtain ⟨hw92, h100, hO⟩ := hw92
        have h100 : tp96 ≤ 32000 := h100
        obtain rfl : v93 = none := hw92
        have hO : OKP G h0 a (upd (upd (upd (upd F 19 (nI tp96)) 23 en97) 25 rf98) 26 (nI ht)) (updR (updR (updR R 5 (.ref pq)) 7 (.ref (a sp))) 8 (.ref (a op))) Z B J99 K w := hO.to rfl
        refine W.widen (k := 0) (n := 0) (Nat.le_of_ble_eq_true rfl) (Nat.le_of_ble_eq_true rfl) ?_
        refine W.eq (g2 := F0 m 47 ls []) rfl ?_
        refine lv_goto (tgt := 74) hx hb dX5_check_47 (by decide) ?_
        have hz101 : tp96 ≤ 32000 := (by omega)
        have hO : OKP G h0 a (upd (upd (upd (upd F 19 (nI tp96)) 23 en97) 25 rf98) 26 (nI ht)) (updR (updR (updR R 5 (.ref pq)) 7 (.ref (a sp))) 8 (.ref (a op))) Z B J99 K w := hO.to rfl
        exact W.vret hx hb hr (fun t99 ht99 hW99 => ⟨⟨_, (w, (tp96, en97, rf98, J99, Z)), rfl, ⟨rfl, hz101, hO⟩, by rw [ht99]; exact hP, hD⟩, hS.F ht99⟩) hS.2.2 dX5_check_74
    · have n102 : ¬ (r62 = 0) := fun h9 => c64 ((nI_eq (a := r62) (b := 0) (by omega) (by omega)).mpr h9)
      refine lv_iconst (v := 1) hx hb dX5_check_30 (by decide) ?_
      refine lv_goto (tgt := 35) hx hb dX5_check_31 (by decide) ?_
      refine lv_istore (lv' := [(5, .int 1), (3, .long r6), (0, .ref (a 5)), (1, .int (nI b9)), (2, .int x)]) hx hb dX5_check_35 hl (by decide) rfl (fun ls hl => ?_)
      refine lv_iload_n hx hb dX5_check_37 rfl (lv_at hl 3 rfl) ?_
      refine lv_if_ne (tgt := 50) hx hb dX5_check_38 (by decide) (fun c103 => ?_) (fun c103 => ?_)
      · have n104 : ¬ (b9 = 0) := fun h9 => c103 ((nI_eq (a := b9) (b := 0) (by omega) (by omega)).mpr h9)
        refine lv_iload hx hb dX5_check_50 (lv_at hl 0 rfl) ?_
        refine lv_if_ne (tgt := 61) hx hb dX5_check_52 (by decide) (fun c105 => ?_) (fun c105 => absurd c105 (by decide))
        refine lv_aload_n hx hb dX5_check_61 rfl (lv_at hl 2 rfl) ?_
        refine lv_lload_n hx hb dX5_check_62 rfl (lv_at hl 1 rfl) ?_
        have hO : OKW G h0 a (upd (upd (upd (upd (upd F 19 (nI tp7)) 23 en8) 25 rf9) 26 (nI ht)) 19 (nI tp7)) (updR (updR (updR R 5 (.ref pq)) 7 (.ref (a sp))) 8 (.ref (a op))) Z B J10 K.1 (fun q99 x99 => x99 = rep G a K q99) w := hO.to rfl
        obtain ⟨_, qr109, hqr110⟩ := hO.2.1 28 _ (sg_28 G h0 a _ _ _ _ _)
        refine pc_V0 (G := G) (As := [.long r6]) (rest := []) hx hb hml hown hq hE hX pX0_al hP hD hS hA hl.1 (M_push l G h0 a (upd (upd (upd (upd F 19 (nI tp7)) 23 en8) 25 rf9) 26 (nI ht)) (updR (updR (updR R 5 (.ref pq)) 7 (.ref (a sp))) 8 (.ref (a op))) Z B J10 K.1 (fun q99 x99 => x99 = rep G a K q99) w r6 tp7 (by omega) hO) (gV pw_549 pw_550 pw_551 pw_539 pw_535) hV_X5_push qr109 4 hqr110 rfl rfl rfl (Nat.le_of_ble_eq_true rfl) dX5_check_63 ⟨Nat.le_of_ble_eq_true rfl, Nat.le_of_ble_eq_true rfl⟩ ⟨Nat.le_of_ble_eq_true rfl, Nat.le_of_ble_eq_true rfl⟩ (fun v108 u106 H locs hw107 hP hD hS => ?_)
        obtain ⟨w, tp111, en112, rf113, J114⟩ := u106
        obtain ⟨hw107, h115, hO⟩ := hw107
        have h115 : tp111 ≤ 32000 := h115
        obtain rfl : v108 = none := hw107
        have hO : OKP G h0 a (upd (upd (upd (upd F 19 (nI tp111)) 23 en112) 25 rf113) 26 (nI ht)) (updR (updR (updR R 5 (.ref pq)) 7 (.ref (a sp))) 8 (.ref (a op))) Z B J114 K w := hO.to rfl
        refine W.widen (k := 0) (n := 0) (Nat.le_of_ble_eq_true rfl) (Nat.le_of_ble_eq_true rfl) ?_
        refine W.eq (g2 := F0 m 66 ls []) rfl ?_
        refine lv_goto (tgt := 74) hx hb dX5_check_66 (by decide) ?_
        have hz116 : tp111 ≤ 32000 := (by omega)
        have hO : OKP G h0 a (upd (upd (upd (upd F 19 (nI tp111)) 23 en112) 25 rf113) 26 (nI ht)) (updR (updR (updR R 5 (.ref pq)) 7 (.ref (a sp))) 8 (.ref (a op))) Z B J114 K w := hO.to rfl
        exact W.vret hx hb hr (fun t99 ht99 hW99 => ⟨⟨_, (w, (tp111, en112, rf113, J114, Z)), rfl, ⟨rfl, hz116, hO⟩, by rw [ht99]; exact hP, hD⟩, hS.F ht99⟩) hS.2.2 dX5_check_74
      · have n117 : b9 = 0 := (nI_eq (a := b9) (b := 0) (by omega) (by omega)).mp c103
        refine lv_aload_n hx hb dX5_check_41 rfl (lv_at hl 2 rfl) ?_
        refine lv_iload hx hb dX5_check_42 (lv_at hl 0 rfl) ?_
        have hO : OKW G h0 a (upd (upd (upd (upd (upd F 19 (nI tp7)) 23 en8) 25 rf9) 26 (nI ht)) 19 (nI tp7)) (updR (updR (updR R 5 (.ref pq)) 7 (.ref (a sp))) 8 (.ref (a op))) Z B J10 K.1 (fun q99 x99 => x99 = rep G a K q99) w := hO.to rfl
        obtain ⟨_, qr121, hqr122⟩ := hO.2.1 28 _ (sg_28 G h0 a _ _ _ _ _)
        refine pc_V0 (G := G) (As := [.int (nI 1)]) (rest := []) hx hb hml hown hq hE hX pX0_al hP hD hS hA hl.1 (M_pushTruth l G h0 a (upd (upd (upd (upd F 19 (nI tp7)) 23 en8) 25 rf9) 26 (nI ht)) (updR (updR (updR R 5 (.ref pq)) 7 (.ref (a sp))) 8 (.ref (a op))) Z B J10 K.1 (fun q99 x99 => x99 = rep G a K q99) w 1 tp7 (by omega) (by omega) hO) (gV pw_609 pw_610 pw_611 pw_539 pw_601) hV_X5_pushTruth qr121 4 hqr122 rfl rfl rfl (Nat.le_of_ble_eq_true rfl) dX5_check_44 ⟨Nat.le_of_ble_eq_true rfl, Nat.le_of_ble_eq_true rfl⟩ ⟨Nat.le_of_ble_eq_true rfl, Nat.le_of_ble_eq_true rfl⟩ (fun v120 u118 H locs hw119 hP hD hS => ?_)
        obtain ⟨w, tp123, en124, rf125, J126⟩ := u118
        obtain ⟨hw119, h127, hO⟩ := hw119
        have h127 : tp123 ≤ 32000 := h127
        obtain rfl : v120 = none := hw119
        have hO : OKP G h0 a (upd (upd (upd (upd F 19 (nI tp123)) 23 en124) 25 rf125) 26 (nI ht)) (updR (updR (updR R 5 (.ref pq)) 7 (.ref (a sp))) 8 (.ref (a op))) Z B J126 K w := hO.to rfl
        refine W.widen (k := 0) (n := 0) (Nat.le_of_ble_eq_true rfl) (Nat.le_of_ble_eq_true rfl) ?_
        refine W.eq (g2 := F0 m 47 ls []) rfl ?_
        refine lv_goto (tgt := 74) hx hb dX5_check_47 (by decide) ?_
        have hz128 : tp123 ≤ 32000 := (by omega)
        have hO : OKP G h0 a (upd (upd (upd (upd F 19 (nI tp123)) 23 en124) 25 rf125) 26 (nI ht)) (updR (updR (updR R 5 (.ref pq)) 7 (.ref (a sp))) 8 (.ref (a op))) Z B J126 K w := hO.to rfl
        exact W.vret hx hb hr (fun t99 ht99 hW99 => ⟨⟨_, (w, (tp123, en124, rf125, J126, Z)), rfl, ⟨rfl, hz128, hO⟩, by rw [ht99]; exact hP, hD⟩, hS.F ht99⟩) hS.2.2 dX5_check_74
theorem dX5_length_0 : decode cX5_length 0 = .ok (.aload_n 0, 1) := by decide +kernel
theorem dX5_length_1 : decode cX5_length 1 = .ok (.invokevirtual 180, 3) := by decide +kernel
theorem dX5_length_4 : decode cX5_length 4 = .ok (.lstore_n 1, 1) := by decide +kernel
theorem dX5_length_5 : decode cX5_length 5 = .ok (.lload_n 1, 1) := by decide +kernel
theorem dX5_length_6 : decode cX5_length 6 = .ok (.lconst 0, 1) := by decide +kernel
theorem dX5_length_7 : decode cX5_length 7 = .ok (.lcmp, 1) := by decide +kernel
theorem dX5_length_8 : decode cX5_length 8 = .ok (.ifCond .ne 11, 3) := by decide +kernel
theorem dX5_length_19 : decode cX5_length 19 = .ok (.aload_n 0, 1) := by decide +kernel
theorem dX5_length_20 : decode cX5_length 20 = .ok (.aload_n 0, 1) := by decide +kernel
theorem dX5_length_21 : decode cX5_length 21 = .ok (.getfield 18, 3) := by decide +kernel
theorem dX5_length_24 : decode cX5_length 24 = .ok (.lload_n 1, 1) := by decide +kernel
theorem dX5_length_25 : decode cX5_length 25 = .ok (.invokevirtual 261, 3) := by decide +kernel
theorem dX5_length_28 : decode cX5_length 28 = .ok (.invokevirtual 237, 3) := by decide +kernel
theorem dX5_length_31 : decode cX5_length 31 = .ok (.return_, 1) := by decide +kernel
theorem dX5_length_11 : decode cX5_length 11 = .ok (.aload_n 0, 1) := by decide +kernel
theorem dX5_length_12 : decode cX5_length 12 = .ok (.iconst 1, 1) := by decide +kernel
theorem dX5_length_13 : decode cX5_length 13 = .ok (.invokevirtual 252, 3) := by decide +kernel
theorem dX5_length_16 : decode cX5_length 16 = .ok (.goto 15, 3) := by decide +kernel
set_option maxHeartbeats 8000000 in
set_option maxRecDepth 100000 in
theorem M_length (l : Launch) (G : pT) (h0 : Nat) (a : Nat → Nat) (F : Nat → Int32) (R : Nat → Value) (Z : Int64) (B : Nat → Nat → Int32) (J : Nat → Nat → Int64) (T : Nat → Nat) (Pi : Nat → va_E → Prop) (w : va_W) (tp : Nat) (sp : Nat) (op : Nat) (ht : Nat) (htp : tp ≤ 32000) (hsp : (sp = 34 ∧ op = 35) ∨ (sp = 35 ∧ op = 34)) (hht : 8 ≤ ht ∧ ht ≤ 3008) (hO : OKW G h0 a (upd (upd F 19 (nI tp)) 26 (nI ht)) (updR (updR R 7 (.ref (a sp))) 8 (.ref (a op))) Z B J T Pi w) : PM l G pX0 yX5_length cX5_length 3 none ({ frames := 5, cells := 0, slots := 0, locals := 129 }) [.ref (a 5)] w (fun (v : Option Value) (u : va_W × (Nat × Int32 × Int32 × (Nat → Nat → Int64) × Int64)) => v = none ∧ (u.2.1 ≤ 32000) ∧ (OKW G h0 a (upd (upd (upd (upd F 19 (nI u.2.1)) 23 u.2.2.1) 25 u.2.2.2.1) 26 (nI ht)) (updR (updR R 7 (.ref (a sp))) 8 (.ref (a op))) u.2.2.2.2.2 B u.2.2.2.2.1 T Pi u.1)) (fun u => u.1) := by
  intro sz
  refine Met.ofW (cc := cX5_length) (maxL := 3) (ret := none) (by decide) rfl ?_
  intro p e s m args below meth c s₁ B9 hml hv
  obtain ⟨rfl, hsz, hP, hD0, hE, hX⟩ := hv
  have hx := B9.exec
  have hb := B9.bytes
  have hr := B9.returns
  have hts := atoms_spec (ws := Cond.code yX5_length cX5_length 3 none :: pw) B9.pre
  have hq : ∀ w ∈ pw, w.before _ s = true := fun w h => hts w (List.mem_cons_of_mem _ h)
  have hown : s.vm.findClass RX5 = some m.cls := findClass_of_methodNamed B9.named
  have hlocks := B9.notSynchronized
  subst hsz
  have hD := hD0.self (sz := s.heap.size)
  have hA : ∀ q : Nat, s.heap.size ≤ q → va_A w s.heap.size q := fun q h => Or.inr h
  generalize va_A w s.heap.size = A at hD hE hA ⊢
  have hS : va_S A s.heap s.heap [] := va_S.rf
  have hl := lv_entry ([.ref (a 5)]) (n := 3) (Nat.le_of_ble_eq_true rfl)
  rw [lg_entry_eq]
  generalize (lg_sl ([.ref (a 5)]) ++ List.replicate (3 - (lg_sl ([.ref (a 5)])).length) Slot.unset).toArray = ls at hl ⊢
  have hl : lv_has ls 3 [(0, .ref (a 5))] := hl
  refine lv_aload_n hx hb dX5_length_0 rfl (lv_at hl 0 rfl) ?_
  have hO : OKW G h0 a (upd (upd (upd F 19 (nI tp)) 26 (nI ht)) 19 (nI tp)) (updR (updR R 7 (.ref (a sp))) 8 (.ref (a op))) Z B J T Pi w := hO.to rfl
  obtain ⟨_, qr4, hqr5⟩ := hO.2.1 28 _ (sg_28 G h0 a _ _ _ _ _)
  refine pc_V0 (G := G) (As := []) (rest := []) hx hb hml hown hq hE hX pX0_al hP hD hS hA hl.1 (M_pop l G h0 a (upd (upd F 19 (nI tp)) 26 (nI ht)) (updR (updR R 7 (.ref (a sp))) 8 (.ref (a op))) Z B J T Pi w tp (by omega) hO) (gV pw_598 pw_599 pw_600 pw_539 pw_595) hV_X5_pop qr4 4 hqr5 rfl rfl rfl (Nat.le_of_ble_eq_true rfl) dX5_length_1 ⟨Nat.le_of_ble_eq_true rfl, Nat.le_of_ble_eq_true rfl⟩ ⟨Nat.le_of_ble_eq_true rfl, Nat.le_of_ble_eq_true rfl⟩ (fun v3 u1 H locs hw2 hP hD hS => ?_)
  obtain ⟨w, r6, tp7, en8, rf9, J10⟩ := u1
  obtain ⟨hw2, h11, hO⟩ := hw2
  have h11 : tp7 ≤ 32000 := h11
  obtain rfl : v3 = some (.long r6) := hw2
  have hO : OKW G h0 a (upd (upd (upd (upd F 19 (nI tp7)) 23 en8) 25 rf9) 26 (nI ht)) (updR (updR R 7 (.ref (a sp))) 8 (.ref (a op))) Z B J10 T Pi w := hO.to rfl
  refine W.widen (k := 0) (n := 0) (Nat.le_of_ble_eq_true rfl) (Nat.le_of_ble_eq_true rfl) ?_
  refine W.eq (g2 := F0 m 4 ls [.long r6]) rfl ?_
  refine lv_lstore_n (lv' := [(1, .long r6), (0, .ref (a 5))]) hx hb dX5_length_4 rfl hl (by decide) rfl (fun ls hl => ?_)
  refine lv_lload_n hx hb dX5_length_5 rfl (lv_at hl 0 rfl) ?_
  refine lv_lconst (v := 0) hx hb dX5_length_6 (by decide) ?_
  refine W.lcmp hx hb dX5_length_7 ?_
  refine lv_topi (fun x12 e13 => ?_)
  refine lv_if_ne (tgt := 19) hx hb dX5_length_8 (by decide) (fun c14 => ?_) (fun c14 => ?_)
  · refine lv_aload_n hx hb dX5_length_19 rfl (lv_at hl 1 rfl) ?_
    refine lv_aload_n hx hb dX5_length_20 rfl (lv_at hl 1 rfl) ?_
    refine c_get (v := .ref (a 28)) (C := RX5) (Tc := TX5) (N := 19) (ci := 4) hx hb hq pin_wsX50 hown hE hP hO 28 (sg_28 G h0 a _ _ _ _ _) rfl 1 (by decide) (hq _ pw_473) (fun _ h9 => h9) rfl dX5_length_21 ?_
    refine lv_lload_n hx hb dX5_length_24 rfl (lv_at hl 0 rfl) ?_
    have hO : OKW G h0 a (upd (upd (upd (upd (upd F 19 (nI tp7)) 23 en8) 25 rf9) 26 (nI ht)) 26 (nI ht)) (updR (updR (updR (updR R 7 (.ref (a sp))) 8 (.ref (a op))) 7 (.ref (a sp))) 8 (.ref (a op))) Z B J10 T Pi w := hO.to rfl
    obtain ⟨_, qr18, hqr19⟩ := hO.2.1 29 _ (sg_29 G h0 a _ _ _ _ _)
    refine pc_V0 (G := G) (As := [.long r6]) (rest := [.ref (a 5)]) hx hb hml hown hq hE hX pX0_al hP hD hS hA hl.1 (K_partsOf l G h0 a (upd (upd (upd (upd F 19 (nI tp7)) 23 en8) 25 rf9) 26 (nI ht)) (updR (updR R 7 (.ref (a sp))) 8 (.ref (a op))) Z B J10 T Pi w r6 sp op ht hsp (by omega) hO) (gV pw_646 pw_454 pw_455 pw_440 pw_448) hV_X3_partsOf qr18 3 hqr19 rfl rfl rfl (Nat.le_of_ble_eq_true rfl) dX5_length_25 ⟨Nat.le_of_ble_eq_true rfl, Nat.le_of_ble_eq_true rfl⟩ ⟨Nat.le_of_ble_eq_true rfl, Nat.le_of_ble_eq_true rfl⟩ (fun v17 u15 H locs hw16 hP hD hS => ?_)
    obtain ⟨w, r20⟩ := u15
    obtain ⟨hw16, hO⟩ := hw16
    obtain rfl : v17 = some (.int r20) := hw16
    have hO : OKW G h0 a (upd (upd (upd (upd F 19 (nI tp7)) 23 en8) 25 rf9) 26 (nI ht)) (updR (updR R 7 (.ref (a sp))) 8 (.ref (a op))) Z B J10 T Pi w := hO.to rfl
    refine W.widen (k := 0) (n := 0) (Nat.le_of_ble_eq_true rfl) (Nat.le_of_ble_eq_true rfl) ?_
    refine W.eq (g2 := F0 m 28 ls [.int r20, .ref (a 5)]) rfl ?_
    have hO : OKW G h0 a (upd (upd (upd (upd (upd F 19 (nI tp7)) 23 en8) 25 rf9) 26 (nI ht)) 19 (nI tp7)) (updR (updR R 7 (.ref (a sp))) 8 (.ref (a op))) Z B J10 T Pi w := hO.to rfl
    obtain ⟨_, qr24, hqr25⟩ := hO.2.1 28 _ (sg_28 G h0 a _ _ _ _ _)
    refine pc_V0 (G := G) (As := [.int r20]) (rest := []) hx hb hml hown hq hE hX pX0_al hP hD hS hA hl.1 (M_pushNumber l G h0 a (upd (upd (upd (upd F 19 (nI tp7)) 23 en8) 25 rf9) 26 (nI ht)) (updR (updR R 7 (.ref (a sp))) 8 (.ref (a op))) Z B J10 T Pi w r20 tp7 (by omega) hO) (gV pw_605 pw_606 pw_607 pw_539 pw_602) hV_X5_pushNumber qr24 4 hqr25 rfl rfl rfl (Nat.le_of_ble_eq_true rfl) dX5_length_28 ⟨Nat.le_of_ble_eq_true rfl, Nat.le_of_ble_eq_true rfl⟩ ⟨Nat.le_of_ble_eq_true rfl, Nat.le_of_ble_eq_true rfl⟩ (fun v23 u21 H locs hw22 hP hD hS => ?_)
    obtain ⟨w, tp26, en27, rf28, J29⟩ := u21
    obtain ⟨hw22, h30, hO⟩ := hw22
    have h30 : tp26 ≤ 32000 := h30
    obtain rfl : v23 = none := hw22
    have hO : OKW G h0 a (upd (upd (upd (upd F 19 (nI tp26)) 23 en27) 25 rf28) 26 (nI ht)) (updR (updR R 7 (.ref (a sp))) 8 (.ref (a op))) Z B J29 T Pi w := hO.to rfl
    refine W.widen (k := 0) (n := 0) (Nat.le_of_ble_eq_true rfl) (Nat.le_of_ble_eq_true rfl) ?_
    refine W.eq (g2 := F0 m 31 ls []) rfl ?_
    have hz31 : tp26 ≤ 32000 := (by omega)
    have hO : OKW G h0 a (upd (upd (upd (upd F 19 (nI tp26)) 23 en27) 25 rf28) 26 (nI ht)) (updR (updR R 7 (.ref (a sp))) 8 (.ref (a op))) Z B J29 T Pi w := hO.to rfl
    exact W.vret hx hb hr (fun t99 ht99 hW99 => ⟨⟨_, (w, (tp26, en27, rf28, J29, Z)), rfl, ⟨rfl, hz31, hO⟩, by rw [ht99]; exact hP, hD⟩, hS.F ht99⟩) hS.2.2 dX5_length_31
  · refine lv_aload_n hx hb dX5_length_11 rfl (lv_at hl 1 rfl) ?_
    refine lv_iconst (v := 1) hx hb dX5_length_12 (by decide) ?_
    have hO : OKW G h0 a (upd (upd (upd (upd F 19 (nI tp7)) 23 en8) 25 rf9) 26 (nI ht)) (updR (updR R 7 (.ref (a sp))) 8 (.ref (a op))) Z B J10 T Pi w := hO.to rfl
    obtain ⟨_, qr35, hqr36⟩ := hO.2.1 28 _ (sg_28 G h0 a _ _ _ _ _)
    refine pc_V0 (G := G) (As := [.int 1]) (rest := []) hx hb hml hown hq hE hX pX0_al hP hD hS hA hl.1 (M_raise l G h0 a (upd (upd (upd (upd F 19 (nI tp7)) 23 en8) 25 rf9) 26 (nI ht)) (updR (updR R 7 (.ref (a sp))) 8 (.ref (a op))) Z B J10 T Pi w 1 hO) (gV pw_570 pw_571 pw_572 pw_539 pw_561) hV_X5_raise qr35 4 hqr36 rfl rfl rfl (Nat.le_of_ble_eq_true rfl) dX5_length_13 ⟨Nat.le_of_ble_eq_true rfl, Nat.le_of_ble_eq_true rfl⟩ ⟨Nat.le_of_ble_eq_true rfl, Nat.le_of_ble_eq_true rfl⟩ (fun v34 u32 H locs hw33 hP hD hS => ?_)
    obtain ⟨w, z37⟩ := u32
    obtain ⟨hw33, hO⟩ := hw33
    obtain rfl : v34 = none := hw33
    have hO : OKW G h0 a (upd (upd (upd (upd F 19 (nI tp7)) 23 en8) 25 rf9) 26 (nI ht)) (updR (updR R 7 (.ref (a sp))) 8 (.ref (a op))) z37 B J10 T Pi w := hO.to rfl
    refine W.widen (k := 0) (n := 0) (Nat.le_of_ble_eq_true rfl) (Nat.le_of_ble_eq_true rfl) ?_
    refine W.eq (g2 := F0 m 16 ls []) rfl ?_
    refine lv_goto (tgt := 31) hx hb dX5_length_16 (by decide) ?_
    have hz38 : tp7 ≤ 32000 := (by omega)
    have hO : OKW G h0 a (upd (upd (upd (upd F 19 (nI tp7)) 23 en8) 25 rf9) 26 (nI ht)) (updR (updR R 7 (.ref (a sp))) 8 (.ref (a op))) z37 B J10 T Pi w := hO.to rfl
    exact W.vret hx hb hr (fun t99 ht99 hW99 => ⟨⟨_, (w, (tp7, en8, rf9, J10, z37)), rfl, ⟨rfl, hz38, hO⟩, by rw [ht99]; exact hP, hD⟩, hS.F ht99⟩) hS.2.2 dX5_length_31
theorem dX5_getField_0 : decode cX5_getField 0 = .ok (.aload_n 0, 1) := by decide +kernel
theorem dX5_getField_1 : decode cX5_getField 1 = .ok (.invokevirtual 180, 3) := by decide +kernel
theorem dX5_getField_4 : decode cX5_getField 4 = .ok (.lstore_n 2, 1) := by decide +kernel
theorem dX5_getField_5 : decode cX5_getField 5 = .ok (.lload_n 2, 1) := by decide +kernel
theorem dX5_getField_6 : decode cX5_getField 6 = .ok (.lconst 0, 1) := by decide +kernel
theorem dX5_getField_7 : decode cX5_getField 7 = .ok (.lcmp, 1) := by decide +kernel
theorem dX5_getField_8 : decode cX5_getField 8 = .ok (.ifCond .ne 11, 3) := by decide +kernel
theorem dX5_getField_19 : decode cX5_getField 19 = .ok (.aload_n 0, 1) := by decide +kernel
theorem dX5_getField_20 : decode cX5_getField 20 = .ok (.aload_n 0, 1) := by decide +kernel
theorem dX5_getField_21 : decode cX5_getField 21 = .ok (.getfield 18, 3) := by decide +kernel
theorem dX5_getField_24 : decode cX5_getField 24 = .ok (.lload_n 2, 1) := by decide +kernel
theorem dX5_getField_25 : decode cX5_getField 25 = .ok (.iload_n 1, 1) := by decide +kernel
theorem dX5_getField_26 : decode cX5_getField 26 = .ok (.invokevirtual 76, 3) := by decide +kernel
theorem dX5_getField_29 : decode cX5_getField 29 = .ok (.invokevirtual 172, 3) := by decide +kernel
theorem dX5_getField_32 : decode cX5_getField 32 = .ok (.return_, 1) := by decide +kernel
theorem dX5_getField_11 : decode cX5_getField 11 = .ok (.aload_n 0, 1) := by decide +kernel
theorem dX5_getField_12 : decode cX5_getField 12 = .ok (.iconst 1, 1) := by decide +kernel
theorem dX5_getField_13 : decode cX5_getField 13 = .ok (.invokevirtual 252, 3) := by decide +kernel
theorem dX5_getField_16 : decode cX5_getField 16 = .ok (.goto 16, 3) := by decide +kernel
theorem hV_X3_get : yX3_get.cls = RX3 ∧ yX3_get.cls ≠ "java/lang/invoke/MethodHandle" ∧ yX3_get.cls ≠ "java/lang/invoke/VarHandle" ∧ (parseMethodDescriptor yX3_get.desc).map (fun d => d.parameters.length) = some 2 := by decide +kernel
set_option maxHeartbeats 8000000 in
set_option maxRecDepth 100000 in
theorem M_getField (l : Launch) (G : pT) (h0 : Nat) (a : Nat → Nat) (F : Nat → Int32) (R : Nat → Value) (Z : Int64) (B : Nat → Nat → Int32) (J : Nat → Nat → Int64) (T : Nat → Nat) (Pi : Nat → va_E → Prop) (w : va_W) (x : Int32) (tp : Nat) (sp : Nat) (op : Nat) (ht : Nat) (htp : tp ≤ 32000) (hsp : (sp = 34 ∧ op = 35) ∨ (sp = 35 ∧ op = 34)) (hht : 8 ≤ ht ∧ ht ≤ 3008) (hO : OKW G h0 a (upd (upd F 19 (nI tp)) 26 (nI ht)) (updR (updR R 7 (.ref (a sp))) 8 (.ref (a op))) Z B J T Pi w) : PM l G pX0 yX5_getField cX5_getField 4 none ({ frames := 6, cells := 0, slots := 0, locals := 153 }) [.ref (a 5), .int x] w (fun (v : Option Value) (u : va_W × (Nat × Int32 × Int32 × (Nat → Nat → Int64) × Int64)) => v = none ∧ (u.2.1 ≤ 32000) ∧ (OKW G h0 a (upd (upd (upd (upd F 19 (nI u.2.1)) 23 u.2.2.1) 25 u.2.2.2.1) 26 (nI ht)) (updR (updR R 7 (.ref (a sp))) 8 (.ref (a op))) u.2.2.2.2.2 B u.2.2.2.2.1 T Pi u.1)) (fun u => u.1) := by
  intro sz
  refine Met.ofW (cc := cX5_getField) (maxL := 4) (ret := none) (by decide) rfl ?_
  intro p e s m args below meth c s₁ B9 hml hv
  obtain ⟨rfl, hsz, hP, hD0, hE, hX⟩ := hv
  have hx := B9.exec
  have hb := B9.bytes
  have hr := B9.returns
  have hts := atoms_spec (ws := Cond.code yX5_getField cX5_getField 4 none :: pw) B9.pre
  have hq : ∀ w ∈ pw, w.before _ s = true := fun w h => hts w (List.mem_cons_of_mem _ h)
  have hown : s.vm.findClass RX5 = some m.cls := findClass_of_methodNamed B9.named
  have hlocks := B9.notSynchronized
  subst hsz
  have hD := hD0.self (sz := s.heap.size)
  have hA : ∀ q : Nat, s.heap.size ≤ q → va_A w s.heap.size q := fun q h => Or.inr h
  generalize va_A w s.heap.size = A at hD hE hA ⊢
  have hS : va_S A s.heap s.heap [] := va_S.rf
  have hl := lv_entry ([.ref (a 5), .int x]) (n := 4) (Nat.le_of_ble_eq_true rfl)
  rw [lg_entry_eq]
  generalize (lg_sl ([.ref (a 5), .int x]) ++ List.replicate (4 - (lg_sl ([.ref (a 5), .int x])).length) Slot.unset).toArray = ls at hl ⊢
  have hl : lv_has ls 4 [(0, .ref (a 5)), (1, .int x)] := hl
  refine lv_aload_n hx hb dX5_getField_0 rfl (lv_at hl 0 rfl) ?_
  have hO : OKW G h0 a (upd (upd (upd F 19 (nI tp)) 26 (nI ht)) 19 (nI tp)) (updR (updR R 7 (.ref (a sp))) 8 (.ref (a op))) Z B J T Pi w := hO.to rfl
  obtain ⟨_, qr4, hqr5⟩ := hO.2.1 28 _ (sg_28 G h0 a _ _ _ _ _)
  refine pc_V0 (G := G) (As := []) (rest := []) hx hb hml hown hq hE hX pX0_al hP hD hS hA hl.1 (M_pop l G h0 a (upd (upd F 19 (nI tp)) 26 (nI ht)) (updR (updR R 7 (.ref (a sp))) 8 (.ref (a op))) Z B J T Pi w tp (by omega) hO) (gV pw_598 pw_599 pw_600 pw_539 pw_595) hV_X5_pop qr4 4 hqr5 rfl rfl rfl (Nat.le_of_ble_eq_true rfl) dX5_getField_1 ⟨Nat.le_of_ble_eq_true rfl, Nat.le_of_ble_eq_true rfl⟩ ⟨Nat.le_of_ble_eq_true rfl, Nat.le_of_ble_eq_true rfl⟩ (fun v3 u1 H locs hw2 hP hD hS => ?_)
  obtain ⟨w, r6, tp7, en8, rf9, J10⟩ := u1
  obtain ⟨hw2, h11, hO⟩ := hw2
  have h11 : tp7 ≤ 32000 := h11
  obtain rfl : v3 = some (.long r6) := hw2
  have hO : OKW G h0 a (upd (upd (upd (upd F 19 (nI tp7)) 23 en8) 25 rf9) 26 (nI ht)) (updR (updR R 7 (.ref (a sp))) 8 (.ref (a op))) Z B J10 T Pi w := hO.to rfl
  refine W.widen (k := 0) (n := 0) (Nat.le_of_ble_eq_true rfl) (Nat.le_of_ble_eq_true rfl) ?_
  refine W.eq (g2 := F0 m 4 ls [.long r6]) rfl ?_
  refine lv_lstore_n (lv' := [(2, .long r6), (0, .ref (a 5)), (1, .int x)]) hx hb dX5_getField_4 rfl hl (by decide) rfl (fun ls hl => ?_)
  refine lv_lload_n hx hb dX5_getField_5 rfl (lv_at hl 0 rfl) ?_
  refine lv_lconst (v := 0) hx hb dX5_getField_6 (by decide) ?_
  refine W.lcmp hx hb dX5_getField_7 ?_
  refine lv_topi (fun x12 e13 => ?_)
  refine lv_if_ne (tgt := 19) hx hb dX5_getField_8 (by decide) (fun c14 => ?_) (fun c14 => ?_)
  · refine lv_aload_n hx hb dX5_getField_19 rfl (lv_at hl 1 rfl) ?_
    refine lv_aload_n hx hb dX5_getField_20 rfl (lv_at hl 1 rfl) ?_
    refine c_get (v := .ref (a 28)) (C := RX5) (Tc := TX5) (N := 19) (ci := 4) hx hb hq pin_wsX50 hown hE hP hO 28 (sg_28 G h0 a _ _ _ _ _) rfl 1 (by decide) (hq _ pw_473) (fun _ h9 => h9) rfl dX5_getField_21 ?_
    refine lv_lload_n hx hb dX5_getField_24 rfl (lv_at hl 0 rfl) ?_
    refine lv_iload_n hx hb dX5_getField_25 rfl (lv_at hl 2 rfl) ?_
    have hO : OKW G h0 a (upd (upd (upd (upd (upd F 19 (nI tp7)) 23 en8) 25 rf9) 26 (nI ht)) 26 (nI ht)) (updR (updR (updR (updR R 7 (.ref (a sp))) 8 (.ref (a op))) 7 (.ref (a sp))) 8 (.ref (a op))) Z B J10 T Pi w := hO.to rfl
    obtain ⟨_, qr18, hqr19⟩ := hO.2.1 29 _ (sg_29 G h0 a _ _ _ _ _)
    refine pc_V0 (G := G) (As := [.long r6, .int x]) (rest := [.ref (a 5)]) hx hb hml hown hq hE hX pX0_al hP hD hS hA hl.1 (K_get l G h0 a (upd (upd (upd (upd F 19 (nI tp7)) 23 en8) 25 rf9) 26 (nI ht)) (updR (updR R 7 (.ref (a sp))) 8 (.ref (a op))) Z B J10 T Pi w r6 x sp op ht hsp (by omega) hO) (gV pw_494 pw_495 pw_496 pw_440 pw_452) hV_X3_get qr18 3 hqr19 rfl rfl rfl (Nat.le_of_ble_eq_true rfl) dX5_getField_26 ⟨Nat.le_of_ble_eq_true rfl, Nat.le_of_ble_eq_true rfl⟩ ⟨Nat.le_of_ble_eq_true rfl, Nat.le_of_ble_eq_true rfl⟩ (fun v17 u15 H locs hw16 hP hD hS => ?_)
    obtain ⟨w, r20⟩ := u15
    obtain ⟨hw16, hO⟩ := hw16
    obtain rfl : v17 = some (.long r20) := hw16
    have hO : OKW G h0 a (upd (upd (upd (upd F 19 (nI tp7)) 23 en8) 25 rf9) 26 (nI ht)) (updR (updR R 7 (.ref (a sp))) 8 (.ref (a op))) Z B J10 T Pi w := hO.to rfl
    refine W.widen (k := 0) (n := 0) (Nat.le_of_ble_eq_true rfl) (Nat.le_of_ble_eq_true rfl) ?_
    refine W.eq (g2 := F0 m 29 ls [.long r20, .ref (a 5)]) rfl ?_
    have hO : OKW G h0 a (upd (upd (upd (upd (upd F 19 (nI tp7)) 23 en8) 25 rf9) 26 (nI ht)) 19 (nI tp7)) (updR (updR R 7 (.ref (a sp))) 8 (.ref (a op))) Z B J10 T Pi w := hO.to rfl
    obtain ⟨_, qr24, hqr25⟩ := hO.2.1 28 _ (sg_28 G h0 a _ _ _ _ _)
    refine pc_V0 (G := G) (As := [.long r20]) (rest := []) hx hb hml hown hq hE hX pX0_al hP hD hS hA hl.1 (M_push l G h0 a (upd (upd (upd (upd F 19 (nI tp7)) 23 en8) 25 rf9) 26 (nI ht)) (updR (updR R 7 (.ref (a sp))) 8 (.ref (a op))) Z B J10 T Pi w r20 tp7 (by omega) hO) (gV pw_549 pw_550 pw_551 pw_539 pw_535) hV_X5_push qr24 4 hqr25 rfl rfl rfl (Nat.le_of_ble_eq_true rfl) dX5_getField_29 ⟨Nat.le_of_ble_eq_true rfl, Nat.le_of_ble_eq_true rfl⟩ ⟨Nat.le_of_ble_eq_true rfl, Nat.le_of_ble_eq_true rfl⟩ (fun v23 u21 H locs hw22 hP hD hS => ?_)
    obtain ⟨w, tp26, en27, rf28, J29⟩ := u21
    obtain ⟨hw22, h30, hO⟩ := hw22
    have h30 : tp26 ≤ 32000 := h30
    obtain rfl : v23 = none := hw22
    have hO : OKW G h0 a (upd (upd (upd (upd F 19 (nI tp26)) 23 en27) 25 rf28) 26 (nI ht)) (updR (updR R 7 (.ref (a sp))) 8 (.ref (a op))) Z B J29 T Pi w := hO.to rfl
    refine W.widen (k := 0) (n := 0) (Nat.le_of_ble_eq_true rfl) (Nat.le_of_ble_eq_true rfl) ?_
    refine W.eq (g2 := F0 m 32 ls []) rfl ?_
    have hz31 : tp26 ≤ 32000 := (by omega)
    have hO : OKW G h0 a (upd (upd (upd (upd F 19 (nI tp26)) 23 en27) 25 rf28) 26 (nI ht)) (updR (updR R 7 (.ref (a sp))) 8 (.ref (a op))) Z B J29 T Pi w := hO.to rfl
    exact W.vret hx hb hr (fun t99 ht99 hW99 => ⟨⟨_, (w, (tp26, en27, rf28, J29, Z)), rfl, ⟨rfl, hz31, hO⟩, by rw [ht99]; exact hP, hD⟩, hS.F ht99⟩) hS.2.2 dX5_getField_32
  · refine lv_aload_n hx hb dX5_getField_11 rfl (lv_at hl 1 rfl) ?_
    refine lv_iconst (v := 1) hx hb dX5_getField_12 (by decide) ?_
    have hO : OKW G h0 a (upd (upd (upd (upd F 19 (nI tp7)) 23 en8) 25 rf9) 26 (nI ht)) (updR (updR R 7 (.ref (a sp))) 8 (.ref (a op))) Z B J10 T Pi w := hO.to rfl
    obtain ⟨_, qr35, hqr36⟩ := hO.2.1 28 _ (sg_28 G h0 a _ _ _ _ _)
    refine pc_V0 (G := G) (As := [.int 1]) (rest := []) hx hb hml hown hq hE hX pX0_al hP hD hS hA hl.1 (M_raise l G h0 a (upd (upd (upd (upd F 19 (nI tp7)) 23 en8) 25 rf9) 26 (nI ht)) (updR (updR R 7 (.ref (a sp))) 8 (.ref (a op))) Z B J10 T Pi w 1 hO) (gV pw_570 pw_571 pw_572 pw_539 pw_561) hV_X5_raise qr35 4 hqr36 rfl rfl rfl (Nat.le_of_ble_eq_true rfl) dX5_getField_13 ⟨Nat.le_of_ble_eq_true rfl, Nat.le_of_ble_eq_true rfl⟩ ⟨Nat.le_of_ble_eq_true rfl, Nat.le_of_ble_eq_true rfl⟩ (fun v34 u32 H locs hw33 hP hD hS => ?_)
    obtain ⟨w, z37⟩ := u32
    obtain ⟨hw33, hO⟩ := hw33
    obtain rfl : v34 = none := hw33
    have hO : OKW G h0 a (upd (upd (upd (upd F 19 (nI tp7)) 23 en8) 25 rf9) 26 (nI ht)) (updR (updR R 7 (.ref (a sp))) 8 (.ref (a op))) z37 B J10 T Pi w := hO.to rfl
    refine W.widen (k := 0) (n := 0) (Nat.le_of_ble_eq_true rfl) (Nat.le_of_ble_eq_true rfl) ?_
    refine W.eq (g2 := F0 m 16 ls []) rfl ?_
    refine lv_goto (tgt := 32) hx hb dX5_getField_16 (by decide) ?_
    have hz38 : tp7 ≤ 32000 := (by omega)
    have hO : OKW G h0 a (upd (upd (upd (upd F 19 (nI tp7)) 23 en8) 25 rf9) 26 (nI ht)) (updR (updR R 7 (.ref (a sp))) 8 (.ref (a op))) z37 B J10 T Pi w := hO.to rfl
    exact W.vret hx hb hr (fun t99 ht99 hW99 => ⟨⟨_, (w, (tp7, en8, rf9, J10, z37)), rfl, ⟨rfl, hz38, hO⟩, by rw [ht99]; exact hP, hD⟩, hS.F ht99⟩) hS.2.2 dX5_getField_32
theorem dX5_putField_0 : decode cX5_putField 0 = .ok (.aload_n 0, 1) := by decide +kernel
theorem dX5_putField_1 : decode cX5_putField 1 = .ok (.invokevirtual 180, 3) := by decide +kernel
theorem dX5_putField_4 : decode cX5_putField 4 = .ok (.lstore_n 2, 1) := by decide +kernel
theorem dX5_putField_5 : decode cX5_putField 5 = .ok (.aload_n 0, 1) := by decide +kernel
theorem dX5_putField_6 : decode cX5_putField 6 = .ok (.invokevirtual 180, 3) := by decide +kernel
theorem dX5_putField_9 : decode cX5_putField 9 = .ok (.lstore 4, 2) := by decide +kernel
theorem dX5_putField_11 : decode cX5_putField 11 = .ok (.lload 4, 2) := by decide +kernel
theorem dX5_putField_13 : decode cX5_putField 13 = .ok (.lconst 0, 1) := by decide +kernel
theorem dX5_putField_14 : decode cX5_putField 14 = .ok (.lcmp, 1) := by decide +kernel
theorem dX5_putField_15 : decode cX5_putField 15 = .ok (.ifCond .ne 11, 3) := by decide +kernel
theorem dX5_putField_26 : decode cX5_putField 26 = .ok (.aload_n 0, 1) := by decide +kernel
theorem dX5_putField_27 : decode cX5_putField 27 = .ok (.getfield 18, 3) := by decide +kernel
theorem dX5_putField_30 : decode cX5_putField 30 = .ok (.lload 4, 2) := by decide +kernel
theorem dX5_putField_32 : decode cX5_putField 32 = .ok (.iload_n 1, 1) := by decide +kernel
theorem dX5_putField_33 : decode cX5_putField 33 = .ok (.lload_n 2, 1) := by decide +kernel
theorem dX5_putField_34 : decode cX5_putField 34 = .ok (.invokevirtual 264, 3) := by decide +kernel
theorem dX5_putField_37 : decode cX5_putField 37 = .ok (.return_, 1) := by decide +kernel
theorem dX5_putField_18 : decode cX5_putField 18 = .ok (.aload_n 0, 1) := by decide +kernel
theorem dX5_putField_19 : decode cX5_putField 19 = .ok (.iconst 1, 1) := by decide +kernel
theorem dX5_putField_20 : decode cX5_putField 20 = .ok (.invokevirtual 252, 3) := by decide +kernel
theorem dX5_putField_23 : decode cX5_putField 23 = .ok (.goto 14, 3) := by decide +kernel
theorem hV_X3_put : yX3_put.cls = RX3 ∧ yX3_put.cls ≠ "java/lang/invoke/MethodHandle" ∧ yX3_put.cls ≠ "java/lang/invoke/VarHandle" ∧ (parseMethodDescriptor yX3_put.desc).map (fun d => d.parameters.length) = some 3 := by decide +kernel
set_option maxHeartbeats 8000000 in
set_option maxRecDepth 100000 in
theorem M_putField (l : Launch) (G : pT) (h0 : Nat) (a : Nat → Nat) (F : Nat → Int32) (R : Nat → Value) (Z : Int64) (B : Nat → Nat → Int32) (J : Nat → Nat → Int64) (T : Nat → Nat) (Pi : Nat → va_E → Prop) (w : va_W) (x : Int32) (tp : Nat) (sp : Nat) (op : Nat) (ht : Nat) (htp : tp ≤ 32000) (hsp : (sp = 34 ∧ op = 35) ∨ (sp = 35 ∧ op = 34)) (hht : 8 ≤ ht ∧ ht ≤ 3008) (hO : OKW G h0 a (upd (upd F 19 (nI tp)) 26 (nI ht)) (updR (updR R 7 (.ref (a sp))) 8 (.ref (a op))) Z B J T Pi w) : PM l G pX0 yX5_putField cX5_putField 6 none ({ frames := 6, cells := 0, slots := 0, locals := 155 }) [.ref (a 5), .int x] w (fun (v : Option Value) (u : va_W × (Nat × Int32 × Int32 × (Nat → Nat → Int64) × Int64)) => v = none ∧ (u.2.1 ≤ 32000) ∧ (OKW G h0 a (upd (upd (upd (upd F 19 (nI u.2.1)) 23 u.2.2.1) 25 u.2.2.2.1) 26 (nI ht)) (updR (updR R 7 (.ref (a sp))) 8 (.ref (a op))) u.2.2.2.2.2 B u.2.2.2.2.1 T Pi u.1)) (fun u => u.1) := by
  intro sz
  refine Met.ofW (cc := cX5_putField) (maxL := 6) (ret := none) (by decide) rfl ?_
  intro p e s m args below meth c s₁ B9 hml hv
  obtain ⟨rfl, hsz, hP, hD0, hE, hX⟩ := hv
  have hx := B9.exec
  have hb := B9.bytes
  have hr := B9.returns
  have hts := atoms_spec (ws := Cond.code yX5_putField cX5_putField 6 none :: pw) B9.pre
  have hq : ∀ w ∈ pw, w.before _ s = true := fun w h => hts w (List.mem_cons_of_mem _ h)
  have hown : s.vm.findClass RX5 = some m.cls := findClass_of_methodNamed B9.named
  have hlocks := B9.notSynchronized
  subst hsz
  have hD := hD0.self (sz := s.heap.size)
  have hA : ∀ q : Nat, s.heap.size ≤ q → va_A w s.heap.size q := fun q h => Or.inr h
  generalize va_A w s.heap.size = A at hD hE hA ⊢
  have hS : va_S A s.heap s.heap [] := va_S.rf
  have hl := lv_entry ([.ref (a 5), .int x]) (n := 6) (Nat.le_of_ble_eq_true rfl)
  rw [lg_entry_eq]
  generalize (lg_sl ([.ref (a 5), .int x]) ++ List.replicate (6 - (lg_sl ([.ref (a 5), .int x])).length) Slot.unset).toArray = ls at hl ⊢
  have hl : lv_has ls 6 [(0, .ref (a 5)), (1, .int x)] := hl
  refine lv_aload_n hx hb dX5_putField_0 rfl (lv_at hl 0 rfl) ?_
  have hO : OKW G h0 a (upd (upd (upd F 19 (nI tp)) 26 (nI ht)) 19 (nI tp)) (updR (updR R 7 (.ref (a sp))) 8 (.ref (a op))) Z B J T Pi w := hO.to rfl
  obtain ⟨_, qr4, hqr5⟩ := hO.2.1 28 _ (sg_28 G h0 a _ _ _ _ _)
  refine pc_V0 (G := G) (As := []) (rest := []) hx hb hml hown hq hE hX pX0_al hP hD hS hA hl.1 (M_pop l G h0 a (upd (upd F 19 (nI tp)) 26 (nI ht)) (updR (updR R 7 (.ref (a sp))) 8 (.ref (a op))) Z B J T Pi w tp (by omega) hO) (gV pw_598 pw_599 pw_600 pw_539 pw_595) hV_X5_pop qr4 4 hqr5 rfl rfl rfl (Nat.le_of_ble_eq_true rfl) dX5_putField_1 ⟨Nat.le_of_ble_eq_true rfl, Nat.le_of_ble_eq_true rfl⟩ ⟨Nat.le_of_ble_eq_true rfl, Nat.le_of_ble_eq_true rfl⟩ (fun v3 u1 H locs hw2 hP hD hS => ?_)
  obtain ⟨w, r6, tp7, en8, rf9, J10⟩ := u1
  obtain ⟨hw2, h11, hO⟩ := hw2
  have h11 : tp7 ≤ 32000 := h11
  obtain rfl : v3 = some (.long r6) := hw2
  have hO : OKW G h0 a (upd (upd (upd (upd F 19 (nI tp7)) 23 en8) 25 rf9) 26 (nI ht)) (updR (updR R 7 (.ref (a sp))) 8 (.ref (a op))) Z B J10 T Pi w := hO.to rfl
  refine W.widen (k := 0) (n := 0) (Nat.le_of_ble_eq_true rfl) (Nat.le_of_ble_eq_true rfl) ?_
  refine W.eq (g2 := F0 m 4 ls [.long r6]) rfl ?_
  refine lv_lstore_n (lv' := [(2, .long r6), (0, .ref (a 5)), (1, .int x)]) hx hb dX5_putField_4 rfl hl (by decide) rfl (fun ls hl => ?_)
  refine lv_aload_n hx hb dX5_putField_5 rfl (lv_at hl 1 rfl) ?_
  have hO : OKW G h0 a (upd (upd (upd (upd (upd F 19 (nI tp7)) 23 en8) 25 rf9) 26 (nI ht)) 19 (nI tp7)) (updR (updR R 7 (.ref (a sp))) 8 (.ref (a op))) Z B J10 T Pi w := hO.to rfl
  obtain ⟨_, qr15, hqr16⟩ := hO.2.1 28 _ (sg_28 G h0 a _ _ _ _ _)
  refine pc_V0 (G := G) (As := []) (rest := []) hx hb hml hown hq hE hX pX0_al hP hD hS hA hl.1 (M_pop l G h0 a (upd (upd (upd (upd F 19 (nI tp7)) 23 en8) 25 rf9) 26 (nI ht)) (updR (updR R 7 (.ref (a sp))) 8 (.ref (a op))) Z B J10 T Pi w tp7 (by omega) hO) (gV pw_598 pw_599 pw_600 pw_539 pw_595) hV_X5_pop qr15 4 hqr16 rfl rfl rfl (Nat.le_of_ble_eq_true rfl) dX5_putField_6 ⟨Nat.le_of_ble_eq_true rfl, Nat.le_of_ble_eq_true rfl⟩ ⟨Nat.le_of_ble_eq_true rfl, Nat.le_of_ble_eq_true rfl⟩ (fun v14 u12 H locs hw13 hP hD hS => ?_)
  obtain ⟨w, r17, tp18, en19, rf20, J21⟩ := u12
  obtain ⟨hw13, h22, hO⟩ := hw13
  have h22 : tp18 ≤ 32000 := h22
  obtain rfl : v14 = some (.long r17) := hw13
  have hO : OKW G h0 a (upd (upd (upd (upd F 19 (nI tp18)) 23 en19) 25 rf20) 26 (nI ht)) (updR (updR R 7 (.ref (a sp))) 8 (.ref (a op))) Z B J21 T Pi w := hO.to rfl
  refine W.widen (k := 0) (n := 0) (Nat.le_of_ble_eq_true rfl) (Nat.le_of_ble_eq_true rfl) ?_
  refine W.eq (g2 := F0 m 9 ls [.long r17]) rfl ?_
  refine lv_lstore (lv' := [(4, .long r17), (2, .long r6), (0, .ref (a 5)), (1, .int x)]) hx hb dX5_putField_9 hl (by decide) rfl (fun ls hl => ?_)
  refine lv_lload hx hb dX5_putField_11 (lv_at hl 0 rfl) ?_
  refine lv_lconst (v := 0) hx hb dX5_putField_13 (by decide) ?_
  refine W.lcmp hx hb dX5_putField_14 ?_
  refine lv_topi (fun x23 e24 => ?_)
  refine lv_if_ne (tgt := 26) hx hb dX5_putField_15 (by decide) (fun c25 => ?_) (fun c25 => ?_)
  · refine lv_aload_n hx hb dX5_putField_26 rfl (lv_at hl 2 rfl) ?_
    refine c_get (v := .ref (a 28)) (C := RX5) (Tc := TX5) (N := 19) (ci := 4) hx hb hq pin_wsX50 hown hE hP hO 28 (sg_28 G h0 a _ _ _ _ _) rfl 1 (by decide) (hq _ pw_473) (fun _ h9 => h9) rfl dX5_putField_27 ?_
    refine lv_lload hx hb dX5_putField_30 (lv_at hl 0 rfl) ?_
    refine lv_iload_n hx hb dX5_putField_32 rfl (lv_at hl 3 rfl) ?_
    refine lv_lload_n hx hb dX5_putField_33 rfl (lv_at hl 1 rfl) ?_
    have hO : OKW G h0 a (upd (upd (upd (upd (upd F 19 (nI tp18)) 23 en19) 25 rf20) 26 (nI ht)) 26 (nI ht)) (updR (updR (updR (updR R 7 (.ref (a sp))) 8 (.ref (a op))) 7 (.ref (a sp))) 8 (.ref (a op))) Z B J21 T Pi w := hO.to rfl
    obtain ⟨_, qr29, hqr30⟩ := hO.2.1 29 _ (sg_29 G h0 a _ _ _ _ _)
    refine pc_V0 (G := G) (As := [.long r17, .int x, .long r6]) (rest := []) hx hb hml hown hq hE hX pX0_al hP hD hS hA hl.1 (K_put l G h0 a (upd (upd (upd (upd F 19 (nI tp18)) 23 en19) 25 rf20) 26 (nI ht)) (updR (updR R 7 (.ref (a sp))) 8 (.ref (a op))) Z B J21 T Pi w r17 r6 x sp op ht hsp (by omega) hO) (gV pw_649 pw_650 pw_651 pw_440 pw_456) hV_X3_put qr29 3 hqr30 rfl rfl rfl (Nat.le_of_ble_eq_true rfl) dX5_putField_34 ⟨Nat.le_of_ble_eq_true rfl, Nat.le_of_ble_eq_true rfl⟩ ⟨Nat.le_of_ble_eq_true rfl, Nat.le_of_ble_eq_true rfl⟩ (fun v28 u26 H locs hw27 hP hD hS => ?_)
    obtain ⟨w, J31⟩ := u26
    obtain ⟨hw27, hO⟩ := hw27
    obtain rfl : v28 = none := hw27
    have hO : OKW G h0 a (upd (upd (upd (upd F 19 (nI tp18)) 23 en19) 25 rf20) 26 (nI ht)) (updR (updR R 7 (.ref (a sp))) 8 (.ref (a op))) Z B J31 T Pi w := hO.to rfl
    refine W.widen (k := 0) (n := 0) (Nat.le_of_ble_eq_true rfl) (Nat.le_of_ble_eq_true rfl) ?_
    refine W.eq (g2 := F0 m 37 ls []) rfl ?_
    have hz32 : tp18 ≤ 32000 := (by omega)
    have hO : OKW G h0 a (upd (upd (upd (upd F 19 (nI tp18)) 23 en19) 25 rf20) 26 (nI ht)) (updR (updR R 7 (.ref (a sp))) 8 (.ref (a op))) Z B J31 T Pi w := hO.to rfl
    exact W.vret hx hb hr (fun t99 ht99 hW99 => ⟨⟨_, (w, (tp18, en19, rf20, J31, Z)), rfl, ⟨rfl, hz32, hO⟩, by rw [ht99]; exact hP, hD⟩, hS.F ht99⟩) hS.2.2 dX5_putField_37
  · refine lv_aload_n hx hb dX5_putField_18 rfl (lv_at hl 2 rfl) ?_
    refine lv_iconst (v := 1) hx hb dX5_putField_19 (by decide) ?_
    have hO : OKW G h0 a (upd (upd (upd (upd F 19 (nI tp18)) 23 en19) 25 rf20) 26 (nI ht)) (updR (updR R 7 (.ref (a sp))) 8 (.ref (a op))) Z B J21 T Pi w := hO.to rfl
    obtain ⟨_, qr36, hqr37⟩ := hO.2.1 28 _ (sg_28 G h0 a _ _ _ _ _)
    refine pc_V0 (G := G) (As := [.int 1]) (rest := []) hx hb hml hown hq hE hX pX0_al hP hD hS hA hl.1 (M_raise l G h0 a (upd (upd (upd (upd F 19 (nI tp18)) 23 en19) 25 rf20) 26 (nI ht)) (updR (updR R 7 (.ref (a sp))) 8 (.ref (a op))) Z B J21 T Pi w 1 hO) (gV pw_570 pw_571 pw_572 pw_539 pw_561) hV_X5_raise qr36 4 hqr37 rfl rfl rfl (Nat.le_of_ble_eq_true rfl) dX5_putField_20 ⟨Nat.le_of_ble_eq_true rfl, Nat.le_of_ble_eq_true rfl⟩ ⟨Nat.le_of_ble_eq_true rfl, Nat.le_of_ble_eq_true rfl⟩ (fun v35 u33 H locs hw34 hP hD hS => ?_)
    obtain ⟨w, z38⟩ := u33
    obtain ⟨hw34, hO⟩ := hw34
    obtain rfl : v35 = none := hw34
    have hO : OKW G h0 a (upd (upd (upd (upd F 19 (nI tp18)) 23 en19) 25 rf20) 26 (nI ht)) (updR (updR R 7 (.ref (a sp))) 8 (.ref (a op))) z38 B J21 T Pi w := hO.to rfl
    refine W.widen (k := 0) (n := 0) (Nat.le_of_ble_eq_true rfl) (Nat.le_of_ble_eq_true rfl) ?_
    refine W.eq (g2 := F0 m 23 ls []) rfl ?_
    refine lv_goto (tgt := 37) hx hb dX5_putField_23 (by decide) ?_
    have hz39 : tp18 ≤ 32000 := (by omega)
    have hO : OKW G h0 a (upd (upd (upd (upd F 19 (nI tp18)) 23 en19) 25 rf20) 26 (nI ht)) (updR (updR R 7 (.ref (a sp))) 8 (.ref (a op))) z38 B J21 T Pi w := hO.to rfl
    exact W.vret hx hb hr (fun t99 ht99 hW99 => ⟨⟨_, (w, (tp18, en19, rf20, J21, z38)), rfl, ⟨rfl, hz39, hO⟩, by rw [ht99]; exact hP, hD⟩, hS.F ht99⟩) hS.2.2 dX5_putField_37
theorem dX5_hasElement_0 : decode cX5_hasElement 0 = .ok (.lload_n 1, 1) := by decide +kernel
theorem dX5_hasElement_1 : decode cX5_hasElement 1 = .ok (.lconst 0, 1) := by decide +kernel
theorem dX5_hasElement_2 : decode cX5_hasElement 2 = .ok (.lcmp, 1) := by decide +kernel
theorem dX5_hasElement_3 : decode cX5_hasElement 3 = .ok (.ifCond .ne 10, 3) := by decide +kernel
theorem dX5_hasElement_13 : decode cX5_hasElement 13 = .ok (.iload_n 3, 1) := by decide +kernel
theorem dX5_hasElement_14 : decode cX5_hasElement 14 = .ok (.ifCond .lt 15, 3) := by decide +kernel
theorem dX5_hasElement_29 : decode cX5_hasElement 29 = .ok (.aload_n 0, 1) := by decide +kernel
theorem dX5_hasElement_30 : decode cX5_hasElement 30 = .ok (.iconst 4, 1) := by decide +kernel
theorem dX5_hasElement_31 : decode cX5_hasElement 31 = .ok (.invokevirtual 252, 3) := by decide +kernel
theorem dX5_hasElement_34 : decode cX5_hasElement 34 = .ok (.iconst 0, 1) := by decide +kernel
theorem dX5_hasElement_35 : decode cX5_hasElement 35 = .ok (.ireturn, 1) := by decide +kernel
theorem dX5_hasElement_17 : decode cX5_hasElement 17 = .ok (.iload_n 3, 1) := by decide +kernel
theorem dX5_hasElement_18 : decode cX5_hasElement 18 = .ok (.aload_n 0, 1) := by decide +kernel
theorem dX5_hasElement_19 : decode cX5_hasElement 19 = .ok (.getfield 18, 3) := by decide +kernel
theorem dX5_hasElement_22 : decode cX5_hasElement 22 = .ok (.lload_n 1, 1) := by decide +kernel
theorem dX5_hasElement_23 : decode cX5_hasElement 23 = .ok (.invokevirtual 261, 3) := by decide +kernel
theorem dX5_hasElement_26 : decode cX5_hasElement 26 = .ok (.if_icmp .lt 10, 3) := by decide +kernel
theorem dX5_hasElement_36 : decode cX5_hasElement 36 = .ok (.iconst 1, 1) := by decide +kernel
theorem dX5_hasElement_37 : decode cX5_hasElement 37 = .ok (.ireturn, 1) := by decide +kernel
theorem dX5_hasElement_6 : decode cX5_hasElement 6 = .ok (.aload_n 0, 1) := by decide +kernel
theorem dX5_hasElement_7 : decode cX5_hasElement 7 = .ok (.iconst 1, 1) := by decide +kernel
theorem dX5_hasElement_8 : decode cX5_hasElement 8 = .ok (.invokevirtual 252, 3) := by decide +kernel
theorem dX5_hasElement_11 : decode cX5_hasElement 11 = .ok (.iconst 0, 1) := by decide +kernel
theorem dX5_hasElement_12 : decode cX5_hasElement 12 = .ok (.ireturn, 1) := by decide +kernel
set_option maxHeartbeats 8000000 in
set_option maxRecDepth 100000 in
theorem M_hasElement (l : Launch) (G : pT) (h0 : Nat) (a : Nat → Nat) (F : Nat → Int32) (R : Nat → Value) (Z : Int64) (B : Nat → Nat → Int32) (J : Nat → Nat → Int64) (T : Nat → Nat) (Pi : Nat → va_E → Prop) (w : va_W) (x : Int64) (y : Int32) (sp : Nat) (op : Nat) (ht : Nat) (hsp : (sp = 34 ∧ op = 35) ∨ (sp = 35 ∧ op = 34)) (hht : 8 ≤ ht ∧ ht ≤ 3008) (hO : OKW G h0 a (upd F 26 (nI ht)) (updR (updR R 7 (.ref (a sp))) 8 (.ref (a op))) Z B J T Pi w) : PM l G pX0 yX5_hasElement cX5_hasElement 4 (some .boolean) ({ frames := 5, cells := 0, slots := 0, locals := 129 }) [.ref (a 5), .long x, .int y] w (fun (v : Option Value) (u : va_W × (Nat × Int64)) => v = some (.int (nI u.2.1)) ∧ (u.2.1 ≤ 1) ∧ (OKW G h0 a (upd F 26 (nI ht)) (updR (updR R 7 (.ref (a sp))) 8 (.ref (a op))) u.2.2 B J T Pi u.1)) (fun u => u.1) := by
  intro sz
  refine Met.ofW (cc := cX5_hasElement) (maxL := 4) (ret := (some .boolean)) (by decide) rfl ?_
  intro p e s m args below meth c s₁ B9 hml hv
  obtain ⟨rfl, hsz, hP, hD0, hE, hX⟩ := hv
  have hx := B9.exec
  have hb := B9.bytes
  have hr := B9.returns
  have hts := atoms_spec (ws := Cond.code yX5_hasElement cX5_hasElement 4 (some .boolean) :: pw) B9.pre
  have hq : ∀ w ∈ pw, w.before _ s = true := fun w h => hts w (List.mem_cons_of_mem _ h)
  have hown : s.vm.findClass RX5 = some m.cls := findClass_of_methodNamed B9.named
  have hlocks := B9.notSynchronized
  subst hsz
  have hD := hD0.self (sz := s.heap.size)
  have hA : ∀ q : Nat, s.heap.size ≤ q → va_A w s.heap.size q := fun q h => Or.inr h
  generalize va_A w s.heap.size = A at hD hE hA ⊢
  have hS : va_S A s.heap s.heap [] := va_S.rf
  have hl := lv_entry ([.ref (a 5), .long x, .int y]) (n := 4) (Nat.le_of_ble_eq_true rfl)
  rw [lg_entry_eq]
  generalize (lg_sl ([.ref (a 5), .long x, .int y]) ++ List.replicate (4 - (lg_sl ([.ref (a 5), .long x, .int y])).length) Slot.unset).toArray = ls at hl ⊢
  have hl : lv_has ls 4 [(0, .ref (a 5)), (1, .long x), (3, .int y)] := hl
  refine lv_lload_n hx hb dX5_hasElement_0 rfl (lv_at hl 1 rfl) ?_
  refine lv_lconst (v := 0) hx hb dX5_hasElement_1 (by decide) ?_
  refine W.lcmp hx hb dX5_hasElement_2 ?_
  refine lv_topi (fun x1 e2 => ?_)
  refine lv_if_ne (tgt := 13) hx hb dX5_hasElement_3 (by decide) (fun c3 => ?_) (fun c3 => ?_)
  · refine lv_iload_n hx hb dX5_hasElement_13 rfl (lv_at hl 2 rfl) ?_
    refine lv_if_lt (tgt := 29) hx hb dX5_hasElement_14 (by decide) (fun c4 => ?_) (fun c4 => ?_)
    · refine lv_aload_n hx hb dX5_hasElement_29 rfl (lv_at hl 0 rfl) ?_
      refine lv_iconst (v := 4) hx hb dX5_hasElement_30 (by decide) ?_
      have hO : OKW G h0 a (upd F 26 (nI ht)) (updR (updR R 7 (.ref (a sp))) 8 (.ref (a op))) Z B J T Pi w := hO.to rfl
      obtain ⟨_, qr8, hqr9⟩ := hO.2.1 28 _ (sg_28 G h0 a _ _ _ _ _)
      refine pc_V0 (G := G) (As := [.int 4]) (rest := []) hx hb hml hown hq hE hX pX0_al hP hD hS hA hl.1 (M_raise l G h0 a (upd F 26 (nI ht)) (updR (updR R 7 (.ref (a sp))) 8 (.ref (a op))) Z B J T Pi w 4 hO) (gV pw_570 pw_571 pw_572 pw_539 pw_561) hV_X5_raise qr8 4 hqr9 rfl rfl rfl (Nat.le_of_ble_eq_true rfl) dX5_hasElement_31 ⟨Nat.le_of_ble_eq_true rfl, Nat.le_of_ble_eq_true rfl⟩ ⟨Nat.le_of_ble_eq_true rfl, Nat.le_of_ble_eq_true rfl⟩ (fun v7 u5 H locs hw6 hP hD hS => ?_)
      obtain ⟨w, z10⟩ := u5
      obtain ⟨hw6, hO⟩ := hw6
      obtain rfl : v7 = none := hw6
      have hO : OKW G h0 a (upd F 26 (nI ht)) (updR (updR R 7 (.ref (a sp))) 8 (.ref (a op))) z10 B J T Pi w := hO.to rfl
      refine W.widen (k := 0) (n := 0) (Nat.le_of_ble_eq_true rfl) (Nat.le_of_ble_eq_true rfl) ?_
      refine W.eq (g2 := F0 m 34 ls []) rfl ?_
      refine lv_iconst (v := 0) hx hb dX5_hasElement_34 (by decide) ?_
      have hz11 : 0 ≤ 1 := (by omega)
      have hO : OKW G h0 a (upd F 26 (nI ht)) (updR (updR R 7 (.ref (a sp))) 8 (.ref (a op))) z10 B J T Pi w := hO.to rfl
      exact W.zret (v := 0) hx hb hr rfl (fun t99 ht99 hW99 => ⟨⟨_, (w, (0, z10)), rfl, ⟨rfl, hz11, hO⟩, by rw [ht99]; exact hP, hD⟩, hS.F ht99⟩) hS.2.2 dX5_hasElement_35
    · refine lv_iload_n hx hb dX5_hasElement_17 rfl (lv_at hl 2 rfl) ?_
      refine lv_aload_n hx hb dX5_hasElement_18 rfl (lv_at hl 0 rfl) ?_
      refine c_get (v := .ref (a 28)) (C := RX5) (Tc := TX5) (N := 19) (ci := 4) hx hb hq pin_wsX50 hown hE hP hO 28 (sg_28 G h0 a _ _ _ _ _) rfl 1 (by decide) (hq _ pw_473) (fun _ h9 => h9) rfl dX5_hasElement_19 ?_
      refine lv_lload_n hx hb dX5_hasElement_22 rfl (lv_at hl 1 rfl) ?_
      have hO : OKW G h0 a (upd (upd F 26 (nI ht)) 26 (nI ht)) (updR (updR (updR (updR R 7 (.ref (a sp))) 8 (.ref (a op))) 7 (.ref (a sp))) 8 (.ref (a op))) Z B J T Pi w := hO.to rfl
      obtain ⟨_, qr15, hqr16⟩ := hO.2.1 29 _ (sg_29 G h0 a _ _ _ _ _)
      refine pc_V0 (G := G) (As := [.long x]) (rest := [.int y]) hx hb hml hown hq hE hX pX0_al hP hD hS hA hl.1 (K_partsOf l G h0 a (upd F 26 (nI ht)) (updR (updR R 7 (.ref (a sp))) 8 (.ref (a op))) Z B J T Pi w x sp op ht hsp (by omega) hO) (gV pw_646 pw_454 pw_455 pw_440 pw_448) hV_X3_partsOf qr15 3 hqr16 rfl rfl rfl (Nat.le_of_ble_eq_true rfl) dX5_hasElement_23 ⟨Nat.le_of_ble_eq_true rfl, Nat.le_of_ble_eq_true rfl⟩ ⟨Nat.le_of_ble_eq_true rfl, Nat.le_of_ble_eq_true rfl⟩ (fun v14 u12 H locs hw13 hP hD hS => ?_)
      obtain ⟨w, r17⟩ := u12
      obtain ⟨hw13, hO⟩ := hw13
      obtain rfl : v14 = some (.int r17) := hw13
      have hO : OKW G h0 a (upd F 26 (nI ht)) (updR (updR R 7 (.ref (a sp))) 8 (.ref (a op))) Z B J T Pi w := hO.to rfl
      refine W.widen (k := 0) (n := 0) (Nat.le_of_ble_eq_true rfl) (Nat.le_of_ble_eq_true rfl) ?_
      refine W.eq (g2 := F0 m 26 ls [.int r17, .int y]) rfl ?_
      refine lv_icmp_lt (tgt := 36) hx hb dX5_hasElement_26 (by decide) (fun c18 => ?_) (fun c18 => ?_)
      · refine lv_iconst (v := 1) hx hb dX5_hasElement_36 (by decide) ?_
        have hz19 : 1 ≤ 1 := (by omega)
        have hO : OKW G h0 a (upd F 26 (nI ht)) (updR (updR R 7 (.ref (a sp))) 8 (.ref (a op))) Z B J T Pi w := hO.to rfl
        exact W.zret (v := 1) hx hb hr rfl (fun t99 ht99 hW99 => ⟨⟨_, (w, (1, Z)), rfl, ⟨rfl, hz19, hO⟩, by rw [ht99]; exact hP, hD⟩, hS.F ht99⟩) hS.2.2 dX5_hasElement_37
      · refine lv_aload_n hx hb dX5_hasElement_29 rfl (lv_at hl 0 rfl) ?_
        refine lv_iconst (v := 4) hx hb dX5_hasElement_30 (by decide) ?_
        have hO : OKW G h0 a (upd F 26 (nI ht)) (updR (updR R 7 (.ref (a sp))) 8 (.ref (a op))) Z B J T Pi w := hO.to rfl
        obtain ⟨_, qr23, hqr24⟩ := hO.2.1 28 _ (sg_28 G h0 a _ _ _ _ _)
        refine pc_V0 (G := G) (As := [.int 4]) (rest := []) hx hb hml hown hq hE hX pX0_al hP hD hS hA hl.1 (M_raise l G h0 a (upd F 26 (nI ht)) (updR (updR R 7 (.ref (a sp))) 8 (.ref (a op))) Z B J T Pi w 4 hO) (gV pw_570 pw_571 pw_572 pw_539 pw_561) hV_X5_raise qr23 4 hqr24 rfl rfl rfl (Nat.le_of_ble_eq_true rfl) dX5_hasElement_31 ⟨Nat.le_of_ble_eq_true rfl, Nat.le_of_ble_eq_true rfl⟩ ⟨Nat.le_of_ble_eq_true rfl, Nat.le_of_ble_eq_true rfl⟩ (fun v22 u20 H locs hw21 hP hD hS => ?_)
        obtain ⟨w, z25⟩ := u20
        obtain ⟨hw21, hO⟩ := hw21
        obtain rfl : v22 = none := hw21
        have hO : OKW G h0 a (upd F 26 (nI ht)) (updR (updR R 7 (.ref (a sp))) 8 (.ref (a op))) z25 B J T Pi w := hO.to rfl
        refine W.widen (k := 0) (n := 0) (Nat.le_of_ble_eq_true rfl) (Nat.le_of_ble_eq_true rfl) ?_
        refine W.eq (g2 := F0 m 34 ls []) rfl ?_
        refine lv_iconst (v := 0) hx hb dX5_hasElement_34 (by decide) ?_
        have hz26 : 0 ≤ 1 := (by omega)
        have hO : OKW G h0 a (upd F 26 (nI ht)) (updR (updR R 7 (.ref (a sp))) 8 (.ref (a op))) z25 B J T Pi w := hO.to rfl
        exact W.zret (v := 0) hx hb hr rfl (fun t99 ht99 hW99 => ⟨⟨_, (w, (0, z25)), rfl, ⟨rfl, hz26, hO⟩, by rw [ht99]; exact hP, hD⟩, hS.F ht99⟩) hS.2.2 dX5_hasElement_35
  · refine lv_aload_n hx hb dX5_hasElement_6 rfl (lv_at hl 0 rfl) ?_
    refine lv_iconst (v := 1) hx hb dX5_hasElement_7 (by decide) ?_
    have hO : OKW G h0 a (upd F 26 (nI ht)) (updR (updR R 7 (.ref (a sp))) 8 (.ref (a op))) Z B J T Pi w := hO.to rfl
    obtain ⟨_, qr30, hqr31⟩ := hO.2.1 28 _ (sg_28 G h0 a _ _ _ _ _)
    refine pc_V0 (G := G) (As := [.int 1]) (rest := []) hx hb hml hown hq hE hX pX0_al hP hD hS hA hl.1 (M_raise l G h0 a (upd F 26 (nI ht)) (updR (updR R 7 (.ref (a sp))) 8 (.ref (a op))) Z B J T Pi w 1 hO) (gV pw_570 pw_571 pw_572 pw_539 pw_561) hV_X5_raise qr30 4 hqr31 rfl rfl rfl (Nat.le_of_ble_eq_true rfl) dX5_hasElement_8 ⟨Nat.le_of_ble_eq_true rfl, Nat.le_of_ble_eq_true rfl⟩ ⟨Nat.le_of_ble_eq_true rfl, Nat.le_of_ble_eq_true rfl⟩ (fun v29 u27 H locs hw28 hP hD hS => ?_)
    obtain ⟨w, z32⟩ := u27
    obtain ⟨hw28, hO⟩ := hw28
    obtain rfl : v29 = none := hw28
    have hO : OKW G h0 a (upd F 26 (nI ht)) (updR (updR R 7 (.ref (a sp))) 8 (.ref (a op))) z32 B J T Pi w := hO.to rfl
    refine W.widen (k := 0) (n := 0) (Nat.le_of_ble_eq_true rfl) (Nat.le_of_ble_eq_true rfl) ?_
    refine W.eq (g2 := F0 m 11 ls []) rfl ?_
    refine lv_iconst (v := 0) hx hb dX5_hasElement_11 (by decide) ?_
    have hz33 : 0 ≤ 1 := (by omega)
    have hO : OKW G h0 a (upd F 26 (nI ht)) (updR (updR R 7 (.ref (a sp))) 8 (.ref (a op))) z32 B J T Pi w := hO.to rfl
    exact W.zret (v := 0) hx hb hr rfl (fun t99 ht99 hW99 => ⟨⟨_, (w, (0, z32)), rfl, ⟨rfl, hz33, hO⟩, by rw [ht99]; exact hP, hD⟩, hS.F ht99⟩) hS.2.2 dX5_hasElement_12
theorem dX5_getElement_0 : decode cX5_getElement 0 = .ok (.aload_n 0, 1) := by decide +kernel
theorem dX5_getElement_1 : decode cX5_getElement 1 = .ok (.invokevirtual 180, 3) := by decide +kernel
theorem dX5_getElement_4 : decode cX5_getElement 4 = .ok (.l2i, 1) := by decide +kernel
theorem dX5_getElement_5 : decode cX5_getElement 5 = .ok (.istore_n 1, 1) := by decide +kernel
theorem dX5_getElement_6 : decode cX5_getElement 6 = .ok (.aload_n 0, 1) := by decide +kernel
theorem dX5_getElement_7 : decode cX5_getElement 7 = .ok (.invokevirtual 180, 3) := by decide +kernel
theorem dX5_getElement_10 : decode cX5_getElement 10 = .ok (.lstore_n 2, 1) := by decide +kernel
theorem dX5_getElement_11 : decode cX5_getElement 11 = .ok (.aload_n 0, 1) := by decide +kernel
theorem dX5_getElement_12 : decode cX5_getElement 12 = .ok (.lload_n 2, 1) := by decide +kernel
theorem dX5_getElement_13 : decode cX5_getElement 13 = .ok (.iload_n 1, 1) := by decide +kernel
theorem dX5_getElement_14 : decode cX5_getElement 14 = .ok (.invokevirtual 268, 3) := by decide +kernel
theorem dX5_getElement_17 : decode cX5_getElement 17 = .ok (.ifCond .eq 16, 3) := by decide +kernel
theorem dX5_getElement_33 : decode cX5_getElement 33 = .ok (.return_, 1) := by decide +kernel
theorem dX5_getElement_20 : decode cX5_getElement 20 = .ok (.aload_n 0, 1) := by decide +kernel
theorem dX5_getElement_21 : decode cX5_getElement 21 = .ok (.aload_n 0, 1) := by decide +kernel
theorem dX5_getElement_22 : decode cX5_getElement 22 = .ok (.getfield 18, 3) := by decide +kernel
theorem dX5_getElement_25 : decode cX5_getElement 25 = .ok (.lload_n 2, 1) := by decide +kernel
theorem dX5_getElement_26 : decode cX5_getElement 26 = .ok (.iload_n 1, 1) := by decide +kernel
theorem dX5_getElement_27 : decode cX5_getElement 27 = .ok (.invokevirtual 76, 3) := by decide +kernel
theorem dX5_getElement_30 : decode cX5_getElement 30 = .ok (.invokevirtual 172, 3) := by decide +kernel
theorem hV_X5_hasElement : yX5_hasElement.cls = RX5 ∧ yX5_hasElement.cls ≠ "java/lang/invoke/MethodHandle" ∧ yX5_hasElement.cls ≠ "java/lang/invoke/VarHandle" ∧ (parseMethodDescriptor yX5_hasElement.desc).map (fun d => d.parameters.length) = some 2 := by decide +kernel
set_option maxHeartbeats 8000000 in
set_option maxRecDepth 100000 in
theorem M_getElement (l : Launch) (G : pT) (h0 : Nat) (a : Nat → Nat) (F : Nat → Int32) (R : Nat → Value) (Z : Int64) (B : Nat → Nat → Int32) (J : Nat → Nat → Int64) (T : Nat → Nat) (Pi : Nat → va_E → Prop) (w : va_W) (tp : Nat) (sp : Nat) (op : Nat) (ht : Nat) (htp : tp ≤ 32000) (hsp : (sp = 34 ∧ op = 35) ∨ (sp = 35 ∧ op = 34)) (hht : 8 ≤ ht ∧ ht ≤ 3008) (hO : OKW G h0 a (upd (upd F 19 (nI tp)) 26 (nI ht)) (updR (updR R 7 (.ref (a sp))) 8 (.ref (a op))) Z B J T Pi w) : PM l G pX0 yX5_getElement cX5_getElement 4 none ({ frames := 6, cells := 0, slots := 0, locals := 153 }) [.ref (a 5)] w (fun (v : Option Value) (u : va_W × (Nat × Int32 × Int32 × (Nat → Nat → Int64) × Int64)) => v = none ∧ (u.2.1 ≤ 32000) ∧ (OKW G h0 a (upd (upd (upd (upd F 19 (nI u.2.1)) 23 u.2.2.1) 25 u.2.2.2.1) 26 (nI ht)) (updR (updR R 7 (.ref (a sp))) 8 (.ref (a op))) u.2.2.2.2.2 B u.2.2.2.2.1 T Pi u.1)) (fun u => u.1) := by
  intro sz
  refine Met.ofW (cc := cX5_getElement) (maxL := 4) (ret := none) (by decide) rfl ?_
  intro p e s m args below meth c s₁ B9 hml hv
  obtain ⟨rfl, hsz, hP, hD0, hE, hX⟩ := hv
  have hx := B9.exec
  have hb := B9.bytes
  have hr := B9.returns
  have hts := atoms_spec (ws := Cond.code yX5_getElement cX5_getElement 4 none :: pw) B9.pre
  have hq : ∀ w ∈ pw, w.before _ s = true := fun w h => hts w (List.mem_cons_of_mem _ h)
  have hown : s.vm.findClass RX5 = some m.cls := findClass_of_methodNamed B9.named
  have hlocks := B9.notSynchronized
  subst hsz
  have hD := hD0.self (sz := s.heap.size)
  have hA : ∀ q : Nat, s.heap.size ≤ q → va_A w s.heap.size q := fun q h => Or.inr h
  generalize va_A w s.heap.size = A at hD hE hA ⊢
  have hS : va_S A s.heap s.heap [] := va_S.rf
  have hl := lv_entry ([.ref (a 5)]) (n := 4) (Nat.le_of_ble_eq_true rfl)
  rw [lg_entry_eq]
  generalize (lg_sl ([.ref (a 5)]) ++ List.replicate (4 - (lg_sl ([.ref (a 5)])).length) Slot.unset).toArray = ls at hl ⊢
  have hl : lv_has ls 4 [(0, .ref (a 5))] := hl
  refine lv_aload_n hx hb dX5_getElement_0 rfl (lv_at hl 0 rfl) ?_
  have hO : OKW G h0 a (upd (upd (upd F 19 (nI tp)) 26 (nI ht)) 19 (nI tp)) (updR (updR R 7 (.ref (a sp))) 8 (.ref (a op))) Z B J T Pi w := hO.to rfl
  obtain ⟨_, qr4, hqr5⟩ := hO.2.1 28 _ (sg_28 G h0 a _ _ _ _ _)
  refine pc_V0 (G := G) (As := []) (rest := []) hx hb hml hown hq hE hX pX0_al hP hD hS hA hl.1 (M_pop l G h0 a (upd (upd F 19 (nI tp)) 26 (nI ht)) (updR (updR R 7 (.ref (a sp))) 8 (.ref (a op))) Z B J T Pi w tp (by omega) hO) (gV pw_598 pw_599 pw_600 pw_539 pw_595) hV_X5_pop qr4 4 hqr5 rfl rfl rfl (Nat.le_of_ble_eq_true rfl) dX5_getElement_1 ⟨Nat.le_of_ble_eq_true rfl, Nat.le_of_ble_eq_true rfl⟩ ⟨Nat.le_of_ble_eq_true rfl, Nat.le_of_ble_eq_true rfl⟩ (fun v3 u1 H locs hw2 hP hD hS => ?_)
  obtain ⟨w, r6, tp7, en8, rf9, J10⟩ := u1
  obtain ⟨hw2, h11, hO⟩ := hw2
  have h11 : tp7 ≤ 32000 := h11
  obtain rfl : v3 = some (.long r6) := hw2
  have hO : OKW G h0 a (upd (upd (upd (upd F 19 (nI tp7)) 23 en8) 25 rf9) 26 (nI ht)) (updR (updR R 7 (.ref (a sp))) 8 (.ref (a op))) Z B J10 T Pi w := hO.to rfl
  refine W.widen (k := 0) (n := 0) (Nat.le_of_ble_eq_true rfl) (Nat.le_of_ble_eq_true rfl) ?_
  refine W.eq (g2 := F0 m 4 ls [.long r6]) rfl ?_
  refine lv_l2i hx hb dX5_getElement_4 rfl ?_
  refine lv_topi (fun x12 e13 => ?_)
  refine lv_istore_n (lv' := [(1, .int x12), (0, .ref (a 5))]) hx hb dX5_getElement_5 rfl hl (by decide) rfl (fun ls hl => ?_)
  refine lv_aload_n hx hb dX5_getElement_6 rfl (lv_at hl 1 rfl) ?_
  have hO : OKW G h0 a (upd (upd (upd (upd (upd F 19 (nI tp7)) 23 en8) 25 rf9) 26 (nI ht)) 19 (nI tp7)) (updR (updR R 7 (.ref (a sp))) 8 (.ref (a op))) Z B J10 T Pi w := hO.to rfl
  obtain ⟨_, qr17, hqr18⟩ := hO.2.1 28 _ (sg_28 G h0 a _ _ _ _ _)
  refine pc_V0 (G := G) (As := []) (rest := []) hx hb hml hown hq hE hX pX0_al hP hD hS hA hl.1 (M_pop l G h0 a (upd (upd (upd (upd F 19 (nI tp7)) 23 en8) 25 rf9) 26 (nI ht)) (updR (updR R 7 (.ref (a sp))) 8 (.ref (a op))) Z B J10 T Pi w tp7 (by omega) hO) (gV pw_598 pw_599 pw_600 pw_539 pw_595) hV_X5_pop qr17 4 hqr18 rfl rfl rfl (Nat.le_of_ble_eq_true rfl) dX5_getElement_7 ⟨Nat.le_of_ble_eq_true rfl, Nat.le_of_ble_eq_true rfl⟩ ⟨Nat.le_of_ble_eq_true rfl, Nat.le_of_ble_eq_true rfl⟩ (fun v16 u14 H locs hw15 hP hD hS => ?_)
  obtain ⟨w, r19, tp20, en21, rf22, J23⟩ := u14
  obtain ⟨hw15, h24, hO⟩ := hw15
  have h24 : tp20 ≤ 32000 := h24
  obtain rfl : v16 = some (.long r19) := hw15
  have hO : OKW G h0 a (upd (upd (upd (upd F 19 (nI tp20)) 23 en21) 25 rf22) 26 (nI ht)) (updR (updR R 7 (.ref (a sp))) 8 (.ref (a op))) Z B J23 T Pi w := hO.to rfl
  refine W.widen (k := 0) (n := 0) (Nat.le_of_ble_eq_true rfl) (Nat.le_of_ble_eq_true rfl) ?_
  refine W.eq (g2 := F0 m 10 ls [.long r19]) rfl ?_
  refine lv_lstore_n (lv' := [(2, .long r19), (1, .int x12), (0, .ref (a 5))]) hx hb dX5_getElement_10 rfl hl (by decide) rfl (fun ls hl => ?_)
  refine lv_aload_n hx hb dX5_getElement_11 rfl (lv_at hl 2 rfl) ?_
  refine lv_lload_n hx hb dX5_getElement_12 rfl (lv_at hl 0 rfl) ?_
  refine lv_iload_n hx hb dX5_getElement_13 rfl (lv_at hl 1 rfl) ?_
  have hO : OKW G h0 a (upd (upd (upd (upd (upd F 19 (nI tp20)) 23 en21) 25 rf22) 26 (nI ht)) 26 (nI ht)) (updR (updR (updR (updR R 7 (.ref (a sp))) 8 (.ref (a op))) 7 (.ref (a sp))) 8 (.ref (a op))) Z B J23 T Pi w := hO.to rfl
  obtain ⟨_, qr28, hqr29⟩ := hO.2.1 28 _ (sg_28 G h0 a _ _ _ _ _)
  refine pc_V0 (G := G) (As := [.long r19, .int x12]) (rest := []) hx hb hml hown hq hE hX pX0_al hP hD hS hA hl.1 (M_hasElement l G h0 a (upd (upd (upd (upd F 19 (nI tp20)) 23 en21) 25 rf22) 26 (nI ht)) (updR (updR R 7 (.ref (a sp))) 8 (.ref (a op))) Z B J23 T Pi w r19 x12 sp op ht hsp (by omega) hO) (gV pw_654 pw_655 pw_656 pw_539 pw_653) hV_X5_hasElement qr28 4 hqr29 rfl rfl rfl (Nat.le_of_ble_eq_true rfl) dX5_getElement_14 ⟨Nat.le_of_ble_eq_true rfl, Nat.le_of_ble_eq_true rfl⟩ ⟨Nat.le_of_ble_eq_true rfl, Nat.le_of_ble_eq_true rfl⟩ (fun v27 u25 H locs hw26 hP hD hS => ?_)
  obtain ⟨w, r30, z31⟩ := u25
  obtain ⟨hw26, h32, hO⟩ := hw26
  have h32 : r30 ≤ 1 := h32
  obtain rfl : v27 = some (.int (nI r30)) := hw26
  have hO : OKW G h0 a (upd (upd (upd (upd F 19 (nI tp20)) 23 en21) 25 rf22) 26 (nI ht)) (updR (updR R 7 (.ref (a sp))) 8 (.ref (a op))) z31 B J23 T Pi w := hO.to rfl
  refine W.widen (k := 0) (n := 0) (Nat.le_of_ble_eq_true rfl) (Nat.le_of_ble_eq_true rfl) ?_
  refine W.eq (g2 := F0 m 17 ls [.int (nI r30)]) rfl ?_
  refine lv_if_eq (tgt := 33) hx hb dX5_getElement_17 (by decide) (fun c33 => ?_) (fun c33 => ?_)
  · have n34 : r30 = 0 := (nI_eq (a := r30) (b := 0) (by omega) (by omega)).mp c33
    have hz35 : tp20 ≤ 32000 := (by omega)
    have hO : OKW G h0 a (upd (upd (upd (upd F 19 (nI tp20)) 23 en21) 25 rf22) 26 (nI ht)) (updR (updR R 7 (.ref (a sp))) 8 (.ref (a op))) z31 B J23 T Pi w := hO.to rfl
    exact W.vret hx hb hr (fun t99 ht99 hW99 => ⟨⟨_, (w, (tp20, en21, rf22, J23, z31)), rfl, ⟨rfl, hz35, hO⟩, by rw [ht99]; exact hP, hD⟩, hS.F ht99⟩) hS.2.2 dX5_getElement_33
  · have n36 : ¬ (r30 = 0) := fun h9 => c33 ((nI_eq (a := r30) (b := 0) (by omega) (by omega)).mpr h9)
    refine lv_aload_n hx hb dX5_getElement_20 rfl (lv_at hl 2 rfl) ?_
    refine lv_aload_n hx hb dX5_getElement_21 rfl (lv_at hl 2 rfl) ?_
    refine c_get (v := .ref (a 28)) (C := RX5) (Tc := TX5) (N := 19) (ci := 4) hx hb hq pin_wsX50 hown hE hP hO 28 (sg_28 G h0 a _ _ _ _ _) rfl 1 (by decide) (hq _ pw_473) (fun _ h9 => h9) rfl dX5_getElement_22 ?_
    refine lv_lload_n hx hb dX5_getElement_25 rfl (lv_at hl 0 rfl) ?_
    refine lv_iload_n hx hb dX5_getElement_26 rfl (lv_at hl 1 rfl) ?_
    have hO : OKW G h0 a (upd (upd (upd (upd (upd F 19 (nI tp20)) 23 en21) 25 rf22) 26 (nI ht)) 26 (nI ht)) (updR (updR (updR (updR R 7 (.ref (a sp))) 8 (.ref (a op))) 7 (.ref (a sp))) 8 (.ref (a op))) z31 B J23 T Pi w := hO.to rfl
    obtain ⟨_, qr40, hqr41⟩ := hO.2.1 29 _ (sg_29 G h0 a _ _ _ _ _)
    refine pc_V0 (G := G) (As := [.long r19, .int x12]) (rest := [.ref (a 5)]) hx hb hml hown hq hE hX pX0_al hP hD hS hA hl.1 (K_get l G h0 a (upd (upd (upd (upd F 19 (nI tp20)) 23 en21) 25 rf22) 26 (nI ht)) (updR (updR R 7 (.ref (a sp))) 8 (.ref (a op))) z31 B J23 T Pi w r19 x12 sp op ht hsp (by omega) hO) (gV pw_494 pw_495 pw_496 pw_440 pw_452) hV_X3_get qr40 3 hqr41 rfl rfl rfl (Nat.le_of_ble_eq_true rfl) dX5_getElement_27 ⟨Nat.le_of_ble_eq_true rfl, Nat.le_of_ble_eq_true rfl⟩ ⟨Nat.le_of_ble_eq_true rfl, Nat.le_of_ble_eq_true rfl⟩ (fun v39 u37 H locs hw38 hP hD hS => ?_)
    obtain ⟨w, r42⟩ := u37
    obtain ⟨hw38, hO⟩ := hw38
    obtain rfl : v39 = some (.long r42) := hw38
    have hO : OKW G h0 a (upd (upd (upd (upd F 19 (nI tp20)) 23 en21) 25 rf22) 26 (nI ht)) (updR (updR R 7 (.ref (a sp))) 8 (.ref (a op))) z31 B J23 T Pi w := hO.to rfl
    refine W.widen (k := 0) (n := 0) (Nat.le_of_ble_eq_true rfl) (Nat.le_of_ble_eq_true rfl) ?_
    refine W.eq (g2 := F0 m 30 ls [.long r42, .ref (a 5)]) rfl ?_
    have hO : OKW G h0 a (upd (upd (upd (upd (upd F 19 (nI tp20)) 23 en21) 25 rf22) 26 (nI ht)) 19 (nI tp20)) (updR (updR R 7 (.ref (a sp))) 8 (.ref (a op))) z31 B J23 T Pi w := hO.to rfl
    obtain ⟨_, qr46, hqr47⟩ := hO.2.1 28 _ (sg_28 G h0 a _ _ _ _ _)
    refine pc_V0 (G := G) (As := [.long r42]) (rest := []) hx hb hml hown hq hE hX pX0_al hP hD hS hA hl.1 (M_push l G h0 a (upd (upd (upd (upd F 19 (nI tp20)) 23 en21) 25 rf22) 26 (nI ht)) (updR (updR R 7 (.ref (a sp))) 8 (.ref (a op))) z31 B J23 T Pi w r42 tp20 (by omega) hO) (gV pw_549 pw_550 pw_551 pw_539 pw_535) hV_X5_push qr46 4 hqr47 rfl rfl rfl (Nat.le_of_ble_eq_true rfl) dX5_getElement_30 ⟨Nat.le_of_ble_eq_true rfl, Nat.le_of_ble_eq_true rfl⟩ ⟨Nat.le_of_ble_eq_true rfl, Nat.le_of_ble_eq_true rfl⟩ (fun v45 u43 H locs hw44 hP hD hS => ?_)
    obtain ⟨w, tp48, en49, rf50, J51⟩ := u43
    obtain ⟨hw44, h52, hO⟩ := hw44
    have h52 : tp48 ≤ 32000 := h52
    obtain rfl : v45 = none := hw44
    have hO : OKW G h0 a (upd (upd (upd (upd F 19 (nI tp48)) 23 en49) 25 rf50) 26 (nI ht)) (updR (updR R 7 (.ref (a sp))) 8 (.ref (a op))) z31 B J51 T Pi w := hO.to rfl
    refine W.widen (k := 0) (n := 0) (Nat.le_of_ble_eq_true rfl) (Nat.le_of_ble_eq_true rfl) ?_
    refine W.eq (g2 := F0 m 33 ls []) rfl ?_
    have hz53 : tp48 ≤ 32000 := (by omega)
    have hO : OKW G h0 a (upd (upd (upd (upd F 19 (nI tp48)) 23 en49) 25 rf50) 26 (nI ht)) (updR (updR R 7 (.ref (a sp))) 8 (.ref (a op))) z31 B J51 T Pi w := hO.to rfl
    exact W.vret hx hb hr (fun t99 ht99 hW99 => ⟨⟨_, (w, (tp48, en49, rf50, J51, z31)), rfl, ⟨rfl, hz53, hO⟩, by rw [ht99]; exact hP, hD⟩, hS.F ht99⟩) hS.2.2 dX5_getElement_33
theorem dX5_putElement_0 : decode cX5_putElement 0 = .ok (.aload_n 0, 1) := by decide +kernel
theorem dX5_putElement_1 : decode cX5_putElement 1 = .ok (.invokevirtual 180, 3) := by decide +kernel
theorem dX5_putElement_4 : decode cX5_putElement 4 = .ok (.lstore_n 1, 1) := by decide +kernel
theorem dX5_putElement_5 : decode cX5_putElement 5 = .ok (.aload_n 0, 1) := by decide +kernel
theorem dX5_putElement_6 : decode cX5_putElement 6 = .ok (.invokevirtual 180, 3) := by decide +kernel
theorem dX5_putElement_9 : decode cX5_putElement 9 = .ok (.l2i, 1) := by decide +kernel
theorem dX5_putElement_10 : decode cX5_putElement 10 = .ok (.istore_n 3, 1) := by decide +kernel
theorem dX5_putElement_11 : decode cX5_putElement 11 = .ok (.aload_n 0, 1) := by decide +kernel
theorem dX5_putElement_12 : decode cX5_putElement 12 = .ok (.invokevirtual 180, 3) := by decide +kernel
theorem dX5_putElement_15 : decode cX5_putElement 15 = .ok (.lstore 4, 2) := by decide +kernel
theorem dX5_putElement_17 : decode cX5_putElement 17 = .ok (.aload_n 0, 1) := by decide +kernel
theorem dX5_putElement_18 : decode cX5_putElement 18 = .ok (.lload 4, 2) := by decide +kernel
theorem dX5_putElement_20 : decode cX5_putElement 20 = .ok (.iload_n 3, 1) := by decide +kernel
theorem dX5_putElement_21 : decode cX5_putElement 21 = .ok (.invokevirtual 268, 3) := by decide +kernel
theorem dX5_putElement_24 : decode cX5_putElement 24 = .ok (.ifCond .ne 4, 3) := by decide +kernel
theorem dX5_putElement_28 : decode cX5_putElement 28 = .ok (.aload_n 0, 1) := by decide +kernel
theorem dX5_putElement_29 : decode cX5_putElement 29 = .ok (.getfield 18, 3) := by decide +kernel
theorem dX5_putElement_32 : decode cX5_putElement 32 = .ok (.lload 4, 2) := by decide +kernel
theorem dX5_putElement_34 : decode cX5_putElement 34 = .ok (.invokevirtual 51, 3) := by decide +kernel
theorem dX5_putElement_37 : decode cX5_putElement 37 = .ok (.bipush 64, 2) := by decide +kernel
theorem dX5_putElement_39 : decode cX5_putElement 39 = .ok (.isub, 1) := by decide +kernel
theorem dX5_putElement_40 : decode cX5_putElement 40 = .ok (.istore 6, 2) := by decide +kernel
theorem dX5_putElement_42 : decode cX5_putElement 42 = .ok (.lload_n 1, 1) := by decide +kernel
theorem dX5_putElement_43 : decode cX5_putElement 43 = .ok (.invokestatic 80, 3) := by decide +kernel
theorem dX5_putElement_46 : decode cX5_putElement 46 = .ok (.ifCond .eq 31, 3) := by decide +kernel
theorem dX5_putElement_77 : decode cX5_putElement 77 = .ok (.aload_n 0, 1) := by decide +kernel
theorem dX5_putElement_78 : decode cX5_putElement 78 = .ok (.getfield 18, 3) := by decide +kernel
theorem dX5_putElement_81 : decode cX5_putElement 81 = .ok (.lload 4, 2) := by decide +kernel
theorem dX5_putElement_83 : decode cX5_putElement 83 = .ok (.iload_n 3, 1) := by decide +kernel
theorem dX5_putElement_84 : decode cX5_putElement 84 = .ok (.lload_n 1, 1) := by decide +kernel
theorem dX5_putElement_85 : decode cX5_putElement 85 = .ok (.invokevirtual 264, 3) := by decide +kernel
theorem dX5_putElement_88 : decode cX5_putElement 88 = .ok (.return_, 1) := by decide +kernel
theorem dX5_putElement_49 : decode cX5_putElement 49 = .ok (.aload_n 0, 1) := by decide +kernel
theorem dX5_putElement_50 : decode cX5_putElement 50 = .ok (.getfield 47, 3) := by decide +kernel
theorem dX5_putElement_53 : decode cX5_putElement 53 = .ok (.aload_n 0, 1) := by decide +kernel
theorem dX5_putElement_54 : decode cX5_putElement 54 = .ok (.getfield 18, 3) := by decide +kernel
theorem dX5_putElement_57 : decode cX5_putElement 57 = .ok (.lload_n 1, 1) := by decide +kernel
theorem dX5_putElement_58 : decode cX5_putElement 58 = .ok (.invokevirtual 51, 3) := by decide +kernel
theorem dX5_putElement_61 : decode cX5_putElement 61 = .ok (.iload 6, 2) := by decide +kernel
theorem dX5_putElement_63 : decode cX5_putElement 63 = .ok (.invokevirtual 257, 3) := by decide +kernel
theorem dX5_putElement_66 : decode cX5_putElement 66 = .ok (.ifCond .ne 11, 3) := by decide +kernel
theorem dX5_putElement_69 : decode cX5_putElement 69 = .ok (.aload_n 0, 1) := by decide +kernel
theorem dX5_putElement_70 : decode cX5_putElement 70 = .ok (.iconst 5, 1) := by decide +kernel
theorem dX5_putElement_71 : decode cX5_putElement 71 = .ok (.invokevirtual 252, 3) := by decide +kernel
theorem dX5_putElement_74 : decode cX5_putElement 74 = .ok (.goto 14, 3) := by decide +kernel
theorem dX5_putElement_27 : decode cX5_putElement 27 = .ok (.return_, 1) := by decide +kernel
set_option maxHeartbeats 8000000 in
set_option maxRecDepth 100000 in
theorem M_putElement (l : Launch) (G : pT) (h0 : Nat) (a : Nat → Nat) (F : Nat → Int32) (R : Nat → Value) (Z : Int64) (B : Nat → Nat → Int32) (J : Nat → Nat → Int64) (K : PK) (w : va_W) (tp : Nat) (sp : Nat) (op : Nat) (ht : Nat) (pq : Nat) (dr : Nat) (ml : Nat) (nd : Nat) (g : Nat → Nat → Nat) (htp : tp ≤ 32000) (hsp : (sp = 34 ∧ op = 35) ∨ (sp = 35 ∧ op = 34)) (hht : 8 ≤ ht ∧ ht ≤ 3008) (hpb : PgB K g (a 1) pq dr ml nd) (hdc : DcR K g dr nd) (hO : OKP G h0 a (upd (upd F 19 (nI tp)) 26 (nI ht)) (updR (updR (updR R 5 (.ref pq)) 7 (.ref (a sp))) 8 (.ref (a op))) Z B J K w) : PM l G pX0 yX5_putElement cX5_putElement 7 none ({ frames := 6, cells := 0, slots := 0, locals := 155 }) [.ref (a 5)] w (fun (v : Option Value) (u : va_W × (Nat × Int32 × Int32 × (Nat → Nat → Int64) × Int64)) => v = none ∧ (u.2.1 ≤ 32000) ∧ (OKP G h0 a (upd (upd (upd (upd F 19 (nI u.2.1)) 23 u.2.2.1) 25 u.2.2.2.1) 26 (nI ht)) (updR (updR (updR R 5 (.ref pq)) 7 (.ref (a sp))) 8 (.ref (a op))) u.2.2.2.2.2 B u.2.2.2.2.1 K u.1)) (fun u => u.1) := by
  intro sz
  refine Met.ofW (cc := cX5_putElement) (maxL := 7) (ret := none) (by decide) rfl ?_
  intro p e s m args below meth c s₁ B9 hml hv
  obtain ⟨rfl, hsz, hP, hD0, hE, hX⟩ := hv
  have hx := B9.exec
  have hb := B9.bytes
  have hr := B9.returns
  have hts := atoms_spec (ws := Cond.code yX5_putElement cX5_putElement 7 none :: pw) B9.pre
  have hq : ∀ w ∈ pw, w.before _ s = true := fun w h => hts w (List.mem_cons_of_mem _ h)
  have hown : s.vm.findClass RX5 = some m.cls := findClass_of_methodNamed B9.named
  have hlocks := B9.notSynchronized
  subst hsz
  have hD := hD0.self (sz := s.heap.size)
  have hA : ∀ q : Nat, s.heap.size ≤ q → va_A w s.heap.size q := fun q h => Or.inr h
  generalize va_A w s.heap.size = A at hD hE hA ⊢
  have hS : va_S A s.heap s.heap [] := va_S.rf
  have hl := lv_entry ([.ref (a 5)]) (n := 7) (Nat.le_of_ble_eq_true rfl)
  rw [lg_entry_eq]
  generalize (lg_sl ([.ref (a 5)]) ++ List.replicate (7 - (lg_sl ([.ref (a 5)])).length) Slot.unset).toArray = ls at hl ⊢
  have hl : lv_has ls 7 [(0, .ref (a 5))] := hl
  have hpg := hpb
  have hp1 := hpg.1
  have hp2 := hpg.2.1
  have hp3 := hpg.2.2.1
  have hp4 := hpg.2.2.2.1
  have hp5 := hpg.2.2.2.2.1
  have hp6 := hpg.2.2.2.2.2.1
  have hp8 := hpg.2.2.2.2.2.2.2.1
  have hp9 := hpg.2.2.2.2.2.2.2.2
  refine lv_aload_n hx hb dX5_putElement_0 rfl (lv_at hl 0 rfl) ?_
  have hO : OKW G h0 a (upd (upd (upd F 19 (nI tp)) 26 (nI ht)) 19 (nI tp)) (updR (updR (updR R 5 (.ref pq)) 7 (.ref (a sp))) 8 (.ref (a op))) Z B J K.1 (fun q99 x99 => x99 = rep G a K q99) w := hO.to rfl
  obtain ⟨_, qr4, hqr5⟩ := hO.2.1 28 _ (sg_28 G h0 a _ _ _ _ _)
  refine pc_V0 (G := G) (As := []) (rest := []) hx hb hml hown hq hE hX pX0_al hP hD hS hA hl.1 (M_pop l G h0 a (upd (upd F 19 (nI tp)) 26 (nI ht)) (updR (updR (updR R 5 (.ref pq)) 7 (.ref (a sp))) 8 (.ref (a op))) Z B J K.1 (fun q99 x99 => x99 = rep G a K q99) w tp (by omega) hO) (gV pw_598 pw_599 pw_600 pw_539 pw_595) hV_X5_pop qr4 4 hqr5 rfl rfl rfl (Nat.le_of_ble_eq_true rfl) dX5_putElement_1 ⟨Nat.le_of_ble_eq_true rfl, Nat.le_of_ble_eq_true rfl⟩ ⟨Nat.le_of_ble_eq_true rfl, Nat.le_of_ble_eq_true rfl⟩ (fun v3 u1 H locs hw2 hP hD hS => ?_)
  obtain ⟨w, r6, tp7, en8, rf9, J10⟩ := u1
  obtain ⟨hw2, h11, hO⟩ := hw2
  have h11 : tp7 ≤ 32000 := h11
  obtain rfl : v3 = some (.long r6) := hw2
  have hO : OKP G h0 a (upd (upd (upd (upd F 19 (nI tp7)) 23 en8) 25 rf9) 26 (nI ht)) (updR (updR (updR R 5 (.ref pq)) 7 (.ref (a sp))) 8 (.ref (a op))) Z B J10 K w := hO.to rfl
  refine W.widen (k := 0) (n := 0) (Nat.le_of_ble_eq_true rfl) (Nat.le_of_ble_eq_true rfl) ?_
  refine W.eq (g2 := F0 m 4 ls [.long r6]) rfl ?_
  refine lv_lstore_n (lv' := [(1, .long r6), (0, .ref (a 5))]) hx hb dX5_putElement_4 rfl hl (by decide) rfl (fun ls hl => ?_)
  refine lv_aload_n hx hb dX5_putElement_5 rfl (lv_at hl 1 rfl) ?_
  have hO : OKW G h0 a (upd (upd (upd (upd (upd F 19 (nI tp7)) 23 en8) 25 rf9) 26 (nI ht)) 19 (nI tp7)) (updR (updR (updR R 5 (.ref pq)) 7 (.ref (a sp))) 8 (.ref (a op))) Z B J10 K.1 (fun q99 x99 => x99 = rep G a K q99) w := hO.to rfl
  obtain ⟨_, qr15, hqr16⟩ := hO.2.1 28 _ (sg_28 G h0 a _ _ _ _ _)
  refine pc_V0 (G := G) (As := []) (rest := []) hx hb hml hown hq hE hX pX0_al hP hD hS hA hl.1 (M_pop l G h0 a (upd (upd (upd (upd F 19 (nI tp7)) 23 en8) 25 rf9) 26 (nI ht)) (updR (updR (updR R 5 (.ref pq)) 7 (.ref (a sp))) 8 (.ref (a op))) Z B J10 K.1 (fun q99 x99 => x99 = rep G a K q99) w tp7 (by omega) hO) (gV pw_598 pw_599 pw_600 pw_539 pw_595) hV_X5_pop qr15 4 hqr16 rfl rfl rfl (Nat.le_of_ble_eq_true rfl) dX5_putElement_6 ⟨Nat.le_of_ble_eq_true rfl, Nat.le_of_ble_eq_true rfl⟩ ⟨Nat.le_of_ble_eq_true rfl, Nat.le_of_ble_eq_true rfl⟩ (fun v14 u12 H locs hw13 hP hD hS => ?_)
  obtain ⟨w, r17, tp18, en19, rf20, J21⟩ := u12
  obtain ⟨hw13, h22, hO⟩ := hw13
  have h22 : tp18 ≤ 32000 := h22
  obtain rfl : v14 = some (.long r17) := hw13
  have hO : OKP G h0 a (upd (upd (upd (upd F 19 (nI tp18)) 23 en19) 25 rf20) 26 (nI ht)) (updR (updR (updR R 5 (.ref pq)) 7 (.ref (a sp))) 8 (.ref (a op))) Z B J21 K w := hO.to rfl
  refine W.widen (k := 0) (n := 0) (Nat.le_of_ble_eq_true rfl) (Nat.le_of_ble_eq_true rfl) ?_
  refine W.eq (g2 := F0 m 9 ls [.long r17]) rfl ?_
  refine lv_l2i hx hb dX5_putElement_9 rfl ?_
  refine lv_topi (fun x23 e24 => ?_)
  refine lv_istore_n (lv' := [(3, .int x23), (1, .long r6), (0, .ref (a 5))]) hx hb dX5_putElement_10 rfl hl (by decide) rfl (fun ls hl => ?_)
  refine lv_aload_n hx hb dX5_putElement_11 rfl (lv_at hl 2 rfl) ?_
  have hO : OKW G h0 a (upd (upd (upd (upd (upd F 19 (nI tp18)) 23 en19) 25 rf20) 26 (nI ht)) 19 (nI tp18)) (updR (updR (updR R 5 (.ref pq)) 7 (.ref (a sp))) 8 (.ref (a op))) Z B J21 K.1 (fun q99 x99 => x99 = rep G a K q99) w := hO.to rfl
  obtain ⟨_, qr28, hqr29⟩ := hO.2.1 28 _ (sg_28 G h0 a _ _ _ _ _)
  refine pc_V0 (G := G) (As := []) (rest := []) hx hb hml hown hq hE hX pX0_al hP hD hS hA hl.1 (M_pop l G h0 a (upd (upd (upd (upd F 19 (nI tp18)) 23 en19) 25 rf20) 26 (nI ht)) (updR (updR (updR R 5 (.ref pq)) 7 (.ref (a sp))) 8 (.ref (a op))) Z B J21 K.1 (fun q99 x99 => x99 = rep G a K q99) w tp18 (by omega) hO) (gV pw_598 pw_599 pw_600 pw_539 pw_595) hV_X5_pop qr28 4 hqr29 rfl rfl rfl (Nat.le_of_ble_eq_true rfl) dX5_putElement_12 ⟨Nat.le_of_ble_eq_true rfl, Nat.le_of_ble_eq_true rfl⟩ ⟨Nat.le_of_ble_eq_true rfl, Nat.le_of_ble_eq_true rfl⟩ (fun v27 u25 H locs hw26 hP hD hS => ?_)
  obtain ⟨w, r30, tp31, en32, rf33, J34⟩ := u25
  obtain ⟨hw26, h35, hO⟩ := hw26
  have h35 : tp31 ≤ 32000 := h35
  obtain rfl : v27 = some (.long r30) := hw26
  have hO : OKP G h0 a (upd (upd (upd (upd F 19 (nI tp31)) 23 en32) 25 rf33) 26 (nI ht)) (updR (updR (updR R 5 (.ref pq)) 7 (.ref (a sp))) 8 (.ref (a op))) Z B J34 K w := hO.to rfl
  refine W.widen (k := 0) (n := 0) (Nat.le_of_ble_eq_true rfl) (Nat.le_of_ble_eq_true rfl) ?_
  refine W.eq (g2 := F0 m 15 ls [.long r30]) rfl ?_
  refine lv_lstore (lv' := [(4, .long r30), (3, .int x23), (1, .long r6), (0, .ref (a 5))]) hx hb dX5_putElement_15 hl (by decide) rfl (fun ls hl => ?_)
  refine lv_aload_n hx hb dX5_putElement_17 rfl (lv_at hl 3 rfl) ?_
  refine lv_lload hx hb dX5_putElement_18 (lv_at hl 0 rfl) ?_
  refine lv_iload_n hx hb dX5_putElement_20 rfl (lv_at hl 1 rfl) ?_
  have hO : OKW G h0 a (upd (upd (upd (upd (upd F 19 (nI tp31)) 23 en32) 25 rf33) 26 (nI ht)) 26 (nI ht)) (updR (updR (updR (updR (updR R 5 (.ref pq)) 7 (.ref (a sp))) 8 (.ref (a op))) 7 (.ref (a sp))) 8 (.ref (a op))) Z B J34 K.1 (fun q99 x99 => x99 = rep G a K q99) w := hO.to rfl
  obtain ⟨_, qr39, hqr40⟩ := hO.2.1 28 _ (sg_28 G h0 a _ _ _ _ _)
  refine pc_V0 (G := G) (As := [.long r30, .int x23]) (rest := []) hx hb hml hown hq hE hX pX0_al hP hD hS hA hl.1 (M_hasElement l G h0 a (upd (upd (upd (upd F 19 (nI tp31)) 23 en32) 25 rf33) 26 (nI ht)) (updR (updR (updR R 5 (.ref pq)) 7 (.ref (a sp))) 8 (.ref (a op))) Z B J34 K.1 (fun q99 x99 => x99 = rep G a K q99) w r30 x23 sp op ht hsp (by omega) hO) (gV pw_654 pw_655 pw_656 pw_539 pw_653) hV_X5_hasElement qr39 4 hqr40 rfl rfl rfl (Nat.le_of_ble_eq_true rfl) dX5_putElement_21 ⟨Nat.le_of_ble_eq_true rfl, Nat.le_of_ble_eq_true rfl⟩ ⟨Nat.le_of_ble_eq_true rfl, Nat.le_of_ble_eq_true rfl⟩ (fun v38 u36 H locs hw37 hP hD hS => ?_)
  obtain ⟨w, r41, z42⟩ := u36
  obtain ⟨hw37, h43, hO⟩ := hw37
  have h43 : r41 ≤ 1 := h43
  obtain rfl : v38 = some (.int (nI r41)) := hw37
  have hO : OKP G h0 a (upd (upd (upd (upd F 19 (nI tp31)) 23 en32) 25 rf33) 26 (nI ht)) (updR (updR (updR R 5 (.ref pq)) 7 (.ref (a sp))) 8 (.ref (a op))) z42 B J34 K w := hO.to rfl
  refine W.widen (k := 0) (n := 0) (Nat.le_of_ble_eq_true rfl) (Nat.le_of_ble_eq_true rfl) ?_
  refine W.eq (g2 := F0 m 24 ls [.int (nI r41)]) rfl ?_
  refine lv_if_ne (tgt := 28) hx hb dX5_putElement_24 (by decide) (fun c44 => ?_) (fun c44 => ?_)
  · have n45 : ¬ (r41 = 0) := fun h9 => c44 ((nI_eq (a := r41) (b := 0) (by omega) (by omega)).mpr h9)
    refine lv_aload_n hx hb dX5_putElement_28 rfl (lv_at hl 3 rfl) ?_
    refine c_get (v := .ref (a 28)) (C := RX5) (Tc := TX5) (N := 19) (ci := 4) hx hb hq pin_wsX50 hown hE hP hO 28 (sg_28 G h0 a _ _ _ _ _) rfl 1 (by decide) (hq _ pw_473) (fun _ h9 => h9) rfl dX5_putElement_29 ?_
    refine lv_lload hx hb dX5_putElement_32 (lv_at hl 0 rfl) ?_
    have hO : OKW G h0 a (upd (upd (upd (upd (upd F 19 (nI tp31)) 23 en32) 25 rf33) 26 (nI ht)) 26 (nI ht)) (updR (updR (updR (updR (updR R 5 (.ref pq)) 7 (.ref (a sp))) 8 (.ref (a op))) 7 (.ref (a sp))) 8 (.ref (a op))) z42 B J34 K.1 (fun q99 x99 => x99 = rep G a K q99) w := hO.to rfl
    obtain ⟨_, qr49, hqr50⟩ := hO.2.1 29 _ (sg_29 G h0 a _ _ _ _ _)
    refine pc_V0 (G := G) (As := [.long r30]) (rest := []) hx hb hml hown hq hE hX pX0_al hP hD hS hA hl.1 (K_typeOf l G h0 a (upd (upd (upd (upd F 19 (nI tp31)) 23 en32) 25 rf33) 26 (nI ht)) (updR (updR (updR R 5 (.ref pq)) 7 (.ref (a sp))) 8 (.ref (a op))) z42 B J34 K.1 (fun q99 x99 => x99 = rep G a K q99) w r30 sp op ht hsp (by omega) hO) (gV pw_489 pw_490 pw_491 pw_440 pw_441) hV_X3_typeOf qr49 3 hqr50 rfl rfl rfl (Nat.le_of_ble_eq_true rfl) dX5_putElement_34 ⟨Nat.le_of_ble_eq_true rfl, Nat.le_of_ble_eq_true rfl⟩ ⟨Nat.le_of_ble_eq_true rfl, Nat.le_of_ble_eq_true rfl⟩ (fun v48 u46 H locs hw47 hP hD hS => ?_)
    obtain ⟨w, r51⟩ := u46
    obtain ⟨hw47, hO⟩ := hw47
    obtain rfl : v48 = some (.int r51) := hw47
    have hO : OKP G h0 a (upd (upd (upd (upd F 19 (nI tp31)) 23 en32) 25 rf33) 26 (nI ht)) (updR (updR (updR R 5 (.ref pq)) 7 (.ref (a sp))) 8 (.ref (a op))) z42 B J34 K w := hO.to rfl
    refine W.widen (k := 0) (n := 0) (Nat.le_of_ble_eq_true rfl) (Nat.le_of_ble_eq_true rfl) ?_
    refine W.eq (g2 := F0 m 37 ls [.int r51]) rfl ?_
    refine lv_bipush (v := 64) hx hb dX5_putElement_37 (by decide) ?_
    refine lv_isub hx hb dX5_putElement_39 ?_
    refine lv_topi (fun x52 e53 => ?_)
    refine lv_istore (lv' := [(6, .int x52), (4, .long r30), (3, .int x23), (1, .long r6), (0, .ref (a 5))]) hx hb dX5_putElement_40 hl (by decide) rfl (fun ls hl => ?_)
    refine lv_lload_n hx hb dX5_putElement_42 rfl (lv_at hl 3 rfl) ?_
    refine pc_SN (G := G) (As := [.long r6]) (rest := []) hx hb hml hown hq hE hX pX0_al hP hS hA hl.1 (s_isRef l G r6) (gS pw_497 pw_439 pw_440 pw_423) hS_X3_isReference rfl (Nat.le_of_ble_eq_true rfl) dX5_putElement_43 ⟨Nat.le_of_ble_eq_true rfl, Nat.le_of_ble_eq_true rfl⟩ ⟨Nat.le_of_ble_eq_true rfl, Nat.le_of_ble_eq_true rfl⟩ (fun v56 u54 H locs hw55 hP hS => ?_)
    obtain ⟨rfl, h58⟩ := hw55
    refine W.widen (k := 0) (n := 0) (Nat.le_of_ble_eq_true rfl) (Nat.le_of_ble_eq_true rfl) ?_
    refine W.eq (g2 := F0 m 46 ls [.int (nI u54)]) rfl ?_
    refine lv_if_eq (tgt := 77) hx hb dX5_putElement_46 (by decide) (fun c59 => ?_) (fun c59 => ?_)
    · have n60 : u54 = 0 := (nI_eq (a := u54) (b := 0) (by omega) (by omega)).mp c59
      refine lv_aload_n hx hb dX5_putElement_77 rfl (lv_at hl 4 rfl) ?_
      refine c_get (v := .ref (a 28)) (C := RX5) (Tc := TX5) (N := 19) (ci := 4) hx hb hq pin_wsX50 hown hE hP hO 28 (sg_28 G h0 a _ _ _ _ _) rfl 1 (by decide) (hq _ pw_473) (fun _ h9 => h9) rfl dX5_putElement_78 ?_
      refine lv_lload hx hb dX5_putElement_81 (lv_at hl 1 rfl) ?_
      refine lv_iload_n hx hb dX5_putElement_83 rfl (lv_at hl 2 rfl) ?_
      refine lv_lload_n hx hb dX5_putElement_84 rfl (lv_at hl 3 rfl) ?_
      have hO : OKW G h0 a (upd (upd (upd (upd (upd F 19 (nI tp31)) 23 en32) 25 rf33) 26 (nI ht)) 26 (nI ht)) (updR (updR (updR (updR (updR R 5 (.ref pq)) 7 (.ref (a sp))) 8 (.ref (a op))) 7 (.ref (a sp))) 8 (.ref (a op))) z42 B J34 K.1 (fun q99 x99 => x99 = rep G a K q99) w := hO.to rfl
      obtain ⟨_, qr64, hqr65⟩ := hO.2.1 29 _ (sg_29 G h0 a _ _ _ _ _)
      refine pc_V0 (G := G) (As := [.long r30, .int x23, .long r6]) (rest := []) hx hb hml hown hq hE hX pX0_al hP hD hS hA hl.1 (K_put l G h0 a (upd (upd (upd (upd F 19 (nI tp31)) 23 en32) 25 rf33) 26 (nI ht)) (updR (updR (updR R 5 (.ref pq)) 7 (.ref (a sp))) 8 (.ref (a op))) z42 B J34 K.1 (fun q99 x99 => x99 = rep G a K q99) w r30 r6 x23 sp op ht hsp (by omega) hO) (gV pw_649 pw_650 pw_651 pw_440 pw_456) hV_X3_put qr64 3 hqr65 rfl rfl rfl (Nat.le_of_ble_eq_true rfl) dX5_putElement_85 ⟨Nat.le_of_ble_eq_true rfl, Nat.le_of_ble_eq_true rfl⟩ ⟨Nat.le_of_ble_eq_true rfl, Nat.le_of_ble_eq_true rfl⟩ (fun v63 u61 H locs hw62 hP hD hS => ?_)
      obtain ⟨w, J66⟩ := u61
      obtain ⟨hw62, hO⟩ := hw62
      obtain rfl : v63 = none := hw62
      have hO : OKP G h0 a (upd (upd (upd (upd F 19 (nI tp31)) 23 en32) 25 rf33) 26 (nI ht)) (updR (updR (updR R 5 (.ref pq)) 7 (.ref (a sp))) 8 (.ref (a op))) z42 B J66 K w := hO.to rfl
      refine W.widen (k := 0) (n := 0) (Nat.le_of_ble_eq_true rfl) (Nat.le_of_ble_eq_true rfl) ?_
      refine W.eq (g2 := F0 m 88 ls []) rfl ?_
      have hz67 : tp31 ≤ 32000 := (by omega)
      have hO : OKP G h0 a (upd (upd (upd (upd F 19 (nI tp31)) 23 en32) 25 rf33) 26 (nI ht)) (updR (updR (updR R 5 (.ref pq)) 7 (.ref (a sp))) 8 (.ref (a op))) z42 B J66 K w := hO.to rfl
      exact W.vret hx hb hr (fun t99 ht99 hW99 => ⟨⟨_, (w, (tp31, en32, rf33, J66, z42)), rfl, ⟨rfl, hz67, hO⟩, by rw [ht99]; exact hP, hD⟩, hS.F ht99⟩) hS.2.2 dX5_putElement_88
    · have n68 : ¬ (u54 = 0) := fun h9 => c59 ((nI_eq (a := u54) (b := 0) (by omega) (by omega)).mpr h9)
      refine lv_aload_n hx hb dX5_putElement_49 rfl (lv_at hl 4 rfl) ?_
      refine c_get (v := .ref pq) (C := RX5) (Tc := TX5) (N := 19) (ci := 4) hx hb hq pin_wsX50 hown hE hP hO 28 (sg_28 G h0 a _ _ _ _ _) rfl 8 (by decide) (hq _ pw_486) (fun _ h9 => h9) rfl dX5_putElement_50 ?_
      refine lv_aload_n hx hb dX5_putElement_53 rfl (lv_at hl 4 rfl) ?_
      refine c_get (v := .ref (a 28)) (C := RX5) (Tc := TX5) (N := 19) (ci := 4) hx hb hq pin_wsX50 hown hE hP hO 28 (sg_28 G h0 a _ _ _ _ _) rfl 1 (by decide) (hq _ pw_473) (fun _ h9 => h9) rfl dX5_putElement_54 ?_
      refine lv_lload_n hx hb dX5_putElement_57 rfl (lv_at hl 3 rfl) ?_
      have hO : OKW G h0 a (upd (upd (upd (upd (upd F 19 (nI tp31)) 23 en32) 25 rf33) 26 (nI ht)) 26 (nI ht)) (updR (updR (updR (updR (updR R 5 (.ref pq)) 7 (.ref (a sp))) 8 (.ref (a op))) 7 (.ref (a sp))) 8 (.ref (a op))) z42 B J34 K.1 (fun q99 x99 => x99 = rep G a K q99) w := hO.to rfl
      obtain ⟨_, qr72, hqr73⟩ := hO.2.1 29 _ (sg_29 G h0 a _ _ _ _ _)
      refine pc_V0 (G := G) (As := [.long r6]) (rest := [.ref pq]) hx hb hml hown hq hE hX pX0_al hP hD hS hA hl.1 (K_typeOf l G h0 a (upd (upd (upd (upd F 19 (nI tp31)) 23 en32) 25 rf33) 26 (nI ht)) (updR (updR (updR R 5 (.ref pq)) 7 (.ref (a sp))) 8 (.ref (a op))) z42 B J34 K.1 (fun q99 x99 => x99 = rep G a K q99) w r6 sp op ht hsp (by omega) hO) (gV pw_489 pw_490 pw_491 pw_440 pw_441) hV_X3_typeOf qr72 3 hqr73 rfl rfl rfl (Nat.le_of_ble_eq_true rfl) dX5_putElement_58 ⟨Nat.le_of_ble_eq_true rfl, Nat.le_of_ble_eq_true rfl⟩ ⟨Nat.le_of_ble_eq_true rfl, Nat.le_of_ble_eq_true rfl⟩ (fun v71 u69 H locs hw70 hP hD hS => ?_)
      obtain ⟨w, r74⟩ := u69
      obtain ⟨hw70, hO⟩ := hw70
      obtain rfl : v71 = some (.int r74) := hw70
      have hO : OKP G h0 a (upd (upd (upd (upd F 19 (nI tp31)) 23 en32) 25 rf33) 26 (nI ht)) (updR (updR (updR R 5 (.ref pq)) 7 (.ref (a sp))) 8 (.ref (a op))) z42 B J34 K w := hO.to rfl
      refine W.widen (k := 0) (n := 0) (Nat.le_of_ble_eq_true rfl) (Nat.le_of_ble_eq_true rfl) ?_
      refine W.eq (g2 := F0 m 61 ls [.int r74, .ref pq]) rfl ?_
      refine lv_iload hx hb dX5_putElement_61 (lv_at hl 0 rfl) ?_
      have hO : OKP G h0 a (upd (upd (upd (upd F 19 (nI tp31)) 23 en32) 25 rf33) 26 (nI ht)) (updR (updR (updR R 5 (.ref pq)) 7 (.ref (a sp))) 8 (.ref (a op))) z42 B J34 K w := hO.to rfl
      obtain ⟨qr78, hqr79⟩ := p_recv hO (by rw [hp1]; decide) (rep_7 hp1)
      refine pc_V0 (G := G) (As := [.int r74, .int x52]) (rest := []) hx hb hml hown hq hE hX pX0_al hP hD hS hA hl.1 (G_fits l G h0 a (upd (upd (upd (upd F 19 (nI tp31)) 23 en32) 25 rf33) 26 (nI ht)) (updR (updR (updR R 5 (.ref pq)) 7 (.ref (a sp))) 8 (.ref (a op))) z42 B J34 K w pq dr ml nd r74 x52 g hpb hdc hO) (gV pw_644 pw_112 pw_113 pw_106 pw_103) hV_X9_fits qr78 6 hqr79 rfl rfl rfl (Nat.le_of_ble_eq_true rfl) dX5_putElement_63 ⟨Nat.le_of_ble_eq_true rfl, Nat.le_of_ble_eq_true rfl⟩ ⟨Nat.le_of_ble_eq_true rfl, Nat.le_of_ble_eq_true rfl⟩ (fun v77 u75 H locs hw76 hP hD hS => ?_)
      obtain ⟨w, r80⟩ := u75
      obtain ⟨hw76, h81, hO⟩ := hw76
      have h81 : r80 ≤ 1 := h81
      obtain rfl : v77 = some (.int (nI r80)) := hw76
      have hO : OKP G h0 a (upd (upd (upd (upd F 19 (nI tp31)) 23 en32) 25 rf33) 26 (nI ht)) (updR (updR (updR R 5 (.ref pq)) 7 (.ref (a sp))) 8 (.ref (a op))) z42 B J34 K w := hO.to rfl
      refine W.widen (k := 0) (n := 0) (Nat.le_of_ble_eq_true rfl) (Nat.le_of_ble_eq_true rfl) ?_
      refine W.eq (g2 := F0 m 66 ls [.int (nI r80)]) rfl ?_
      refine lv_if_ne (tgt := 77) hx hb dX5_putElement_66 (by decide) (fun c82 => ?_) (fun c82 => ?_)
      · have n83 : ¬ (r80 = 0) := fun h9 => c82 ((nI_eq (a := r80) (b := 0) (by omega) (by omega)).mpr h9)
        refine lv_aload_n hx hb dX5_putElement_77 rfl (lv_at hl 4 rfl) ?_
        refine c_get (v := .ref (a 28)) (C := RX5) (Tc := TX5) (N := 19) (ci := 4) hx hb hq pin_wsX50 hown hE hP hO 28 (sg_28 G h0 a _ _ _ _ _) rfl 1 (by decide) (hq _ pw_473) (fun _ h9 => h9) rfl dX5_putElement_78 ?_
        refine lv_lload hx hb dX5_putElement_81 (lv_at hl 1 rfl) ?_
        refine lv_iload_n hx hb dX5_putElement_83 rfl (lv_at hl 2 rfl) ?_
        refine lv_lload_n hx hb dX5_putElement_84 rfl (lv_at hl 3 rfl) ?_
        have hO : OKW G h0 a (upd (upd (upd (upd (upd F 19 (nI tp31)) 23 en32) 25 rf33) 26 (nI ht)) 26 (nI ht)) (updR (updR (updR (updR (updR R 5 (.ref pq)) 7 (.ref (a sp))) 8 (.ref (a op))) 7 (.ref (a sp))) 8 (.ref (a op))) z42 B J34 K.1 (fun q99 x99 => x99 = rep G a K q99) w := hO.to rfl
        obtain ⟨_, qr87, hqr88⟩ := hO.2.1 29 _ (sg_29 G h0 a _ _ _ _ _)
        refine pc_V0 (G := G) (As := [.long r30, .int x23, .long r6]) (rest := []) hx hb hml hown hq hE hX pX0_al hP hD hS hA hl.1 (K_put l G h0 a (upd (upd (upd (upd F 19 (nI tp31)) 23 en32) 25 rf33) 26 (nI ht)) (updR (updR (updR R 5 (.ref pq)) 7 (.ref (a sp))) 8 (.ref (a op))) z42 B J34 K.1 (fun q99 x99 => x99 = rep G a K q99) w r30 r6 x23 sp op ht hsp (by omega) hO) (gV pw_649 pw_650 pw_651 pw_440 pw_456) hV_X3_put qr87 3 hqr88 rfl rfl rfl (Nat.le_of_ble_eq_true rfl) dX5_putElement_85 ⟨Nat.le_of_ble_eq_true rfl, Nat.le_of_ble_eq_true rfl⟩ ⟨Nat.le_of_ble_eq_true rfl, Nat.le_of_ble_eq_true rfl⟩ (fun v86 u84 H locs hw85 hP hD hS => ?_)
        obtain ⟨w, J89⟩ := u84
        obtain ⟨hw85, hO⟩ := hw85
        obtain rfl : v86 = none := hw85
        have hO : OKP G h0 a (upd (upd (upd (upd F 19 (nI tp31)) 23 en32) 25 rf33) 26 (nI ht)) (updR (updR (updR R 5 (.ref pq)) 7 (.ref (a sp))) 8 (.ref (a op))) z42 B J89 K w := hO.to rfl
        refine W.widen (k := 0) (n := 0) (Nat.le_of_ble_eq_true rfl) (Nat.le_of_ble_eq_true rfl) ?_
        refine W.eq (g2 := F0 m 88 ls []) rfl ?_
        have hz90 : tp31 ≤ 32000 := (by omega)
        have hO : OKP G h0 a (upd (upd (upd (upd F 19 (nI tp31)) 23 en32) 25 rf33) 26 (nI ht)) (updR (updR (updR R 5 (.ref pq)) 7 (.ref (a sp))) 8 (.ref (a op))) z42 B J89 K w := hO.to rfl
        exact W.vret hx hb hr (fun t99 ht99 hW99 => ⟨⟨_, (w, (tp31, en32, rf33, J89, z42)), rfl, ⟨rfl, hz90, hO⟩, by rw [ht99]; exact hP, hD⟩, hS.F ht99⟩) hS.2.2 dX5_putElement_88
      · have n91 : r80 = 0 := (nI_eq (a := r80) (b := 0) (by omega) (by omega)).mp c82
        refine lv_aload_n hx hb dX5_putElement_69 rfl (lv_at hl 4 rfl) ?_
        refine lv_iconst (v := 5) hx hb dX5_putElement_70 (by decide) ?_
        have hO : OKW G h0 a (upd (upd (upd (upd F 19 (nI tp31)) 23 en32) 25 rf33) 26 (nI ht)) (updR (updR (updR R 5 (.ref pq)) 7 (.ref (a sp))) 8 (.ref (a op))) z42 B J34 K.1 (fun q99 x99 => x99 = rep G a K q99) w := hO.to rfl
        obtain ⟨_, qr95, hqr96⟩ := hO.2.1 28 _ (sg_28 G h0 a _ _ _ _ _)
        refine pc_V0 (G := G) (As := [.int 5]) (rest := []) hx hb hml hown hq hE hX pX0_al hP hD hS hA hl.1 (M_raise l G h0 a (upd (upd (upd (upd F 19 (nI tp31)) 23 en32) 25 rf33) 26 (nI ht)) (updR (updR (updR R 5 (.ref pq)) 7 (.ref (a sp))) 8 (.ref (a op))) z42 B J34 K.1 (fun q99 x99 => x99 = rep G a K q99) w 5 hO) (gV pw_570 pw_571 pw_572 pw_539 pw_561) hV_X5_raise qr95 4 hqr96 rfl rfl rfl (Nat.le_of_ble_eq_true rfl) dX5_putElement_71 ⟨Nat.le_of_ble_eq_true rfl, Nat.le_of_ble_eq_true rfl⟩ ⟨Nat.le_of_ble_eq_true rfl, Nat.le_of_ble_eq_true rfl⟩ (fun v94 u92 H locs hw93 hP hD hS => ?_)
        obtain ⟨w, z97⟩ := u92
        obtain ⟨hw93, hO⟩ := hw93
        obtain rfl : v94 = none := hw93
        have hO : OKP G h0 a (upd (upd (upd (upd F 19 (nI tp31)) 23 en32) 25 rf33) 26 (nI ht)) (updR (updR (updR R 5 (.ref pq)) 7 (.ref (a sp))) 8 (.ref (a op))) z97 B J34 K w := hO.to rfl
        refine W.widen (k := 0) (n := 0) (Nat.le_of_ble_eq_true rfl) (Nat.le_of_ble_eq_true rfl) ?_
        refine W.eq (g2 := F0 m 74 ls []) rfl ?_
        refine lv_goto (tgt := 88) hx hb dX5_putElement_74 (by decide) ?_
        have hz98 : tp31 ≤ 32000 := (by omega)
        have hO : OKP G h0 a (upd (upd (upd (upd F 19 (nI tp31)) 23 en32) 25 rf33) 26 (nI ht)) (updR (updR (updR R 5 (.ref pq)) 7 (.ref (a sp))) 8 (.ref (a op))) z97 B J34 K w := hO.to rfl
        exact W.vret hx hb hr (fun t99 ht99 hW99 => ⟨⟨_, (w, (tp31, en32, rf33, J34, z97)), rfl, ⟨rfl, hz98, hO⟩, by rw [ht99]; exact hP, hD⟩, hS.F ht99⟩) hS.2.2 dX5_putElement_88
  · have n99 : r41 = 0 := (nI_eq (a := r41) (b := 0) (by omega) (by omega)).mp c44
    have hz100 : tp31 ≤ 32000 := (by omega)
    have hO : OKP G h0 a (upd (upd (upd (upd F 19 (nI tp31)) 23 en32) 25 rf33) 26 (nI ht)) (updR (updR (updR R 5 (.ref pq)) 7 (.ref (a sp))) 8 (.ref (a op))) z42 B J34 K w := hO.to rfl
    exact W.vret hx hb hr (fun t99 ht99 hW99 => ⟨⟨_, (w, (tp31, en32, rf33, J34, z42)), rfl, ⟨rfl, hz100, hO⟩, by rw [ht99]; exact hP, hD⟩, hS.F ht99⟩) hS.2.2 dX5_putElement_27
theorem dX5_throwValue_0 : decode cX5_throwValue 0 = .ok (.lload_n 1, 1) := by decide +kernel
theorem dX5_throwValue_1 : decode cX5_throwValue 1 = .ok (.lconst 0, 1) := by decide +kernel
theorem dX5_throwValue_2 : decode cX5_throwValue 2 = .ok (.lcmp, 1) := by decide +kernel
theorem dX5_throwValue_3 : decode cX5_throwValue 3 = .ok (.ifCond .ne 11, 3) := by decide +kernel
theorem dX5_throwValue_14 : decode cX5_throwValue 14 = .ok (.aload_n 0, 1) := by decide +kernel
theorem dX5_throwValue_15 : decode cX5_throwValue 15 = .ok (.getfield 18, 3) := by decide +kernel
theorem dX5_throwValue_18 : decode cX5_throwValue 18 = .ok (.lload_n 1, 1) := by decide +kernel
theorem dX5_throwValue_19 : decode cX5_throwValue 19 = .ok (.invokevirtual 51, 3) := by decide +kernel
theorem dX5_throwValue_22 : decode cX5_throwValue 22 = .ok (.bipush 64, 2) := by decide +kernel
theorem dX5_throwValue_24 : decode cX5_throwValue 24 = .ok (.if_icmp .lt 11, 3) := by decide +kernel
theorem dX5_throwValue_35 : decode cX5_throwValue 35 = .ok (.aload_n 0, 1) := by decide +kernel
theorem dX5_throwValue_36 : decode cX5_throwValue 36 = .ok (.lload_n 1, 1) := by decide +kernel
theorem dX5_throwValue_37 : decode cX5_throwValue 37 = .ok (.putfield 43, 3) := by decide +kernel
theorem dX5_throwValue_40 : decode cX5_throwValue 40 = .ok (.return_, 1) := by decide +kernel
theorem dX5_throwValue_27 : decode cX5_throwValue 27 = .ok (.aload_n 0, 1) := by decide +kernel
theorem dX5_throwValue_28 : decode cX5_throwValue 28 = .ok (.iconst 2, 1) := by decide +kernel
theorem dX5_throwValue_29 : decode cX5_throwValue 29 = .ok (.invokevirtual 252, 3) := by decide +kernel
theorem dX5_throwValue_32 : decode cX5_throwValue 32 = .ok (.goto 8, 3) := by decide +kernel
theorem dX5_throwValue_6 : decode cX5_throwValue 6 = .ok (.aload_n 0, 1) := by decide +kernel
theorem dX5_throwValue_7 : decode cX5_throwValue 7 = .ok (.iconst 1, 1) := by decide +kernel
theorem dX5_throwValue_8 : decode cX5_throwValue 8 = .ok (.invokevirtual 252, 3) := by decide +kernel
theorem dX5_throwValue_11 : decode cX5_throwValue 11 = .ok (.goto 29, 3) := by decide +kernel
set_option maxHeartbeats 8000000 in
set_option maxRecDepth 100000 in
theorem M_throwValue (l : Launch) (G : pT) (h0 : Nat) (a : Nat → Nat) (F : Nat → Int32) (R : Nat → Value) (Z : Int64) (B : Nat → Nat → Int32) (J : Nat → Nat → Int64) (T : Nat → Nat) (Pi : Nat → va_E → Prop) (w : va_W) (x : Int64) (sp : Nat) (op : Nat) (ht : Nat) (hsp : (sp = 34 ∧ op = 35) ∨ (sp = 35 ∧ op = 34)) (hht : 8 ≤ ht ∧ ht ≤ 3008) (hO : OKW G h0 a (upd F 26 (nI ht)) (updR (updR R 7 (.ref (a sp))) 8 (.ref (a op))) Z B J T Pi w) : PM l G pX0 yX5_throwValue cX5_throwValue 3 none ({ frames := 5, cells := 0, slots := 0, locals := 128 }) [.ref (a 5), .long x] w (fun (v : Option Value) (u : va_W × (Int64)) => v = none ∧ (OKW G h0 a (upd F 26 (nI ht)) (updR (updR R 7 (.ref (a sp))) 8 (.ref (a op))) u.2 B J T Pi u.1)) (fun u => u.1) := by
  intro sz
  refine Met.ofW (cc := cX5_throwValue) (maxL := 3) (ret := none) (by decide) rfl ?_
  intro p e s m args below meth c s₁ B9 hml hv
  obtain ⟨rfl, hsz, hP, hD0, hE, hX⟩ := hv
  have hx := B9.exec
  have hb := B9.bytes
  have hr := B9.returns
  have hts := atoms_spec (ws := Cond.code yX5_throwValue cX5_throwValue 3 none :: pw) B9.pre
  have hq : ∀ w ∈ pw, w.before _ s = true := fun w h => hts w (List.mem_cons_of_mem _ h)
  have hown : s.vm.findClass RX5 = some m.cls := findClass_of_methodNamed B9.named
  have hlocks := B9.notSynchronized
  subst hsz
  have hD := hD0.self (sz := s.heap.size)
  have hA : ∀ q : Nat, s.heap.size ≤ q → va_A w s.heap.size q := fun q h => Or.inr h
  generalize va_A w s.heap.size = A at hD hE hA ⊢
  have hS : va_S A s.heap s.heap [] := va_S.rf
  have hl := lv_entry ([.ref (a 5), .long x]) (n := 3) (Nat.le_of_ble_eq_true rfl)
  rw [lg_entry_eq]
  generalize (lg_sl ([.ref (a 5), .long x]) ++ List.replicate (3 - (lg_sl ([.ref (a 5), .long x])).length) Slot.unset).toArray = ls at hl ⊢
  have hl : lv_has ls 3 [(0, .ref (a 5)), (1, .long x)] := hl
  refine lv_lload_n hx hb dX5_throwValue_0 rfl (lv_at hl 1 rfl) ?_
  refine lv_lconst (v := 0) hx hb dX5_throwValue_1 (by decide) ?_
  refine W.lcmp hx hb dX5_throwValue_2 ?_
  refine lv_topi (fun x1 e2 => ?_)
  refine lv_if_ne (tgt := 14) hx hb dX5_throwValue_3 (by decide) (fun c3 => ?_) (fun c3 => ?_)
  · refine lv_aload_n hx hb dX5_throwValue_14 rfl (lv_at hl 0 rfl) ?_
    refine c_get (v := .ref (a 28)) (C := RX5) (Tc := TX5) (N := 19) (ci := 4) hx hb hq pin_wsX50 hown hE hP hO 28 (sg_28 G h0 a _ _ _ _ _) rfl 1 (by decide) (hq _ pw_473) (fun _ h9 => h9) rfl dX5_throwValue_15 ?_
    refine lv_lload_n hx hb dX5_throwValue_18 rfl (lv_at hl 1 rfl) ?_
    have hO : OKW G h0 a (upd (upd F 26 (nI ht)) 26 (nI ht)) (updR (updR (updR (updR R 7 (.ref (a sp))) 8 (.ref (a op))) 7 (.ref (a sp))) 8 (.ref (a op))) Z B J T Pi w := hO.to rfl
    obtain ⟨_, qr7, hqr8⟩ := hO.2.1 29 _ (sg_29 G h0 a _ _ _ _ _)
    refine pc_V0 (G := G) (As := [.long x]) (rest := []) hx hb hml hown hq hE hX pX0_al hP hD hS hA hl.1 (K_typeOf l G h0 a (upd F 26 (nI ht)) (updR (updR R 7 (.ref (a sp))) 8 (.ref (a op))) Z B J T Pi w x sp op ht hsp (by omega) hO) (gV pw_489 pw_490 pw_491 pw_440 pw_441) hV_X3_typeOf qr7 3 hqr8 rfl rfl rfl (Nat.le_of_ble_eq_true rfl) dX5_throwValue_19 ⟨Nat.le_of_ble_eq_true rfl, Nat.le_of_ble_eq_true rfl⟩ ⟨Nat.le_of_ble_eq_true rfl, Nat.le_of_ble_eq_true rfl⟩ (fun v6 u4 H locs hw5 hP hD hS => ?_)
    obtain ⟨w, r9⟩ := u4
    obtain ⟨hw5, hO⟩ := hw5
    obtain rfl : v6 = some (.int r9) := hw5
    have hO : OKW G h0 a (upd F 26 (nI ht)) (updR (updR R 7 (.ref (a sp))) 8 (.ref (a op))) Z B J T Pi w := hO.to rfl
    refine W.widen (k := 0) (n := 0) (Nat.le_of_ble_eq_true rfl) (Nat.le_of_ble_eq_true rfl) ?_
    refine W.eq (g2 := F0 m 22 ls [.int r9]) rfl ?_
    refine lv_bipush (v := 64) hx hb dX5_throwValue_22 (by decide) ?_
    refine lv_icmp_lt (tgt := 35) hx hb dX5_throwValue_24 (by decide) (fun c10 => ?_) (fun c10 => ?_)
    · refine lv_aload_n hx hb dX5_throwValue_35 rfl (lv_at hl 0 rfl) ?_
      refine lv_lload_n hx hb dX5_throwValue_36 rfl (lv_at hl 1 rfl) ?_
      refine c_put (v := .long x) (ty := .long) (C := RX5) (Tc := TX5) (N := 19) (ci := 4) hx hb hq pin_wsX50 tyX5 tyX5_ok nmX5 hown hE hP hD hS hO 28 (sg_28 G h0 a _ _ _ _ _) rfl 14 (by decide) (hq _ pw_485) (fun _ h9 => h9) rfl (by decide +kernel) rfl rfl (Nat.le_of_ble_eq_true rfl) (sz G h0 a _ _ _ _ _ x) dX5_throwValue_37 (fun H locs w hP hD hS hO => ?_)
      have hO : OKW G h0 a (upd F 26 (nI ht)) (updR (updR R 7 (.ref (a sp))) 8 (.ref (a op))) x B J T Pi w := hO.to rfl
      exact W.vret hx hb hr (fun t99 ht99 hW99 => ⟨⟨_, (w, x), rfl, ⟨rfl, hO⟩, by rw [ht99]; exact hP, hD⟩, hS.F ht99⟩) hS.2.2 dX5_throwValue_40
    · refine lv_aload_n hx hb dX5_throwValue_27 rfl (lv_at hl 0 rfl) ?_
      refine lv_iconst (v := 2) hx hb dX5_throwValue_28 (by decide) ?_
      have hO : OKW G h0 a (upd F 26 (nI ht)) (updR (updR R 7 (.ref (a sp))) 8 (.ref (a op))) Z B J T Pi w := hO.to rfl
      obtain ⟨_, qr14, hqr15⟩ := hO.2.1 28 _ (sg_28 G h0 a _ _ _ _ _)
      refine pc_V0 (G := G) (As := [.int 2]) (rest := []) hx hb hml hown hq hE hX pX0_al hP hD hS hA hl.1 (M_raise l G h0 a (upd F 26 (nI ht)) (updR (updR R 7 (.ref (a sp))) 8 (.ref (a op))) Z B J T Pi w 2 hO) (gV pw_570 pw_571 pw_572 pw_539 pw_561) hV_X5_raise qr14 4 hqr15 rfl rfl rfl (Nat.le_of_ble_eq_true rfl) dX5_throwValue_29 ⟨Nat.le_of_ble_eq_true rfl, Nat.le_of_ble_eq_true rfl⟩ ⟨Nat.le_of_ble_eq_true rfl, Nat.le_of_ble_eq_true rfl⟩ (fun v13 u11 H locs hw12 hP hD hS => ?_)
      obtain ⟨w, z16⟩ := u11
      obtain ⟨hw12, hO⟩ := hw12
      obtain rfl : v13 = none := hw12
      have hO : OKW G h0 a (upd F 26 (nI ht)) (updR (updR R 7 (.ref (a sp))) 8 (.ref (a op))) z16 B J T Pi w := hO.to rfl
      refine W.widen (k := 0) (n := 0) (Nat.le_of_ble_eq_true rfl) (Nat.le_of_ble_eq_true rfl) ?_
      refine W.eq (g2 := F0 m 32 ls []) rfl ?_
      refine lv_goto (tgt := 40) hx hb dX5_throwValue_32 (by decide) ?_
      have hO : OKW G h0 a (upd F 26 (nI ht)) (updR (updR R 7 (.ref (a sp))) 8 (.ref (a op))) z16 B J T Pi w := hO.to rfl
      exact W.vret hx hb hr (fun t99 ht99 hW99 => ⟨⟨_, (w, z16), rfl, ⟨rfl, hO⟩, by rw [ht99]; exact hP, hD⟩, hS.F ht99⟩) hS.2.2 dX5_throwValue_40
  · refine lv_aload_n hx hb dX5_throwValue_6 rfl (lv_at hl 0 rfl) ?_
    refine lv_iconst (v := 1) hx hb dX5_throwValue_7 (by decide) ?_
    have hO : OKW G h0 a (upd F 26 (nI ht)) (updR (updR R 7 (.ref (a sp))) 8 (.ref (a op))) Z B J T Pi w := hO.to rfl
    obtain ⟨_, qr20, hqr21⟩ := hO.2.1 28 _ (sg_28 G h0 a _ _ _ _ _)
    refine pc_V0 (G := G) (As := [.int 1]) (rest := []) hx hb hml hown hq hE hX pX0_al hP hD hS hA hl.1 (M_raise l G h0 a (upd F 26 (nI ht)) (updR (updR R 7 (.ref (a sp))) 8 (.ref (a op))) Z B J T Pi w 1 hO) (gV pw_570 pw_571 pw_572 pw_539 pw_561) hV_X5_raise qr20 4 hqr21 rfl rfl rfl (Nat.le_of_ble_eq_true rfl) dX5_throwValue_8 ⟨Nat.le_of_ble_eq_true rfl, Nat.le_of_ble_eq_true rfl⟩ ⟨Nat.le_of_ble_eq_true rfl, Nat.le_of_ble_eq_true rfl⟩ (fun v19 u17 H locs hw18 hP hD hS => ?_)
    obtain ⟨w, z22⟩ := u17
    obtain ⟨hw18, hO⟩ := hw18
    obtain rfl : v19 = none := hw18
    have hO : OKW G h0 a (upd F 26 (nI ht)) (updR (updR R 7 (.ref (a sp))) 8 (.ref (a op))) z22 B J T Pi w := hO.to rfl
    refine W.widen (k := 0) (n := 0) (Nat.le_of_ble_eq_true rfl) (Nat.le_of_ble_eq_true rfl) ?_
    refine W.eq (g2 := F0 m 11 ls []) rfl ?_
    refine lv_goto (tgt := 40) hx hb dX5_throwValue_11 (by decide) ?_
    have hO : OKW G h0 a (upd F 26 (nI ht)) (updR (updR R 7 (.ref (a sp))) 8 (.ref (a op))) z22 B J T Pi w := hO.to rfl
    exact W.vret hx hb hr (fun t99 ht99 hW99 => ⟨⟨_, (w, z22), rfl, ⟨rfl, hO⟩, by rw [ht99]; exact hP, hD⟩, hS.F ht99⟩) hS.2.2 dX5_throwValue_40
