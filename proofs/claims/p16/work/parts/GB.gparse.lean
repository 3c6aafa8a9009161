theorem dX8_parse_0 : decode cX8_parse 0 = .ok (.aload_n 0, 1) := by decide +kernel
theorem dX8_parse_1 : decode cX8_parse 1 = .ok (.aload_n 1, 1) := by decide +kernel
theorem dX8_parse_2 : decode cX8_parse 2 = .ok (.putfield 13, 3) := by decide +kernel
theorem dX8_parse_5 : decode cX8_parse 5 = .ok (.aload_n 0, 1) := by decide +kernel
theorem dX8_parse_6 : decode cX8_parse 6 = .ok (.iconst 0, 1) := by decide +kernel
theorem dX8_parse_7 : decode cX8_parse 7 = .ok (.putfield 17, 3) := by decide +kernel
theorem dX8_parse_10 : decode cX8_parse 10 = .ok (.aload_n 0, 1) := by decide +kernel
theorem dX8_parse_11 : decode cX8_parse 11 = .ok (.iconst 0, 1) := by decide +kernel
theorem dX8_parse_12 : decode cX8_parse 12 = .ok (.putfield 21, 3) := by decide +kernel
theorem dX8_parse_15 : decode cX8_parse 15 = .ok (.aload_n 0, 1) := by decide +kernel
theorem dX8_parse_16 : decode cX8_parse 16 = .ok (.iconst 0, 1) := by decide +kernel
theorem dX8_parse_17 : decode cX8_parse 17 = .ok (.putfield 24, 3) := by decide +kernel
theorem dX8_parse_20 : decode cX8_parse 20 = .ok (.iconst 0, 1) := by decide +kernel
theorem dX8_parse_21 : decode cX8_parse 21 = .ok (.istore_n 2, 1) := by decide +kernel
theorem dX8_parse_22 : decode cX8_parse 22 = .ok (.iload_n 2, 1) := by decide +kernel
theorem dX8_parse_23 : decode cX8_parse 23 = .ok (.aload_n 0, 1) := by decide +kernel
theorem dX8_parse_24 : decode cX8_parse 24 = .ok (.getfield 7, 3) := by decide +kernel
theorem dX8_parse_27 : decode cX8_parse 27 = .ok (.getfield 27, 3) := by decide +kernel
theorem dX8_parse_30 : decode cX8_parse 30 = .ok (.if_icmp .ge 85, 3) := by decide +kernel
theorem dX8_parse_115 : decode cX8_parse 115 = .ok (.return_, 1) := by decide +kernel
theorem dX8_parse_33 : decode cX8_parse 33 = .ok (.aload_n 0, 1) := by decide +kernel
theorem dX8_parse_34 : decode cX8_parse 34 = .ok (.getfield 17, 3) := by decide +kernel
theorem dX8_parse_37 : decode cX8_parse 37 = .ok (.aload_n 0, 1) := by decide +kernel
theorem dX8_parse_38 : decode cX8_parse 38 = .ok (.getfield 7, 3) := by decide +kernel
theorem dX8_parse_41 : decode cX8_parse 41 = .ok (.getfield 27, 3) := by decide +kernel
theorem dX8_parse_44 : decode cX8_parse 44 = .ok (.if_icmp .ge 71, 3) := by decide +kernel
theorem dX8_parse_47 : decode cX8_parse 47 = .ok (.aload_n 0, 1) := by decide +kernel
theorem dX8_parse_48 : decode cX8_parse 48 = .ok (.invokevirtual 32, 3) := by decide +kernel
theorem dX8_parse_51 : decode cX8_parse 51 = .ok (.astore_n 3, 1) := by decide +kernel
theorem dX8_parse_52 : decode cX8_parse 52 = .ok (.iconst 0, 1) := by decide +kernel
theorem dX8_parse_53 : decode cX8_parse 53 = .ok (.istore 4, 2) := by decide +kernel
theorem dX8_parse_55 : decode cX8_parse 55 = .ok (.iload 4, 2) := by decide +kernel
theorem dX8_parse_57 : decode cX8_parse 57 = .ok (.aload_n 0, 1) := by decide +kernel
theorem dX8_parse_58 : decode cX8_parse 58 = .ok (.getfield 7, 3) := by decide +kernel
theorem dX8_parse_61 : decode cX8_parse 61 = .ok (.getfield 27, 3) := by decide +kernel
theorem dX8_parse_64 : decode cX8_parse 64 = .ok (.if_icmp .ge 38, 3) := by decide +kernel
theorem dX8_parse_102 : decode cX8_parse 102 = .ok (.aload_n 0, 1) := by decide +kernel
theorem dX8_parse_103 : decode cX8_parse 103 = .ok (.bipush 33, 2) := by decide +kernel
theorem dX8_parse_105 : decode cX8_parse 105 = .ok (.invokevirtual 53, 3) := by decide +kernel
theorem dX8_parse_108 : decode cX8_parse 108 = .ok (.pop, 1) := by decide +kernel
theorem dX8_parse_109 : decode cX8_parse 109 = .ok (.iinc 2 1, 3) := by decide +kernel
theorem dX8_parse_112 : decode cX8_parse 112 = .ok (.goto (-90), 3) := by decide +kernel
theorem dX8_parse_67 : decode cX8_parse 67 = .ok (.aload_n 0, 1) := by decide +kernel
theorem dX8_parse_68 : decode cX8_parse 68 = .ok (.bipush 33, 2) := by decide +kernel
theorem dX8_parse_70 : decode cX8_parse 70 = .ok (.invokevirtual 36, 3) := by decide +kernel
theorem dX8_parse_73 : decode cX8_parse 73 = .ok (.ifCond .ne 29, 3) := by decide +kernel
theorem dX8_parse_76 : decode cX8_parse 76 = .ok (.aload_n 3, 1) := by decide +kernel
theorem dX8_parse_77 : decode cX8_parse 77 = .ok (.getfield 40, 3) := by decide +kernel
theorem dX8_parse_80 : decode cX8_parse 80 = .ok (.ifCond .eq 11, 3) := by decide +kernel
theorem dX8_parse_91 : decode cX8_parse 91 = .ok (.aload_n 0, 1) := by decide +kernel
theorem dX8_parse_92 : decode cX8_parse 92 = .ok (.aload_n 3, 1) := by decide +kernel
theorem dX8_parse_93 : decode cX8_parse 93 = .ok (.invokevirtual 50, 3) := by decide +kernel
theorem dX8_parse_96 : decode cX8_parse 96 = .ok (.iinc 4 1, 3) := by decide +kernel
theorem dX8_parse_99 : decode cX8_parse 99 = .ok (.goto (-44), 3) := by decide +kernel
theorem dX8_parse_83 : decode cX8_parse 83 = .ok (.aload_n 0, 1) := by decide +kernel
theorem dX8_parse_84 : decode cX8_parse 84 = .ok (.aload_n 3, 1) := by decide +kernel
theorem dX8_parse_85 : decode cX8_parse 85 = .ok (.invokevirtual 46, 3) := by decide +kernel
theorem dX8_parse_88 : decode cX8_parse 88 = .ok (.goto 8, 3) := by decide +kernel
theorem hV_X8_declaration : yX8_declaration.cls = RX8 ∧ yX8_declaration.cls ≠ "java/lang/invoke/MethodHandle" ∧ yX8_declaration.cls ≠ "java/lang/invoke/VarHandle" ∧ (parseMethodDescriptor yX8_declaration.desc).map (fun d => d.parameters.length) = some 0 := by decide +kernel
theorem hV_X8_member : yX8_member.cls = RX8 ∧ yX8_member.cls ≠ "java/lang/invoke/MethodHandle" ∧ yX8_member.cls ≠ "java/lang/invoke/VarHandle" ∧ (parseMethodDescriptor yX8_member.desc).map (fun d => d.parameters.length) = some 1 := by decide +kernel
theorem hV_X8_told : yX8_told.cls = RX8 ∧ yX8_told.cls ≠ "java/lang/invoke/MethodHandle" ∧ yX8_told.cls ≠ "java/lang/invoke/VarHandle" ∧ (parseMethodDescriptor yX8_told.desc).map (fun d => d.parameters.length) = some 1 := by decide +kernel
set_option maxHeartbeats 40000000 in
set_option maxRecDepth 100000 in
theorem P_parse (l : Launch) (G : pT) (h0 : Nat) (a : Nat → Nat) (F : Nat → Int32) (R : Nat → Value) (Z : Int64) (B : Nat → Nat → Int32) (J : Nat → Nat → Int64) (K : PK) (w : va_W) (pq : Nat) (dr : Nat) (ml : Nat) (nd : Nat) (sz : Nat) (g : Nat → Nat → Nat) (hsz : sz ≤ 5000) (hwp : WPr G K g) (hps : PgS G K g (a 1) pq dr ml nd 0 0 (fun _ => 0) 0) (hpz : PzK G K g 0 (fun _ => 0) none) (hO : OKP G h0 a (upd F 2 (nI sz)) R Z B J K w) (hl0 : l.stackTraces = false) : PBn l G pX0 yX8_parse cX8_parse 5 none ({ frames := (1070), cells := (4 * sz + 60), slots := (62 * sz + 700), locals := (31800) }) [.ref (a 3), .ref pq] w (fun (v : Option Value) (u : va_W × (PK × (Nat → Nat → Nat) × Nat × Nat × Nat × (Nat → Nat) × (Nat → Int32) × Nat × Nat)) => v = none ∧ (WPr G u.2.1 u.2.2.1) ∧ (PgS G u.2.1 u.2.2.1 (a 1) pq dr ml u.2.2.2.1 u.2.2.2.2.1 u.2.2.2.2.2.1 u.2.2.2.2.2.2.1 sz) ∧ (PzK G u.2.1 u.2.2.1 u.2.2.2.2.1 u.2.2.2.2.2.2.1 none) ∧ (u.2.2.2.2.2.2.2.2.1 ≤ sz) ∧ (NwT (B 7) sz (B 10) u.2.2.2.2.2.2.2.1 K u.2.1 0 u.2.2.2.2.2.2.2.2.1) ∧ (OKP G h0 a (upd (upd (upd (upd F 2 (nI sz)) 9 (nI u.2.2.2.2.2.2.2.2.1)) 10 0) 11 (nI u.2.2.2.2.2.2.2.2.2)) (updR R 1 (.ref pq)) Z (updA B 10 u.2.2.2.2.2.2.2.1) J u.2.1 u.1)) (fun u => u.1) (fun (u : va_W × (PK × (Nat → Nat → Nat) × Nat × Nat × Nat × (Nat → Nat) × (Nat → Int32) × Nat × Nat)) => (4 * sz)) (fun (u : va_W × (PK × (Nat → Nat → Nat) × Nat × Nat × Nat × (Nat → Nat) × (Nat → Int32) × Nat × Nat)) => (60 * sz + 4 * u.2.2.2.2.2.1)) (fun (u : va_W × (Nat → Int32) × (Nat → Value) × (Nat → Nat → Int32)) => ThQ G h0 a (upd F 2 (nI sz)) R Z B J u) (fun u => u.1) := by
  intro sz
  refine vx_ofW (cc := cX8_parse) (maxL := 5) (ret := none) (by decide) rfl ?_
  intro p e s m args below meth c s₁ B9 hml hnt hv
  obtain ⟨rfl, hsz, hP, hD0, hE, hX⟩ := hv
  have hx := B9.exec
  have hb := B9.bytes
  have hr := B9.returns
  have hts := atoms_spec (ws := Cond.code yX8_parse cX8_parse 5 none :: pw) B9.pre
  have hq : ∀ w ∈ pw, w.before _ s = true := fun w h => hts w (List.mem_cons_of_mem _ h)
  have hown : s.vm.findClass RX8 = some m.cls := findClass_of_methodNamed B9.named
  have hlocks := B9.notSynchronized
  subst hsz
  have hD := hD0.self (sz := s.heap.size)
  have hA : ∀ q : Nat, s.heap.size ≤ q → va_A w s.heap.size q := fun q h => Or.inr h
  generalize va_A w s.heap.size = A at hD hE hA ⊢
  have hS : va_S A s.heap s.heap [] := va_S.rf
  have hl := lv_entry ([.ref (a 3), .ref pq]) (n := 5) (Nat.le_of_ble_eq_true rfl)
  rw [lg_entry_eq]
  generalize (lg_sl ([.ref (a 3), .ref pq]) ++ List.replicate (5 - (lg_sl ([.ref (a 3), .ref pq])).length) Slot.unset).toArray = ls at hl ⊢
  have hl : lv_has ls 5 [(0, .ref (a 3)), (1, .ref pq)] := hl
  refine lv_aload_n hx hb dX8_parse_0 rfl (lv_at hl 0 rfl) ?_
  refine lv_aload_n hx hb dX8_parse_1 rfl (lv_at hl 1 rfl) ?_
  refine c_put (v := .ref pq) (ty := (.object "JinjaTongue$Program")) (C := RX8) (Tc := TX8) (N := 5) (ci := 5) hx hb hq pin_wsX80 tyX8 tyX8_ok nmX8 hown hE hP hD hS hO 23 (sg_23 G h0 a _ _ _ _ _) rfl 1 (by decide) (hq _ pw_801) (fun _ h9 => h9) rfl (by decide +kernel) rfl rfl (Nat.le_of_ble_eq_true rfl) (sr_1 G h0 a _ _ _ _ _ (.ref pq)) dX8_parse_2 (fun H locs w hP hD hS hO => ?_)
  refine lv_aload_n hx hb dX8_parse_5 rfl (lv_at hl 0 rfl) ?_
  refine lv_iconst (v := 0) hx hb dX8_parse_6 (by decide) ?_
  refine c_put (v := .int 0) (ty := .int) (C := RX8) (Tc := TX8) (N := 5) (ci := 5) hx hb hq pin_wsX80 tyX8 tyX8_ok nmX8 hown hE hP hD hS hO 23 (sg_23 G h0 a _ _ _ _ _) rfl 2 (by decide) (hq _ pw_776) (fun _ h9 => h9) rfl (by decide +kernel) rfl rfl (Nat.le_of_ble_eq_true rfl) (sf_9 G h0 a _ _ _ _ _ 0) dX8_parse_7 (fun H locs w hP hD hS hO => ?_)
  refine lv_aload_n hx hb dX8_parse_10 rfl (lv_at hl 0 rfl) ?_
  refine lv_iconst (v := 0) hx hb dX8_parse_11 (by decide) ?_
  refine c_put (v := .int 0) (ty := .int) (C := RX8) (Tc := TX8) (N := 5) (ci := 5) hx hb hq pin_wsX80 tyX8 tyX8_ok nmX8 hown hE hP hD hS hO 23 (sg_23 G h0 a _ _ _ _ _) rfl 3 (by decide) (hq _ pw_901) (fun _ h9 => h9) rfl (by decide +kernel) rfl rfl (Nat.le_of_ble_eq_true rfl) (sf_10 G h0 a _ _ _ _ _ 0) dX8_parse_12 (fun H locs w hP hD hS hO => ?_)
  refine lv_aload_n hx hb dX8_parse_15 rfl (lv_at hl 0 rfl) ?_
  refine lv_iconst (v := 0) hx hb dX8_parse_16 (by decide) ?_
  refine c_put (v := .int 0) (ty := .int) (C := RX8) (Tc := TX8) (N := 5) (ci := 5) hx hb hq pin_wsX80 tyX8 tyX8_ok nmX8 hown hE hP hD hS hO 23 (sg_23 G h0 a _ _ _ _ _) rfl 4 (by decide) (hq _ pw_904) (fun _ h9 => h9) rfl (by decide +kernel) rfl rfl (Nat.le_of_ble_eq_true rfl) (sf_11 G h0 a _ _ _ _ _ 0) dX8_parse_17 (fun H locs w hP hD hS hO => ?_)
  refine lv_iconst (v := 0) hx hb dX8_parse_20 (by decide) ?_
  refine lv_istore_n (lv' := [(2, .int 0), (0, .ref (a 3)), (1, .ref pq)]) hx hb dX8_parse_21 rfl hl (by decide) rfl (fun ls hl => ?_)
  have loop_i : ∀ (n_i : Nat) (i2 : Nat) (at2 : Nat) (sg2 : Nat) (f2 : Nat → Int32) (K2 : PK) (g2 : Nat → Nat → Nat) (nd2 : Nat) (nm2 : Nat) (cp2 : Nat) (it2 : Nat → Nat) (H : Heap) (locs : List Loc) (ls : Array Slot) (w : va_W), i2 ≤ sz → sz + 1 ≤ i2 + n_i → (at2 ≤ sz) → (sg2 ≤ 60) → (PzK G K2 g2 nm2 it2 none) → (NwT (B 7) sz (B 10) f2 K K2 0 at2) → (WPr G K2 g2) → (PgS G K2 g2 (a 1) pq dr ml nd2 nm2 cp2 it2 at2) → va_P G.1 pCl w H → va_D A w → va_S A s.heap H locs → OKP G h0 a (upd (upd (upd (upd F 2 (nI sz)) 9 (nI at2)) 10 0) 11 (nI sg2)) (updR R 1 (.ref pq)) Z (updA B 10 f2) J K2 w → lv_has ls 5 [(2, .int (nI i2)), (1, .ref pq), (0, .ref (a 3))] → W p l e (headSpec (Cond.code yX8_parse cX8_parse 5 none :: pw) ({ frames := (1070), cells := (4 * sz + 60), slots := (62 * sz + 700), locals := (31800) } : Room)).room s m ([.ref (a 3), .ref pq] : List Value).toArray below meth c H locs (4 * at2) (60 * at2 + 4 * cp2) (vx_MQ below (pQn G A (fun (v : Option Value) (u : va_W × (PK × (Nat → Nat → Nat) × Nat × Nat × Nat × (Nat → Nat) × (Nat → Int32) × Nat × Nat)) => v = none ∧ (WPr G u.2.1 u.2.2.1) ∧ (PgS G u.2.1 u.2.2.1 (a 1) pq dr ml u.2.2.2.1 u.2.2.2.2.1 u.2.2.2.2.2.1 u.2.2.2.2.2.2.1 sz) ∧ (PzK G u.2.1 u.2.2.1 u.2.2.2.2.1 u.2.2.2.2.2.2.1 none) ∧ (u.2.2.2.2.2.2.2.2.1 ≤ sz) ∧ (NwT (B 7) sz (B 10) u.2.2.2.2.2.2.2.1 K u.2.1 0 u.2.2.2.2.2.2.2.2.1) ∧ (OKP G h0 a (upd (upd (upd (upd F 2 (nI sz)) 9 (nI u.2.2.2.2.2.2.2.2.1)) 10 0) 11 (nI u.2.2.2.2.2.2.2.2.2)) (updR R 1 (.ref pq)) Z (updA B 10 u.2.2.2.2.2.2.2.1) J u.2.1 u.1)) (fun u => u.1) (fun (u : va_W × (PK × (Nat → Nat → Nat) × Nat × Nat × Nat × (Nat → Nat) × (Nat → Int32) × Nat × Nat)) => (4 * sz)) (fun (u : va_W × (PK × (Nat → Nat → Nat) × Nat × Nat × Nat × (Nat → Nat) × (Nat → Int32) × Nat × Nat)) => (60 * sz + 4 * u.2.2.2.2.2.1))) (pXX G A (fun (u : va_W × (Nat → Int32) × (Nat → Value) × (Nat → Nat → Int32)) => ThQ G h0 a (upd F 2 (nI sz)) R Z B J u) (fun u => u.1)) ([.ref (a 3), .ref pq] : List Value).toArray s ({ frames := (1070), cells := (4 * sz + 60), slots := (62 * sz + 700), locals := (31800) } : Room).cells ({ frames := (1070), cells := (4 * sz + 60), slots := (62 * sz + 700), locals := (31800) } : Room).slots A) (F0 m 22 ls []) := by
    intro n_i
    induction n_i with
    | zero => intro i2 at2 sg2 f2 K2 g2 nd2 nm2 cp2 it2 H locs ls w hk_i hn_i; omega
    | succ n_i ih_i =>
      intro i2 at2 sg2 f2 K2 g2 nd2 nm2 cp2 it2 H locs ls w hk_i hn_i hat2 hsg2 hpz2 hnt2 hwp2 hps2 hP hD hS hO hl
      have hcp7 := hps2.2.2.2.2.2.2.1
      have hnm7 := hps2.2.2.2.2.2.1
      refine lv_iload_n hx hb dX8_parse_22 rfl (lv_at hl 0 rfl) ?_
      refine lv_aload_n hx hb dX8_parse_23 rfl (lv_at hl 2 rfl) ?_
      refine c_get (v := .ref (a 1)) (C := RX8) (Tc := TX8) (N := 5) (ci := 5) hx hb hq pin_wsX80 hown hE hP hO 23 (sg_23 G h0 a _ _ _ _ _) rfl 0 (by decide) (hq _ pw_774) (fun _ h9 => h9) rfl dX8_parse_24 ?_
      refine c_get (v := .int (nI sz)) (C := RX10) (Tc := TX10) (N := 15) (ci := 7) hx hb hq pin_wsX100 hown hE hP hO 2 (sg_2 G h0 a _ _ _ _ _) rfl 8 (by decide) (hq _ pw_792) (fun _ h9 => h9) rfl dX8_parse_27 ?_
      refine lv_icmp_ge (tgt := 115) hx hb dX8_parse_30 (by decide) (fun c1 => ?_) (fun c1 => ?_)
      · have n2 : sz ≤ i2 := (nI_leI (a := sz) (b := i2) (by omega) (by omega)).mp c1
        refine W_size (fun hz1 hz2 => ?_)
        refine vx_ret ?_
        have hz3 : WPr G K2 g2 := hwp2
        have hz4 : PgS G K2 g2 (a 1) pq dr ml nd2 nm2 cp2 it2 sz := (PgS.up hps2 (by omega))
        have hz5 : PzK G K2 g2 nm2 it2 none := hpz2
        have hz6 : at2 ≤ sz := hat2
        have hz7 : NwT (B 7) sz (B 10) f2 K K2 0 at2 := hnt2
        have hO : OKP G h0 a (upd (upd (upd (upd F 2 (nI sz)) 9 (nI at2)) 10 0) 11 (nI sg2)) (updR R 1 (.ref pq)) Z (updA B 10 f2) J K2 w := hO.to rfl
        refine W.widen (k := (4 * sz + 60)) (n := (62 * sz + 700)) (by omega) (by omega) ?_
        have hzz1 : H.size ≤ s.heap.size + ((4 * sz)) := (by have z : (4 * at2) ≤ (4 * sz) := (by omega); omega)
        have hzz2 : hSl H ≤ hSl s.heap + ((60 * sz + 4 * cp2)) := (by have z : (60 * at2 + 4 * cp2) ≤ (60 * sz + 4 * cp2) := (by omega); omega)
        exact W.vret hx hb hr (fun t99 ht99 hW99 => ⟨⟨_, (w, (K2, g2, nd2, nm2, cp2, it2, f2, at2, sg2)), rfl, ⟨rfl, hz3, hz4, hz5, hz6, hz7, hO⟩, by rw [ht99]; exact hP, hD, by rw [ht99]; exact hzz1, by rw [ht99]; exact hzz2⟩, hS.F ht99⟩) hS.2.2 dX8_parse_115
      · have n8 : ¬ (sz ≤ i2) := fun h9 => c1 ((nI_leI (a := sz) (b := i2) (by omega) (by omega)).mpr h9)
        refine lv_aload_n hx hb dX8_parse_33 rfl (lv_at hl 2 rfl) ?_
        refine c_get (v := .int (nI at2)) (C := RX8) (Tc := TX8) (N := 5) (ci := 5) hx hb hq pin_wsX80 hown hE hP hO 23 (sg_23 G h0 a _ _ _ _ _) rfl 2 (by decide) (hq _ pw_776) (fun _ h9 => h9) rfl dX8_parse_34 ?_
        refine lv_aload_n hx hb dX8_parse_37 rfl (lv_at hl 2 rfl) ?_
        refine c_get (v := .ref (a 1)) (C := RX8) (Tc := TX8) (N := 5) (ci := 5) hx hb hq pin_wsX80 hown hE hP hO 23 (sg_23 G h0 a _ _ _ _ _) rfl 0 (by decide) (hq _ pw_774) (fun _ h9 => h9) rfl dX8_parse_38 ?_
        refine c_get (v := .int (nI sz)) (C := RX10) (Tc := TX10) (N := 15) (ci := 7) hx hb hq pin_wsX100 hown hE hP hO 2 (sg_2 G h0 a _ _ _ _ _) rfl 8 (by decide) (hq _ pw_792) (fun _ h9 => h9) rfl dX8_parse_41 ?_
        refine lv_icmp_ge (tgt := 115) hx hb dX8_parse_44 (by decide) (fun c9 => ?_) (fun c9 => ?_)
        · have n10 : sz ≤ at2 := (nI_leI (a := sz) (b := at2) (by omega) (by omega)).mp c9
          refine W_size (fun hz1 hz2 => ?_)
          refine vx_ret ?_
          have hz11 : WPr G K2 g2 := hwp2
          have hz12 : PgS G K2 g2 (a 1) pq dr ml nd2 nm2 cp2 it2 sz := (PgS.up hps2 (by omega))
          have hz13 : PzK G K2 g2 nm2 it2 none := hpz2
          have hz14 : at2 ≤ sz := hat2
          have hz15 : NwT (B 7) sz (B 10) f2 K K2 0 at2 := hnt2
          have hO : OKP G h0 a (upd (upd (upd (upd F 2 (nI sz)) 9 (nI at2)) 10 0) 11 (nI sg2)) (updR R 1 (.ref pq)) Z (updA B 10 f2) J K2 w := hO.to rfl
          refine W.widen (k := (4 * sz + 60)) (n := (62 * sz + 700)) (by omega) (by omega) ?_
          have hzz1 : H.size ≤ s.heap.size + ((4 * sz)) := (by have z : (4 * at2) ≤ (4 * sz) := (by omega); omega)
          have hzz2 : hSl H ≤ hSl s.heap + ((60 * sz + 4 * cp2)) := (by have z : (60 * at2 + 4 * cp2) ≤ (60 * sz + 4 * cp2) := (by omega); omega)
          exact W.vret hx hb hr (fun t99 ht99 hW99 => ⟨⟨_, (w, (K2, g2, nd2, nm2, cp2, it2, f2, at2, sg2)), rfl, ⟨rfl, hz11, hz12, hz13, hz14, hz15, hO⟩, by rw [ht99]; exact hP, hD, by rw [ht99]; exact hzz1, by rw [ht99]; exact hzz2⟩, hS.F ht99⟩) hS.2.2 dX8_parse_115
        · have n16 : ¬ (sz ≤ at2) := fun h9 => c9 ((nI_leI (a := sz) (b := at2) (by omega) (by omega)).mpr h9)
          refine lv_aload_n hx hb dX8_parse_47 rfl (lv_at hl 2 rfl) ?_
          have hO : OKP G h0 a (upd (upd (upd (upd (upd (upd F 2 (nI sz)) 9 (nI at2)) 10 0) 11 (nI sg2)) 2 (nI sz)) 9 (nI at2)) (updR (updR R 1 (.ref pq)) 1 (.ref pq)) Z (updA B 10 f2) J K2 w := hO.to rfl
          obtain ⟨_, qr20, hqr21⟩ := hO.2.1 23 _ (sg_23 G h0 a _ _ _ _ _)
          refine pn_V0 (G := G) (As := []) (rest := []) hx hb hml hown hq hE hX pX0_al hP hD hS hA hl.1 (P_declaration l G h0 a (upd (upd (upd (upd F 2 (nI sz)) 9 (nI at2)) 10 0) 11 (nI sg2)) (updR R 1 (.ref pq)) Z (updA B 10 f2) J K2 w pq dr ml nd2 nm2 cp2 it2 at2 at2 sz g2 (by omega) (by omega) hwp2 hps2 hpz2 hO hl0) (gV pw_1067 pw_1068 pw_1069 pw_796 pw_818) hV_X8_declaration qr20 5 hqr21 rfl rfl rfl (Nat.le_of_ble_eq_true rfl) dX8_parse_48 ⟨(by show (4 * at2) + 6 ≤ (4 * sz + 60); omega), (by show (60 * at2 + 4 * cp2) + 31 ≤ (62 * sz + 700); omega)⟩ ⟨(by show 9 + 1 ≤ (1070); omega), (by show 8 + (3 + 11) + 167 ≤ (31800); omega)⟩ (fun v19 u17 H locs hw18 hP hD hS => ?_) (fun ux ce9 q9 H9 locs9 hux hP9 hD9 hS9 hce hcv hcl => pb_out ux (ThQ.up (Thx.same (Thx.same (Thx.b (Thx.f (Thx.f (Thx.f Thx.rfl (by omega)) (by omega)) (by omega)) (by omega) (by decide)) rfl) rfl) (show RhX R (updR (updR R 1 (.ref pq)) 1 (.ref pq)) from fun k9 hk9 => by unfold updR; simp only [show ¬ k9 = 1 by omega, show ¬ k9 = 2 by omega, show ¬ k9 = 3 by omega, show ¬ k9 = 4 by omega, if_false]) hux) hnt hlocks hce hcv hcl hP9 hD9 hS9 (by show (4 * at2) + 6 ≤ (4 * sz + 60); omega) (by show (60 * at2 + 4 * cp2) + 31 ≤ (62 * sz + 700); omega))
          obtain ⟨w, K22, g23, r24, at25, nd26⟩ := u17
          obtain ⟨hw18, h27, h28, h29, h30, h31, h32, h33, hO⟩ := hw18
          have h27 : WPr G K22 g23 := h27
          have h28 : PgS G K22 g23 (a 1) pq dr ml nd26 nm2 cp2 it2 at2 := h28
          have h29 : K22.1 r24 = 4 := h29
          have h30 : at2 + 3 ≤ at25 ∧ at25 ≤ sz := h30
          have h31 : PzK G K22 g23 nm2 it2 none := h31
          have h32 : g23 5 r24 = 0 := h32
          have h33 : NwT ((B 7)) sz (f2) (f2) K2 K22 at2 at25 := h33
          obtain rfl : v19 = some (.ref r24) := hw18
          have hO : OKP G h0 a (upd (upd (upd (upd F 2 (nI sz)) 9 (nI at25)) 10 0) 11 (nI sg2)) (updR R 1 (.ref pq)) Z (updA B 10 f2) J K22 w := hO.to rfl
          refine W.widen (k := ((4 * at2) + 5)) (n := ((60 * at2 + 4 * cp2) + 25)) (by show (4 * at2) + 5 ≤ ((4 * at2) + 5); omega) (by show (60 * at2 + 4 * cp2) + 25 ≤ ((60 * at2 + 4 * cp2) + 25); omega) ?_
          refine W.eq (g2 := F0 m 51 ls [.ref r24]) rfl ?_
          refine lv_astore_n (lv' := [(3, .ref r24), (2, .int (nI i2)), (1, .ref pq), (0, .ref (a 3))]) hx hb dX8_parse_51 rfl hl (by decide) rfl (fun ls hl => ?_)
          refine lv_iconst (v := 0) hx hb dX8_parse_52 (by decide) ?_
          refine lv_istore (lv' := [(4, .int 0), (3, .ref r24), (2, .int (nI i2)), (1, .ref pq), (0, .ref (a 3))]) hx hb dX8_parse_53 hl (by decide) rfl (fun ls hl => ?_)
          have loop_j : ∀ (n_j : Nat) (j3 : Nat) (at3 : Nat) (sg3 : Nat) (f3 : Nat → Int32) (K3 : PK) (g3 : Nat → Nat → Nat) (nd3 : Nat) (nm3 : Nat) (cp3 : Nat) (it3 : Nat → Nat) (d3 : Nat) (H : Heap) (locs : List Loc) (ls : Array Slot) (w : va_W), j3 ≤ sz → sz + 1 ≤ j3 + n_j → (at2 + 3 ≤ at3 ∧ at3 ≤ sz) → (sg3 ≤ 60) → (PzK G K3 g3 nm3 it3 none) → (NwT (B 7) sz (B 10) f3 K K3 0 at3) → (WPr G K3 g3) → (PgS G K3 g3 (a 1) pq dr ml nd3 nm3 cp3 it3 at3) → (K3.1 d3 = 4) → (g3 5 d3 = 0) → va_P G.1 pCl w H → va_D A w → va_S A s.heap H locs → OKP G h0 a (upd (upd (upd (upd F 2 (nI sz)) 9 (nI at3)) 10 0) 11 (nI sg3)) (updR R 1 (.ref pq)) Z (updA B 10 f3) J K3 w → lv_has ls 5 [(4, .int (nI j3)), (3, .ref d3), (2, .int (nI i2)), (1, .ref pq), (0, .ref (a 3))] → W p l e (headSpec (Cond.code yX8_parse cX8_parse 5 none :: pw) ({ frames := (1070), cells := (4 * sz + 60), slots := (62 * sz + 700), locals := (31800) } : Room)).room s m ([.ref (a 3), .ref pq] : List Value).toArray below meth c H locs (4 * at3) (60 * at3 + 4 * cp3) (vx_MQ below (pQn G A (fun (v : Option Value) (u : va_W × (PK × (Nat → Nat → Nat) × Nat × Nat × Nat × (Nat → Nat) × (Nat → Int32) × Nat × Nat)) => v = none ∧ (WPr G u.2.1 u.2.2.1) ∧ (PgS G u.2.1 u.2.2.1 (a 1) pq dr ml u.2.2.2.1 u.2.2.2.2.1 u.2.2.2.2.2.1 u.2.2.2.2.2.2.1 sz) ∧ (PzK G u.2.1 u.2.2.1 u.2.2.2.2.1 u.2.2.2.2.2.2.1 none) ∧ (u.2.2.2.2.2.2.2.2.1 ≤ sz) ∧ (NwT (B 7) sz (B 10) u.2.2.2.2.2.2.2.1 K u.2.1 0 u.2.2.2.2.2.2.2.2.1) ∧ (OKP G h0 a (upd (upd (upd (upd F 2 (nI sz)) 9 (nI u.2.2.2.2.2.2.2.2.1)) 10 0) 11 (nI u.2.2.2.2.2.2.2.2.2)) (updR R 1 (.ref pq)) Z (updA B 10 u.2.2.2.2.2.2.2.1) J u.2.1 u.1)) (fun u => u.1) (fun (u : va_W × (PK × (Nat → Nat → Nat) × Nat × Nat × Nat × (Nat → Nat) × (Nat → Int32) × Nat × Nat)) => (4 * sz)) (fun (u : va_W × (PK × (Nat → Nat → Nat) × Nat × Nat × Nat × (Nat → Nat) × (Nat → Int32) × Nat × Nat)) => (60 * sz + 4 * u.2.2.2.2.2.1))) (pXX G A (fun (u : va_W × (Nat → Int32) × (Nat → Value) × (Nat → Nat → Int32)) => ThQ G h0 a (upd F 2 (nI sz)) R Z B J u) (fun u => u.1)) ([.ref (a 3), .ref pq] : List Value).toArray s ({ frames := (1070), cells := (4 * sz + 60), slots := (62 * sz + 700), locals := (31800) } : Room).cells ({ frames := (1070), cells := (4 * sz + 60), slots := (62 * sz + 700), locals := (31800) } : Room).slots A) (F0 m 55 ls []) := by
            intro n_j
            induction n_j with
            | zero => intro j3 at3 sg3 f3 K3 g3 nd3 nm3 cp3 it3 d3 H locs ls w hk_j hn_j; omega
            | succ n_j ih_j =>
              intro j3 at3 sg3 f3 K3 g3 nd3 nm3 cp3 it3 d3 H locs ls w hk_j hn_j hat3 hsg3 hpz3 hnt3 hwp3 hps3 hd3 hg53 hP hD hS hO hl
              have hcp7 := hps3.2.2.2.2.2.2.1
              have hnm7 := hps3.2.2.2.2.2.1
              refine lv_iload hx hb dX8_parse_55 (lv_at hl 0 rfl) ?_
              refine lv_aload_n hx hb dX8_parse_57 rfl (lv_at hl 4 rfl) ?_
              refine c_get (v := .ref (a 1)) (C := RX8) (Tc := TX8) (N := 5) (ci := 5) hx hb hq pin_wsX80 hown hE hP hO 23 (sg_23 G h0 a _ _ _ _ _) rfl 0 (by decide) (hq _ pw_774) (fun _ h9 => h9) rfl dX8_parse_58 ?_
              refine c_get (v := .int (nI sz)) (C := RX10) (Tc := TX10) (N := 15) (ci := 7) hx hb hq pin_wsX100 hown hE hP hO 2 (sg_2 G h0 a _ _ _ _ _) rfl 8 (by decide) (hq _ pw_792) (fun _ h9 => h9) rfl dX8_parse_61 ?_
              refine lv_icmp_ge (tgt := 102) hx hb dX8_parse_64 (by decide) (fun c34 => ?_) (fun c34 => ?_)
              · have n35 : sz ≤ j3 := (nI_leI (a := sz) (b := j3) (by omega) (by omega)).mp c34
                refine lv_aload_n hx hb dX8_parse_102 rfl (lv_at hl 4 rfl) ?_
                refine lv_bipush (v := 33) hx hb dX8_parse_103 (by decide) ?_
                have hO : OKW G h0 a (upd (upd (upd (upd (upd (upd F 2 (nI sz)) 9 (nI at3)) 10 0) 11 (nI sg3)) 2 (nI sz)) 9 (nI at3)) (updR R 1 (.ref pq)) Z (updA B 10 f3) J K3.1 (fun q99 x99 => x99 = rep G a K3 q99) w := hO.to rfl
                obtain ⟨_, qr39, hqr40⟩ := hO.2.1 23 _ (sg_23 G h0 a _ _ _ _ _)
                refine pn_V0 (G := G) (As := [.int 33]) (rest := []) hx hb hml hown hq hE hX pX0_al hP hD hS hA hl.1 (P_take l G h0 a (upd (upd (upd (upd F 2 (nI sz)) 9 (nI at3)) 10 0) 11 (nI sg3)) (updR R 1 (.ref pq)) Z (updA B 10 f3) J K3.1 (fun q99 x99 => x99 = rep G a K3 q99) w 33 at3 sz (by omega) (by omega) (by decide) hO hl0) (gV pw_793 pw_794 pw_795 pw_796 pw_781) hV_X8_take qr39 5 hqr40 rfl rfl rfl (Nat.le_of_ble_eq_true rfl) dX8_parse_105 ⟨(by show (4 * at3) + 1 ≤ (4 * sz + 60); omega), (by show (60 * at3 + 4 * cp3) + 6 ≤ (62 * sz + 700); omega)⟩ ⟨(by show 7 + 1 ≤ (1070); omega), (by show 8 + (2 + 11) + 122 ≤ (31800); omega)⟩ (fun v38 u36 H locs hw37 hP hD hS => ?_) (fun ux ce9 q9 H9 locs9 hux hP9 hD9 hS9 hce hcv hcl => pb_out ux (ThQ.up (Thx.same (Thx.same (Thx.b (Thx.f (Thx.f (Thx.f Thx.rfl (by omega)) (by omega)) (by omega)) (by omega) (by decide)) rfl) rfl) (show RhX R (updR R 1 (.ref pq)) from fun k9 hk9 => by unfold updR; simp only [show ¬ k9 = 1 by omega, show ¬ k9 = 2 by omega, show ¬ k9 = 3 by omega, show ¬ k9 = 4 by omega, if_false]) hux) hnt hlocks hce hcv hcl hP9 hD9 hS9 (by show (4 * at3) + 1 ≤ (4 * sz + 60); omega) (by show (60 * at3 + 4 * cp3) + 6 ≤ (62 * sz + 700); omega))
                obtain ⟨w, _⟩ := u36
                obtain ⟨hw37, h41, h42, hO⟩ := hw37
                have h41 : at3 + 1 ≤ sz := h41
                have h42 : tkN ((B 7)) sz 67 (nI at3) = 33 := h42
                obtain rfl : v38 = some (.int (nI at3)) := hw37
                have hO : OKP G h0 a (upd (upd (upd (upd F 2 (nI sz)) 9 (nI (at3 + 1))) 10 0) 11 (nI sg3)) (updR R 1 (.ref pq)) Z (updA B 10 f3) J K3 w := hO.to rfl
                refine W.widen (k := (4 * at3)) (n := (60 * at3 + 4 * cp3)) (by show (4 * at3) + 0 ≤ (4 * at3); omega) (by show (60 * at3 + 4 * cp3) + 0 ≤ (60 * at3 + 4 * cp3); omega) ?_
                refine W.eq (g2 := F0 m 108 ls [.int (nI at3)]) rfl ?_
                refine lv_pop hx hb dX8_parse_108 rfl ?_
                refine lv_iinc (v := (nI (i2 + 1))) (lv' := [(2, .int (nI (i2 + 1))), (4, .int (nI j3)), (3, .ref d3), (1, .ref pq), (0, .ref (a 3))]) hx hb dX8_parse_109 hl (k := 2) rfl (nI_1 i2) (by decide) rfl (fun ls hl => ?_)
                refine lv_goto (tgt := 22) hx hb dX8_parse_112 (by decide) ?_
                refine W.widen (k := (4 * (at3 + 1))) (n := (60 * (at3 + 1) + 4 * cp3)) (by show (4 * at3) ≤ _; omega) (by show (60 * at3 + 4 * cp3) ≤ _; omega) ?_
                have hO : OKP G h0 a (upd (upd (upd (upd F 2 (nI sz)) 9 (nI (at3 + 1))) 10 0) 11 (nI sg3)) (updR R 1 (.ref pq)) Z (updA B 10 f3) J K3 w := hO.to rfl
                exact ih_i (i2 + 1) (at3 + 1) sg3 f3 K3 g3 nd3 nm3 cp3 it3 _ _ _ _ (by omega) (by omega) (by omega) (by omega) hpz3 (NwT.le hnt3 (by omega)) hwp3 (PgS.up hps3 (by omega)) hP hD hS hO (lv_sub hl [0, 3, 4] rfl)
              · have n43 : ¬ (sz ≤ j3) := fun h9 => c34 ((nI_leI (a := sz) (b := j3) (by omega) (by omega)).mpr h9)
                refine lv_aload_n hx hb dX8_parse_67 rfl (lv_at hl 4 rfl) ?_
                refine lv_bipush (v := 33) hx hb dX8_parse_68 (by decide) ?_
                have hO : OKW G h0 a (upd (upd (upd (upd (upd (upd F 2 (nI sz)) 9 (nI at3)) 10 0) 11 (nI sg3)) 2 (nI sz)) 9 (nI at3)) (updR R 1 (.ref pq)) Z (updA B 10 f3) J K3.1 (fun q99 x99 => x99 = rep G a K3 q99) w := hO.to rfl
                obtain ⟨_, qr47, hqr48⟩ := hO.2.1 23 _ (sg_23 G h0 a _ _ _ _ _)
                refine pc_V0 (G := G) (As := [.int 33]) (rest := []) hx hb hml hown hq hE hX pX0_al hP hD hS hA hl.1 (P_sees l G h0 a (upd (upd (upd (upd F 2 (nI sz)) 9 (nI at3)) 10 0) 11 (nI sg3)) (updR R 1 (.ref pq)) Z (updA B 10 f3) J K3.1 (fun q99 x99 => x99 = rep G a K3 q99) w 33 at3 sz (by omega) (by omega) hO) (gV pw_803 pw_804 pw_805 pw_796 pw_775) hV_X8_sees qr47 5 hqr48 rfl rfl rfl (Nat.le_of_ble_eq_true rfl) dX8_parse_70 ⟨(by show (4 * at3) + 0 ≤ (4 * sz + 60); omega), (by show (60 * at3 + 4 * cp3) + 0 ≤ (62 * sz + 700); omega)⟩ ⟨(by show 3 + 1 ≤ (1070); omega), (by show 8 + (2 + 11) + 81 ≤ (31800); omega)⟩ (fun v46 u44 H locs hw45 hP hD hS => ?_)
                obtain ⟨w, r49⟩ := u44
                obtain ⟨hw45, h50, h51, hO⟩ := hw45
                have h50 : r49 ≤ 1 := h50
                have h51 : SeQ ((B 7)) sz at3 33 r49 := h51
                obtain rfl : v46 = some (.int (nI r49)) := hw45
                have hO : OKP G h0 a (upd (upd (upd (upd F 2 (nI sz)) 9 (nI at3)) 10 0) 11 (nI sg3)) (updR R 1 (.ref pq)) Z (updA B 10 f3) J K3 w := hO.to rfl
                refine W.widen (k := (4 * at3)) (n := (60 * at3 + 4 * cp3)) (by show (4 * at3) + 0 ≤ (4 * at3); omega) (by show (60 * at3 + 4 * cp3) + 0 ≤ (60 * at3 + 4 * cp3); omega) ?_
                refine W.eq (g2 := F0 m 73 ls [.int (nI r49)]) rfl ?_
                refine lv_if_ne (tgt := 102) hx hb dX8_parse_73 (by decide) (fun c52 => ?_) (fun c52 => ?_)
                · have n53 : ¬ (r49 = 0) := fun h9 => c52 ((nI_eq (a := r49) (b := 0) (by omega) (by omega)).mpr h9)
                  refine lv_aload_n hx hb dX8_parse_102 rfl (lv_at hl 4 rfl) ?_
                  refine lv_bipush (v := 33) hx hb dX8_parse_103 (by decide) ?_
                  have hO : OKW G h0 a (upd (upd (upd (upd (upd (upd F 2 (nI sz)) 9 (nI at3)) 10 0) 11 (nI sg3)) 2 (nI sz)) 9 (nI at3)) (updR R 1 (.ref pq)) Z (updA B 10 f3) J K3.1 (fun q99 x99 => x99 = rep G a K3 q99) w := hO.to rfl
                  obtain ⟨_, qr57, hqr58⟩ := hO.2.1 23 _ (sg_23 G h0 a _ _ _ _ _)
                  refine pn_V0 (G := G) (As := [.int 33]) (rest := []) hx hb hml hown hq hE hX pX0_al hP hD hS hA hl.1 (P_take l G h0 a (upd (upd (upd (upd F 2 (nI sz)) 9 (nI at3)) 10 0) 11 (nI sg3)) (updR R 1 (.ref pq)) Z (updA B 10 f3) J K3.1 (fun q99 x99 => x99 = rep G a K3 q99) w 33 at3 sz (by omega) (by omega) (by decide) hO hl0) (gV pw_793 pw_794 pw_795 pw_796 pw_781) hV_X8_take qr57 5 hqr58 rfl rfl rfl (Nat.le_of_ble_eq_true rfl) dX8_parse_105 ⟨(by show (4 * at3) + 1 ≤ (4 * sz + 60); omega), (by show (60 * at3 + 4 * cp3) + 6 ≤ (62 * sz + 700); omega)⟩ ⟨(by show 7 + 1 ≤ (1070); omega), (by show 8 + (2 + 11) + 122 ≤ (31800); omega)⟩ (fun v56 u54 H locs hw55 hP hD hS => ?_) (fun ux ce9 q9 H9 locs9 hux hP9 hD9 hS9 hce hcv hcl => pb_out ux (ThQ.up (Thx.same (Thx.same (Thx.b (Thx.f (Thx.f (Thx.f Thx.rfl (by omega)) (by omega)) (by omega)) (by omega) (by decide)) rfl) rfl) (show RhX R (updR R 1 (.ref pq)) from fun k9 hk9 => by unfold updR; simp only [show ¬ k9 = 1 by omega, show ¬ k9 = 2 by omega, show ¬ k9 = 3 by omega, show ¬ k9 = 4 by omega, if_false]) hux) hnt hlocks hce hcv hcl hP9 hD9 hS9 (by show (4 * at3) + 1 ≤ (4 * sz + 60); omega) (by show (60 * at3 + 4 * cp3) + 6 ≤ (62 * sz + 700); omega))
                  obtain ⟨w, _⟩ := u54
                  obtain ⟨hw55, h59, h60, hO⟩ := hw55
                  have h59 : at3 + 1 ≤ sz := h59
                  have h60 : tkN ((B 7)) sz 67 (nI at3) = 33 := h60
                  obtain rfl : v56 = some (.int (nI at3)) := hw55
                  have hO : OKP G h0 a (upd (upd (upd (upd F 2 (nI sz)) 9 (nI (at3 + 1))) 10 0) 11 (nI sg3)) (updR R 1 (.ref pq)) Z (updA B 10 f3) J K3 w := hO.to rfl
                  refine W.widen (k := (4 * at3)) (n := (60 * at3 + 4 * cp3)) (by show (4 * at3) + 0 ≤ (4 * at3); omega) (by show (60 * at3 + 4 * cp3) + 0 ≤ (60 * at3 + 4 * cp3); omega) ?_
                  refine W.eq (g2 := F0 m 108 ls [.int (nI at3)]) rfl ?_
                  refine lv_pop hx hb dX8_parse_108 rfl ?_
                  refine lv_iinc (v := (nI (i2 + 1))) (lv' := [(2, .int (nI (i2 + 1))), (4, .int (nI j3)), (3, .ref d3), (1, .ref pq), (0, .ref (a 3))]) hx hb dX8_parse_109 hl (k := 2) rfl (nI_1 i2) (by decide) rfl (fun ls hl => ?_)
                  refine lv_goto (tgt := 22) hx hb dX8_parse_112 (by decide) ?_
                  refine W.widen (k := (4 * (at3 + 1))) (n := (60 * (at3 + 1) + 4 * cp3)) (by show (4 * at3) ≤ _; omega) (by show (60 * at3 + 4 * cp3) ≤ _; omega) ?_
                  have hO : OKP G h0 a (upd (upd (upd (upd F 2 (nI sz)) 9 (nI (at3 + 1))) 10 0) 11 (nI sg3)) (updR R 1 (.ref pq)) Z (updA B 10 f3) J K3 w := hO.to rfl
                  exact ih_i (i2 + 1) (at3 + 1) sg3 f3 K3 g3 nd3 nm3 cp3 it3 _ _ _ _ (by omega) (by omega) (by omega) (by omega) hpz3 (NwT.le hnt3 (by omega)) hwp3 (PgS.up hps3 (by omega)) hP hD hS hO (lv_sub hl [0, 3, 4] rfl)
                · have n61 : r49 = 0 := (nI_eq (a := r49) (b := 0) (by omega) (by omega)).mp c52
                  refine lv_aload_n hx hb dX8_parse_76 rfl (lv_at hl 1 rfl) ?_
                  refine p_get (v := .int (K3.2.1 18 d3)) (C := RX2) (Tc := TX2) (N := 13) (ci := 2) hx hb hq pin_wsX20 hown hE hP hO (by rw [hd3]; decide) (rep_4 hd3) rfl 3 (by decide) (hq _ pw_1066) (fun _ h9 => h9) rfl dX8_parse_77 ?_
                  refine lv_if_eq (tgt := 91) hx hb dX8_parse_80 (by decide) (fun c62 => ?_) (fun c62 => ?_)
                  · refine lv_aload_n hx hb dX8_parse_91 rfl (lv_at hl 4 rfl) ?_
                    refine lv_aload_n hx hb dX8_parse_92 rfl (lv_at hl 1 rfl) ?_
                    have hO : OKP G h0 a (upd (upd (upd (upd (upd (upd (upd (upd F 2 (nI sz)) 9 (nI at3)) 10 0) 11 (nI sg3)) 2 (nI sz)) 9 (nI at3)) 10 0) 11 (nI sg3)) (updR (updR R 1 (.ref pq)) 1 (.ref pq)) Z (updA B 10 f3) J K3 w := hO.to rfl
                    obtain ⟨_, qr66, hqr67⟩ := hO.2.1 23 _ (sg_23 G h0 a _ _ _ _ _)
                    refine pn_V0 (G := G) (As := [.ref d3]) (rest := []) hx hb hml hown hq hE hX pX0_al hP hD hS hA hl.1 (P_member l G h0 a (upd (upd (upd (upd F 2 (nI sz)) 9 (nI at3)) 10 0) 11 (nI sg3)) (updR R 1 (.ref pq)) Z (updA B 10 f3) J K3 w pq dr ml nd3 nm3 cp3 it3 at3 d3 sg3 at3 sz g3 (by omega) (by omega) hwp3 hps3 hpz3 hd3 (by omega) (by omega) c62 hg53 hO hl0) (gV pw_1073 pw_1074 pw_1075 pw_796 pw_1065) hV_X8_member qr66 5 hqr67 rfl rfl rfl (Nat.le_of_ble_eq_true rfl) dX8_parse_93 ⟨(by show (4 * at3) + (4 * (sz - at3) + 40) ≤ (4 * sz + 60); omega), (by show (60 * at3 + 4 * cp3) + (60 * (sz - at3) + 2 * sz + 600 - 4 * cp3) ≤ (62 * sz + 700); omega)⟩ ⟨(by show (1060) + 1 ≤ (1070); omega), (by show 8 + (6 + 11) + (31700) ≤ (31800); omega)⟩ (fun v65 u63 H locs hw64 hP hD hS => ?_) (fun ux ce9 q9 H9 locs9 hux hP9 hD9 hS9 hce hcv hcl => pb_out ux (ThQ.up (Thx.same (Thx.same (Thx.same (Thx.same (Thx.b (Thx.f (Thx.f (Thx.f Thx.rfl (by omega)) (by omega)) (by omega)) (by omega) (by decide)) rfl) rfl) rfl) rfl) (show RhX R (updR (updR R 1 (.ref pq)) 1 (.ref pq)) from fun k9 hk9 => by unfold updR; simp only [show ¬ k9 = 1 by omega, show ¬ k9 = 2 by omega, show ¬ k9 = 3 by omega, show ¬ k9 = 4 by omega, if_false]) hux) hnt hlocks hce hcv hcl hP9 hD9 hS9 (by show (4 * at3) + (4 * (sz - at3) + 40) ≤ (4 * sz + 60); omega) (by show (60 * at3 + 4 * cp3) + (60 * (sz - at3) + 2 * sz + 600 - 4 * cp3) ≤ (62 * sz + 700); omega))
                    obtain ⟨w, K68, g69, nm70, cp71, it72, at73, sg74, f75⟩ := u63
                    obtain ⟨hw64, h76, h77, h78, h79, h80, h81, h82, h83, h84, h85, hO⟩ := hw64
                    have h76 : WPr G K68 g69 := h76
                    have h77 : PgS G K68 g69 (a 1) pq dr ml nd3 nm70 cp71 it72 (at3 + (at73 - at3)) := h77
                    have h78 : K68.1 d3 = 4 := h78
                    have h79 : at3 + 3 ≤ at73 ∧ at73 ≤ sz := h79
                    have h80 : cp3 ≤ cp71 := h80
                    have h81 : sg74 ≤ 60 := h81
                    have h82 : PzK G K68 g69 nm70 it72 none := h82
                    have h83 : K68.2.1 18 d3 = K3.2.1 18 d3 := h83
                    have h84 : g69 5 d3 = 0 := h84
                    have h85 : NwT ((B 7)) sz (f3) f75 K3 K68 at3 at73 := h85
                    obtain rfl : v65 = none := hw64
                    have hO : OKP G h0 a (upd (upd (upd (upd F 2 (nI sz)) 9 (nI at73)) 10 0) 11 (nI sg74)) (updR R 1 (.ref pq)) Z (updA B 10 f75) J K68 w := hO.to rfl
                    refine W.widen (k := ((4 * at3) + (4 * (at73 - at3)))) (n := ((60 * at3 + 4 * cp3) + (60 * (at73 - at3) + 4 * (cp71 - cp3)))) (by show (4 * at3) + (4 * (at73 - at3)) ≤ ((4 * at3) + (4 * (at73 - at3))); omega) (by show (60 * at3 + 4 * cp3) + (60 * (at73 - at3) + 4 * (cp71 - cp3)) ≤ ((60 * at3 + 4 * cp3) + (60 * (at73 - at3) + 4 * (cp71 - cp3))); omega) ?_
                    refine W.eq (g2 := F0 m 96 ls []) rfl ?_
                    refine lv_iinc (v := (nI (j3 + 1))) (lv' := [(4, .int (nI (j3 + 1))), (3, .ref d3), (2, .int (nI i2)), (1, .ref pq), (0, .ref (a 3))]) hx hb dX8_parse_96 hl (k := 0) rfl (nI_1 j3) (by decide) rfl (fun ls hl => ?_)
                    refine lv_goto (tgt := 55) hx hb dX8_parse_99 (by decide) ?_
                    refine W.widen (k := (4 * at73)) (n := (60 * at73 + 4 * cp71)) (by show ((4 * at3) + (4 * (at73 - at3))) ≤ _; omega) (by show ((60 * at3 + 4 * cp3) + (60 * (at73 - at3) + 4 * (cp71 - cp3))) ≤ _; omega) ?_
                    have hO : OKP G h0 a (upd (upd (upd (upd F 2 (nI sz)) 9 (nI at73)) 10 0) 11 (nI sg74)) (updR R 1 (.ref pq)) Z (updA B 10 f75) J K68 w := hO.to rfl
                    exact ih_j (j3 + 1) at73 sg74 f75 K68 g69 nd3 nm70 cp71 it72 d3 _ _ _ _ (by omega) (by omega) (by omega) (by omega) h82 (NwT.le (NwT.call hnt3 h85 (by omega)) (by omega)) h76 (PgS.up h77 (by omega)) h78 h84 hP hD hS hO (lv_sub hl [0, 1, 2, 3, 4] rfl)
                  · refine lv_aload_n hx hb dX8_parse_83 rfl (lv_at hl 4 rfl) ?_
                    refine lv_aload_n hx hb dX8_parse_84 rfl (lv_at hl 1 rfl) ?_
                    have hO : OKP G h0 a (upd (upd (upd (upd (upd (upd (upd (upd F 2 (nI sz)) 9 (nI at3)) 10 0) 11 (nI sg3)) 2 (nI sz)) 9 (nI at3)) 10 0) 11 (nI sg3)) (updR (updR R 1 (.ref pq)) 1 (.ref pq)) Z (updA B 10 f3) J K3 w := hO.to rfl
                    obtain ⟨_, qr89, hqr90⟩ := hO.2.1 23 _ (sg_23 G h0 a _ _ _ _ _)
                    refine pn_V0 (G := G) (As := [.ref d3]) (rest := []) hx hb hml hown hq hE hX pX0_al hP hD hS hA hl.1 (P_told l G h0 a (upd (upd (upd (upd F 2 (nI sz)) 9 (nI at3)) 10 0) 11 (nI sg3)) (updR R 1 (.ref pq)) Z (updA B 10 f3) J K3 w pq dr ml nd3 nm3 cp3 it3 at3 d3 sg3 at3 sz g3 (by omega) (by omega) hwp3 hps3 hpz3 hd3 (by omega) (by omega) c62 hg53 hO hl0) (gV pw_1070 pw_1071 pw_1072 pw_796 pw_898) hV_X8_told qr89 5 hqr90 rfl rfl rfl (Nat.le_of_ble_eq_true rfl) dX8_parse_85 ⟨(by show (4 * at3) + (4 * (sz - at3) + 40) ≤ (4 * sz + 60); omega), (by show (60 * at3 + 4 * cp3) + (60 * (sz - at3) + 2 * sz + 600 - 4 * cp3) ≤ (62 * sz + 700); omega)⟩ ⟨(by show 9 + 1 ≤ (1070); omega), (by show 8 + (4 + 11) + 219 ≤ (31800); omega)⟩ (fun v88 u86 H locs hw87 hP hD hS => ?_) (fun ux ce9 q9 H9 locs9 hux hP9 hD9 hS9 hce hcv hcl => pb_out ux (ThQ.up (Thx.same (Thx.same (Thx.same (Thx.same (Thx.b (Thx.f (Thx.f (Thx.f Thx.rfl (by omega)) (by omega)) (by omega)) (by omega) (by decide)) rfl) rfl) rfl) rfl) (show RhX R (updR (updR R 1 (.ref pq)) 1 (.ref pq)) from fun k9 hk9 => by unfold updR; simp only [show ¬ k9 = 1 by omega, show ¬ k9 = 2 by omega, show ¬ k9 = 3 by omega, show ¬ k9 = 4 by omega, if_false]) hux) hnt hlocks hce hcv hcl hP9 hD9 hS9 (by show (4 * at3) + (4 * (sz - at3) + 40) ≤ (4 * sz + 60); omega) (by show (60 * at3 + 4 * cp3) + (60 * (sz - at3) + 2 * sz + 600 - 4 * cp3) ≤ (62 * sz + 700); omega))
                    obtain ⟨w, K91, g92, nm93, cp94, it95, at96, sg97, f98⟩ := u86
                    obtain ⟨hw87, h99, h100, h101, h102, h103, h104, h105, h106, h107, h108, hO⟩ := hw87
                    have h99 : WPr G K91 g92 := h99
                    have h100 : PgS G K91 g92 (a 1) pq dr ml nd3 nm93 cp94 it95 (at3 + (at96 - at3)) := h100
                    have h101 : K91.1 d3 = 4 := h101
                    have h102 : at3 + 3 ≤ at96 ∧ at96 ≤ sz := h102
                    have h103 : cp3 ≤ cp94 := h103
                    have h104 : sg97 ≤ 60 := h104
                    have h105 : PzK G K91 g92 nm93 it95 none := h105
                    have h106 : K91.2.1 18 d3 = K3.2.1 18 d3 := h106
                    have h107 : g92 5 d3 = 0 := h107
                    have h108 : NwT ((B 7)) sz (f3) f98 K3 K91 at3 at96 := h108
                    obtain rfl : v88 = none := hw87
                    have hO : OKP G h0 a (upd (upd (upd (upd F 2 (nI sz)) 9 (nI at96)) 10 0) 11 (nI sg97)) (updR R 1 (.ref pq)) Z (updA B 10 f98) J K91 w := hO.to rfl
                    refine W.widen (k := ((4 * at3) + (4 * (at96 - at3)))) (n := ((60 * at3 + 4 * cp3) + (60 * (at96 - at3) + 4 * (cp94 - cp3)))) (by show (4 * at3) + (4 * (at96 - at3)) ≤ ((4 * at3) + (4 * (at96 - at3))); omega) (by show (60 * at3 + 4 * cp3) + (60 * (at96 - at3) + 4 * (cp94 - cp3)) ≤ ((60 * at3 + 4 * cp3) + (60 * (at96 - at3) + 4 * (cp94 - cp3))); omega) ?_
                    refine W.eq (g2 := F0 m 88 ls []) rfl ?_
                    refine lv_goto (tgt := 96) hx hb dX8_parse_88 (by decide) ?_
                    refine lv_iinc (v := (nI (j3 + 1))) (lv' := [(4, .int (nI (j3 + 1))), (3, .ref d3), (2, .int (nI i2)), (1, .ref pq), (0, .ref (a 3))]) hx hb dX8_parse_96 hl (k := 0) rfl (nI_1 j3) (by decide) rfl (fun ls hl => ?_)
                    refine lv_goto (tgt := 55) hx hb dX8_parse_99 (by decide) ?_
                    refine W.widen (k := (4 * at96)) (n := (60 * at96 + 4 * cp94)) (by show ((4 * at3) + (4 * (at96 - at3))) ≤ _; omega) (by show ((60 * at3 + 4 * cp3) + (60 * (at96 - at3) + 4 * (cp94 - cp3))) ≤ _; omega) ?_
                    have hO : OKP G h0 a (upd (upd (upd (upd F 2 (nI sz)) 9 (nI at96)) 10 0) 11 (nI sg97)) (updR R 1 (.ref pq)) Z (updA B 10 f98) J K91 w := hO.to rfl
                    exact ih_j (j3 + 1) at96 sg97 f98 K91 g92 nd3 nm93 cp94 it95 d3 _ _ _ _ (by omega) (by omega) (by omega) (by omega) h105 (NwT.le (NwT.call hnt3 h108 (by omega)) (by omega)) h99 (PgS.up h100 (by omega)) h101 h107 hP hD hS hO (lv_sub hl [0, 1, 2, 3, 4] rfl)
          refine W.widen (k := (4 * at25)) (n := (60 * at25 + 4 * cp2)) (by show ((4 * at2) + 5) ≤ _; omega) (by show ((60 * at2 + 4 * cp2) + 25) ≤ _; omega) ?_
          have hO : OKP G h0 a (upd (upd (upd (upd F 2 (nI sz)) 9 (nI at25)) 10 0) 11 (nI sg2)) (updR R 1 (.ref pq)) Z (updA B 10 f2) J K22 w := hO.to rfl
          exact loop_j (sz + 1) 0 at25 sg2 f2 K22 g23 nd26 nm2 cp2 it2 r24 _ _ _ _ (by omega) (by omega) (by omega) (by omega) h31 (NwT.le (NwT.call hnt2 h33 (by omega)) (by omega)) h27 (PgS.up h28 (by omega)) h29 h32 hP hD hS hO (lv_sub hl [0, 1, 2, 3, 4] rfl)
  refine W.widen (k := (4 * 0)) (n := (60 * 0 + 4 * 0)) (by show 0 ≤ _; omega) (by show 0 ≤ _; omega) ?_
  have hO : OKP G h0 a (upd (upd (upd (upd F 2 (nI sz)) 9 (nI 0)) 10 0) 11 (nI 0)) (updR R 1 (.ref pq)) Z (updA B 10 (B 10)) J K w := hO.to rfl
  exact loop_i (sz + 1) 0 0 0 (B 10) K g nd 0 0 (fun _ => 0) _ _ _ _ (by omega) (by omega) (by omega) (by omega) hpz NwT.nil hwp hps hP hD hS hO (lv_sub hl [0, 2, 1] rfl)
