def KdO (K : PK) (g : Nat → Nat → Nat) (o : Option Nat) (L : Nat) : Prop := ∀ x : Nat, o = some x → K.1 x = 1 ∧ 1 ≤ g 0 x ∧ g 0 x < L
theorem KdO.no {K : PK} {g : Nat → Nat → Nat} {L : Nat} : KdO K g none L := fun _ h => by cases h
theorem KdO.one {K : PK} {g : Nat → Nat → Nat} {L x : Nat} (h : K.1 x = 1) (h1 : 1 ≤ g 0 x) (h2 : g 0 x < L) : KdO K g (some x) L := fun _ e => by cases e; exact ⟨h, h1, h2⟩
theorem KdO.ext {K K1 : PK} {g g1 : Nat → Nat → Nat} {o : Option Nat} {L : Nat} (h : KdO K g o L) (hx : XtG K K1 g g1) : KdO K1 g1 o L := fun x e => by
  obtain ⟨h1, h2, h3⟩ := h x e
  have h0 : ¬ K.1 x = 0 := by rw [h1]; decide
  exact ⟨(hx.1 x h0).1.trans h1, by rw [hx.2 x h0]; exact h2, by rw [hx.2 x h0]; exact h3⟩
theorem dX8_forStatement_0 : decode cX8_forStatement 0 = .ok (.new 143, 3) := by decide +kernel
theorem dX8_forStatement_3 : decode cX8_forStatement 3 = .ok (.dup, 1) := by decide +kernel
theorem dX8_forStatement_4 : decode cX8_forStatement 4 = .ok (.bipush 27, 2) := by decide +kernel
theorem dX8_forStatement_6 : decode cX8_forStatement 6 = .ok (.aload_n 0, 1) := by decide +kernel
theorem dX8_forStatement_7 : decode cX8_forStatement 7 = .ok (.getfield 17, 3) := by decide +kernel
theorem dX8_forStatement_10 : decode cX8_forStatement 10 = .ok (.aload_n 0, 1) := by decide +kernel
theorem dX8_forStatement_11 : decode cX8_forStatement 11 = .ok (.getfield 17, 3) := by decide +kernel
theorem dX8_forStatement_14 : decode cX8_forStatement 14 = .ok (.invokespecial 145, 3) := by decide +kernel
theorem dX8_forStatement_17 : decode cX8_forStatement 17 = .ok (.astore_n 1, 1) := by decide +kernel
theorem dX8_forStatement_92 : decode cX8_forStatement 92 = .ok (.aload_n 0, 1) := by decide +kernel
theorem dX8_forStatement_93 : decode cX8_forStatement 93 = .ok (.bipush 38, 2) := by decide +kernel
theorem dX8_forStatement_95 : decode cX8_forStatement 95 = .ok (.invokevirtual 53, 3) := by decide +kernel
theorem dX8_forStatement_98 : decode cX8_forStatement 98 = .ok (.pop, 1) := by decide +kernel
theorem dX8_forStatement_99 : decode cX8_forStatement 99 = .ok (.aload_n 0, 1) := by decide +kernel
theorem dX8_forStatement_100 : decode cX8_forStatement 100 = .ok (.bipush 35, 2) := by decide +kernel
theorem dX8_forStatement_102 : decode cX8_forStatement 102 = .ok (.invokevirtual 36, 3) := by decide +kernel
theorem dX8_forStatement_105 : decode cX8_forStatement 105 = .ok (.ifCond .ne 12, 3) := by decide +kernel
theorem dX8_forStatement_117 : decode cX8_forStatement 117 = .ok (.aload_n 0, 1) := by decide +kernel
theorem dX8_forStatement_118 : decode cX8_forStatement 118 = .ok (.bipush 35, 2) := by decide +kernel
theorem dX8_forStatement_120 : decode cX8_forStatement 120 = .ok (.invokevirtual 53, 3) := by decide +kernel
theorem dX8_forStatement_123 : decode cX8_forStatement 123 = .ok (.pop, 1) := by decide +kernel
theorem dX8_forStatement_124 : decode cX8_forStatement 124 = .ok (.aload_n 1, 1) := by decide +kernel
theorem dX8_forStatement_125 : decode cX8_forStatement 125 = .ok (.aload_n 0, 1) := by decide +kernel
theorem dX8_forStatement_126 : decode cX8_forStatement 126 = .ok (.iconst 0, 1) := by decide +kernel
theorem dX8_forStatement_127 : decode cX8_forStatement 127 = .ok (.invokevirtual 161, 3) := by decide +kernel
theorem dX8_forStatement_130 : decode cX8_forStatement 130 = .ok (.putfield 239, 3) := by decide +kernel
theorem dX8_forStatement_133 : decode cX8_forStatement 133 = .ok (.aload_n 1, 1) := by decide +kernel
theorem dX8_forStatement_134 : decode cX8_forStatement 134 = .ok (.areturn, 1) := by decide +kernel
theorem dX8_forStatement_108 : decode cX8_forStatement 108 = .ok (.aload_n 1, 1) := by decide +kernel
theorem dX8_forStatement_109 : decode cX8_forStatement 109 = .ok (.aload_n 0, 1) := by decide +kernel
theorem dX8_forStatement_110 : decode cX8_forStatement 110 = .ok (.iconst 1, 1) := by decide +kernel
theorem dX8_forStatement_111 : decode cX8_forStatement 111 = .ok (.invokevirtual 218, 3) := by decide +kernel
theorem dX8_forStatement_114 : decode cX8_forStatement 114 = .ok (.putfield 236, 3) := by decide +kernel
theorem dX8_forStatement_18 : decode cX8_forStatement 18 = .ok (.aload_n 0, 1) := by decide +kernel
theorem dX8_forStatement_19 : decode cX8_forStatement 19 = .ok (.dup, 1) := by decide +kernel
theorem dX8_forStatement_20 : decode cX8_forStatement 20 = .ok (.getfield 17, 3) := by decide +kernel
theorem dX8_forStatement_23 : decode cX8_forStatement 23 = .ok (.iconst 1, 1) := by decide +kernel
theorem dX8_forStatement_24 : decode cX8_forStatement 24 = .ok (.iadd, 1) := by decide +kernel
theorem dX8_forStatement_25 : decode cX8_forStatement 25 = .ok (.putfield 17, 3) := by decide +kernel
theorem dX8_forStatement_28 : decode cX8_forStatement 28 = .ok (.aload_n 0, 1) := by decide +kernel
theorem dX8_forStatement_29 : decode cX8_forStatement 29 = .ok (.bipush 34, 2) := by decide +kernel
theorem dX8_forStatement_31 : decode cX8_forStatement 31 = .ok (.invokevirtual 53, 3) := by decide +kernel
theorem dX8_forStatement_34 : decode cX8_forStatement 34 = .ok (.pop, 1) := by decide +kernel
theorem dX8_forStatement_35 : decode cX8_forStatement 35 = .ok (.aload_n 0, 1) := by decide +kernel
theorem dX8_forStatement_36 : decode cX8_forStatement 36 = .ok (.bipush 38, 2) := by decide +kernel
theorem dX8_forStatement_38 : decode cX8_forStatement 38 = .ok (.invokevirtual 36, 3) := by decide +kernel
theorem dX8_forStatement_41 : decode cX8_forStatement 41 = .ok (.ifCond .ne 27, 3) := by decide +kernel
theorem dX8_forStatement_68 : decode cX8_forStatement 68 = .ok (.aload_n 0, 1) := by decide +kernel
theorem dX8_forStatement_69 : decode cX8_forStatement 69 = .ok (.bipush 38, 2) := by decide +kernel
theorem dX8_forStatement_71 : decode cX8_forStatement 71 = .ok (.invokevirtual 53, 3) := by decide +kernel
theorem dX8_forStatement_74 : decode cX8_forStatement 74 = .ok (.pop, 1) := by decide +kernel
theorem dX8_forStatement_75 : decode cX8_forStatement 75 = .ok (.aload_n 0, 1) := by decide +kernel
theorem dX8_forStatement_76 : decode cX8_forStatement 76 = .ok (.bipush 38, 2) := by decide +kernel
theorem dX8_forStatement_78 : decode cX8_forStatement 78 = .ok (.invokevirtual 36, 3) := by decide +kernel
theorem dX8_forStatement_81 : decode cX8_forStatement 81 = .ok (.ifCond .ne 11, 3) := by decide +kernel
theorem dX8_forStatement_84 : decode cX8_forStatement 84 = .ok (.aload_n 1, 1) := by decide +kernel
theorem dX8_forStatement_85 : decode cX8_forStatement 85 = .ok (.aload_n 0, 1) := by decide +kernel
theorem dX8_forStatement_86 : decode cX8_forStatement 86 = .ok (.invokevirtual 196, 3) := by decide +kernel
theorem dX8_forStatement_89 : decode cX8_forStatement 89 = .ok (.putfield 230, 3) := by decide +kernel
theorem dX8_forStatement_44 : decode cX8_forStatement 44 = .ok (.aload_n 1, 1) := by decide +kernel
theorem dX8_forStatement_45 : decode cX8_forStatement 45 = .ok (.aload_n 0, 1) := by decide +kernel
theorem dX8_forStatement_46 : decode cX8_forStatement 46 = .ok (.invokevirtual 174, 3) := by decide +kernel
theorem dX8_forStatement_49 : decode cX8_forStatement 49 = .ok (.ifCond .eq 11, 3) := by decide +kernel
theorem dX8_forStatement_60 : decode cX8_forStatement 60 = .ok (.aload_n 0, 1) := by decide +kernel
theorem dX8_forStatement_61 : decode cX8_forStatement 61 = .ok (.iconst 0, 1) := by decide +kernel
theorem dX8_forStatement_62 : decode cX8_forStatement 62 = .ok (.invokevirtual 218, 3) := by decide +kernel
theorem dX8_forStatement_65 : decode cX8_forStatement 65 = .ok (.putfield 165, 3) := by decide +kernel
theorem dX8_forStatement_52 : decode cX8_forStatement 52 = .ok (.aload_n 0, 1) := by decide +kernel
theorem dX8_forStatement_53 : decode cX8_forStatement 53 = .ok (.iconst 0, 1) := by decide +kernel
theorem dX8_forStatement_54 : decode cX8_forStatement 54 = .ok (.invokevirtual 183, 3) := by decide +kernel
theorem dX8_forStatement_57 : decode cX8_forStatement 57 = .ok (.goto 8, 3) := by decide +kernel
theorem hV_X8_simple : yX8_simple.cls = RX8 ∧ yX8_simple.cls ≠ "java/lang/invoke/MethodHandle" ∧ yX8_simple.cls ≠ "java/lang/invoke/VarHandle" ∧ (parseMethodDescriptor yX8_simple.desc).map (fun d => d.parameters.length) = some 1 := by decide +kernel
theorem hV_X8_beginsLocal : yX8_beginsLocal.cls = RX8 ∧ yX8_beginsLocal.cls ≠ "java/lang/invoke/MethodHandle" ∧ yX8_beginsLocal.cls ≠ "java/lang/invoke/VarHandle" ∧ (parseMethodDescriptor yX8_beginsLocal.desc).map (fun d => d.parameters.length) = some 0 := by decide +kernel
theorem hV_X8_local : yX8_local.cls = RX8 ∧ yX8_local.cls ≠ "java/lang/invoke/MethodHandle" ∧ yX8_local.cls ≠ "java/lang/invoke/VarHandle" ∧ (parseMethodDescriptor yX8_local.desc).map (fun d => d.parameters.length) = some 1 := by decide +kernel
set_option maxHeartbeats 60000000 in
set_option maxRecDepth 100000 in
theorem P_for (l : Launch) (G : pT) (h0 : Nat) (a : Nat → Nat) (F : Nat → Int32) (R : Nat → Value) (Z : Int64) (B : Nat → Nat → Int32) (J : Nat → Nat → Int64) (K : PK) (w : va_W) (n : Nat) (at9 : Nat) (sz : Nat) (dp : Nat) (sg : Nat) (O : Nat) (g : Nat → Nat → Nat) (hsz : sz ≤ 5000) (hat : at9 ≤ sz) (hdp : dp + n = 20) (hsg : sg ≤ 60) (hwn : WN K g) (how : ∀ o : Nat, O = o + 1 → K.1 o = 1 ∧ g 0 o = 0 ∧ ¬ K.2.1 0 o = 32) (hle : at9 + 1 ≤ sz) (ist : PSt l G n) (hO : OKP G h0 a (upd (upd (upd (upd F 2 (nI sz)) 9 (nI at9)) 10 (nI dp)) 11 (nI sg)) R Z B J K w) (hl0 : l.stackTraces = false) : PBn l G pX0 yX8_forStatement cX8_forStatement 2 (some (.object "JinjaTongue$Node")) ({ frames := (50 * n + 58), cells := (2 * (sz - at9) + 20), slots := (11 * (2 * (sz - at9) + 20)), locals := (1500 * n + 1650) }) [.ref (a 3)] w (fun (v : Option Value) (u : va_W × (Nat × PK × (Nat → Nat → Nat) × Nat × Nat × (Nat → Int32))) => v = some (.ref u.2.1) ∧ (NwR K u.2.2.1 g u.2.2.2.1 u.2.1 O at9 ((173 + 3 * (20 - dp)))) ∧ (at9 + 6 ≤ u.2.2.2.2.1 ∧ u.2.2.2.2.1 ≤ sz) ∧ (sg ≤ u.2.2.2.2.2.1 ∧ u.2.2.2.2.2.1 ≤ 60) ∧ (OKP G h0 a (upd (upd (upd (upd F 2 (nI sz)) 9 (nI u.2.2.2.2.1)) 10 (nI dp)) 11 (nI u.2.2.2.2.2.1)) R Z (updA B 10 u.2.2.2.2.2.2) J u.2.2.1 u.1)) (fun u => u.1) (fun (u : va_W × (Nat × PK × (Nat → Nat → Nat) × Nat × Nat × (Nat → Int32))) => (2 * (u.2.2.2.2.1 - at9) - 6)) (fun (u : va_W × (Nat × PK × (Nat → Nat → Nat) × Nat × Nat × (Nat → Int32))) => (11 * (2 * (u.2.2.2.2.1 - at9) - 6))) (fun (u : va_W × (Nat → Int32) × (Nat → Value) × (Nat → Nat → Int32)) => ThQ G h0 a (upd (upd (upd (upd F 2 (nI sz)) 9 (nI at9)) 10 (nI dp)) 11 (nI sg)) Z B J u) (fun u => u.1) := by
  intro sz
  refine vx_ofW (cc := cX8_forStatement) (maxL := 2) (ret := (some (.object "JinjaTongue$Node"))) (by decide) rfl ?_
  intro p e s m args below meth c s₁ B9 hml hnt hv
  obtain ⟨rfl, hsz, hP, hD0, hE, hX⟩ := hv
  have hx := B9.exec
  have hb := B9.bytes
  have hr := B9.returns
  have hts := atoms_spec (ws := Cond.code yX8_forStatement cX8_forStatement 2 (some (.object "JinjaTongue$Node")) :: pw) B9.pre
  have hq : ∀ w ∈ pw, w.before _ s = true := fun w h => hts w (List.mem_cons_of_mem _ h)
  have hown : s.vm.findClass RX8 = some m.cls := findClass_of_methodNamed B9.named
  have hlocks := B9.notSynchronized
  subst hsz
  have hD := hD0.self (sz := s.heap.size)
  have hA : ∀ q : Nat, s.heap.size ≤ q → va_A w s.heap.size q := fun q h => Or.inr h
  generalize va_A w s.heap.size = A at hD hE hA ⊢
  have hS : va_S A s.heap s.heap [] := va_S.rf
  have hl := lv_entry ([.ref (a 3)]) (n := 2) (Nat.le_of_ble_eq_true rfl)
  rw [lg_entry_eq]
  generalize (lg_sl ([.ref (a 3)]) ++ List.replicate (2 - (lg_sl ([.ref (a 3)])).length) Slot.unset).toArray = ls at hl ⊢
  have hl : lv_has ls 2 [(0, .ref (a 3))] := hl
  have hns0 : NwS K K g g := NwS.nil hwn
  refine p_new (s9 := 1) (C := RX7) (T := TX7) (N := 11) (ci := 13) (fs := [.int 0, .int 0, .int 0, .int 0, .int 0, .int 0, .null, .null, .null, .null, .null]) hx hb hq pin_wsX70 tyX7 tyX7_ok hown (hq _ pw_870) (hq _ pw_871) (hq _ pw_872) hE hP hD hS hA hO rfl nw_X7 (by decide) (fun q => by rw [rep_1 (show (kN K q 1 0).1 q = 1 from if_pos rfl)]; unfold fsNode kN; simp only [if_true]; rfl) (by show 0 + 1 ≤ (2 * (sz - at9) + 20); omega) (by show 0 + 11 ≤ (11 * (2 * (sz - at9) + 20)); omega) dX8_forStatement_0 (fun q1 H w hq2 hP hD hS hO => ?_)
  have hf3 : (kN K q1 1 0).1 q1 = 1 := if_pos rfl
  refine W.widen (k := 1) (n := 11) (by show 0 + 1 ≤ 1; omega) (by show 0 + 11 ≤ 11; omega) ?_
  refine lv_dup hx hb dX8_forStatement_3 rfl ?_
  refine lv_bipush (v := 27) hx hb dX8_forStatement_4 (by decide) ?_
  refine lv_aload_n hx hb dX8_forStatement_6 rfl (lv_at hl 0 rfl) ?_
  refine c_get (v := .int (nI at9)) (C := RX8) (Tc := TX8) (N := 5) (ci := 5) hx hb hq pin_wsX80 hown hE hP hO 23 (sg_23 G h0 a _ _ _ _ _) rfl 2 (by decide) (hq _ pw_776) (fun _ h9 => h9) rfl dX8_forStatement_7 ?_
  refine lv_aload_n hx hb dX8_forStatement_10 rfl (lv_at hl 0 rfl) ?_
  refine c_get (v := .int (nI at9)) (C := RX8) (Tc := TX8) (N := 5) (ci := 5) hx hb hq pin_wsX80 hown hE hP hO 23 (sg_23 G h0 a _ _ _ _ _) rfl 2 (by decide) (hq _ pw_776) (fun _ h9 => h9) rfl dX8_forStatement_11 ?_
  have hO : OKP G h0 a (upd (upd (upd (upd F 2 (nI sz)) 9 (nI at9)) 10 (nI dp)) 11 (nI sg)) R Z B J (kN K q1 1 0) w := hO.to rfl
  obtain ⟨qr7, hqr8⟩ := p_recv hO (by rw [hf3]; decide) (rep_1 hf3)
  refine pc_I0 (G := G) (As := [.int 27, .int (nI at9), .int (nI at9)]) (rest := [.ref q1]) hx hb hml hown hq hE hX pX0_al hP hD hS hA hl.1 (N_init l G h0 a (upd (upd (upd (upd F 2 (nI sz)) 9 (nI at9)) 10 (nI dp)) 11 (nI sg)) R Z B J (kN K q1 1 0) w q1 27 (nI at9) (nI at9) (by omega) hO) pw_874 pw_875 pw_872 pw_765 rfl hS_X7_init rfl (Nat.le_of_ble_eq_true rfl) dX8_forStatement_14 ⟨(by show 1 + 0 ≤ (2 * (sz - at9) + 20); omega), (by show 11 + 0 ≤ (11 * (2 * (sz - at9) + 20)); omega)⟩ ⟨(by show 2 + 1 ≤ (50 * n + 58); omega), (by show 8 + (4 + 11) + 60 ≤ (1500 * n + 1650); omega)⟩ (fun v6 u4 H locs hw5 hP hD hS => ?_)
  obtain ⟨w, _⟩ := u4
  obtain ⟨hw5, hO⟩ := hw5
  obtain rfl : v6 = none := hw5
  have hf9 : (kI (kI (kI (kN K q1 1 0) 0 q1 27) 1 q1 (nI at9)) 2 q1 (nI at9)).1 q1 = 1 := hf3
  have hO : OKP G h0 a (upd (upd (upd (upd F 2 (nI sz)) 9 (nI at9)) 10 (nI dp)) 11 (nI sg)) R Z B J (kI (kI (kI (kN K q1 1 0) 0 q1 27) 1 q1 (nI at9)) 2 q1 (nI at9)) w := hO.to rfl
  refine W.widen (k := 1) (n := 11) (by show 1 + 0 ≤ 1; omega) (by show 11 + 0 ≤ 11; omega) ?_
  refine W.eq (g2 := F0 m 17 ls [.ref q1]) rfl ?_
  change OKP G h0 a (upd (upd (upd (upd F 2 (nI sz)) 9 (nI at9)) 10 (nI dp)) 11 (nI sg)) R Z B J (mkN K q1 27 (nI at9) (nI at9)) w at hO
  obtain ⟨K10, hK11⟩ : ∃ z : PK, z = (mkN K q1 27 (nI at9) (nI at9)) := ⟨_, rfl⟩
  rw [← hK11] at hO
  have hf12 : K10.1 q1 = 1 := by rw [hK11]; exact mkN_T
  have hf13 : K10.2.1 0 q1 = 27 := by rw [hK11]; exact mkN_0
  have hf14 : K10.2.1 2 q1 = (nI at9) := by rw [hK11]; exact mkN_2
  have hf15 : K10.2.2.1 0 q1 = none := by rw [hK11]; exact mkN_C
  have hf16 : K10.2.2.1 1 q1 = none := by rw [hK11]; exact mkN_C
  have hf17 : K10.2.2.1 2 q1 = none := by rw [hK11]; exact mkN_C
  have hf18 : K10.2.2.1 3 q1 = none := by rw [hK11]; exact mkN_C
  have hf19 : K10.2.2.1 4 q1 = none := by rw [hK11]; exact mkN_C
  have hns20 : NwS K K10 g (gset g q1 0 0 0) := by rw [hK11]; exact NwS.node hns0 hq2
  have hq21 : K.1 q1 = 0 := old_T hns0.2.1 hq2
  have hg22 : (gset g q1 0 0 0) 0 q1 = 0 := gset_0
  have hno23 : NoO K10 (gset g q1 0 0 0) q1 := by rw [hK11]; exact NoO.new hns0.1 hq2
  refine lv_astore_n (lv' := [(1, .ref q1), (0, .ref (a 3))]) hx hb dX8_forStatement_17 rfl hl (by decide) rfl (fun ls hl => ?_)
  have cut_j : ∀ (at2 : Nat) (sg2 : Nat) (f2 : Nat → Int32) (K2 : PK) (g2 : Nat → Nat → Nat) (q2 : Nat) (oa : Option Nat) (ob : Option Nat) (H : Heap) (locs : List Loc) (ls : Array Slot) (w : va_W), (at9 + 3 ≤ at2 ∧ at2 ≤ sz) → (sg ≤ sg2 ∧ sg2 ≤ 60) → (NwS K K2 g g2) → (K.1 q2 = 0) → (K2.1 q2 = 1) → (g2 0 q2 = 0) → (NoO K2 g2 q2) → (K2.2.1 0 q2 = 27) → (K2.2.2.1 0 q2 = oa) → (K2.2.2.1 1 q2 = ob) → (K2.2.2.1 2 q2 = none) → (K2.2.2.1 3 q2 = none) → (K2.2.2.1 4 q2 = none) → (KdO K2 g2 oa (173 + 3 * (20 - dp))) → (KdO K2 g2 ob (173 + 3 * (20 - dp))) → va_P G.1 pCl w H → va_D A w → va_S A s.heap H locs → OKP G h0 a (upd (upd (upd (upd F 2 (nI sz)) 9 (nI at2)) 10 (nI dp)) 11 (nI sg2)) R Z (updA B 10 f2) J K2 w → lv_has ls 2 [(1, .ref q2), (0, .ref (a 3))] → W p l e (headSpec (Cond.code yX8_forStatement cX8_forStatement 2 (some (.object "JinjaTongue$Node")) :: pw) ({ frames := (50 * n + 58), cells := (2 * (sz - at9) + 20), slots := (11 * (2 * (sz - at9) + 20)), locals := (1500 * n + 1650) } : Room)).room s m ([.ref (a 3)] : List Value).toArray below meth c H locs (2 * (at2 - at9) - 4) (11 * (2 * (at2 - at9) - 4)) (vx_MQ below (pQn G A (fun (v : Option Value) (u : va_W × (Nat × PK × (Nat → Nat → Nat) × Nat × Nat × (Nat → Int32))) => v = some (.ref u.2.1) ∧ (NwR K u.2.2.1 g u.2.2.2.1 u.2.1 O at9 ((173 + 3 * (20 - dp)))) ∧ (at9 + 6 ≤ u.2.2.2.2.1 ∧ u.2.2.2.2.1 ≤ sz) ∧ (sg ≤ u.2.2.2.2.2.1 ∧ u.2.2.2.2.2.1 ≤ 60) ∧ (OKP G h0 a (upd (upd (upd (upd F 2 (nI sz)) 9 (nI u.2.2.2.2.1)) 10 (nI dp)) 11 (nI u.2.2.2.2.2.1)) R Z (updA B 10 u.2.2.2.2.2.2) J u.2.2.1 u.1)) (fun u => u.1) (fun (u : va_W × (Nat × PK × (Nat → Nat → Nat) × Nat × Nat × (Nat → Int32))) => (2 * (u.2.2.2.2.1 - at9) - 6)) (fun (u : va_W × (Nat × PK × (Nat → Nat → Nat) × Nat × Nat × (Nat → Int32))) => (11 * (2 * (u.2.2.2.2.1 - at9) - 6)))) (pXX G A (fun (u : va_W × (Nat → Int32) × (Nat → Value) × (Nat → Nat → Int32)) => ThQ G h0 a (upd (upd (upd (upd F 2 (nI sz)) 9 (nI at9)) 10 (nI dp)) 11 (nI sg)) Z B J u) (fun u => u.1)) ([.ref (a 3)] : List Value).toArray s ({ frames := (50 * n + 58), cells := (2 * (sz - at9) + 20), slots := (11 * (2 * (sz - at9) + 20)), locals := (1500 * n + 1650) } : Room).cells ({ frames := (50 * n + 58), cells := (2 * (sz - at9) + 20), slots := (11 * (2 * (sz - at9) + 20)), locals := (1500 * n + 1650) } : Room).slots A) (F0 m 92 ls []) := by
    intro at2 sg2 f2 K2 g2 q2 oa ob H locs ls w hat2 hsg2 hns2 hq20 hq2 hg20 hno2 hkd2 hc20 hc21 hc22 hc23 hc24 hoa hob hP hD hS hO hl
    refine lv_aload_n hx hb dX8_forStatement_92 rfl (lv_at hl 1 rfl) ?_
    refine lv_bipush (v := 38) hx hb dX8_forStatement_93 (by decide) ?_
    have hO : OKW G h0 a (upd (upd (upd (upd (upd (upd (upd (upd F 2 (nI sz)) 9 (nI at9)) 10 (nI dp)) 11 (nI sg)) 9 (nI at2)) 11 (nI sg2)) 2 (nI sz)) 9 (nI at2)) R Z (updA B 10 f2) J K2.1 (fun q99 x99 => x99 = rep G a K2 q99) w := hO.to rfl
    obtain ⟨_, qr27, hqr28⟩ := hO.2.1 23 _ (sg_23 G h0 a _ _ _ _ _)
    refine pn_V0 (G := G) (As := [.int 38]) (rest := []) hx hb hml hown hq hE hX pX0_al hP hD hS hA hl.1 (P_take l G h0 a (upd (upd (upd (upd (upd (upd F 2 (nI sz)) 9 (nI at9)) 10 (nI dp)) 11 (nI sg)) 9 (nI at2)) 11 (nI sg2)) R Z (updA B 10 f2) J K2.1 (fun q99 x99 => x99 = rep G a K2 q99) w 38 at2 sz (by omega) (by omega) (by decide) hO hl0) (gV pw_793 pw_794 pw_795 pw_796 pw_781) hV_X8_take qr27 5 hqr28 rfl rfl rfl (Nat.le_of_ble_eq_true rfl) dX8_forStatement_95 ⟨(by show (2 * (at2 - at9) - 4) + 1 ≤ (2 * (sz - at9) + 20); omega), (by show (11 * (2 * (at2 - at9) - 4)) + 6 ≤ (11 * (2 * (sz - at9) + 20)); omega)⟩ ⟨(by show 7 + 1 ≤ (50 * n + 58); omega), (by show 8 + (2 + 11) + 122 ≤ (1500 * n + 1650); omega)⟩ (fun v26 u24 H locs hw25 hP hD hS => ?_) (fun ux ce9 q9 H9 locs9 hux hP9 hD9 hS9 hce hcv hcl => pb_out ux (ThQ.up (Thx.same (Thx.same (Thx.b (Thx.f (Thx.f Thx.rfl (by omega)) (by omega)) (by omega) (by decide)) rfl) rfl) hux) hnt hlocks hce hcv hcl hP9 hD9 hS9 (by show (2 * (at2 - at9) - 4) + 1 ≤ (2 * (sz - at9) + 20); omega) (by show (11 * (2 * (at2 - at9) - 4)) + 6 ≤ (11 * (2 * (sz - at9) + 20)); omega))
    obtain ⟨w, _⟩ := u24
    obtain ⟨hw25, h29, hO⟩ := hw25
    have h29 : at2 + 1 ≤ sz := h29
    obtain rfl : v26 = some (.int (nI at2)) := hw25
    have hO : OKP G h0 a (upd (upd (upd (upd F 2 (nI sz)) 9 (nI (at2 + 1))) 10 (nI dp)) 11 (nI sg2)) R Z (updA B 10 f2) J K2 w := hO.to rfl
    refine W.widen (k := (2 * (at2 - at9) - 4)) (n := (11 * (2 * (at2 - at9) - 4))) (by show (2 * (at2 - at9) - 4) + 0 ≤ (2 * (at2 - at9) - 4); omega) (by show (11 * (2 * (at2 - at9) - 4)) + 0 ≤ (11 * (2 * (at2 - at9) - 4)); omega) ?_
    refine W.eq (g2 := F0 m 98 ls [.int (nI at2)]) rfl ?_
    refine lv_pop hx hb dX8_forStatement_98 rfl ?_
    refine lv_aload_n hx hb dX8_forStatement_99 rfl (lv_at hl 1 rfl) ?_
    refine lv_bipush (v := 35) hx hb dX8_forStatement_100 (by decide) ?_
    have hO : OKW G h0 a (upd (upd (upd (upd (upd (upd F 2 (nI sz)) 9 (nI (at2 + 1))) 10 (nI dp)) 11 (nI sg2)) 2 (nI sz)) 9 (nI (at2 + 1))) R Z (updA B 10 f2) J K2.1 (fun q99 x99 => x99 = rep G a K2 q99) w := hO.to rfl
    obtain ⟨_, qr33, hqr34⟩ := hO.2.1 23 _ (sg_23 G h0 a _ _ _ _ _)
    refine pc_V0 (G := G) (As := [.int 35]) (rest := []) hx hb hml hown hq hE hX pX0_al hP hD hS hA hl.1 (P_sees l G h0 a (upd (upd (upd (upd F 2 (nI sz)) 9 (nI (at2 + 1))) 10 (nI dp)) 11 (nI sg2)) R Z (updA B 10 f2) J K2.1 (fun q99 x99 => x99 = rep G a K2 q99) w 35 (at2 + 1) sz (by omega) (by omega) hO) (gV pw_803 pw_804 pw_805 pw_796 pw_775) hV_X8_sees qr33 5 hqr34 rfl rfl rfl (Nat.le_of_ble_eq_true rfl) dX8_forStatement_102 ⟨(by show (2 * (at2 - at9) - 4) + 0 ≤ (2 * (sz - at9) + 20); omega), (by show (11 * (2 * (at2 - at9) - 4)) + 0 ≤ (11 * (2 * (sz - at9) + 20)); omega)⟩ ⟨(by show 3 + 1 ≤ (50 * n + 58); omega), (by show 8 + (2 + 11) + 81 ≤ (1500 * n + 1650); omega)⟩ (fun v32 u30 H locs hw31 hP hD hS => ?_)
    obtain ⟨w, r35⟩ := u30
    obtain ⟨hw31, h36, hO⟩ := hw31
    have h36 : r35 ≤ 1 := h36
    obtain rfl : v32 = some (.int (nI r35)) := hw31
    have hO : OKP G h0 a (upd (upd (upd (upd F 2 (nI sz)) 9 (nI (at2 + 1))) 10 (nI dp)) 11 (nI sg2)) R Z (updA B 10 f2) J K2 w := hO.to rfl
    refine W.widen (k := (2 * (at2 - at9) - 4)) (n := (11 * (2 * (at2 - at9) - 4))) (by show (2 * (at2 - at9) - 4) + 0 ≤ (2 * (at2 - at9) - 4); omega) (by show (11 * (2 * (at2 - at9) - 4)) + 0 ≤ (11 * (2 * (at2 - at9) - 4)); omega) ?_
    refine W.eq (g2 := F0 m 105 ls [.int (nI r35)]) rfl ?_
    refine lv_if_ne (tgt := 117) hx hb dX8_forStatement_105 (by decide) (fun c37 => ?_) (fun c37 => ?_)
    · have n38 : ¬ (r35 = 0) := fun h9 => c37 ((nI_eq (a := r35) (b := 0) (by omega) (by omega)).mpr h9)
      refine lv_aload_n hx hb dX8_forStatement_117 rfl (lv_at hl 1 rfl) ?_
      refine lv_bipush (v := 35) hx hb dX8_forStatement_118 (by decide) ?_
      have hO : OKW G h0 a (upd (upd (upd (upd (upd (upd (upd (upd F 2 (nI sz)) 9 (nI at9)) 10 (nI dp)) 11 (nI sg)) 9 (nI (at2 + 1))) 11 (nI sg2)) 2 (nI sz)) 9 (nI (at2 + 1))) R Z (updA B 10 f2) J K2.1 (fun q99 x99 => x99 = rep G a K2 q99) w := hO.to rfl
      obtain ⟨_, qr42, hqr43⟩ := hO.2.1 23 _ (sg_23 G h0 a _ _ _ _ _)
      refine pn_V0 (G := G) (As := [.int 35]) (rest := []) hx hb hml hown hq hE hX pX0_al hP hD hS hA hl.1 (P_take l G h0 a (upd (upd (upd (upd (upd (upd F 2 (nI sz)) 9 (nI at9)) 10 (nI dp)) 11 (nI sg)) 9 (nI (at2 + 1))) 11 (nI sg2)) R Z (updA B 10 f2) J K2.1 (fun q99 x99 => x99 = rep G a K2 q99) w 35 (at2 + 1) sz (by omega) (by omega) (by decide) hO hl0) (gV pw_793 pw_794 pw_795 pw_796 pw_781) hV_X8_take qr42 5 hqr43 rfl rfl rfl (Nat.le_of_ble_eq_true rfl) dX8_forStatement_120 ⟨(by show (2 * (at2 - at9) - 4) + 1 ≤ (2 * (sz - at9) + 20); omega), (by show (11 * (2 * (at2 - at9) - 4)) + 6 ≤ (11 * (2 * (sz - at9) + 20)); omega)⟩ ⟨(by show 7 + 1 ≤ (50 * n + 58); omega), (by show 8 + (2 + 11) + 122 ≤ (1500 * n + 1650); omega)⟩ (fun v41 u39 H locs hw40 hP hD hS => ?_) (fun ux ce9 q9 H9 locs9 hux hP9 hD9 hS9 hce hcv hcl => pb_out ux (ThQ.up (Thx.same (Thx.same (Thx.b (Thx.f (Thx.f Thx.rfl (by omega)) (by omega)) (by omega) (by decide)) rfl) rfl) hux) hnt hlocks hce hcv hcl hP9 hD9 hS9 (by show (2 * (at2 - at9) - 4) + 1 ≤ (2 * (sz - at9) + 20); omega) (by show (11 * (2 * (at2 - at9) - 4)) + 6 ≤ (11 * (2 * (sz - at9) + 20)); omega))
      obtain ⟨w, _⟩ := u39
      obtain ⟨hw40, h44, hO⟩ := hw40
      have h44 : (at2 + 1) + 1 ≤ sz := h44
      obtain rfl : v41 = some (.int (nI (at2 + 1))) := hw40
      have hO : OKP G h0 a (upd (upd (upd (upd F 2 (nI sz)) 9 (nI ((at2 + 1) + 1))) 10 (nI dp)) 11 (nI sg2)) R Z (updA B 10 f2) J K2 w := hO.to rfl
      refine W.widen (k := (2 * (at2 - at9) - 4)) (n := (11 * (2 * (at2 - at9) - 4))) (by show (2 * (at2 - at9) - 4) + 0 ≤ (2 * (at2 - at9) - 4); omega) (by show (11 * (2 * (at2 - at9) - 4)) + 0 ≤ (11 * (2 * (at2 - at9) - 4)); omega) ?_
      refine W.eq (g2 := F0 m 123 ls [.int (nI (at2 + 1))]) rfl ?_
      refine lv_pop hx hb dX8_forStatement_123 rfl ?_
      refine lv_aload_n hx hb dX8_forStatement_124 rfl (lv_at hl 0 rfl) ?_
      refine lv_aload_n hx hb dX8_forStatement_125 rfl (lv_at hl 1 rfl) ?_
      refine lv_iconst (v := 0) hx hb dX8_forStatement_126 (by decide) ?_
      have hO : OKP G h0 a (upd (upd (upd (upd (upd (upd (upd (upd (upd (upd F 2 (nI sz)) 9 (nI at9)) 10 (nI dp)) 11 (nI sg)) 9 (nI ((at2 + 1) + 1))) 11 (nI sg2)) 2 (nI sz)) 9 (nI ((at2 + 1) + 1))) 10 (nI dp)) 11 (nI sg2)) R Z (updA B 10 f2) J K2 w := hO.to rfl
      obtain ⟨_, qr48, hqr49⟩ := hO.2.1 23 _ (sg_23 G h0 a _ _ _ _ _)
      refine pn_V0 (G := G) (As := [.int (nI 0)]) (rest := [.ref q2]) hx hb hml hown hq hE hX pX0_al hP hD hS hA hl.1 (ist h0 a (upd (upd (upd (upd (upd (upd F 2 (nI sz)) 9 (nI at9)) 10 (nI dp)) 11 (nI sg)) 9 (nI ((at2 + 1) + 1))) 11 (nI sg2)) R Z (updA B 10 f2) J K2 w 0 ((at2 + 1) + 1) sz dp sg2 0 g2 (by omega) (by omega) hdp (by omega) hns2.1 (fun o9 h9 => absurd h9 (by omega)) (by omega) hO hl0) (gV pw_1003 pw_1004 pw_1005 pw_796 pw_1025) hV_X8_statement qr48 5 hqr49 rfl rfl rfl (Nat.le_of_ble_eq_true rfl) dX8_forStatement_127 ⟨(by show (2 * (at2 - at9) - 4) + (2 * (sz - ((at2 + 1) + 1)) + 20) ≤ (2 * (sz - at9) + 20); omega), (by show (11 * (2 * (at2 - at9) - 4)) + (11 * (2 * (sz - ((at2 + 1) + 1)) + 20)) ≤ (11 * (2 * (sz - at9) + 20)); omega)⟩ ⟨(by show (50 * n + 50) + 1 ≤ (50 * n + 58); omega), (by show 8 + (5 + 11) + (1500 * n + 1500) ≤ (1500 * n + 1650); omega)⟩ (fun v47 u45 H locs hw46 hP hD hS => ?_) (fun ux ce9 q9 H9 locs9 hux hP9 hD9 hS9 hce hcv hcl => pb_out ux (ThQ.up (Thx.same (Thx.same (Thx.same (Thx.same (Thx.b (Thx.f (Thx.f Thx.rfl (by omega)) (by omega)) (by omega) (by decide)) rfl) rfl) rfl) rfl) hux) hnt hlocks hce hcv hcl hP9 hD9 hS9 (by show (2 * (at2 - at9) - 4) + (2 * (sz - ((at2 + 1) + 1)) + 20) ≤ (2 * (sz - at9) + 20); omega) (by show (11 * (2 * (at2 - at9) - 4)) + (11 * (2 * (sz - ((at2 + 1) + 1)) + 20)) ≤ (11 * (2 * (sz - at9) + 20)); omega))
      obtain ⟨w, r50, K51, g52, at53, sg54, f55⟩ := u45
      obtain ⟨hw46, h56, h57, h58, hO⟩ := hw46
      have h56 : NwR K2 K51 g2 g52 r50 0 ((at2 + 1) + 1) ((170 + 3 * (20 - dp))) := h56
      have h57 : ((at2 + 1) + 1) + 1 ≤ at53 ∧ at53 ≤ sz := h57
      have h58 : sg2 ≤ sg54 ∧ sg54 ≤ 60 := h58
      obtain rfl : v47 = some (.ref r50) := hw46
      have hf59 : K51.1 q2 = 1 := (((h56).2.1.1 q2 (by rw [hq2]; decide)).1).trans hq2
      have hf60 : K51.2.1 0 q2 = 27 := (((h56).2.1.1 q2 (by rw [hq2]; decide)).2.1 0).trans hkd2
      have hf61 : K51.2.2.1 2 q2 = none := (((h56).2.1.1 q2 (by rw [hq2]; decide)).2.2.1 2).trans hc22
      have hf62 : K51.2.2.1 3 q2 = none := (((h56).2.1.1 q2 (by rw [hq2]; decide)).2.2.1 3).trans hc23
      have hf63 : K51.2.2.1 4 q2 = none := (((h56).2.1.1 q2 (by rw [hq2]; decide)).2.2.1 4).trans hc24
      have hf64 : K51.2.2.1 0 q2 = oa := (((h56).2.1.1 q2 (by rw [hq2]; decide)).2.2.1 0).trans hc20
      have hf65 : K51.2.2.1 1 q2 = ob := (((h56).2.1.1 q2 (by rw [hq2]; decide)).2.2.1 1).trans hc21
      have hO : OKP G h0 a (upd (upd (upd (upd F 2 (nI sz)) 9 (nI at53)) 10 (nI dp)) 11 (nI sg54)) R Z (updA B 10 f55) J K51 w := hO.to rfl
      refine W.widen (k := ((2 * (at2 - at9) - 4) + (2 * (at53 - ((at2 + 1) + 1)) - 1))) (n := ((11 * (2 * (at2 - at9) - 4)) + (11 * (2 * (at53 - ((at2 + 1) + 1)) - 1)))) (by show (2 * (at2 - at9) - 4) + (2 * (at53 - ((at2 + 1) + 1)) - 1) ≤ ((2 * (at2 - at9) - 4) + (2 * (at53 - ((at2 + 1) + 1)) - 1)); omega) (by show (11 * (2 * (at2 - at9) - 4)) + (11 * (2 * (at53 - ((at2 + 1) + 1)) - 1)) ≤ ((11 * (2 * (at2 - at9) - 4)) + (11 * (2 * (at53 - ((at2 + 1) + 1)) - 1))); omega) ?_
      refine W.eq (g2 := F0 m 130 ls [.ref r50, .ref q2]) rfl ?_
      have hns66 : NwS K K51 g g52 := NwS.call hns2 h56 (fun o9 h9 => absurd h9 (by omega))
      have hf67 : K51.1 r50 = 1 := h56.2.2.1.2.1
      have hg68 : g52 0 q2 = 0 := (h56.2.1.2 q2 (by rw [hq2]; decide) 0).trans hg20
      have hno69 : NoO K51 g52 q2 := NoO.call hno2 h56 hq2 (by omega)
      have hgy70 := h56.2.2.1
      have hgy70a := hgy70.2.2.1
      have hgy70b := hgy70.2.2.2.1
      have hka71 := KdO.ext hoa h56.2.1
      have hkb72 := KdO.ext hob h56.2.1
      refine p_put (v := .ref r50) (ty := (.object "JinjaTongue$Node")) (C := RX7) (Tc := TX7) (N := 11) (ci := 13) (K' := (kC K51 3 q2 (some r50))) hx hb hq pin_wsX70 tyX7 tyX7_ok nmX7 hown hE hP hD hS hO (by rw [hf59]; decide) (rep_1 hf59) rfl 9 (by decide) (hq _ pw_1011) (fun _ h9 => h9) rfl (by decide +kernel) rfl rfl (Nat.le_of_ble_eq_true rfl) rfl (by rw [rep_1 (show (kC K51 3 q2 (some r50)).1 q2 = 1 from hf59), pc_3] <;> rfl) (fun p9 hp9 => rep_kC hp9) dX8_forStatement_130 (fun H locs w hP hD hS hO => ?_)
      obtain ⟨K73, hK74⟩ : ∃ z : PK, z = (kC K51 3 q2 (some r50)) := ⟨_, rfl⟩
      rw [← hK74] at hO
      have hf75 : K73.1 q2 = 1 := (by rw [hK74]; exact hf59)
      have hf76 : K73.2.1 0 q2 = 27 := (by rw [hK74]; exact hf60)
      have hf77 : K73.2.2.1 2 q2 = none := (by rw [hK74]; exact (kC_of (by decide)).trans hf61)
      have hf78 : K73.2.2.1 4 q2 = none := (by rw [hK74]; exact (kC_of (by decide)).trans hf63)
      have hf79 : K73.2.2.1 0 q2 = oa := (by rw [hK74]; exact (kC_of (by decide)).trans hf64)
      have hf80 : K73.2.2.1 1 q2 = ob := (by rw [hK74]; exact (kC_of (by decide)).trans hf65)
      have hf81 : K73.1 r50 = 1 := (by rw [hK74]; exact hf67)
      have hf82 : K73.2.2.1 3 q2 = some r50 := by rw [hK74]; exact kC_eq
      have hns83 : NwS K K73 g g52 := by rw [hK74]; exact NwS.put hns66 hq20 hg68
      have hno84 : NoO K73 g52 q2 := by rw [hK74]; exact hno69
      have hka85 : KdO K73 g52 oa (173 + 3 * (20 - dp)) := by rw [hK74]; exact hka71
      have hkb86 : KdO K73 g52 ob (173 + 3 * (20 - dp)) := by rw [hK74]; exact hkb72
      refine lv_aload_n hx hb dX8_forStatement_133 rfl (lv_at hl 0 rfl) ?_
      refine W_size (fun hz1 hz2 => ?_)
      refine vx_ret ?_
      have hkid : ∀ f9 y9 : Nat, f9 ≤ 3 → K73.2.2.1 f9 q2 = some y9 → K73.1 y9 = 1 ∧ 1 ≤ g52 0 y9 ∧ g52 0 y9 < (173 + 3 * (20 - dp)) := by
        intro f9 y9 hf9 hy9
        rcases (show f9 = 0 ∨ f9 = 1 ∨ f9 = 2 ∨ f9 = 3 by omega) with rfl | rfl | rfl | rfl
        · rw [hf79] at hy9; exact hka85 y9 hy9
        · rw [hf80] at hy9; exact hkb86 y9 hy9
        · rw [hf77] at hy9; cases hy9
        · rw [hf82] at hy9; cases hy9; exact ⟨hf81, by omega, by omega⟩
      have hdn := NwS.done1 (q := q2) (L := (173 + 3 * (20 - dp))) (O := O) (k := at9) hns83 hq20 hf75 hg68 (by omega) (by omega) (by rw [hf76]; exact ⟨(fun z => absurd z (by decide)), (fun z => absurd z (by decide)), (fun z => absurd z (by decide)), (fun z => absurd z (by decide)), fun _ => (by show ¬ K73.2.2.1 3 q2 = none; rw [hf82]; intro z; cases z)⟩) (fun f9 z => by rw [hf76] at z; rcases z with ⟨z, _⟩ | ⟨z | z | z, _⟩ <;> exact absurd z (by decide)) hkid hf78 hno84 (fun f9 x9 _ _ => Kch.no (by rw [hf76]; decide)) how
      have hz87 : NwR K K73 g (gset g52 q2 (173 + 3 * (20 - dp)) O at9) q2 O at9 ((173 + 3 * (20 - dp))) := hdn
      have hz88 : at9 + 6 ≤ at53 ∧ at53 ≤ sz := (by omega)
      have hz89 : sg ≤ sg54 ∧ sg54 ≤ 60 := (by omega)
      have hO : OKP G h0 a (upd (upd (upd (upd F 2 (nI sz)) 9 (nI at53)) 10 (nI dp)) 11 (nI sg54)) R Z (updA B 10 f55) J K73 w := hO.to rfl
      refine W.widen (k := (2 * (sz - at9) + 20)) (n := (11 * (2 * (sz - at9) + 20))) (by omega) (by omega) ?_
      have hzz1 : H.size ≤ s.heap.size + ((2 * (at53 - at9) - 6)) := (by have z : ((2 * (at2 - at9) - 4) + (2 * (at53 - ((at2 + 1) + 1)) - 1)) ≤ (2 * (at53 - at9) - 6) := (by omega); omega)
      have hzz2 : hSl H ≤ hSl s.heap + ((11 * (2 * (at53 - at9) - 6))) := (by have z : ((11 * (2 * (at2 - at9) - 4)) + (11 * (2 * (at53 - ((at2 + 1) + 1)) - 1))) ≤ (11 * (2 * (at53 - at9) - 6)) := (by omega); omega)
      exact W.aret (v := .ref q2) hx hb hr (Or.inl ⟨_, rfl⟩) (Or.inr ⟨_, rfl⟩) (fun t99 ht99 hW99 => ⟨⟨_, (w, (q2, K73, (gset g52 q2 (173 + 3 * (20 - dp)) O at9), at53, sg54, f55)), rfl, ⟨rfl, hz87, hz88, hz89, hO⟩, by rw [ht99]; exact hP, hD, by rw [ht99]; exact hzz1, by rw [ht99]; exact hzz2⟩, hS.F ht99⟩) hS.2.2 dX8_forStatement_134
    · have n90 : r35 = 0 := (nI_eq (a := r35) (b := 0) (by omega) (by omega)).mp c37
      refine lv_aload_n hx hb dX8_forStatement_108 rfl (lv_at hl 0 rfl) ?_
      refine lv_aload_n hx hb dX8_forStatement_109 rfl (lv_at hl 1 rfl) ?_
      refine lv_iconst (v := 1) hx hb dX8_forStatement_110 (by decide) ?_
      have hO : OKP G h0 a (upd (upd (upd (upd (upd (upd (upd (upd (upd (upd F 2 (nI sz)) 9 (nI at9)) 10 (nI dp)) 11 (nI sg)) 9 (nI (at2 + 1))) 11 (nI sg2)) 2 (nI sz)) 9 (nI (at2 + 1))) 10 (nI dp)) 11 (nI sg2)) R Z (updA B 10 f2) J K2 w := hO.to rfl
      obtain ⟨_, qr94, hqr95⟩ := hO.2.1 23 _ (sg_23 G h0 a _ _ _ _ _)
      refine pn_V0 (G := G) (As := [.int (nI 1)]) (rest := [.ref q2]) hx hb hml hown hq hE hX pX0_al hP hD hS hA hl.1 (P_simple l G h0 a (upd (upd (upd (upd (upd (upd F 2 (nI sz)) 9 (nI at9)) 10 (nI dp)) 11 (nI sg)) 9 (nI (at2 + 1))) 11 (nI sg2)) R Z (updA B 10 f2) J K2 w 1 n (at2 + 1) sz dp sg2 0 g2 (by omega) (by omega) hdp (by omega) hns2.1 (fun o9 h9 => absurd h9 (by omega)) (by omega) hO hl0) (gV pw_1018 pw_1019 pw_1020 pw_796 pw_994) hV_X8_simple qr94 5 hqr95 rfl rfl rfl (Nat.le_of_ble_eq_true rfl) dX8_forStatement_111 ⟨(by show (2 * (at2 - at9) - 4) + (2 * (sz - (at2 + 1)) + 20) ≤ (2 * (sz - at9) + 20); omega), (by show (11 * (2 * (at2 - at9) - 4)) + (11 * (2 * (sz - (at2 + 1)) + 20)) ≤ (11 * (2 * (sz - at9) + 20)); omega)⟩ ⟨(by show (40 * n + 44) + 1 ≤ (50 * n + 58); omega), (by show 8 + (5 + 11) + (1300 * n + 1400) ≤ (1500 * n + 1650); omega)⟩ (fun v93 u91 H locs hw92 hP hD hS => ?_) (fun ux ce9 q9 H9 locs9 hux hP9 hD9 hS9 hce hcv hcl => pb_out ux (ThQ.up (Thx.same (Thx.same (Thx.same (Thx.same (Thx.b (Thx.f (Thx.f Thx.rfl (by omega)) (by omega)) (by omega) (by decide)) rfl) rfl) rfl) rfl) hux) hnt hlocks hce hcv hcl hP9 hD9 hS9 (by show (2 * (at2 - at9) - 4) + (2 * (sz - (at2 + 1)) + 20) ≤ (2 * (sz - at9) + 20); omega) (by show (11 * (2 * (at2 - at9) - 4)) + (11 * (2 * (sz - (at2 + 1)) + 20)) ≤ (11 * (2 * (sz - at9) + 20)); omega))
      obtain ⟨w, r96, K97, g98, at99, sg100, f101⟩ := u91
      obtain ⟨hw92, h102, h103, h104, hO⟩ := hw92
      have h102 : NwR K2 K97 g2 g98 r96 0 (at2 + 1) (168) := h102
      have h103 : (at2 + 1) + 1 ≤ at99 ∧ at99 ≤ sz := h103
      have h104 : sg2 ≤ sg100 ∧ sg100 ≤ 60 := h104
      obtain rfl : v93 = some (.ref r96) := hw92
      have hf105 : K97.1 q2 = 1 := (((h102).2.1.1 q2 (by rw [hq2]; decide)).1).trans hq2
      have hf106 : K97.2.1 0 q2 = 27 := (((h102).2.1.1 q2 (by rw [hq2]; decide)).2.1 0).trans hkd2
      have hf107 : K97.2.2.1 2 q2 = none := (((h102).2.1.1 q2 (by rw [hq2]; decide)).2.2.1 2).trans hc22
      have hf108 : K97.2.2.1 3 q2 = none := (((h102).2.1.1 q2 (by rw [hq2]; decide)).2.2.1 3).trans hc23
      have hf109 : K97.2.2.1 4 q2 = none := (((h102).2.1.1 q2 (by rw [hq2]; decide)).2.2.1 4).trans hc24
      have hf110 : K97.2.2.1 0 q2 = oa := (((h102).2.1.1 q2 (by rw [hq2]; decide)).2.2.1 0).trans hc20
      have hf111 : K97.2.2.1 1 q2 = ob := (((h102).2.1.1 q2 (by rw [hq2]; decide)).2.2.1 1).trans hc21
      have hO : OKP G h0 a (upd (upd (upd (upd F 2 (nI sz)) 9 (nI at99)) 10 (nI dp)) 11 (nI sg100)) R Z (updA B 10 f101) J K97 w := hO.to rfl
      refine W.widen (k := ((2 * (at2 - at9) - 4) + (2 * (at99 - (at2 + 1)) - 0))) (n := ((11 * (2 * (at2 - at9) - 4)) + (11 * (2 * (at99 - (at2 + 1)) - 0)))) (by show (2 * (at2 - at9) - 4) + (2 * (at99 - (at2 + 1)) - 0) ≤ ((2 * (at2 - at9) - 4) + (2 * (at99 - (at2 + 1)) - 0)); omega) (by show (11 * (2 * (at2 - at9) - 4)) + (11 * (2 * (at99 - (at2 + 1)) - 0)) ≤ ((11 * (2 * (at2 - at9) - 4)) + (11 * (2 * (at99 - (at2 + 1)) - 0))); omega) ?_
      refine W.eq (g2 := F0 m 114 ls [.ref r96, .ref q2]) rfl ?_
      have hns112 : NwS K K97 g g98 := NwS.call hns2 h102 (fun o9 h9 => absurd h9 (by omega))
      have hf113 : K97.1 r96 = 1 := h102.2.2.1.2.1
      have hg114 : g98 0 q2 = 0 := (h102.2.1.2 q2 (by rw [hq2]; decide) 0).trans hg20
      have hno115 : NoO K97 g98 q2 := NoO.call hno2 h102 hq2 (by omega)
      have hgy116 := h102.2.2.1
      have hgy116a := hgy116.2.2.1
      have hgy116b := hgy116.2.2.2.1
      have hka117 := KdO.ext hoa h102.2.1
      have hkb118 := KdO.ext hob h102.2.1
      refine p_put (v := .ref r96) (ty := (.object "JinjaTongue$Node")) (C := RX7) (Tc := TX7) (N := 11) (ci := 13) (K' := (kC K97 2 q2 (some r96))) hx hb hq pin_wsX70 tyX7 tyX7_ok nmX7 hown hE hP hD hS hO (by rw [hf105]; decide) (rep_1 hf105) rfl 8 (by decide) (hq _ pw_943) (fun _ h9 => h9) rfl (by decide +kernel) rfl rfl (Nat.le_of_ble_eq_true rfl) rfl (by rw [rep_1 (show (kC K97 2 q2 (some r96)).1 q2 = 1 from hf105), pc_2] <;> rfl) (fun p9 hp9 => rep_kC hp9) dX8_forStatement_114 (fun H locs w hP hD hS hO => ?_)
      obtain ⟨K119, hK120⟩ : ∃ z : PK, z = (kC K97 2 q2 (some r96)) := ⟨_, rfl⟩
      rw [← hK120] at hO
      have hf121 : K119.1 q2 = 1 := (by rw [hK120]; exact hf105)
      have hf122 : K119.2.1 0 q2 = 27 := (by rw [hK120]; exact hf106)
      have hf123 : K119.2.2.1 3 q2 = none := (by rw [hK120]; exact (kC_of (by decide)).trans hf108)
      have hf124 : K119.2.2.1 4 q2 = none := (by rw [hK120]; exact (kC_of (by decide)).trans hf109)
      have hf125 : K119.2.2.1 0 q2 = oa := (by rw [hK120]; exact (kC_of (by decide)).trans hf110)
      have hf126 : K119.2.2.1 1 q2 = ob := (by rw [hK120]; exact (kC_of (by decide)).trans hf111)
      have hf127 : K119.1 r96 = 1 := (by rw [hK120]; exact hf113)
      have hf128 : K119.2.2.1 2 q2 = some r96 := by rw [hK120]; exact kC_eq
      have hns129 : NwS K K119 g g98 := by rw [hK120]; exact NwS.put hns112 hq20 hg114
      have hno130 : NoO K119 g98 q2 := by rw [hK120]; exact hno115
      have hka131 : KdO K119 g98 oa (173 + 3 * (20 - dp)) := by rw [hK120]; exact hka117
      have hkb132 : KdO K119 g98 ob (173 + 3 * (20 - dp)) := by rw [hK120]; exact hkb118
      refine lv_aload_n hx hb dX8_forStatement_117 rfl (lv_at hl 1 rfl) ?_
      refine lv_bipush (v := 35) hx hb dX8_forStatement_118 (by decide) ?_
      have hO : OKW G h0 a (upd (upd (upd (upd (upd (upd (upd (upd F 2 (nI sz)) 9 (nI at9)) 10 (nI dp)) 11 (nI sg)) 9 (nI at99)) 11 (nI sg100)) 2 (nI sz)) 9 (nI at99)) R Z (updA B 10 f101) J K119.1 (fun q99 x99 => x99 = rep G a K119 q99) w := hO.to rfl
      obtain ⟨_, qr136, hqr137⟩ := hO.2.1 23 _ (sg_23 G h0 a _ _ _ _ _)
      refine pn_V0 (G := G) (As := [.int 35]) (rest := []) hx hb hml hown hq hE hX pX0_al hP hD hS hA hl.1 (P_take l G h0 a (upd (upd (upd (upd (upd (upd F 2 (nI sz)) 9 (nI at9)) 10 (nI dp)) 11 (nI sg)) 9 (nI at99)) 11 (nI sg100)) R Z (updA B 10 f101) J K119.1 (fun q99 x99 => x99 = rep G a K119 q99) w 35 at99 sz (by omega) (by omega) (by decide) hO hl0) (gV pw_793 pw_794 pw_795 pw_796 pw_781) hV_X8_take qr136 5 hqr137 rfl rfl rfl (Nat.le_of_ble_eq_true rfl) dX8_forStatement_120 ⟨(by show ((2 * (at2 - at9) - 4) + (2 * (at99 - (at2 + 1)) - 0)) + 1 ≤ (2 * (sz - at9) + 20); omega), (by show ((11 * (2 * (at2 - at9) - 4)) + (11 * (2 * (at99 - (at2 + 1)) - 0))) + 6 ≤ (11 * (2 * (sz - at9) + 20)); omega)⟩ ⟨(by show 7 + 1 ≤ (50 * n + 58); omega), (by show 8 + (2 + 11) + 122 ≤ (1500 * n + 1650); omega)⟩ (fun v135 u133 H locs hw134 hP hD hS => ?_) (fun ux ce9 q9 H9 locs9 hux hP9 hD9 hS9 hce hcv hcl => pb_out ux (ThQ.up (Thx.same (Thx.same (Thx.b (Thx.f (Thx.f Thx.rfl (by omega)) (by omega)) (by omega) (by decide)) rfl) rfl) hux) hnt hlocks hce hcv hcl hP9 hD9 hS9 (by show ((2 * (at2 - at9) - 4) + (2 * (at99 - (at2 + 1)) - 0)) + 1 ≤ (2 * (sz - at9) + 20); omega) (by show ((11 * (2 * (at2 - at9) - 4)) + (11 * (2 * (at99 - (at2 + 1)) - 0))) + 6 ≤ (11 * (2 * (sz - at9) + 20)); omega))
      obtain ⟨w, _⟩ := u133
      obtain ⟨hw134, h138, hO⟩ := hw134
      have h138 : at99 + 1 ≤ sz := h138
      obtain rfl : v135 = some (.int (nI at99)) := hw134
      have hO : OKP G h0 a (upd (upd (upd (upd F 2 (nI sz)) 9 (nI (at99 + 1))) 10 (nI dp)) 11 (nI sg100)) R Z (updA B 10 f101) J K119 w := hO.to rfl
      refine W.widen (k := ((2 * (at2 - at9) - 4) + (2 * (at99 - (at2 + 1)) - 0))) (n := ((11 * (2 * (at2 - at9) - 4)) + (11 * (2 * (at99 - (at2 + 1)) - 0)))) (by show ((2 * (at2 - at9) - 4) + (2 * (at99 - (at2 + 1)) - 0)) + 0 ≤ ((2 * (at2 - at9) - 4) + (2 * (at99 - (at2 + 1)) - 0)); omega) (by show ((11 * (2 * (at2 - at9) - 4)) + (11 * (2 * (at99 - (at2 + 1)) - 0))) + 0 ≤ ((11 * (2 * (at2 - at9) - 4)) + (11 * (2 * (at99 - (at2 + 1)) - 0))); omega) ?_
      refine W.eq (g2 := F0 m 123 ls [.int (nI at99)]) rfl ?_
      refine lv_pop hx hb dX8_forStatement_123 rfl ?_
      refine lv_aload_n hx hb dX8_forStatement_124 rfl (lv_at hl 0 rfl) ?_
      refine lv_aload_n hx hb dX8_forStatement_125 rfl (lv_at hl 1 rfl) ?_
      refine lv_iconst (v := 0) hx hb dX8_forStatement_126 (by decide) ?_
      have hO : OKP G h0 a (upd (upd (upd (upd (upd (upd (upd (upd (upd (upd F 2 (nI sz)) 9 (nI at9)) 10 (nI dp)) 11 (nI sg)) 9 (nI (at99 + 1))) 11 (nI sg100)) 2 (nI sz)) 9 (nI (at99 + 1))) 10 (nI dp)) 11 (nI sg100)) R Z (updA B 10 f101) J K119 w := hO.to rfl
      obtain ⟨_, qr142, hqr143⟩ := hO.2.1 23 _ (sg_23 G h0 a _ _ _ _ _)
      refine pn_V0 (G := G) (As := [.int (nI 0)]) (rest := [.ref q2]) hx hb hml hown hq hE hX pX0_al hP hD hS hA hl.1 (ist h0 a (upd (upd (upd (upd (upd (upd F 2 (nI sz)) 9 (nI at9)) 10 (nI dp)) 11 (nI sg)) 9 (nI (at99 + 1))) 11 (nI sg100)) R Z (updA B 10 f101) J K119 w 0 (at99 + 1) sz dp sg100 0 g98 (by omega) (by omega) hdp (by omega) hns129.1 (fun o9 h9 => absurd h9 (by omega)) (by omega) hO hl0) (gV pw_1003 pw_1004 pw_1005 pw_796 pw_1025) hV_X8_statement qr142 5 hqr143 rfl rfl rfl (Nat.le_of_ble_eq_true rfl) dX8_forStatement_127 ⟨(by show ((2 * (at2 - at9) - 4) + (2 * (at99 - (at2 + 1)) - 0)) + (2 * (sz - (at99 + 1)) + 20) ≤ (2 * (sz - at9) + 20); omega), (by show ((11 * (2 * (at2 - at9) - 4)) + (11 * (2 * (at99 - (at2 + 1)) - 0))) + (11 * (2 * (sz - (at99 + 1)) + 20)) ≤ (11 * (2 * (sz - at9) + 20)); omega)⟩ ⟨(by show (50 * n + 50) + 1 ≤ (50 * n + 58); omega), (by show 8 + (5 + 11) + (1500 * n + 1500) ≤ (1500 * n + 1650); omega)⟩ (fun v141 u139 H locs hw140 hP hD hS => ?_) (fun ux ce9 q9 H9 locs9 hux hP9 hD9 hS9 hce hcv hcl => pb_out ux (ThQ.up (Thx.same (Thx.same (Thx.same (Thx.same (Thx.b (Thx.f (Thx.f Thx.rfl (by omega)) (by omega)) (by omega) (by decide)) rfl) rfl) rfl) rfl) hux) hnt hlocks hce hcv hcl hP9 hD9 hS9 (by show ((2 * (at2 - at9) - 4) + (2 * (at99 - (at2 + 1)) - 0)) + (2 * (sz - (at99 + 1)) + 20) ≤ (2 * (sz - at9) + 20); omega) (by show ((11 * (2 * (at2 - at9) - 4)) + (11 * (2 * (at99 - (at2 + 1)) - 0))) + (11 * (2 * (sz - (at99 + 1)) + 20)) ≤ (11 * (2 * (sz - at9) + 20)); omega))
      obtain ⟨w, r144, K145, g146, at147, sg148, f149⟩ := u139
      obtain ⟨hw140, h150, h151, h152, hO⟩ := hw140
      have h150 : NwR K119 K145 g98 g146 r144 0 (at99 + 1) ((170 + 3 * (20 - dp))) := h150
      have h151 : (at99 + 1) + 1 ≤ at147 ∧ at147 ≤ sz := h151
      have h152 : sg100 ≤ sg148 ∧ sg148 ≤ 60 := h152
      obtain rfl : v141 = some (.ref r144) := hw140
      have hf153 : K145.1 q2 = 1 := (((h150).2.1.1 q2 (by rw [hf121]; decide)).1).trans hf121
      have hf154 : K145.2.1 0 q2 = 27 := (((h150).2.1.1 q2 (by rw [hf121]; decide)).2.1 0).trans hf122
      have hf155 : K145.2.2.1 3 q2 = none := (((h150).2.1.1 q2 (by rw [hf121]; decide)).2.2.1 3).trans hf123
      have hf156 : K145.2.2.1 4 q2 = none := (((h150).2.1.1 q2 (by rw [hf121]; decide)).2.2.1 4).trans hf124
      have hf157 : K145.2.2.1 0 q2 = oa := (((h150).2.1.1 q2 (by rw [hf121]; decide)).2.2.1 0).trans hf125
      have hf158 : K145.2.2.1 1 q2 = ob := (((h150).2.1.1 q2 (by rw [hf121]; decide)).2.2.1 1).trans hf126
      have hf159 : K145.1 r96 = 1 := (((h150).2.1.1 r96 (by rw [hf127]; decide)).1).trans hf127
      have hf160 : K145.2.2.1 2 q2 = some r96 := (((h150).2.1.1 q2 (by rw [hf121]; decide)).2.2.1 2).trans hf128
      have hO : OKP G h0 a (upd (upd (upd (upd F 2 (nI sz)) 9 (nI at147)) 10 (nI dp)) 11 (nI sg148)) R Z (updA B 10 f149) J K145 w := hO.to rfl
      refine W.widen (k := (((2 * (at2 - at9) - 4) + (2 * (at99 - (at2 + 1)) - 0)) + (2 * (at147 - (at99 + 1)) - 1))) (n := (((11 * (2 * (at2 - at9) - 4)) + (11 * (2 * (at99 - (at2 + 1)) - 0))) + (11 * (2 * (at147 - (at99 + 1)) - 1)))) (by show ((2 * (at2 - at9) - 4) + (2 * (at99 - (at2 + 1)) - 0)) + (2 * (at147 - (at99 + 1)) - 1) ≤ (((2 * (at2 - at9) - 4) + (2 * (at99 - (at2 + 1)) - 0)) + (2 * (at147 - (at99 + 1)) - 1)); omega) (by show ((11 * (2 * (at2 - at9) - 4)) + (11 * (2 * (at99 - (at2 + 1)) - 0))) + (11 * (2 * (at147 - (at99 + 1)) - 1)) ≤ (((11 * (2 * (at2 - at9) - 4)) + (11 * (2 * (at99 - (at2 + 1)) - 0))) + (11 * (2 * (at147 - (at99 + 1)) - 1))); omega) ?_
      refine W.eq (g2 := F0 m 130 ls [.ref r144, .ref q2]) rfl ?_
      have hns161 : NwS K K145 g g146 := NwS.call hns129 h150 (fun o9 h9 => absurd h9 (by omega))
      have hf162 : K145.1 r144 = 1 := h150.2.2.1.2.1
      have hg163 : g146 0 q2 = 0 := (h150.2.1.2 q2 (by rw [hf121]; decide) 0).trans hg114
      have hno164 : NoO K145 g146 q2 := NoO.call hno130 h150 hf121 (by omega)
      have hgz165 : g146 0 r96 = g98 0 r96 := h150.2.1.2 r96 (by rw [hf127]; decide) 0
      have hgy166 := h150.2.2.1
      have hgy166a := hgy166.2.2.1
      have hgy166b := hgy166.2.2.2.1
      have hka167 := KdO.ext hka131 h150.2.1
      have hkb168 := KdO.ext hkb132 h150.2.1
      refine p_put (v := .ref r144) (ty := (.object "JinjaTongue$Node")) (C := RX7) (Tc := TX7) (N := 11) (ci := 13) (K' := (kC K145 3 q2 (some r144))) hx hb hq pin_wsX70 tyX7 tyX7_ok nmX7 hown hE hP hD hS hO (by rw [hf153]; decide) (rep_1 hf153) rfl 9 (by decide) (hq _ pw_1011) (fun _ h9 => h9) rfl (by decide +kernel) rfl rfl (Nat.le_of_ble_eq_true rfl) rfl (by rw [rep_1 (show (kC K145 3 q2 (some r144)).1 q2 = 1 from hf153), pc_3] <;> rfl) (fun p9 hp9 => rep_kC hp9) dX8_forStatement_130 (fun H locs w hP hD hS hO => ?_)
      obtain ⟨K169, hK170⟩ : ∃ z : PK, z = (kC K145 3 q2 (some r144)) := ⟨_, rfl⟩
      rw [← hK170] at hO
      have hf171 : K169.1 q2 = 1 := (by rw [hK170]; exact hf153)
      have hf172 : K169.2.1 0 q2 = 27 := (by rw [hK170]; exact hf154)
      have hf173 : K169.2.2.1 4 q2 = none := (by rw [hK170]; exact (kC_of (by decide)).trans hf156)
      have hf174 : K169.2.2.1 0 q2 = oa := (by rw [hK170]; exact (kC_of (by decide)).trans hf157)
      have hf175 : K169.2.2.1 1 q2 = ob := (by rw [hK170]; exact (kC_of (by decide)).trans hf158)
      have hf176 : K169.1 r96 = 1 := (by rw [hK170]; exact hf159)
      have hf177 : K169.2.2.1 2 q2 = some r96 := (by rw [hK170]; exact (kC_of (by decide)).trans hf160)
      have hf178 : K169.1 r144 = 1 := (by rw [hK170]; exact hf162)
      have hf179 : K169.2.2.1 3 q2 = some r144 := by rw [hK170]; exact kC_eq
      have hns180 : NwS K K169 g g146 := by rw [hK170]; exact NwS.put hns161 hq20 hg163
      have hno181 : NoO K169 g146 q2 := by rw [hK170]; exact hno164
      have hka182 : KdO K169 g146 oa (173 + 3 * (20 - dp)) := by rw [hK170]; exact hka167
      have hkb183 : KdO K169 g146 ob (173 + 3 * (20 - dp)) := by rw [hK170]; exact hkb168
      refine lv_aload_n hx hb dX8_forStatement_133 rfl (lv_at hl 0 rfl) ?_
      refine W_size (fun hz1 hz2 => ?_)
      refine vx_ret ?_
      have hkid : ∀ f9 y9 : Nat, f9 ≤ 3 → K169.2.2.1 f9 q2 = some y9 → K169.1 y9 = 1 ∧ 1 ≤ g146 0 y9 ∧ g146 0 y9 < (173 + 3 * (20 - dp)) := by
        intro f9 y9 hf9 hy9
        rcases (show f9 = 0 ∨ f9 = 1 ∨ f9 = 2 ∨ f9 = 3 by omega) with rfl | rfl | rfl | rfl
        · rw [hf174] at hy9; exact hka182 y9 hy9
        · rw [hf175] at hy9; exact hkb183 y9 hy9
        · rw [hf177] at hy9; cases hy9; exact ⟨hf176, by omega, by omega⟩
        · rw [hf179] at hy9; cases hy9; exact ⟨hf178, by omega, by omega⟩
      have hdn := NwS.done1 (q := q2) (L := (173 + 3 * (20 - dp))) (O := O) (k := at9) hns180 hq20 hf171 hg163 (by omega) (by omega) (by rw [hf172]; exact ⟨(fun z => absurd z (by decide)), (fun z => absurd z (by decide)), (fun z => absurd z (by decide)), (fun z => absurd z (by decide)), fun _ => (by show ¬ K169.2.2.1 3 q2 = none; rw [hf179]; intro z; cases z)⟩) (fun f9 z => by rw [hf172] at z; rcases z with ⟨z, _⟩ | ⟨z | z | z, _⟩ <;> exact absurd z (by decide)) hkid hf173 hno181 (fun f9 x9 _ _ => Kch.no (by rw [hf172]; decide)) how
      have hz184 : NwR K K169 g (gset g146 q2 (173 + 3 * (20 - dp)) O at9) q2 O at9 ((173 + 3 * (20 - dp))) := hdn
      have hz185 : at9 + 6 ≤ at147 ∧ at147 ≤ sz := (by omega)
      have hz186 : sg ≤ sg148 ∧ sg148 ≤ 60 := (by omega)
      have hO : OKP G h0 a (upd (upd (upd (upd F 2 (nI sz)) 9 (nI at147)) 10 (nI dp)) 11 (nI sg148)) R Z (updA B 10 f149) J K169 w := hO.to rfl
      refine W.widen (k := (2 * (sz - at9) + 20)) (n := (11 * (2 * (sz - at9) + 20))) (by omega) (by omega) ?_
      have hzz1 : H.size ≤ s.heap.size + ((2 * (at147 - at9) - 6)) := (by have z : (((2 * (at2 - at9) - 4) + (2 * (at99 - (at2 + 1)) - 0)) + (2 * (at147 - (at99 + 1)) - 1)) ≤ (2 * (at147 - at9) - 6) := (by omega); omega)
      have hzz2 : hSl H ≤ hSl s.heap + ((11 * (2 * (at147 - at9) - 6))) := (by have z : (((11 * (2 * (at2 - at9) - 4)) + (11 * (2 * (at99 - (at2 + 1)) - 0))) + (11 * (2 * (at147 - (at99 + 1)) - 1))) ≤ (11 * (2 * (at147 - at9) - 6)) := (by omega); omega)
      exact W.aret (v := .ref q2) hx hb hr (Or.inl ⟨_, rfl⟩) (Or.inr ⟨_, rfl⟩) (fun t99 ht99 hW99 => ⟨⟨_, (w, (q2, K169, (gset g146 q2 (173 + 3 * (20 - dp)) O at9), at147, sg148, f149)), rfl, ⟨rfl, hz184, hz185, hz186, hO⟩, by rw [ht99]; exact hP, hD, by rw [ht99]; exact hzz1, by rw [ht99]; exact hzz2⟩, hS.F ht99⟩) hS.2.2 dX8_forStatement_134
  refine lv_aload_n hx hb dX8_forStatement_18 rfl (lv_at hl 1 rfl) ?_
  refine lv_dup hx hb dX8_forStatement_19 rfl ?_
  refine c_get (v := .int (nI at9)) (C := RX8) (Tc := TX8) (N := 5) (ci := 5) hx hb hq pin_wsX80 hown hE hP hO 23 (sg_23 G h0 a _ _ _ _ _) rfl 2 (by decide) (hq _ pw_776) (fun _ h9 => h9) rfl dX8_forStatement_20 ?_
  refine lv_iconst (v := 1) hx hb dX8_forStatement_23 (by decide) ?_
  refine lv_iadd hx hb dX8_forStatement_24 ?_
  refine lv_topi (fun x187 e188 => ?_)
  obtain rfl : x187 = nI (at9 + 1) := e188.trans (nI_add (at9) (1))
  refine c_put (v := .int (nI (at9 + 1))) (ty := .int) (C := RX8) (Tc := TX8) (N := 5) (ci := 5) hx hb hq pin_wsX80 tyX8 tyX8_ok nmX8 hown hE hP hD hS hO 23 (sg_23 G h0 a _ _ _ _ _) rfl 2 (by decide) (hq _ pw_776) (fun _ h9 => h9) rfl (by decide +kernel) rfl rfl (Nat.le_of_ble_eq_true rfl) (sf_9 G h0 a _ _ _ _ _ (nI (at9 + 1))) dX8_forStatement_25 (fun H locs w hP hD hS hO => ?_)
  refine lv_aload_n hx hb dX8_forStatement_28 rfl (lv_at hl 1 rfl) ?_
  refine lv_bipush (v := 34) hx hb dX8_forStatement_29 (by decide) ?_
  have hO : OKW G h0 a (upd (upd (upd (upd (upd (upd (upd F 2 (nI sz)) 9 (nI at9)) 10 (nI dp)) 11 (nI sg)) 9 (nI (at9 + 1))) 2 (nI sz)) 9 (nI (at9 + 1))) R Z B J K10.1 (fun q99 x99 => x99 = rep G a K10 q99) w := hO.to rfl
  obtain ⟨_, qr192, hqr193⟩ := hO.2.1 23 _ (sg_23 G h0 a _ _ _ _ _)
  refine pn_V0 (G := G) (As := [.int 34]) (rest := []) hx hb hml hown hq hE hX pX0_al hP hD hS hA hl.1 (P_take l G h0 a (upd (upd (upd (upd (upd F 2 (nI sz)) 9 (nI at9)) 10 (nI dp)) 11 (nI sg)) 9 (nI (at9 + 1))) R Z B J K10.1 (fun q99 x99 => x99 = rep G a K10 q99) w 34 (at9 + 1) sz (by omega) (by omega) (by decide) hO hl0) (gV pw_793 pw_794 pw_795 pw_796 pw_781) hV_X8_take qr192 5 hqr193 rfl rfl rfl (Nat.le_of_ble_eq_true rfl) dX8_forStatement_31 ⟨(by show 1 + 1 ≤ (2 * (sz - at9) + 20); omega), (by show 11 + 6 ≤ (11 * (2 * (sz - at9) + 20)); omega)⟩ ⟨(by show 7 + 1 ≤ (50 * n + 58); omega), (by show 8 + (2 + 11) + 122 ≤ (1500 * n + 1650); omega)⟩ (fun v191 u189 H locs hw190 hP hD hS => ?_) (fun ux ce9 q9 H9 locs9 hux hP9 hD9 hS9 hce hcv hcl => pb_out ux (ThQ.up (Thx.same (Thx.same (Thx.f Thx.rfl (by omega)) rfl) rfl) hux) hnt hlocks hce hcv hcl hP9 hD9 hS9 (by show 1 + 1 ≤ (2 * (sz - at9) + 20); omega) (by show 11 + 6 ≤ (11 * (2 * (sz - at9) + 20)); omega))
  obtain ⟨w, _⟩ := u189
  obtain ⟨hw190, h194, hO⟩ := hw190
  have h194 : (at9 + 1) + 1 ≤ sz := h194
  obtain rfl : v191 = some (.int (nI (at9 + 1))) := hw190
  have hO : OKP G h0 a (upd (upd (upd (upd F 2 (nI sz)) 9 (nI ((at9 + 1) + 1))) 10 (nI dp)) 11 (nI sg)) R Z B J K10 w := hO.to rfl
  refine W.widen (k := 1) (n := 11) (by show 1 + 0 ≤ 1; omega) (by show 11 + 0 ≤ 11; omega) ?_
  refine W.eq (g2 := F0 m 34 ls [.int (nI (at9 + 1))]) rfl ?_
  refine lv_pop hx hb dX8_forStatement_34 rfl ?_
  refine lv_aload_n hx hb dX8_forStatement_35 rfl (lv_at hl 1 rfl) ?_
  refine lv_bipush (v := 38) hx hb dX8_forStatement_36 (by decide) ?_
  have hO : OKW G h0 a (upd (upd (upd (upd (upd (upd F 2 (nI sz)) 9 (nI ((at9 + 1) + 1))) 10 (nI dp)) 11 (nI sg)) 2 (nI sz)) 9 (nI ((at9 + 1) + 1))) R Z B J K10.1 (fun q99 x99 => x99 = rep G a K10 q99) w := hO.to rfl
  obtain ⟨_, qr198, hqr199⟩ := hO.2.1 23 _ (sg_23 G h0 a _ _ _ _ _)
  refine pc_V0 (G := G) (As := [.int 38]) (rest := []) hx hb hml hown hq hE hX pX0_al hP hD hS hA hl.1 (P_sees l G h0 a (upd (upd (upd (upd F 2 (nI sz)) 9 (nI ((at9 + 1) + 1))) 10 (nI dp)) 11 (nI sg)) R Z B J K10.1 (fun q99 x99 => x99 = rep G a K10 q99) w 38 ((at9 + 1) + 1) sz (by omega) (by omega) hO) (gV pw_803 pw_804 pw_805 pw_796 pw_775) hV_X8_sees qr198 5 hqr199 rfl rfl rfl (Nat.le_of_ble_eq_true rfl) dX8_forStatement_38 ⟨(by show 1 + 0 ≤ (2 * (sz - at9) + 20); omega), (by show 11 + 0 ≤ (11 * (2 * (sz - at9) + 20)); omega)⟩ ⟨(by show 3 + 1 ≤ (50 * n + 58); omega), (by show 8 + (2 + 11) + 81 ≤ (1500 * n + 1650); omega)⟩ (fun v197 u195 H locs hw196 hP hD hS => ?_)
  obtain ⟨w, r200⟩ := u195
  obtain ⟨hw196, h201, hO⟩ := hw196
  have h201 : r200 ≤ 1 := h201
  obtain rfl : v197 = some (.int (nI r200)) := hw196
  have hO : OKP G h0 a (upd (upd (upd (upd F 2 (nI sz)) 9 (nI ((at9 + 1) + 1))) 10 (nI dp)) 11 (nI sg)) R Z B J K10 w := hO.to rfl
  refine W.widen (k := 1) (n := 11) (by show 1 + 0 ≤ 1; omega) (by show 11 + 0 ≤ 11; omega) ?_
  refine W.eq (g2 := F0 m 41 ls [.int (nI r200)]) rfl ?_
  refine lv_if_ne (tgt := 68) hx hb dX8_forStatement_41 (by decide) (fun c202 => ?_) (fun c202 => ?_)
  · have n203 : ¬ (r200 = 0) := fun h9 => c202 ((nI_eq (a := r200) (b := 0) (by omega) (by omega)).mpr h9)
    refine lv_aload_n hx hb dX8_forStatement_68 rfl (lv_at hl 1 rfl) ?_
    refine lv_bipush (v := 38) hx hb dX8_forStatement_69 (by decide) ?_
    have hO : OKW G h0 a (upd (upd (upd (upd (upd (upd (upd F 2 (nI sz)) 9 (nI at9)) 10 (nI dp)) 11 (nI sg)) 9 (nI ((at9 + 1) + 1))) 2 (nI sz)) 9 (nI ((at9 + 1) + 1))) R Z B J K10.1 (fun q99 x99 => x99 = rep G a K10 q99) w := hO.to rfl
    obtain ⟨_, qr207, hqr208⟩ := hO.2.1 23 _ (sg_23 G h0 a _ _ _ _ _)
    refine pn_V0 (G := G) (As := [.int 38]) (rest := []) hx hb hml hown hq hE hX pX0_al hP hD hS hA hl.1 (P_take l G h0 a (upd (upd (upd (upd (upd F 2 (nI sz)) 9 (nI at9)) 10 (nI dp)) 11 (nI sg)) 9 (nI ((at9 + 1) + 1))) R Z B J K10.1 (fun q99 x99 => x99 = rep G a K10 q99) w 38 ((at9 + 1) + 1) sz (by omega) (by omega) (by decide) hO hl0) (gV pw_793 pw_794 pw_795 pw_796 pw_781) hV_X8_take qr207 5 hqr208 rfl rfl rfl (Nat.le_of_ble_eq_true rfl) dX8_forStatement_71 ⟨(by show 1 + 1 ≤ (2 * (sz - at9) + 20); omega), (by show 11 + 6 ≤ (11 * (2 * (sz - at9) + 20)); omega)⟩ ⟨(by show 7 + 1 ≤ (50 * n + 58); omega), (by show 8 + (2 + 11) + 122 ≤ (1500 * n + 1650); omega)⟩ (fun v206 u204 H locs hw205 hP hD hS => ?_) (fun ux ce9 q9 H9 locs9 hux hP9 hD9 hS9 hce hcv hcl => pb_out ux (ThQ.up (Thx.same (Thx.same (Thx.f Thx.rfl (by omega)) rfl) rfl) hux) hnt hlocks hce hcv hcl hP9 hD9 hS9 (by show 1 + 1 ≤ (2 * (sz - at9) + 20); omega) (by show 11 + 6 ≤ (11 * (2 * (sz - at9) + 20)); omega))
    obtain ⟨w, _⟩ := u204
    obtain ⟨hw205, h209, hO⟩ := hw205
    have h209 : ((at9 + 1) + 1) + 1 ≤ sz := h209
    obtain rfl : v206 = some (.int (nI ((at9 + 1) + 1))) := hw205
    have hO : OKP G h0 a (upd (upd (upd (upd F 2 (nI sz)) 9 (nI (((at9 + 1) + 1) + 1))) 10 (nI dp)) 11 (nI sg)) R Z B J K10 w := hO.to rfl
    refine W.widen (k := 1) (n := 11) (by show 1 + 0 ≤ 1; omega) (by show 11 + 0 ≤ 11; omega) ?_
    refine W.eq (g2 := F0 m 74 ls [.int (nI ((at9 + 1) + 1))]) rfl ?_
    refine lv_pop hx hb dX8_forStatement_74 rfl ?_
    refine lv_aload_n hx hb dX8_forStatement_75 rfl (lv_at hl 1 rfl) ?_
    refine lv_bipush (v := 38) hx hb dX8_forStatement_76 (by decide) ?_
    have hO : OKW G h0 a (upd (upd (upd (upd (upd (upd F 2 (nI sz)) 9 (nI (((at9 + 1) + 1) + 1))) 10 (nI dp)) 11 (nI sg)) 2 (nI sz)) 9 (nI (((at9 + 1) + 1) + 1))) R Z B J K10.1 (fun q99 x99 => x99 = rep G a K10 q99) w := hO.to rfl
    obtain ⟨_, qr213, hqr214⟩ := hO.2.1 23 _ (sg_23 G h0 a _ _ _ _ _)
    refine pc_V0 (G := G) (As := [.int 38]) (rest := []) hx hb hml hown hq hE hX pX0_al hP hD hS hA hl.1 (P_sees l G h0 a (upd (upd (upd (upd F 2 (nI sz)) 9 (nI (((at9 + 1) + 1) + 1))) 10 (nI dp)) 11 (nI sg)) R Z B J K10.1 (fun q99 x99 => x99 = rep G a K10 q99) w 38 (((at9 + 1) + 1) + 1) sz (by omega) (by omega) hO) (gV pw_803 pw_804 pw_805 pw_796 pw_775) hV_X8_sees qr213 5 hqr214 rfl rfl rfl (Nat.le_of_ble_eq_true rfl) dX8_forStatement_78 ⟨(by show 1 + 0 ≤ (2 * (sz - at9) + 20); omega), (by show 11 + 0 ≤ (11 * (2 * (sz - at9) + 20)); omega)⟩ ⟨(by show 3 + 1 ≤ (50 * n + 58); omega), (by show 8 + (2 + 11) + 81 ≤ (1500 * n + 1650); omega)⟩ (fun v212 u210 H locs hw211 hP hD hS => ?_)
    obtain ⟨w, r215⟩ := u210
    obtain ⟨hw211, h216, hO⟩ := hw211
    have h216 : r215 ≤ 1 := h216
    obtain rfl : v212 = some (.int (nI r215)) := hw211
    have hO : OKP G h0 a (upd (upd (upd (upd F 2 (nI sz)) 9 (nI (((at9 + 1) + 1) + 1))) 10 (nI dp)) 11 (nI sg)) R Z B J K10 w := hO.to rfl
    refine W.widen (k := 1) (n := 11) (by show 1 + 0 ≤ 1; omega) (by show 11 + 0 ≤ 11; omega) ?_
    refine W.eq (g2 := F0 m 81 ls [.int (nI r215)]) rfl ?_
    refine lv_if_ne (tgt := 92) hx hb dX8_forStatement_81 (by decide) (fun c217 => ?_) (fun c217 => ?_)
    · have n218 : ¬ (r215 = 0) := fun h9 => c217 ((nI_eq (a := r215) (b := 0) (by omega) (by omega)).mpr h9)
      refine W.widen (k := (2 * ((((at9 + 1) + 1) + 1) - at9) - 4)) (n := (11 * (2 * ((((at9 + 1) + 1) + 1) - at9) - 4))) (by show 1 ≤ _; omega) (by show 11 ≤ _; omega) ?_
      have hO : OKP G h0 a (upd (upd (upd (upd F 2 (nI sz)) 9 (nI (((at9 + 1) + 1) + 1))) 10 (nI dp)) 11 (nI sg)) R Z (updA B 10 (B 10)) J K10 w := hO.to rfl
      exact cut_j (((at9 + 1) + 1) + 1) sg (B 10) K10 (gset g q1 0 0 0) q1 none none _ _ _ _ (by omega) (by omega) hns20 hq21 hf12 hg22 hno23 hf13 hf15 hf16 hf17 hf18 hf19 KdO.no KdO.no hP hD hS hO (lv_sub hl [0, 1] rfl)
    · have n219 : r215 = 0 := (nI_eq (a := r215) (b := 0) (by omega) (by omega)).mp c217
      refine lv_aload_n hx hb dX8_forStatement_84 rfl (lv_at hl 0 rfl) ?_
      refine lv_aload_n hx hb dX8_forStatement_85 rfl (lv_at hl 1 rfl) ?_
      have hO : OKP G h0 a (upd (upd (upd (upd (upd (upd (upd (upd (upd F 2 (nI sz)) 9 (nI at9)) 10 (nI dp)) 11 (nI sg)) 9 (nI (((at9 + 1) + 1) + 1))) 2 (nI sz)) 9 (nI (((at9 + 1) + 1) + 1))) 10 (nI dp)) 11 (nI sg)) R Z B J K10 w := hO.to rfl
      obtain ⟨_, qr223, hqr224⟩ := hO.2.1 23 _ (sg_23 G h0 a _ _ _ _ _)
      refine pn_V0 (G := G) (As := []) (rest := [.ref q1]) hx hb hml hown hq hE hX pX0_al hP hD hS hA hl.1 (((PE_all l G n).1) h0 a (upd (upd (upd (upd (upd F 2 (nI sz)) 9 (nI at9)) 10 (nI dp)) 11 (nI sg)) 9 (nI (((at9 + 1) + 1) + 1))) R Z B J K10 w (((at9 + 1) + 1) + 1) sz dp sg 0 (gset g q1 0 0 0) (by omega) (by omega) hdp (by omega) hns20.1 (fun o9 h9 => absurd h9 (by omega)) hO hl0) (gV pw_916 pw_917 pw_918 pw_796 pw_942) hV_X8_expression qr223 5 hqr224 rfl rfl rfl (Nat.le_of_ble_eq_true rfl) dX8_forStatement_86 ⟨(by show 1 + (2 * (sz - (((at9 + 1) + 1) + 1)) + 20) ≤ (2 * (sz - at9) + 20); omega), (by show 11 + (11 * (2 * (sz - (((at9 + 1) + 1) + 1)) + 20)) ≤ (11 * (2 * (sz - at9) + 20)); omega)⟩ ⟨(by show (40 * n + 40) + 1 ≤ (50 * n + 58); omega), (by show 8 + (3 + 11) + (1300 * n + 1300) ≤ (1500 * n + 1650); omega)⟩ (fun v222 u220 H locs hw221 hP hD hS => ?_) (fun ux ce9 q9 H9 locs9 hux hP9 hD9 hS9 hce hcv hcl => pb_out ux (ThQ.up (Thx.same (Thx.same (Thx.same (Thx.same (Thx.f Thx.rfl (by omega)) rfl) rfl) rfl) rfl) hux) hnt hlocks hce hcv hcl hP9 hD9 hS9 (by show 1 + (2 * (sz - (((at9 + 1) + 1) + 1)) + 20) ≤ (2 * (sz - at9) + 20); omega) (by show 11 + (11 * (2 * (sz - (((at9 + 1) + 1) + 1)) + 20)) ≤ (11 * (2 * (sz - at9) + 20)); omega))
      obtain ⟨w, r225, K226, g227, at228, sg229, f230⟩ := u220
      obtain ⟨hw221, h231, h232, h233, hO⟩ := hw221
      have h231 : NwR K10 K226 (gset g q1 0 0 0) g227 r225 0 (((at9 + 1) + 1) + 1) (5 * (20 - dp) + 6 + (sg229 - sg)) := h231
      have h232 : (((at9 + 1) + 1) + 1) + 1 ≤ at228 ∧ at228 ≤ sz := h232
      have h233 : sg ≤ sg229 ∧ sg229 ≤ 60 := h233
      obtain rfl : v222 = some (.ref r225) := hw221
      have hf234 : K226.1 q1 = 1 := (((h231).2.1.1 q1 (by rw [hf12]; decide)).1).trans hf12
      have hf235 : K226.2.1 0 q1 = 27 := (((h231).2.1.1 q1 (by rw [hf12]; decide)).2.1 0).trans hf13
      have hf236 : K226.2.1 2 q1 = (nI at9) := (((h231).2.1.1 q1 (by rw [hf12]; decide)).2.1 2).trans hf14
      have hf237 : K226.2.2.1 0 q1 = none := (((h231).2.1.1 q1 (by rw [hf12]; decide)).2.2.1 0).trans hf15
      have hf238 : K226.2.2.1 1 q1 = none := (((h231).2.1.1 q1 (by rw [hf12]; decide)).2.2.1 1).trans hf16
      have hf239 : K226.2.2.1 2 q1 = none := (((h231).2.1.1 q1 (by rw [hf12]; decide)).2.2.1 2).trans hf17
      have hf240 : K226.2.2.1 3 q1 = none := (((h231).2.1.1 q1 (by rw [hf12]; decide)).2.2.1 3).trans hf18
      have hf241 : K226.2.2.1 4 q1 = none := (((h231).2.1.1 q1 (by rw [hf12]; decide)).2.2.1 4).trans hf19
      have hO : OKP G h0 a (upd (upd (upd (upd F 2 (nI sz)) 9 (nI at228)) 10 (nI dp)) 11 (nI sg229)) R Z (updA B 10 f230) J K226 w := hO.to rfl
      refine W.widen (k := (1 + (2 * (at228 - (((at9 + 1) + 1) + 1)) - 1))) (n := (11 + (11 * (2 * (at228 - (((at9 + 1) + 1) + 1)) - 1)))) (by show 1 + (2 * (at228 - (((at9 + 1) + 1) + 1)) - 1) ≤ (1 + (2 * (at228 - (((at9 + 1) + 1) + 1)) - 1)); omega) (by show 11 + (11 * (2 * (at228 - (((at9 + 1) + 1) + 1)) - 1)) ≤ (11 + (11 * (2 * (at228 - (((at9 + 1) + 1) + 1)) - 1))); omega) ?_
      refine W.eq (g2 := F0 m 89 ls [.ref r225, .ref q1]) rfl ?_
      have hns242 : NwS K K226 g g227 := NwS.call hns20 h231 (fun o9 h9 => absurd h9 (by omega))
      have hf243 : K226.1 r225 = 1 := h231.2.2.1.2.1
      have hg244 : g227 0 q1 = 0 := (h231.2.1.2 q1 (by rw [hf12]; decide) 0).trans hg22
      have hno245 : NoO K226 g227 q1 := NoO.call hno23 h231 hf12 (by omega)
      have hgy246 := h231.2.2.1
      have hgy246a := hgy246.2.2.1
      have hgy246b := hgy246.2.2.2.1
      refine p_put (v := .ref r225) (ty := (.object "JinjaTongue$Node")) (C := RX7) (Tc := TX7) (N := 11) (ci := 13) (K' := (kC K226 1 q1 (some r225))) hx hb hq pin_wsX70 tyX7 tyX7_ok nmX7 hown hE hP hD hS hO (by rw [hf234]; decide) (rep_1 hf234) rfl 7 (by decide) (hq _ pw_910) (fun _ h9 => h9) rfl (by decide +kernel) rfl rfl (Nat.le_of_ble_eq_true rfl) rfl (by rw [rep_1 (show (kC K226 1 q1 (some r225)).1 q1 = 1 from hf234), pc_1] <;> rfl) (fun p9 hp9 => rep_kC hp9) dX8_forStatement_89 (fun H locs w hP hD hS hO => ?_)
      obtain ⟨K247, hK248⟩ : ∃ z : PK, z = (kC K226 1 q1 (some r225)) := ⟨_, rfl⟩
      rw [← hK248] at hO
      have hf249 : K247.1 q1 = 1 := (by rw [hK248]; exact hf234)
      have hf250 : K247.2.1 0 q1 = 27 := (by rw [hK248]; exact hf235)
      have hf251 : K247.2.1 2 q1 = (nI at9) := (by rw [hK248]; exact hf236)
      have hf252 : K247.2.2.1 0 q1 = none := (by rw [hK248]; exact (kC_of (by decide)).trans hf237)
      have hf253 : K247.2.2.1 2 q1 = none := (by rw [hK248]; exact (kC_of (by decide)).trans hf239)
      have hf254 : K247.2.2.1 3 q1 = none := (by rw [hK248]; exact (kC_of (by decide)).trans hf240)
      have hf255 : K247.2.2.1 4 q1 = none := (by rw [hK248]; exact (kC_of (by decide)).trans hf241)
      have hf256 : K247.1 r225 = 1 := (by rw [hK248]; exact hf243)
      have hf257 : K247.2.2.1 1 q1 = some r225 := by rw [hK248]; exact kC_eq
      have hns258 : NwS K K247 g g227 := by rw [hK248]; exact NwS.put hns242 hq21 hg244
      have hno259 : NoO K247 g227 q1 := by rw [hK248]; exact hno245
      refine W.widen (k := (2 * (at228 - at9) - 4)) (n := (11 * (2 * (at228 - at9) - 4))) (by show (1 + (2 * (at228 - (((at9 + 1) + 1) + 1)) - 1)) ≤ _; omega) (by show (11 + (11 * (2 * (at228 - (((at9 + 1) + 1) + 1)) - 1))) ≤ _; omega) ?_
      have hO : OKP G h0 a (upd (upd (upd (upd F 2 (nI sz)) 9 (nI at228)) 10 (nI dp)) 11 (nI sg229)) R Z (updA B 10 f230) J K247 w := hO.to rfl
      exact cut_j at228 sg229 f230 K247 g227 q1 none (some r225) _ _ _ _ (by omega) (by omega) hns258 hq21 hf249 hg244 hno259 hf250 hf252 hf257 hf253 hf254 hf255 KdO.no (KdO.one hf256 (by omega) (by omega)) hP hD hS hO (lv_sub hl [0, 1] rfl)
  · have n260 : r200 = 0 := (nI_eq (a := r200) (b := 0) (by omega) (by omega)).mp c202
    refine lv_aload_n hx hb dX8_forStatement_44 rfl (lv_at hl 0 rfl) ?_
    refine lv_aload_n hx hb dX8_forStatement_45 rfl (lv_at hl 1 rfl) ?_
    have hO : OKW G h0 a (upd (upd (upd (upd (upd (upd F 2 (nI sz)) 9 (nI ((at9 + 1) + 1))) 10 (nI dp)) 11 (nI sg)) 2 (nI sz)) 9 (nI ((at9 + 1) + 1))) R Z B J K10.1 (fun q99 x99 => x99 = rep G a K10 q99) w := hO.to rfl
    obtain ⟨_, qr264, hqr265⟩ := hO.2.1 23 _ (sg_23 G h0 a _ _ _ _ _)
    refine pc_V0 (G := G) (As := []) (rest := [.ref q1]) hx hb hml hown hq hE hX pX0_al hP hD hS hA hl.1 (P_beginsLocal l G h0 a (upd (upd (upd (upd F 2 (nI sz)) 9 (nI ((at9 + 1) + 1))) 10 (nI dp)) 11 (nI sg)) R Z B J K10.1 (fun q99 x99 => x99 = rep G a K10 q99) w ((at9 + 1) + 1) sz (by omega) (by omega) hO) (gV pw_1012 pw_1013 pw_1014 pw_796 pw_899) hV_X8_beginsLocal qr264 5 hqr265 rfl rfl rfl (Nat.le_of_ble_eq_true rfl) dX8_forStatement_46 ⟨(by show 1 + 0 ≤ (2 * (sz - at9) + 20); omega), (by show 11 + 0 ≤ (11 * (2 * (sz - at9) + 20)); omega)⟩ ⟨(by show 4 + 1 ≤ (50 * n + 58); omega), (by show 8 + (2 + 11) + 102 ≤ (1500 * n + 1650); omega)⟩ (fun v263 u261 H locs hw262 hP hD hS => ?_)
    obtain ⟨w, r266⟩ := u261
    obtain ⟨hw262, h267, hO⟩ := hw262
    have h267 : r266 ≤ 1 := h267
    obtain rfl : v263 = some (.int (nI r266)) := hw262
    have hO : OKP G h0 a (upd (upd (upd (upd F 2 (nI sz)) 9 (nI ((at9 + 1) + 1))) 10 (nI dp)) 11 (nI sg)) R Z B J K10 w := hO.to rfl
    refine W.widen (k := 1) (n := 11) (by show 1 + 0 ≤ 1; omega) (by show 11 + 0 ≤ 11; omega) ?_
    refine W.eq (g2 := F0 m 49 ls [.int (nI r266), .ref q1]) rfl ?_
    refine lv_if_eq (tgt := 60) hx hb dX8_forStatement_49 (by decide) (fun c268 => ?_) (fun c268 => ?_)
    · have n269 : r266 = 0 := (nI_eq (a := r266) (b := 0) (by omega) (by omega)).mp c268
      refine lv_aload_n hx hb dX8_forStatement_60 rfl (lv_at hl 1 rfl) ?_
      refine lv_iconst (v := 0) hx hb dX8_forStatement_61 (by decide) ?_
      have hO : OKP G h0 a (upd (upd (upd (upd (upd (upd (upd (upd (upd F 2 (nI sz)) 9 (nI at9)) 10 (nI dp)) 11 (nI sg)) 9 (nI ((at9 + 1) + 1))) 2 (nI sz)) 9 (nI ((at9 + 1) + 1))) 10 (nI dp)) 11 (nI sg)) R Z B J K10 w := hO.to rfl
      obtain ⟨_, qr273, hqr274⟩ := hO.2.1 23 _ (sg_23 G h0 a _ _ _ _ _)
      refine pn_V0 (G := G) (As := [.int (nI 0)]) (rest := [.ref q1]) hx hb hml hown hq hE hX pX0_al hP hD hS hA hl.1 (P_simple l G h0 a (upd (upd (upd (upd (upd F 2 (nI sz)) 9 (nI at9)) 10 (nI dp)) 11 (nI sg)) 9 (nI ((at9 + 1) + 1))) R Z B J K10 w 0 n ((at9 + 1) + 1) sz dp sg 0 (gset g q1 0 0 0) (by omega) (by omega) hdp (by omega) hns20.1 (fun o9 h9 => absurd h9 (by omega)) (by omega) hO hl0) (gV pw_1018 pw_1019 pw_1020 pw_796 pw_994) hV_X8_simple qr273 5 hqr274 rfl rfl rfl (Nat.le_of_ble_eq_true rfl) dX8_forStatement_62 ⟨(by show 1 + (2 * (sz - ((at9 + 1) + 1)) + 20) ≤ (2 * (sz - at9) + 20); omega), (by show 11 + (11 * (2 * (sz - ((at9 + 1) + 1)) + 20)) ≤ (11 * (2 * (sz - at9) + 20)); omega)⟩ ⟨(by show (40 * n + 44) + 1 ≤ (50 * n + 58); omega), (by show 8 + (5 + 11) + (1300 * n + 1400) ≤ (1500 * n + 1650); omega)⟩ (fun v272 u270 H locs hw271 hP hD hS => ?_) (fun ux ce9 q9 H9 locs9 hux hP9 hD9 hS9 hce hcv hcl => pb_out ux (ThQ.up (Thx.same (Thx.same (Thx.same (Thx.same (Thx.f Thx.rfl (by omega)) rfl) rfl) rfl) rfl) hux) hnt hlocks hce hcv hcl hP9 hD9 hS9 (by show 1 + (2 * (sz - ((at9 + 1) + 1)) + 20) ≤ (2 * (sz - at9) + 20); omega) (by show 11 + (11 * (2 * (sz - ((at9 + 1) + 1)) + 20)) ≤ (11 * (2 * (sz - at9) + 20)); omega))
      obtain ⟨w, r275, K276, g277, at278, sg279, f280⟩ := u270
      obtain ⟨hw271, h281, h282, h283, hO⟩ := hw271
      have h281 : NwR K10 K276 (gset g q1 0 0 0) g277 r275 0 ((at9 + 1) + 1) (168) := h281
      have h282 : ((at9 + 1) + 1) + 1 ≤ at278 ∧ at278 ≤ sz := h282
      have h283 : sg ≤ sg279 ∧ sg279 ≤ 60 := h283
      obtain rfl : v272 = some (.ref r275) := hw271
      have hf284 : K276.1 q1 = 1 := (((h281).2.1.1 q1 (by rw [hf12]; decide)).1).trans hf12
      have hf285 : K276.2.1 0 q1 = 27 := (((h281).2.1.1 q1 (by rw [hf12]; decide)).2.1 0).trans hf13
      have hf286 : K276.2.1 2 q1 = (nI at9) := (((h281).2.1.1 q1 (by rw [hf12]; decide)).2.1 2).trans hf14
      have hf287 : K276.2.2.1 0 q1 = none := (((h281).2.1.1 q1 (by rw [hf12]; decide)).2.2.1 0).trans hf15
      have hf288 : K276.2.2.1 1 q1 = none := (((h281).2.1.1 q1 (by rw [hf12]; decide)).2.2.1 1).trans hf16
      have hf289 : K276.2.2.1 2 q1 = none := (((h281).2.1.1 q1 (by rw [hf12]; decide)).2.2.1 2).trans hf17
      have hf290 : K276.2.2.1 3 q1 = none := (((h281).2.1.1 q1 (by rw [hf12]; decide)).2.2.1 3).trans hf18
      have hf291 : K276.2.2.1 4 q1 = none := (((h281).2.1.1 q1 (by rw [hf12]; decide)).2.2.1 4).trans hf19
      have hO : OKP G h0 a (upd (upd (upd (upd F 2 (nI sz)) 9 (nI at278)) 10 (nI dp)) 11 (nI sg279)) R Z (updA B 10 f280) J K276 w := hO.to rfl
      refine W.widen (k := (1 + (2 * (at278 - ((at9 + 1) + 1)) - 0))) (n := (11 + (11 * (2 * (at278 - ((at9 + 1) + 1)) - 0)))) (by show 1 + (2 * (at278 - ((at9 + 1) + 1)) - 0) ≤ (1 + (2 * (at278 - ((at9 + 1) + 1)) - 0)); omega) (by show 11 + (11 * (2 * (at278 - ((at9 + 1) + 1)) - 0)) ≤ (11 + (11 * (2 * (at278 - ((at9 + 1) + 1)) - 0))); omega) ?_
      refine W.eq (g2 := F0 m 65 ls [.ref r275, .ref q1]) rfl ?_
      have hns292 : NwS K K276 g g277 := NwS.call hns20 h281 (fun o9 h9 => absurd h9 (by omega))
      have hf293 : K276.1 r275 = 1 := h281.2.2.1.2.1
      have hg294 : g277 0 q1 = 0 := (h281.2.1.2 q1 (by rw [hf12]; decide) 0).trans hg22
      have hno295 : NoO K276 g277 q1 := NoO.call hno23 h281 hf12 (by omega)
      have hgy296 := h281.2.2.1
      have hgy296a := hgy296.2.2.1
      have hgy296b := hgy296.2.2.2.1
      refine p_put (v := .ref r275) (ty := (.object "JinjaTongue$Node")) (C := RX7) (Tc := TX7) (N := 11) (ci := 13) (K' := (kC K276 0 q1 (some r275))) hx hb hq pin_wsX70 tyX7 tyX7_ok nmX7 hown hE hP hD hS hO (by rw [hf284]; decide) (rep_1 hf284) rfl 6 (by decide) (hq _ pw_938) (fun _ h9 => h9) rfl (by decide +kernel) rfl rfl (Nat.le_of_ble_eq_true rfl) rfl (by rw [rep_1 (show (kC K276 0 q1 (some r275)).1 q1 = 1 from hf284), pc_0] <;> rfl) (fun p9 hp9 => rep_kC hp9) dX8_forStatement_65 (fun H locs w hP hD hS hO => ?_)
      obtain ⟨K297, hK298⟩ : ∃ z : PK, z = (kC K276 0 q1 (some r275)) := ⟨_, rfl⟩
      rw [← hK298] at hO
      have hf299 : K297.1 q1 = 1 := (by rw [hK298]; exact hf284)
      have hf300 : K297.2.1 0 q1 = 27 := (by rw [hK298]; exact hf285)
      have hf301 : K297.2.1 2 q1 = (nI at9) := (by rw [hK298]; exact hf286)
      have hf302 : K297.2.2.1 1 q1 = none := (by rw [hK298]; exact (kC_of (by decide)).trans hf288)
      have hf303 : K297.2.2.1 2 q1 = none := (by rw [hK298]; exact (kC_of (by decide)).trans hf289)
      have hf304 : K297.2.2.1 3 q1 = none := (by rw [hK298]; exact (kC_of (by decide)).trans hf290)
      have hf305 : K297.2.2.1 4 q1 = none := (by rw [hK298]; exact (kC_of (by decide)).trans hf291)
      have hf306 : K297.1 r275 = 1 := (by rw [hK298]; exact hf293)
      have hf307 : K297.2.2.1 0 q1 = some r275 := by rw [hK298]; exact kC_eq
      have hns308 : NwS K K297 g g277 := by rw [hK298]; exact NwS.put hns292 hq21 hg294
      have hno309 : NoO K297 g277 q1 := by rw [hK298]; exact hno295
      refine lv_aload_n hx hb dX8_forStatement_68 rfl (lv_at hl 1 rfl) ?_
      refine lv_bipush (v := 38) hx hb dX8_forStatement_69 (by decide) ?_
      have hO : OKW G h0 a (upd (upd (upd (upd (upd (upd (upd (upd F 2 (nI sz)) 9 (nI at9)) 10 (nI dp)) 11 (nI sg)) 9 (nI at278)) 11 (nI sg279)) 2 (nI sz)) 9 (nI at278)) R Z (updA B 10 f280) J K297.1 (fun q99 x99 => x99 = rep G a K297 q99) w := hO.to rfl
      obtain ⟨_, qr313, hqr314⟩ := hO.2.1 23 _ (sg_23 G h0 a _ _ _ _ _)
      refine pn_V0 (G := G) (As := [.int 38]) (rest := []) hx hb hml hown hq hE hX pX0_al hP hD hS hA hl.1 (P_take l G h0 a (upd (upd (upd (upd (upd (upd F 2 (nI sz)) 9 (nI at9)) 10 (nI dp)) 11 (nI sg)) 9 (nI at278)) 11 (nI sg279)) R Z (updA B 10 f280) J K297.1 (fun q99 x99 => x99 = rep G a K297 q99) w 38 at278 sz (by omega) (by omega) (by decide) hO hl0) (gV pw_793 pw_794 pw_795 pw_796 pw_781) hV_X8_take qr313 5 hqr314 rfl rfl rfl (Nat.le_of_ble_eq_true rfl) dX8_forStatement_71 ⟨(by show (1 + (2 * (at278 - ((at9 + 1) + 1)) - 0)) + 1 ≤ (2 * (sz - at9) + 20); omega), (by show (11 + (11 * (2 * (at278 - ((at9 + 1) + 1)) - 0))) + 6 ≤ (11 * (2 * (sz - at9) + 20)); omega)⟩ ⟨(by show 7 + 1 ≤ (50 * n + 58); omega), (by show 8 + (2 + 11) + 122 ≤ (1500 * n + 1650); omega)⟩ (fun v312 u310 H locs hw311 hP hD hS => ?_) (fun ux ce9 q9 H9 locs9 hux hP9 hD9 hS9 hce hcv hcl => pb_out ux (ThQ.up (Thx.same (Thx.same (Thx.b (Thx.f (Thx.f Thx.rfl (by omega)) (by omega)) (by omega) (by decide)) rfl) rfl) hux) hnt hlocks hce hcv hcl hP9 hD9 hS9 (by show (1 + (2 * (at278 - ((at9 + 1) + 1)) - 0)) + 1 ≤ (2 * (sz - at9) + 20); omega) (by show (11 + (11 * (2 * (at278 - ((at9 + 1) + 1)) - 0))) + 6 ≤ (11 * (2 * (sz - at9) + 20)); omega))
      obtain ⟨w, _⟩ := u310
      obtain ⟨hw311, h315, hO⟩ := hw311
      have h315 : at278 + 1 ≤ sz := h315
      obtain rfl : v312 = some (.int (nI at278)) := hw311
      have hO : OKP G h0 a (upd (upd (upd (upd F 2 (nI sz)) 9 (nI (at278 + 1))) 10 (nI dp)) 11 (nI sg279)) R Z (updA B 10 f280) J K297 w := hO.to rfl
      refine W.widen (k := (1 + (2 * (at278 - ((at9 + 1) + 1)) - 0))) (n := (11 + (11 * (2 * (at278 - ((at9 + 1) + 1)) - 0)))) (by show (1 + (2 * (at278 - ((at9 + 1) + 1)) - 0)) + 0 ≤ (1 + (2 * (at278 - ((at9 + 1) + 1)) - 0)); omega) (by show (11 + (11 * (2 * (at278 - ((at9 + 1) + 1)) - 0))) + 0 ≤ (11 + (11 * (2 * (at278 - ((at9 + 1) + 1)) - 0))); omega) ?_
      refine W.eq (g2 := F0 m 74 ls [.int (nI at278)]) rfl ?_
      refine lv_pop hx hb dX8_forStatement_74 rfl ?_
      refine lv_aload_n hx hb dX8_forStatement_75 rfl (lv_at hl 1 rfl) ?_
      refine lv_bipush (v := 38) hx hb dX8_forStatement_76 (by decide) ?_
      have hO : OKW G h0 a (upd (upd (upd (upd (upd (upd F 2 (nI sz)) 9 (nI (at278 + 1))) 10 (nI dp)) 11 (nI sg279)) 2 (nI sz)) 9 (nI (at278 + 1))) R Z (updA B 10 f280) J K297.1 (fun q99 x99 => x99 = rep G a K297 q99) w := hO.to rfl
      obtain ⟨_, qr319, hqr320⟩ := hO.2.1 23 _ (sg_23 G h0 a _ _ _ _ _)
      refine pc_V0 (G := G) (As := [.int 38]) (rest := []) hx hb hml hown hq hE hX pX0_al hP hD hS hA hl.1 (P_sees l G h0 a (upd (upd (upd (upd F 2 (nI sz)) 9 (nI (at278 + 1))) 10 (nI dp)) 11 (nI sg279)) R Z (updA B 10 f280) J K297.1 (fun q99 x99 => x99 = rep G a K297 q99) w 38 (at278 + 1) sz (by omega) (by omega) hO) (gV pw_803 pw_804 pw_805 pw_796 pw_775) hV_X8_sees qr319 5 hqr320 rfl rfl rfl (Nat.le_of_ble_eq_true rfl) dX8_forStatement_78 ⟨(by show (1 + (2 * (at278 - ((at9 + 1) + 1)) - 0)) + 0 ≤ (2 * (sz - at9) + 20); omega), (by show (11 + (11 * (2 * (at278 - ((at9 + 1) + 1)) - 0))) + 0 ≤ (11 * (2 * (sz - at9) + 20)); omega)⟩ ⟨(by show 3 + 1 ≤ (50 * n + 58); omega), (by show 8 + (2 + 11) + 81 ≤ (1500 * n + 1650); omega)⟩ (fun v318 u316 H locs hw317 hP hD hS => ?_)
      obtain ⟨w, r321⟩ := u316
      obtain ⟨hw317, h322, hO⟩ := hw317
      have h322 : r321 ≤ 1 := h322
      obtain rfl : v318 = some (.int (nI r321)) := hw317
      have hO : OKP G h0 a (upd (upd (upd (upd F 2 (nI sz)) 9 (nI (at278 + 1))) 10 (nI dp)) 11 (nI sg279)) R Z (updA B 10 f280) J K297 w := hO.to rfl
      refine W.widen (k := (1 + (2 * (at278 - ((at9 + 1) + 1)) - 0))) (n := (11 + (11 * (2 * (at278 - ((at9 + 1) + 1)) - 0)))) (by show (1 + (2 * (at278 - ((at9 + 1) + 1)) - 0)) + 0 ≤ (1 + (2 * (at278 - ((at9 + 1) + 1)) - 0)); omega) (by show (11 + (11 * (2 * (at278 - ((at9 + 1) + 1)) - 0))) + 0 ≤ (11 + (11 * (2 * (at278 - ((at9 + 1) + 1)) - 0))); omega) ?_
      refine W.eq (g2 := F0 m 81 ls [.int (nI r321)]) rfl ?_
      refine lv_if_ne (tgt := 92) hx hb dX8_forStatement_81 (by decide) (fun c323 => ?_) (fun c323 => ?_)
      · have n324 : ¬ (r321 = 0) := fun h9 => c323 ((nI_eq (a := r321) (b := 0) (by omega) (by omega)).mpr h9)
        refine W.widen (k := (2 * ((at278 + 1) - at9) - 4)) (n := (11 * (2 * ((at278 + 1) - at9) - 4))) (by show (1 + (2 * (at278 - ((at9 + 1) + 1)) - 0)) ≤ _; omega) (by show (11 + (11 * (2 * (at278 - ((at9 + 1) + 1)) - 0))) ≤ _; omega) ?_
        have hO : OKP G h0 a (upd (upd (upd (upd F 2 (nI sz)) 9 (nI (at278 + 1))) 10 (nI dp)) 11 (nI sg279)) R Z (updA B 10 f280) J K297 w := hO.to rfl
        exact cut_j (at278 + 1) sg279 f280 K297 g277 q1 (some r275) none _ _ _ _ (by omega) (by omega) hns308 hq21 hf299 hg294 hno309 hf300 hf307 hf302 hf303 hf304 hf305 (KdO.one hf306 (by omega) (by omega)) KdO.no hP hD hS hO (lv_sub hl [0, 1] rfl)
      · have n325 : r321 = 0 := (nI_eq (a := r321) (b := 0) (by omega) (by omega)).mp c323
        refine lv_aload_n hx hb dX8_forStatement_84 rfl (lv_at hl 0 rfl) ?_
        refine lv_aload_n hx hb dX8_forStatement_85 rfl (lv_at hl 1 rfl) ?_
        have hO : OKP G h0 a (upd (upd (upd (upd (upd (upd (upd (upd (upd (upd F 2 (nI sz)) 9 (nI at9)) 10 (nI dp)) 11 (nI sg)) 9 (nI (at278 + 1))) 11 (nI sg279)) 2 (nI sz)) 9 (nI (at278 + 1))) 10 (nI dp)) 11 (nI sg279)) R Z (updA B 10 f280) J K297 w := hO.to rfl
        obtain ⟨_, qr329, hqr330⟩ := hO.2.1 23 _ (sg_23 G h0 a _ _ _ _ _)
        refine pn_V0 (G := G) (As := []) (rest := [.ref q1]) hx hb hml hown hq hE hX pX0_al hP hD hS hA hl.1 (((PE_all l G n).1) h0 a (upd (upd (upd (upd (upd (upd F 2 (nI sz)) 9 (nI at9)) 10 (nI dp)) 11 (nI sg)) 9 (nI (at278 + 1))) 11 (nI sg279)) R Z (updA B 10 f280) J K297 w (at278 + 1) sz dp sg279 0 g277 (by omega) (by omega) hdp (by omega) hns308.1 (fun o9 h9 => absurd h9 (by omega)) hO hl0) (gV pw_916 pw_917 pw_918 pw_796 pw_942) hV_X8_expression qr329 5 hqr330 rfl rfl rfl (Nat.le_of_ble_eq_true rfl) dX8_forStatement_86 ⟨(by show (1 + (2 * (at278 - ((at9 + 1) + 1)) - 0)) + (2 * (sz - (at278 + 1)) + 20) ≤ (2 * (sz - at9) + 20); omega), (by show (11 + (11 * (2 * (at278 - ((at9 + 1) + 1)) - 0))) + (11 * (2 * (sz - (at278 + 1)) + 20)) ≤ (11 * (2 * (sz - at9) + 20)); omega)⟩ ⟨(by show (40 * n + 40) + 1 ≤ (50 * n + 58); omega), (by show 8 + (3 + 11) + (1300 * n + 1300) ≤ (1500 * n + 1650); omega)⟩ (fun v328 u326 H locs hw327 hP hD hS => ?_) (fun ux ce9 q9 H9 locs9 hux hP9 hD9 hS9 hce hcv hcl => pb_out ux (ThQ.up (Thx.same (Thx.same (Thx.same (Thx.same (Thx.b (Thx.f (Thx.f Thx.rfl (by omega)) (by omega)) (by omega) (by decide)) rfl) rfl) rfl) rfl) hux) hnt hlocks hce hcv hcl hP9 hD9 hS9 (by show (1 + (2 * (at278 - ((at9 + 1) + 1)) - 0)) + (2 * (sz - (at278 + 1)) + 20) ≤ (2 * (sz - at9) + 20); omega) (by show (11 + (11 * (2 * (at278 - ((at9 + 1) + 1)) - 0))) + (11 * (2 * (sz - (at278 + 1)) + 20)) ≤ (11 * (2 * (sz - at9) + 20)); omega))
        obtain ⟨w, r331, K332, g333, at334, sg335, f336⟩ := u326
        obtain ⟨hw327, h337, h338, h339, hO⟩ := hw327
        have h337 : NwR K297 K332 g277 g333 r331 0 (at278 + 1) (5 * (20 - dp) + 6 + (sg335 - sg279)) := h337
        have h338 : (at278 + 1) + 1 ≤ at334 ∧ at334 ≤ sz := h338
        have h339 : sg279 ≤ sg335 ∧ sg335 ≤ 60 := h339
        obtain rfl : v328 = some (.ref r331) := hw327
        have hf340 : K332.1 q1 = 1 := (((h337).2.1.1 q1 (by rw [hf299]; decide)).1).trans hf299
        have hf341 : K332.2.1 0 q1 = 27 := (((h337).2.1.1 q1 (by rw [hf299]; decide)).2.1 0).trans hf300
        have hf342 : K332.2.1 2 q1 = (nI at9) := (((h337).2.1.1 q1 (by rw [hf299]; decide)).2.1 2).trans hf301
        have hf343 : K332.2.2.1 1 q1 = none := (((h337).2.1.1 q1 (by rw [hf299]; decide)).2.2.1 1).trans hf302
        have hf344 : K332.2.2.1 2 q1 = none := (((h337).2.1.1 q1 (by rw [hf299]; decide)).2.2.1 2).trans hf303
        have hf345 : K332.2.2.1 3 q1 = none := (((h337).2.1.1 q1 (by rw [hf299]; decide)).2.2.1 3).trans hf304
        have hf346 : K332.2.2.1 4 q1 = none := (((h337).2.1.1 q1 (by rw [hf299]; decide)).2.2.1 4).trans hf305
        have hf347 : K332.1 r275 = 1 := (((h337).2.1.1 r275 (by rw [hf306]; decide)).1).trans hf306
        have hf348 : K332.2.2.1 0 q1 = some r275 := (((h337).2.1.1 q1 (by rw [hf299]; decide)).2.2.1 0).trans hf307
        have hO : OKP G h0 a (upd (upd (upd (upd F 2 (nI sz)) 9 (nI at334)) 10 (nI dp)) 11 (nI sg335)) R Z (updA B 10 f336) J K332 w := hO.to rfl
        refine W.widen (k := ((1 + (2 * (at278 - ((at9 + 1) + 1)) - 0)) + (2 * (at334 - (at278 + 1)) - 1))) (n := ((11 + (11 * (2 * (at278 - ((at9 + 1) + 1)) - 0))) + (11 * (2 * (at334 - (at278 + 1)) - 1)))) (by show (1 + (2 * (at278 - ((at9 + 1) + 1)) - 0)) + (2 * (at334 - (at278 + 1)) - 1) ≤ ((1 + (2 * (at278 - ((at9 + 1) + 1)) - 0)) + (2 * (at334 - (at278 + 1)) - 1)); omega) (by show (11 + (11 * (2 * (at278 - ((at9 + 1) + 1)) - 0))) + (11 * (2 * (at334 - (at278 + 1)) - 1)) ≤ ((11 + (11 * (2 * (at278 - ((at9 + 1) + 1)) - 0))) + (11 * (2 * (at334 - (at278 + 1)) - 1))); omega) ?_
        refine W.eq (g2 := F0 m 89 ls [.ref r331, .ref q1]) rfl ?_
        have hns349 : NwS K K332 g g333 := NwS.call hns308 h337 (fun o9 h9 => absurd h9 (by omega))
        have hf350 : K332.1 r331 = 1 := h337.2.2.1.2.1
        have hg351 : g333 0 q1 = 0 := (h337.2.1.2 q1 (by rw [hf299]; decide) 0).trans hg294
        have hno352 : NoO K332 g333 q1 := NoO.call hno309 h337 hf299 (by omega)
        have hgz353 : g333 0 r275 = g277 0 r275 := h337.2.1.2 r275 (by rw [hf306]; decide) 0
        have hgy354 := h337.2.2.1
        have hgy354a := hgy354.2.2.1
        have hgy354b := hgy354.2.2.2.1
        refine p_put (v := .ref r331) (ty := (.object "JinjaTongue$Node")) (C := RX7) (Tc := TX7) (N := 11) (ci := 13) (K' := (kC K332 1 q1 (some r331))) hx hb hq pin_wsX70 tyX7 tyX7_ok nmX7 hown hE hP hD hS hO (by rw [hf340]; decide) (rep_1 hf340) rfl 7 (by decide) (hq _ pw_910) (fun _ h9 => h9) rfl (by decide +kernel) rfl rfl (Nat.le_of_ble_eq_true rfl) rfl (by rw [rep_1 (show (kC K332 1 q1 (some r331)).1 q1 = 1 from hf340), pc_1] <;> rfl) (fun p9 hp9 => rep_kC hp9) dX8_forStatement_89 (fun H locs w hP hD hS hO => ?_)
        obtain ⟨K355, hK356⟩ : ∃ z : PK, z = (kC K332 1 q1 (some r331)) := ⟨_, rfl⟩
        rw [← hK356] at hO
        have hf357 : K355.1 q1 = 1 := (by rw [hK356]; exact hf340)
        have hf358 : K355.2.1 0 q1 = 27 := (by rw [hK356]; exact hf341)
        have hf359 : K355.2.1 2 q1 = (nI at9) := (by rw [hK356]; exact hf342)
        have hf360 : K355.2.2.1 2 q1 = none := (by rw [hK356]; exact (kC_of (by decide)).trans hf344)
        have hf361 : K355.2.2.1 3 q1 = none := (by rw [hK356]; exact (kC_of (by decide)).trans hf345)
        have hf362 : K355.2.2.1 4 q1 = none := (by rw [hK356]; exact (kC_of (by decide)).trans hf346)
        have hf363 : K355.1 r275 = 1 := (by rw [hK356]; exact hf347)
        have hf364 : K355.2.2.1 0 q1 = some r275 := (by rw [hK356]; exact (kC_of (by decide)).trans hf348)
        have hf365 : K355.1 r331 = 1 := (by rw [hK356]; exact hf350)
        have hf366 : K355.2.2.1 1 q1 = some r331 := by rw [hK356]; exact kC_eq
        have hns367 : NwS K K355 g g333 := by rw [hK356]; exact NwS.put hns349 hq21 hg351
        have hno368 : NoO K355 g333 q1 := by rw [hK356]; exact hno352
        refine W.widen (k := (2 * (at334 - at9) - 4)) (n := (11 * (2 * (at334 - at9) - 4))) (by show ((1 + (2 * (at278 - ((at9 + 1) + 1)) - 0)) + (2 * (at334 - (at278 + 1)) - 1)) ≤ _; omega) (by show ((11 + (11 * (2 * (at278 - ((at9 + 1) + 1)) - 0))) + (11 * (2 * (at334 - (at278 + 1)) - 1))) ≤ _; omega) ?_
        have hO : OKP G h0 a (upd (upd (upd (upd F 2 (nI sz)) 9 (nI at334)) 10 (nI dp)) 11 (nI sg335)) R Z (updA B 10 f336) J K355 w := hO.to rfl
        exact cut_j at334 sg335 f336 K355 g333 q1 (some r275) (some r331) _ _ _ _ (by omega) (by omega) hns367 hq21 hf357 hg351 hno368 hf358 hf364 hf366 hf360 hf361 hf362 (KdO.one hf363 (by omega) (by omega)) (KdO.one hf365 (by omega) (by omega)) hP hD hS hO (lv_sub hl [0, 1] rfl)
    · have n369 : ¬ (r266 = 0) := fun h9 => c268 ((nI_eq (a := r266) (b := 0) (by omega) (by omega)).mpr h9)
      refine lv_aload_n hx hb dX8_forStatement_52 rfl (lv_at hl 1 rfl) ?_
      refine lv_iconst (v := 0) hx hb dX8_forStatement_53 (by decide) ?_
      have hO : OKP G h0 a (upd (upd (upd (upd (upd (upd (upd (upd (upd F 2 (nI sz)) 9 (nI at9)) 10 (nI dp)) 11 (nI sg)) 9 (nI ((at9 + 1) + 1))) 2 (nI sz)) 9 (nI ((at9 + 1) + 1))) 10 (nI dp)) 11 (nI sg)) R Z B J K10 w := hO.to rfl
      obtain ⟨_, qr373, hqr374⟩ := hO.2.1 23 _ (sg_23 G h0 a _ _ _ _ _)
      refine pn_V0 (G := G) (As := [.int (nI 0)]) (rest := [.ref q1]) hx hb hml hown hq hE hX pX0_al hP hD hS hA hl.1 (P_lokal l G h0 a (upd (upd (upd (upd (upd F 2 (nI sz)) 9 (nI at9)) 10 (nI dp)) 11 (nI sg)) 9 (nI ((at9 + 1) + 1))) R Z B J K10 w 0 n ((at9 + 1) + 1) sz dp sg 0 (gset g q1 0 0 0) (by omega) (by omega) hdp (by omega) hns20.1 (fun o9 h9 => absurd h9 (by omega)) (by omega) hO hl0) (gV pw_1015 pw_1016 pw_1017 pw_796 pw_987) hV_X8_local qr373 5 hqr374 rfl rfl rfl (Nat.le_of_ble_eq_true rfl) dX8_forStatement_54 ⟨(by show 1 + (2 * (sz - ((at9 + 1) + 1)) + 20) ≤ (2 * (sz - at9) + 20); omega), (by show 11 + (11 * (2 * (sz - ((at9 + 1) + 1)) + 20)) ≤ (11 * (2 * (sz - at9) + 20)); omega)⟩ ⟨(by show (40 * n + 44) + 1 ≤ (50 * n + 58); omega), (by show 8 + (4 + 11) + (1300 * n + 1400) ≤ (1500 * n + 1650); omega)⟩ (fun v372 u370 H locs hw371 hP hD hS => ?_) (fun ux ce9 q9 H9 locs9 hux hP9 hD9 hS9 hce hcv hcl => pb_out ux (ThQ.up (Thx.same (Thx.same (Thx.same (Thx.same (Thx.f Thx.rfl (by omega)) rfl) rfl) rfl) rfl) hux) hnt hlocks hce hcv hcl hP9 hD9 hS9 (by show 1 + (2 * (sz - ((at9 + 1) + 1)) + 20) ≤ (2 * (sz - at9) + 20); omega) (by show 11 + (11 * (2 * (sz - ((at9 + 1) + 1)) + 20)) ≤ (11 * (2 * (sz - at9) + 20)); omega))
      obtain ⟨w, r375, K376, g377, at378, sg379, f380⟩ := u370
      obtain ⟨hw371, h381, h382, h383, hO⟩ := hw371
      have h381 : NwR K10 K376 (gset g q1 0 0 0) g377 r375 0 ((at9 + 1) + 1) (168) := h381
      have h382 : ((at9 + 1) + 1) + 2 ≤ at378 ∧ at378 ≤ sz := h382
      have h383 : sg ≤ sg379 ∧ sg379 ≤ 60 := h383
      obtain rfl : v372 = some (.ref r375) := hw371
      have hf384 : K376.1 q1 = 1 := (((h381).2.1.1 q1 (by rw [hf12]; decide)).1).trans hf12
      have hf385 : K376.2.1 0 q1 = 27 := (((h381).2.1.1 q1 (by rw [hf12]; decide)).2.1 0).trans hf13
      have hf386 : K376.2.1 2 q1 = (nI at9) := (((h381).2.1.1 q1 (by rw [hf12]; decide)).2.1 2).trans hf14
      have hf387 : K376.2.2.1 0 q1 = none := (((h381).2.1.1 q1 (by rw [hf12]; decide)).2.2.1 0).trans hf15
      have hf388 : K376.2.2.1 1 q1 = none := (((h381).2.1.1 q1 (by rw [hf12]; decide)).2.2.1 1).trans hf16
      have hf389 : K376.2.2.1 2 q1 = none := (((h381).2.1.1 q1 (by rw [hf12]; decide)).2.2.1 2).trans hf17
      have hf390 : K376.2.2.1 3 q1 = none := (((h381).2.1.1 q1 (by rw [hf12]; decide)).2.2.1 3).trans hf18
      have hf391 : K376.2.2.1 4 q1 = none := (((h381).2.1.1 q1 (by rw [hf12]; decide)).2.2.1 4).trans hf19
      have hO : OKP G h0 a (upd (upd (upd (upd F 2 (nI sz)) 9 (nI at378)) 10 (nI dp)) 11 (nI sg379)) R Z (updA B 10 f380) J K376 w := hO.to rfl
      refine W.widen (k := (1 + (2 * (at378 - ((at9 + 1) + 1)) - 3))) (n := (11 + (11 * (2 * (at378 - ((at9 + 1) + 1)) - 3)))) (by show 1 + (2 * (at378 - ((at9 + 1) + 1)) - 3) ≤ (1 + (2 * (at378 - ((at9 + 1) + 1)) - 3)); omega) (by show 11 + (11 * (2 * (at378 - ((at9 + 1) + 1)) - 3)) ≤ (11 + (11 * (2 * (at378 - ((at9 + 1) + 1)) - 3))); omega) ?_
      refine W.eq (g2 := F0 m 57 ls [.ref r375, .ref q1]) rfl ?_
      have hns392 : NwS K K376 g g377 := NwS.call hns20 h381 (fun o9 h9 => absurd h9 (by omega))
      have hf393 : K376.1 r375 = 1 := h381.2.2.1.2.1
      have hg394 : g377 0 q1 = 0 := (h381.2.1.2 q1 (by rw [hf12]; decide) 0).trans hg22
      have hno395 : NoO K376 g377 q1 := NoO.call hno23 h381 hf12 (by omega)
      have hgy396 := h381.2.2.1
      have hgy396a := hgy396.2.2.1
      have hgy396b := hgy396.2.2.2.1
      refine lv_goto (tgt := 65) hx hb dX8_forStatement_57 (by decide) ?_
      refine p_put (v := .ref r375) (ty := (.object "JinjaTongue$Node")) (C := RX7) (Tc := TX7) (N := 11) (ci := 13) (K' := (kC K376 0 q1 (some r375))) hx hb hq pin_wsX70 tyX7 tyX7_ok nmX7 hown hE hP hD hS hO (by rw [hf384]; decide) (rep_1 hf384) rfl 6 (by decide) (hq _ pw_938) (fun _ h9 => h9) rfl (by decide +kernel) rfl rfl (Nat.le_of_ble_eq_true rfl) rfl (by rw [rep_1 (show (kC K376 0 q1 (some r375)).1 q1 = 1 from hf384), pc_0] <;> rfl) (fun p9 hp9 => rep_kC hp9) dX8_forStatement_65 (fun H locs w hP hD hS hO => ?_)
      obtain ⟨K397, hK398⟩ : ∃ z : PK, z = (kC K376 0 q1 (some r375)) := ⟨_, rfl⟩
      rw [← hK398] at hO
      have hf399 : K397.1 q1 = 1 := (by rw [hK398]; exact hf384)
      have hf400 : K397.2.1 0 q1 = 27 := (by rw [hK398]; exact hf385)
      have hf401 : K397.2.1 2 q1 = (nI at9) := (by rw [hK398]; exact hf386)
      have hf402 : K397.2.2.1 1 q1 = none := (by rw [hK398]; exact (kC_of (by decide)).trans hf388)
      have hf403 : K397.2.2.1 2 q1 = none := (by rw [hK398]; exact (kC_of (by decide)).trans hf389)
      have hf404 : K397.2.2.1 3 q1 = none := (by rw [hK398]; exact (kC_of (by decide)).trans hf390)
      have hf405 : K397.2.2.1 4 q1 = none := (by rw [hK398]; exact (kC_of (by decide)).trans hf391)
      have hf406 : K397.1 r375 = 1 := (by rw [hK398]; exact hf393)
      have hf407 : K397.2.2.1 0 q1 = some r375 := by rw [hK398]; exact kC_eq
      have hns408 : NwS K K397 g g377 := by rw [hK398]; exact NwS.put hns392 hq21 hg394
      have hno409 : NoO K397 g377 q1 := by rw [hK398]; exact hno395
      refine lv_aload_n hx hb dX8_forStatement_68 rfl (lv_at hl 1 rfl) ?_
      refine lv_bipush (v := 38) hx hb dX8_forStatement_69 (by decide) ?_
      have hO : OKW G h0 a (upd (upd (upd (upd (upd (upd (upd (upd F 2 (nI sz)) 9 (nI at9)) 10 (nI dp)) 11 (nI sg)) 9 (nI at378)) 11 (nI sg379)) 2 (nI sz)) 9 (nI at378)) R Z (updA B 10 f380) J K397.1 (fun q99 x99 => x99 = rep G a K397 q99) w := hO.to rfl
      obtain ⟨_, qr413, hqr414⟩ := hO.2.1 23 _ (sg_23 G h0 a _ _ _ _ _)
      refine pn_V0 (G := G) (As := [.int 38]) (rest := []) hx hb hml hown hq hE hX pX0_al hP hD hS hA hl.1 (P_take l G h0 a (upd (upd (upd (upd (upd (upd F 2 (nI sz)) 9 (nI at9)) 10 (nI dp)) 11 (nI sg)) 9 (nI at378)) 11 (nI sg379)) R Z (updA B 10 f380) J K397.1 (fun q99 x99 => x99 = rep G a K397 q99) w 38 at378 sz (by omega) (by omega) (by decide) hO hl0) (gV pw_793 pw_794 pw_795 pw_796 pw_781) hV_X8_take qr413 5 hqr414 rfl rfl rfl (Nat.le_of_ble_eq_true rfl) dX8_forStatement_71 ⟨(by show (1 + (2 * (at378 - ((at9 + 1) + 1)) - 3)) + 1 ≤ (2 * (sz - at9) + 20); omega), (by show (11 + (11 * (2 * (at378 - ((at9 + 1) + 1)) - 3))) + 6 ≤ (11 * (2 * (sz - at9) + 20)); omega)⟩ ⟨(by show 7 + 1 ≤ (50 * n + 58); omega), (by show 8 + (2 + 11) + 122 ≤ (1500 * n + 1650); omega)⟩ (fun v412 u410 H locs hw411 hP hD hS => ?_) (fun ux ce9 q9 H9 locs9 hux hP9 hD9 hS9 hce hcv hcl => pb_out ux (ThQ.up (Thx.same (Thx.same (Thx.b (Thx.f (Thx.f Thx.rfl (by omega)) (by omega)) (by omega) (by decide)) rfl) rfl) hux) hnt hlocks hce hcv hcl hP9 hD9 hS9 (by show (1 + (2 * (at378 - ((at9 + 1) + 1)) - 3)) + 1 ≤ (2 * (sz - at9) + 20); omega) (by show (11 + (11 * (2 * (at378 - ((at9 + 1) + 1)) - 3))) + 6 ≤ (11 * (2 * (sz - at9) + 20)); omega))
      obtain ⟨w, _⟩ := u410
      obtain ⟨hw411, h415, hO⟩ := hw411
      have h415 : at378 + 1 ≤ sz := h415
      obtain rfl : v412 = some (.int (nI at378)) := hw411
      have hO : OKP G h0 a (upd (upd (upd (upd F 2 (nI sz)) 9 (nI (at378 + 1))) 10 (nI dp)) 11 (nI sg379)) R Z (updA B 10 f380) J K397 w := hO.to rfl
      refine W.widen (k := (1 + (2 * (at378 - ((at9 + 1) + 1)) - 3))) (n := (11 + (11 * (2 * (at378 - ((at9 + 1) + 1)) - 3)))) (by show (1 + (2 * (at378 - ((at9 + 1) + 1)) - 3)) + 0 ≤ (1 + (2 * (at378 - ((at9 + 1) + 1)) - 3)); omega) (by show (11 + (11 * (2 * (at378 - ((at9 + 1) + 1)) - 3))) + 0 ≤ (11 + (11 * (2 * (at378 - ((at9 + 1) + 1)) - 3))); omega) ?_
      refine W.eq (g2 := F0 m 74 ls [.int (nI at378)]) rfl ?_
      refine lv_pop hx hb dX8_forStatement_74 rfl ?_
      refine lv_aload_n hx hb dX8_forStatement_75 rfl (lv_at hl 1 rfl) ?_
      refine lv_bipush (v := 38) hx hb dX8_forStatement_76 (by decide) ?_
      have hO : OKW G h0 a (upd (upd (upd (upd (upd (upd F 2 (nI sz)) 9 (nI (at378 + 1))) 10 (nI dp)) 11 (nI sg379)) 2 (nI sz)) 9 (nI (at378 + 1))) R Z (updA B 10 f380) J K397.1 (fun q99 x99 => x99 = rep G a K397 q99) w := hO.to rfl
      obtain ⟨_, qr419, hqr420⟩ := hO.2.1 23 _ (sg_23 G h0 a _ _ _ _ _)
      refine pc_V0 (G := G) (As := [.int 38]) (rest := []) hx hb hml hown hq hE hX pX0_al hP hD hS hA hl.1 (P_sees l G h0 a (upd (upd (upd (upd F 2 (nI sz)) 9 (nI (at378 + 1))) 10 (nI dp)) 11 (nI sg379)) R Z (updA B 10 f380) J K397.1 (fun q99 x99 => x99 = rep G a K397 q99) w 38 (at378 + 1) sz (by omega) (by omega) hO) (gV pw_803 pw_804 pw_805 pw_796 pw_775) hV_X8_sees qr419 5 hqr420 rfl rfl rfl (Nat.le_of_ble_eq_true rfl) dX8_forStatement_78 ⟨(by show (1 + (2 * (at378 - ((at9 + 1) + 1)) - 3)) + 0 ≤ (2 * (sz - at9) + 20); omega), (by show (11 + (11 * (2 * (at378 - ((at9 + 1) + 1)) - 3))) + 0 ≤ (11 * (2 * (sz - at9) + 20)); omega)⟩ ⟨(by show 3 + 1 ≤ (50 * n + 58); omega), (by show 8 + (2 + 11) + 81 ≤ (1500 * n + 1650); omega)⟩ (fun v418 u416 H locs hw417 hP hD hS => ?_)
      obtain ⟨w, r421⟩ := u416
      obtain ⟨hw417, h422, hO⟩ := hw417
      have h422 : r421 ≤ 1 := h422
      obtain rfl : v418 = some (.int (nI r421)) := hw417
      have hO : OKP G h0 a (upd (upd (upd (upd F 2 (nI sz)) 9 (nI (at378 + 1))) 10 (nI dp)) 11 (nI sg379)) R Z (updA B 10 f380) J K397 w := hO.to rfl
      refine W.widen (k := (1 + (2 * (at378 - ((at9 + 1) + 1)) - 3))) (n := (11 + (11 * (2 * (at378 - ((at9 + 1) + 1)) - 3)))) (by show (1 + (2 * (at378 - ((at9 + 1) + 1)) - 3)) + 0 ≤ (1 + (2 * (at378 - ((at9 + 1) + 1)) - 3)); omega) (by show (11 + (11 * (2 * (at378 - ((at9 + 1) + 1)) - 3))) + 0 ≤ (11 + (11 * (2 * (at378 - ((at9 + 1) + 1)) - 3))); omega) ?_
      refine W.eq (g2 := F0 m 81 ls [.int (nI r421)]) rfl ?_
      refine lv_if_ne (tgt := 92) hx hb dX8_forStatement_81 (by decide) (fun c423 => ?_) (fun c423 => ?_)
      · have n424 : ¬ (r421 = 0) := fun h9 => c423 ((nI_eq (a := r421) (b := 0) (by omega) (by omega)).mpr h9)
        refine W.widen (k := (2 * ((at378 + 1) - at9) - 4)) (n := (11 * (2 * ((at378 + 1) - at9) - 4))) (by show (1 + (2 * (at378 - ((at9 + 1) + 1)) - 3)) ≤ _; omega) (by show (11 + (11 * (2 * (at378 - ((at9 + 1) + 1)) - 3))) ≤ _; omega) ?_
        have hO : OKP G h0 a (upd (upd (upd (upd F 2 (nI sz)) 9 (nI (at378 + 1))) 10 (nI dp)) 11 (nI sg379)) R Z (updA B 10 f380) J K397 w := hO.to rfl
        exact cut_j (at378 + 1) sg379 f380 K397 g377 q1 (some r375) none _ _ _ _ (by omega) (by omega) hns408 hq21 hf399 hg394 hno409 hf400 hf407 hf402 hf403 hf404 hf405 (KdO.one hf406 (by omega) (by omega)) KdO.no hP hD hS hO (lv_sub hl [0, 1] rfl)
      · have n425 : r421 = 0 := (nI_eq (a := r421) (b := 0) (by omega) (by omega)).mp c423
        refine lv_aload_n hx hb dX8_forStatement_84 rfl (lv_at hl 0 rfl) ?_
        refine lv_aload_n hx hb dX8_forStatement_85 rfl (lv_at hl 1 rfl) ?_
        have hO : OKP G h0 a (upd (upd (upd (upd (upd (upd (upd (upd (upd (upd F 2 (nI sz)) 9 (nI at9)) 10 (nI dp)) 11 (nI sg)) 9 (nI (at378 + 1))) 11 (nI sg379)) 2 (nI sz)) 9 (nI (at378 + 1))) 10 (nI dp)) 11 (nI sg379)) R Z (updA B 10 f380) J K397 w := hO.to rfl
        obtain ⟨_, qr429, hqr430⟩ := hO.2.1 23 _ (sg_23 G h0 a _ _ _ _ _)
        refine pn_V0 (G := G) (As := []) (rest := [.ref q1]) hx hb hml hown hq hE hX pX0_al hP hD hS hA hl.1 (((PE_all l G n).1) h0 a (upd (upd (upd (upd (upd (upd F 2 (nI sz)) 9 (nI at9)) 10 (nI dp)) 11 (nI sg)) 9 (nI (at378 + 1))) 11 (nI sg379)) R Z (updA B 10 f380) J K397 w (at378 + 1) sz dp sg379 0 g377 (by omega) (by omega) hdp (by omega) hns408.1 (fun o9 h9 => absurd h9 (by omega)) hO hl0) (gV pw_916 pw_917 pw_918 pw_796 pw_942) hV_X8_expression qr429 5 hqr430 rfl rfl rfl (Nat.le_of_ble_eq_true rfl) dX8_forStatement_86 ⟨(by show (1 + (2 * (at378 - ((at9 + 1) + 1)) - 3)) + (2 * (sz - (at378 + 1)) + 20) ≤ (2 * (sz - at9) + 20); omega), (by show (11 + (11 * (2 * (at378 - ((at9 + 1) + 1)) - 3))) + (11 * (2 * (sz - (at378 + 1)) + 20)) ≤ (11 * (2 * (sz - at9) + 20)); omega)⟩ ⟨(by show (40 * n + 40) + 1 ≤ (50 * n + 58); omega), (by show 8 + (3 + 11) + (1300 * n + 1300) ≤ (1500 * n + 1650); omega)⟩ (fun v428 u426 H locs hw427 hP hD hS => ?_) (fun ux ce9 q9 H9 locs9 hux hP9 hD9 hS9 hce hcv hcl => pb_out ux (ThQ.up (Thx.same (Thx.same (Thx.same (Thx.same (Thx.b (Thx.f (Thx.f Thx.rfl (by omega)) (by omega)) (by omega) (by decide)) rfl) rfl) rfl) rfl) hux) hnt hlocks hce hcv hcl hP9 hD9 hS9 (by show (1 + (2 * (at378 - ((at9 + 1) + 1)) - 3)) + (2 * (sz - (at378 + 1)) + 20) ≤ (2 * (sz - at9) + 20); omega) (by show (11 + (11 * (2 * (at378 - ((at9 + 1) + 1)) - 3))) + (11 * (2 * (sz - (at378 + 1)) + 20)) ≤ (11 * (2 * (sz - at9) + 20)); omega))
        obtain ⟨w, r431, K432, g433, at434, sg435, f436⟩ := u426
        obtain ⟨hw427, h437, h438, h439, hO⟩ := hw427
        have h437 : NwR K397 K432 g377 g433 r431 0 (at378 + 1) (5 * (20 - dp) + 6 + (sg435 - sg379)) := h437
        have h438 : (at378 + 1) + 1 ≤ at434 ∧ at434 ≤ sz := h438
        have h439 : sg379 ≤ sg435 ∧ sg435 ≤ 60 := h439
        obtain rfl : v428 = some (.ref r431) := hw427
        have hf440 : K432.1 q1 = 1 := (((h437).2.1.1 q1 (by rw [hf399]; decide)).1).trans hf399
        have hf441 : K432.2.1 0 q1 = 27 := (((h437).2.1.1 q1 (by rw [hf399]; decide)).2.1 0).trans hf400
        have hf442 : K432.2.1 2 q1 = (nI at9) := (((h437).2.1.1 q1 (by rw [hf399]; decide)).2.1 2).trans hf401
        have hf443 : K432.2.2.1 1 q1 = none := (((h437).2.1.1 q1 (by rw [hf399]; decide)).2.2.1 1).trans hf402
        have hf444 : K432.2.2.1 2 q1 = none := (((h437).2.1.1 q1 (by rw [hf399]; decide)).2.2.1 2).trans hf403
        have hf445 : K432.2.2.1 3 q1 = none := (((h437).2.1.1 q1 (by rw [hf399]; decide)).2.2.1 3).trans hf404
        have hf446 : K432.2.2.1 4 q1 = none := (((h437).2.1.1 q1 (by rw [hf399]; decide)).2.2.1 4).trans hf405
        have hf447 : K432.1 r375 = 1 := (((h437).2.1.1 r375 (by rw [hf406]; decide)).1).trans hf406
        have hf448 : K432.2.2.1 0 q1 = some r375 := (((h437).2.1.1 q1 (by rw [hf399]; decide)).2.2.1 0).trans hf407
        have hO : OKP G h0 a (upd (upd (upd (upd F 2 (nI sz)) 9 (nI at434)) 10 (nI dp)) 11 (nI sg435)) R Z (updA B 10 f436) J K432 w := hO.to rfl
        refine W.widen (k := ((1 + (2 * (at378 - ((at9 + 1) + 1)) - 3)) + (2 * (at434 - (at378 + 1)) - 1))) (n := ((11 + (11 * (2 * (at378 - ((at9 + 1) + 1)) - 3))) + (11 * (2 * (at434 - (at378 + 1)) - 1)))) (by show (1 + (2 * (at378 - ((at9 + 1) + 1)) - 3)) + (2 * (at434 - (at378 + 1)) - 1) ≤ ((1 + (2 * (at378 - ((at9 + 1) + 1)) - 3)) + (2 * (at434 - (at378 + 1)) - 1)); omega) (by show (11 + (11 * (2 * (at378 - ((at9 + 1) + 1)) - 3))) + (11 * (2 * (at434 - (at378 + 1)) - 1)) ≤ ((11 + (11 * (2 * (at378 - ((at9 + 1) + 1)) - 3))) + (11 * (2 * (at434 - (at378 + 1)) - 1))); omega) ?_
        refine W.eq (g2 := F0 m 89 ls [.ref r431, .ref q1]) rfl ?_
        have hns449 : NwS K K432 g g433 := NwS.call hns408 h437 (fun o9 h9 => absurd h9 (by omega))
        have hf450 : K432.1 r431 = 1 := h437.2.2.1.2.1
        have hg451 : g433 0 q1 = 0 := (h437.2.1.2 q1 (by rw [hf399]; decide) 0).trans hg394
        have hno452 : NoO K432 g433 q1 := NoO.call hno409 h437 hf399 (by omega)
        have hgz453 : g433 0 r375 = g377 0 r375 := h437.2.1.2 r375 (by rw [hf406]; decide) 0
        have hgy454 := h437.2.2.1
        have hgy454a := hgy454.2.2.1
        have hgy454b := hgy454.2.2.2.1
        refine p_put (v := .ref r431) (ty := (.object "JinjaTongue$Node")) (C := RX7) (Tc := TX7) (N := 11) (ci := 13) (K' := (kC K432 1 q1 (some r431))) hx hb hq pin_wsX70 tyX7 tyX7_ok nmX7 hown hE hP hD hS hO (by rw [hf440]; decide) (rep_1 hf440) rfl 7 (by decide) (hq _ pw_910) (fun _ h9 => h9) rfl (by decide +kernel) rfl rfl (Nat.le_of_ble_eq_true rfl) rfl (by rw [rep_1 (show (kC K432 1 q1 (some r431)).1 q1 = 1 from hf440), pc_1] <;> rfl) (fun p9 hp9 => rep_kC hp9) dX8_forStatement_89 (fun H locs w hP hD hS hO => ?_)
        obtain ⟨K455, hK456⟩ : ∃ z : PK, z = (kC K432 1 q1 (some r431)) := ⟨_, rfl⟩
        rw [← hK456] at hO
        have hf457 : K455.1 q1 = 1 := (by rw [hK456]; exact hf440)
        have hf458 : K455.2.1 0 q1 = 27 := (by rw [hK456]; exact hf441)
        have hf459 : K455.2.1 2 q1 = (nI at9) := (by rw [hK456]; exact hf442)
        have hf460 : K455.2.2.1 2 q1 = none := (by rw [hK456]; exact (kC_of (by decide)).trans hf444)
        have hf461 : K455.2.2.1 3 q1 = none := (by rw [hK456]; exact (kC_of (by decide)).trans hf445)
        have hf462 : K455.2.2.1 4 q1 = none := (by rw [hK456]; exact (kC_of (by decide)).trans hf446)
        have hf463 : K455.1 r375 = 1 := (by rw [hK456]; exact hf447)
        have hf464 : K455.2.2.1 0 q1 = some r375 := (by rw [hK456]; exact (kC_of (by decide)).trans hf448)
        have hf465 : K455.1 r431 = 1 := (by rw [hK456]; exact hf450)
        have hf466 : K455.2.2.1 1 q1 = some r431 := by rw [hK456]; exact kC_eq
        have hns467 : NwS K K455 g g433 := by rw [hK456]; exact NwS.put hns449 hq21 hg451
        have hno468 : NoO K455 g433 q1 := by rw [hK456]; exact hno452
        refine W.widen (k := (2 * (at434 - at9) - 4)) (n := (11 * (2 * (at434 - at9) - 4))) (by show ((1 + (2 * (at378 - ((at9 + 1) + 1)) - 3)) + (2 * (at434 - (at378 + 1)) - 1)) ≤ _; omega) (by show ((11 + (11 * (2 * (at378 - ((at9 + 1) + 1)) - 3))) + (11 * (2 * (at434 - (at378 + 1)) - 1))) ≤ _; omega) ?_
        have hO : OKP G h0 a (upd (upd (upd (upd F 2 (nI sz)) 9 (nI at434)) 10 (nI dp)) 11 (nI sg435)) R Z (updA B 10 f436) J K455 w := hO.to rfl
        exact cut_j at434 sg435 f436 K455 g433 q1 (some r375) (some r431) _ _ _ _ (by omega) (by omega) hns467 hq21 hf457 hg451 hno468 hf458 hf464 hf466 hf460 hf461 hf462 (KdO.one hf463 (by omega) (by omega)) (KdO.one hf465 (by omega) (by omega)) hP hD hS hO (lv_sub hl [0, 1] rfl)
