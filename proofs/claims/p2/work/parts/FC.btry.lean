theorem dX8_tryStatement_0 : decode cX8_tryStatement 0 = .ok (.new 143, 3) := by decide +kernel
theorem dX8_tryStatement_3 : decode cX8_tryStatement 3 = .ok (.dup, 1) := by decide +kernel
theorem dX8_tryStatement_4 : decode cX8_tryStatement 4 = .ok (.bipush 32, 2) := by decide +kernel
theorem dX8_tryStatement_6 : decode cX8_tryStatement 6 = .ok (.aload_n 0, 1) := by decide +kernel
theorem dX8_tryStatement_7 : decode cX8_tryStatement 7 = .ok (.getfield 17, 3) := by decide +kernel
theorem dX8_tryStatement_10 : decode cX8_tryStatement 10 = .ok (.aload_n 0, 1) := by decide +kernel
theorem dX8_tryStatement_11 : decode cX8_tryStatement 11 = .ok (.getfield 17, 3) := by decide +kernel
theorem dX8_tryStatement_14 : decode cX8_tryStatement 14 = .ok (.invokespecial 145, 3) := by decide +kernel
theorem dX8_tryStatement_17 : decode cX8_tryStatement 17 = .ok (.astore_n 1, 1) := by decide +kernel
theorem dX8_tryStatement_18 : decode cX8_tryStatement 18 = .ok (.aload_n 0, 1) := by decide +kernel
theorem dX8_tryStatement_19 : decode cX8_tryStatement 19 = .ok (.dup, 1) := by decide +kernel
theorem dX8_tryStatement_20 : decode cX8_tryStatement 20 = .ok (.getfield 17, 3) := by decide +kernel
theorem dX8_tryStatement_23 : decode cX8_tryStatement 23 = .ok (.iconst 1, 1) := by decide +kernel
theorem dX8_tryStatement_24 : decode cX8_tryStatement 24 = .ok (.iadd, 1) := by decide +kernel
theorem dX8_tryStatement_25 : decode cX8_tryStatement 25 = .ok (.putfield 17, 3) := by decide +kernel
theorem dX8_tryStatement_28 : decode cX8_tryStatement 28 = .ok (.aload_n 1, 1) := by decide +kernel
theorem dX8_tryStatement_29 : decode cX8_tryStatement 29 = .ok (.aload_n 0, 1) := by decide +kernel
theorem dX8_tryStatement_30 : decode cX8_tryStatement 30 = .ok (.invokevirtual 120, 3) := by decide +kernel
theorem dX8_tryStatement_33 : decode cX8_tryStatement 33 = .ok (.putfield 165, 3) := by decide +kernel
theorem dX8_tryStatement_36 : decode cX8_tryStatement 36 = .ok (.aconst_null, 1) := by decide +kernel
theorem dX8_tryStatement_37 : decode cX8_tryStatement 37 = .ok (.astore_n 2, 1) := by decide +kernel
theorem dX8_tryStatement_38 : decode cX8_tryStatement 38 = .ok (.iconst 0, 1) := by decide +kernel
theorem dX8_tryStatement_39 : decode cX8_tryStatement 39 = .ok (.istore_n 3, 1) := by decide +kernel
theorem dX8_tryStatement_40 : decode cX8_tryStatement 40 = .ok (.iload_n 3, 1) := by decide +kernel
theorem dX8_tryStatement_41 : decode cX8_tryStatement 41 = .ok (.aload_n 0, 1) := by decide +kernel
theorem dX8_tryStatement_42 : decode cX8_tryStatement 42 = .ok (.getfield 7, 3) := by decide +kernel
theorem dX8_tryStatement_45 : decode cX8_tryStatement 45 = .ok (.getfield 27, 3) := by decide +kernel
theorem dX8_tryStatement_48 : decode cX8_tryStatement 48 = .ok (.if_icmp .ge 45, 3) := by decide +kernel
theorem dX8_tryStatement_93 : decode cX8_tryStatement 93 = .ok (.aload_n 2, 1) := by decide +kernel
theorem dX8_tryStatement_94 : decode cX8_tryStatement 94 = .ok (.ifnonnull 16, 3) := by decide +kernel
theorem dX8_tryStatement_97 : decode cX8_tryStatement 97 = .ok (.aload_n 0, 1) := by decide +kernel
theorem dX8_tryStatement_98 : decode cX8_tryStatement 98 = .ok (.bipush 9, 2) := by decide +kernel
theorem dX8_tryStatement_100 : decode cX8_tryStatement 100 = .ok (.invokevirtual 36, 3) := by decide +kernel
theorem dX8_tryStatement_103 : decode cX8_tryStatement 103 = .ok (.ifCond .ne 7, 3) := by decide +kernel
theorem dX8_tryStatement_110 : decode cX8_tryStatement 110 = .ok (.aload_n 0, 1) := by decide +kernel
theorem dX8_tryStatement_111 : decode cX8_tryStatement 111 = .ok (.bipush 9, 2) := by decide +kernel
theorem dX8_tryStatement_113 : decode cX8_tryStatement 113 = .ok (.invokevirtual 80, 3) := by decide +kernel
theorem dX8_tryStatement_116 : decode cX8_tryStatement 116 = .ok (.ifCond .eq 11, 3) := by decide +kernel
theorem dX8_tryStatement_127 : decode cX8_tryStatement 127 = .ok (.aload_n 1, 1) := by decide +kernel
theorem dX8_tryStatement_128 : decode cX8_tryStatement 128 = .ok (.areturn, 1) := by decide +kernel
theorem dX8_tryStatement_119 : decode cX8_tryStatement 119 = .ok (.aload_n 1, 1) := by decide +kernel
theorem dX8_tryStatement_120 : decode cX8_tryStatement 120 = .ok (.aload_n 0, 1) := by decide +kernel
theorem dX8_tryStatement_121 : decode cX8_tryStatement 121 = .ok (.invokevirtual 120, 3) := by decide +kernel
theorem dX8_tryStatement_124 : decode cX8_tryStatement 124 = .ok (.putfield 236, 3) := by decide +kernel
theorem dX8_tryStatement_106 : decode cX8_tryStatement 106 = .ok (.aload_n 0, 1) := by decide +kernel
theorem dX8_tryStatement_107 : decode cX8_tryStatement 107 = .ok (.invokevirtual 67, 3) := by decide +kernel
theorem dX8_tryStatement_51 : decode cX8_tryStatement 51 = .ok (.aload_n 0, 1) := by decide +kernel
theorem dX8_tryStatement_52 : decode cX8_tryStatement 52 = .ok (.iconst 3, 1) := by decide +kernel
theorem dX8_tryStatement_53 : decode cX8_tryStatement 53 = .ok (.invokevirtual 36, 3) := by decide +kernel
theorem dX8_tryStatement_56 : decode cX8_tryStatement 56 = .ok (.ifCond .eq 37, 3) := by decide +kernel
theorem dX8_tryStatement_59 : decode cX8_tryStatement 59 = .ok (.aload_n 0, 1) := by decide +kernel
theorem dX8_tryStatement_60 : decode cX8_tryStatement 60 = .ok (.invokevirtual 242, 3) := by decide +kernel
theorem dX8_tryStatement_63 : decode cX8_tryStatement 63 = .ok (.astore 4, 2) := by decide +kernel
theorem dX8_tryStatement_65 : decode cX8_tryStatement 65 = .ok (.aload_n 2, 1) := by decide +kernel
theorem dX8_tryStatement_66 : decode cX8_tryStatement 66 = .ok (.ifnonnull 12, 3) := by decide +kernel
theorem dX8_tryStatement_69 : decode cX8_tryStatement 69 = .ok (.aload_n 1, 1) := by decide +kernel
theorem dX8_tryStatement_70 : decode cX8_tryStatement 70 = .ok (.aload 4, 2) := by decide +kernel
theorem dX8_tryStatement_72 : decode cX8_tryStatement 72 = .ok (.putfield 230, 3) := by decide +kernel
theorem dX8_tryStatement_75 : decode cX8_tryStatement 75 = .ok (.goto 9, 3) := by decide +kernel
theorem dX8_tryStatement_84 : decode cX8_tryStatement 84 = .ok (.aload 4, 2) := by decide +kernel
theorem dX8_tryStatement_86 : decode cX8_tryStatement 86 = .ok (.astore_n 2, 1) := by decide +kernel
theorem dX8_tryStatement_87 : decode cX8_tryStatement 87 = .ok (.iinc 3 1, 3) := by decide +kernel
theorem dX8_tryStatement_90 : decode cX8_tryStatement 90 = .ok (.goto (-50), 3) := by decide +kernel
theorem dX8_tryStatement_78 : decode cX8_tryStatement 78 = .ok (.aload_n 2, 1) := by decide +kernel
theorem dX8_tryStatement_79 : decode cX8_tryStatement 79 = .ok (.aload 4, 2) := by decide +kernel
theorem dX8_tryStatement_81 : decode cX8_tryStatement 81 = .ok (.putfield 168, 3) := by decide +kernel
theorem hV_X8_catchBlock : yX8_catchBlock.cls = RX8 ∧ yX8_catchBlock.cls ≠ "java/lang/invoke/MethodHandle" ∧ yX8_catchBlock.cls ≠ "java/lang/invoke/VarHandle" ∧ (parseMethodDescriptor yX8_catchBlock.desc).map (fun d => d.parameters.length) = some 0 := by decide +kernel
set_option maxHeartbeats 40000000 in
set_option maxRecDepth 100000 in
theorem P_try (l : Launch) (G : pT) (h0 : Nat) (a : Nat → Nat) (F : Nat → Int32) (R : Nat → Value) (Z : Int64) (B : Nat → Nat → Int32) (J : Nat → Nat → Int64) (K : PK) (w : va_W) (n : Nat) (at9 : Nat) (sz : Nat) (dp : Nat) (sg : Nat) (O : Nat) (g : Nat → Nat → Nat) (hsz : sz ≤ 5000) (hat : at9 ≤ sz) (hdp : dp + n = 20) (hsg : sg ≤ 60) (hwn : WN K g) (how : ∀ o : Nat, O = o + 1 → K.1 o = 1 ∧ g 0 o = 0 ∧ ¬ K.2.1 0 o = 32) (hle : at9 + 1 ≤ sz) (ist : PSt l G n) (hO : OKP G h0 a (upd (upd (upd (upd F 2 (nI sz)) 9 (nI at9)) 10 (nI dp)) 11 (nI sg)) R Z B J K w) (hl0 : l.stackTraces = false) : PBn l G pX0 yX8_tryStatement cX8_tryStatement 5 (some (.object "JinjaTongue$Node")) ({ frames := (50 * n + 58), cells := (2 * (sz - at9) + 20), slots := (11 * (2 * (sz - at9) + 20)), locals := (1500 * n + 1650) }) [.ref (a 3)] w (fun (v : Option Value) (u : va_W × (Nat × PK × (Nat → Nat → Nat) × Nat × Nat × (Nat → Int32))) => v = some (.ref u.2.1) ∧ (NwR K u.2.2.1 g u.2.2.2.1 u.2.1 O at9 ((173 + 3 * (20 - dp)))) ∧ (at9 + 3 ≤ u.2.2.2.2.1 ∧ u.2.2.2.2.1 ≤ sz) ∧ (sg ≤ u.2.2.2.2.2.1 ∧ u.2.2.2.2.2.1 ≤ 60) ∧ (OKP G h0 a (upd (upd (upd (upd F 2 (nI sz)) 9 (nI u.2.2.2.2.1)) 10 (nI dp)) 11 (nI u.2.2.2.2.2.1)) R Z (updA B 10 u.2.2.2.2.2.2) J u.2.2.1 u.1)) (fun u => u.1) (fun (u : va_W × (Nat × PK × (Nat → Nat → Nat) × Nat × Nat × (Nat → Int32))) => (2 * (u.2.2.2.2.1 - at9) - 4)) (fun (u : va_W × (Nat × PK × (Nat → Nat → Nat) × Nat × Nat × (Nat → Int32))) => (11 * (2 * (u.2.2.2.2.1 - at9) - 4))) (fun (u : va_W × (Nat → Int32) × (Nat → Value) × (Nat → Nat → Int32)) => ThQ G h0 a (upd (upd (upd (upd F 2 (nI sz)) 9 (nI at9)) 10 (nI dp)) 11 (nI sg)) Z B J u) (fun u => u.1) := by
  intro sz
  refine vx_ofW (cc := cX8_tryStatement) (maxL := 5) (ret := (some (.object "JinjaTongue$Node"))) (by decide) rfl ?_
  intro p e s m args below meth c s₁ B9 hml hnt hv
  obtain ⟨rfl, hsz, hP, hD0, hE, hX⟩ := hv
  have hx := B9.exec
  have hb := B9.bytes
  have hr := B9.returns
  have hts := atoms_spec (ws := Cond.code yX8_tryStatement cX8_tryStatement 5 (some (.object "JinjaTongue$Node")) :: pw) B9.pre
  have hq : ∀ w ∈ pw, w.before _ s = true := fun w h => hts w (List.mem_cons_of_mem _ h)
  have hown : s.vm.findClass RX8 = some m.cls := findClass_of_methodNamed B9.named
  have hlocks := B9.notSynchronized
  subst hsz
  have hD := hD0.self (sz := s.heap.size)
  have hA : ∀ q : Nat, s.heap.size ≤ q → va_A w s.heap.size q := fun q h => Or.inr h
  generalize va_A w s.heap.size = A at hD hE hA ⊢
  have hS : va_S A s.heap s.heap [] := va_S.rf
  have hl := lv_entry ([.ref (a 3)]) (n := 5) (Nat.le_of_ble_eq_true rfl)
  rw [lg_entry_eq]
  generalize (lg_sl ([.ref (a 3)]) ++ List.replicate (5 - (lg_sl ([.ref (a 3)])).length) Slot.unset).toArray = ls at hl ⊢
  have hl : lv_has ls 5 [(0, .ref (a 3))] := hl
  have hns0 : NwS K K g g := NwS.nil hwn
  refine p_new (s9 := 1) (C := RX7) (T := TX7) (N := 11) (ci := 13) (fs := [.int 0, .int 0, .int 0, .int 0, .int 0, .int 0, .null, .null, .null, .null, .null]) hx hb hq pin_wsX70 tyX7 tyX7_ok hown (hq _ pw_870) (hq _ pw_871) (hq _ pw_872) hE hP hD hS hA hO rfl nw_X7 (by decide) (fun q => by rw [rep_1 (show (kN K q 1 0).1 q = 1 from if_pos rfl)]; unfold fsNode kN; simp only [if_true]; rfl) (by show 0 + 1 ≤ (2 * (sz - at9) + 20); omega) (by show 0 + 11 ≤ (11 * (2 * (sz - at9) + 20)); omega) dX8_tryStatement_0 (fun q1 H w hq2 hP hD hS hO => ?_)
  have hf3 : (kN K q1 1 0).1 q1 = 1 := if_pos rfl
  refine W.widen (k := 1) (n := 11) (by show 0 + 1 ≤ 1; omega) (by show 0 + 11 ≤ 11; omega) ?_
  refine lv_dup hx hb dX8_tryStatement_3 rfl ?_
  refine lv_bipush (v := 32) hx hb dX8_tryStatement_4 (by decide) ?_
  refine lv_aload_n hx hb dX8_tryStatement_6 rfl (lv_at hl 0 rfl) ?_
  refine c_get (v := .int (nI at9)) (C := RX8) (Tc := TX8) (N := 5) (ci := 5) hx hb hq pin_wsX80 hown hE hP hO 23 (sg_23 G h0 a _ _ _ _ _) rfl 2 (by decide) (hq _ pw_776) (fun _ h9 => h9) rfl dX8_tryStatement_7 ?_
  refine lv_aload_n hx hb dX8_tryStatement_10 rfl (lv_at hl 0 rfl) ?_
  refine c_get (v := .int (nI at9)) (C := RX8) (Tc := TX8) (N := 5) (ci := 5) hx hb hq pin_wsX80 hown hE hP hO 23 (sg_23 G h0 a _ _ _ _ _) rfl 2 (by decide) (hq _ pw_776) (fun _ h9 => h9) rfl dX8_tryStatement_11 ?_
  have hO : OKP G h0 a (upd (upd (upd (upd F 2 (nI sz)) 9 (nI at9)) 10 (nI dp)) 11 (nI sg)) R Z B J (kN K q1 1 0) w := hO.to rfl
  obtain ⟨qr7, hqr8⟩ := p_recv hO (by rw [hf3]; decide) (rep_1 hf3)
  refine pc_I0 (G := G) (As := [.int 32, .int (nI at9), .int (nI at9)]) (rest := [.ref q1]) hx hb hml hown hq hE hX pX0_al hP hD hS hA hl.1 (N_init l G h0 a (upd (upd (upd (upd F 2 (nI sz)) 9 (nI at9)) 10 (nI dp)) 11 (nI sg)) R Z B J (kN K q1 1 0) w q1 32 (nI at9) (nI at9) (by omega) hO) pw_874 pw_875 pw_872 pw_765 rfl hS_X7_init rfl (Nat.le_of_ble_eq_true rfl) dX8_tryStatement_14 ⟨(by show 1 + 0 ≤ (2 * (sz - at9) + 20); omega), (by show 11 + 0 ≤ (11 * (2 * (sz - at9) + 20)); omega)⟩ ⟨(by show 2 + 1 ≤ (50 * n + 58); omega), (by show 8 + (4 + 11) + 60 ≤ (1500 * n + 1650); omega)⟩ (fun v6 u4 H locs hw5 hP hD hS => ?_)
  obtain ⟨w, _⟩ := u4
  obtain ⟨hw5, hO⟩ := hw5
  obtain rfl : v6 = none := hw5
  have hf9 : (kI (kI (kI (kN K q1 1 0) 0 q1 32) 1 q1 (nI at9)) 2 q1 (nI at9)).1 q1 = 1 := hf3
  have hO : OKP G h0 a (upd (upd (upd (upd F 2 (nI sz)) 9 (nI at9)) 10 (nI dp)) 11 (nI sg)) R Z B J (kI (kI (kI (kN K q1 1 0) 0 q1 32) 1 q1 (nI at9)) 2 q1 (nI at9)) w := hO.to rfl
  refine W.widen (k := 1) (n := 11) (by show 1 + 0 ≤ 1; omega) (by show 11 + 0 ≤ 11; omega) ?_
  refine W.eq (g2 := F0 m 17 ls [.ref q1]) rfl ?_
  change OKP G h0 a (upd (upd (upd (upd F 2 (nI sz)) 9 (nI at9)) 10 (nI dp)) 11 (nI sg)) R Z B J (mkN K q1 32 (nI at9) (nI at9)) w at hO
  obtain ⟨K10, hK11⟩ : ∃ z : PK, z = (mkN K q1 32 (nI at9) (nI at9)) := ⟨_, rfl⟩
  rw [← hK11] at hO
  have hf12 : K10.1 q1 = 1 := by rw [hK11]; exact mkN_T
  have hf13 : K10.2.1 0 q1 = 32 := by rw [hK11]; exact mkN_0
  have hf14 : K10.2.1 2 q1 = (nI at9) := by rw [hK11]; exact mkN_2
  have hf15 : K10.2.2.1 0 q1 = none := by rw [hK11]; exact mkN_C
  have hf16 : K10.2.2.1 1 q1 = none := by rw [hK11]; exact mkN_C
  have hf17 : K10.2.2.1 2 q1 = none := by rw [hK11]; exact mkN_C
  have hf18 : K10.2.2.1 3 q1 = none := by rw [hK11]; exact mkN_C
  have hf19 : K10.2.2.1 4 q1 = none := by rw [hK11]; exact mkN_C
  have hns20 : NwS K K10 g (gset g q1 0 0 0) := by rw [hK11]; exact NwS.node hns0 hq2
  have hq21 : K.1 q1 = 0 := old_T hns0.2.1 hq2
  have hg22 : (gset g q1 0 0 0) 0 q1 = 0 := gset_0
  have hno23 : NoO K10 (gset g q1 0 0 0) q1 := by rw [hK11]; exact NoO.new hns0.1 hq2
  refine lv_astore_n (lv' := [(1, .ref q1), (0, .ref (a 3))]) hx hb dX8_tryStatement_17 rfl hl (by decide) rfl (fun ls hl => ?_)
  refine lv_aload_n hx hb dX8_tryStatement_18 rfl (lv_at hl 1 rfl) ?_
  refine lv_dup hx hb dX8_tryStatement_19 rfl ?_
  refine c_get (v := .int (nI at9)) (C := RX8) (Tc := TX8) (N := 5) (ci := 5) hx hb hq pin_wsX80 hown hE hP hO 23 (sg_23 G h0 a _ _ _ _ _) rfl 2 (by decide) (hq _ pw_776) (fun _ h9 => h9) rfl dX8_tryStatement_20 ?_
  refine lv_iconst (v := 1) hx hb dX8_tryStatement_23 (by decide) ?_
  refine lv_iadd hx hb dX8_tryStatement_24 ?_
  refine lv_topi (fun x24 e25 => ?_)
  obtain rfl : x24 = nI (at9 + 1) := e25.trans (nI_add (at9) (1))
  refine c_put (v := .int (nI (at9 + 1))) (ty := .int) (C := RX8) (Tc := TX8) (N := 5) (ci := 5) hx hb hq pin_wsX80 tyX8 tyX8_ok nmX8 hown hE hP hD hS hO 23 (sg_23 G h0 a _ _ _ _ _) rfl 2 (by decide) (hq _ pw_776) (fun _ h9 => h9) rfl (by decide +kernel) rfl rfl (Nat.le_of_ble_eq_true rfl) (sf_9 G h0 a _ _ _ _ _ (nI (at9 + 1))) dX8_tryStatement_25 (fun H locs w hP hD hS hO => ?_)
  refine lv_aload_n hx hb dX8_tryStatement_28 rfl (lv_at hl 0 rfl) ?_
  refine lv_aload_n hx hb dX8_tryStatement_29 rfl (lv_at hl 1 rfl) ?_
  have hO : OKP G h0 a (upd (upd (upd (upd (upd (upd (upd (upd (upd F 2 (nI sz)) 9 (nI at9)) 10 (nI dp)) 11 (nI sg)) 9 (nI (at9 + 1))) 2 (nI sz)) 9 (nI (at9 + 1))) 10 (nI dp)) 11 (nI sg)) R Z B J K10 w := hO.to rfl
  obtain ⟨_, qr29, hqr30⟩ := hO.2.1 23 _ (sg_23 G h0 a _ _ _ _ _)
  refine pn_V0 (G := G) (As := []) (rest := [.ref q1]) hx hb hml hown hq hE hX pX0_al hP hD hS hA hl.1 (P_block l G h0 a (upd (upd (upd (upd (upd F 2 (nI sz)) 9 (nI at9)) 10 (nI dp)) 11 (nI sg)) 9 (nI (at9 + 1))) R Z B J K10 w n (at9 + 1) sz dp sg 0 (gset g q1 0 0 0) (by omega) (by omega) hdp (by omega) hns20.1 (fun o9 h9 => absurd h9 (by omega)) ist hO hl0) (gV pw_1007 pw_1008 pw_1009 pw_796 pw_1056) hV_X8_block qr29 5 hqr30 rfl rfl rfl (Nat.le_of_ble_eq_true rfl) dX8_tryStatement_30 ⟨(by show 1 + (2 * (sz - (at9 + 1)) + 20) ≤ (2 * (sz - at9) + 20); omega), (by show 11 + (11 * (2 * (sz - (at9 + 1)) + 20)) ≤ (11 * (2 * (sz - at9) + 20)); omega)⟩ ⟨(by show (50 * n + 54) + 1 ≤ (50 * n + 58); omega), (by show 8 + (5 + 11) + (1500 * n + 1560) ≤ (1500 * n + 1650); omega)⟩ (fun v28 u26 H locs hw27 hP hD hS => ?_) (fun ux ce9 q9 H9 locs9 hux hP9 hD9 hS9 hce hcv hcl => pb_out ux (ThQ.up (Thx.same (Thx.same (Thx.same (Thx.same (Thx.f Thx.rfl (by omega)) rfl) rfl) rfl) rfl) hux) hnt hlocks hce hcv hcl hP9 hD9 hS9 (by show 1 + (2 * (sz - (at9 + 1)) + 20) ≤ (2 * (sz - at9) + 20); omega) (by show 11 + (11 * (2 * (sz - (at9 + 1)) + 20)) ≤ (11 * (2 * (sz - at9) + 20)); omega))
  obtain ⟨w, r31, K32, g33, at34, sg35, f36⟩ := u26
  obtain ⟨hw27, h37, h38, h39, h40, hO⟩ := hw27
  have h37 : NwR K10 K32 (gset g q1 0 0 0) g33 r31 0 (at9 + 1) ((171 + 3 * (20 - dp))) := h37
  have h38 : (at9 + 1) + 2 ≤ at34 ∧ at34 ≤ sz := h38
  have h39 : sg ≤ sg35 ∧ sg35 ≤ 60 := h39
  have h40 : K32.2.1 0 r31 = 21 := h40
  obtain rfl : v28 = some (.ref r31) := hw27
  have hf41 : K32.1 q1 = 1 := (((h37).2.1.1 q1 (by rw [hf12]; decide)).1).trans hf12
  have hf42 : K32.2.1 0 q1 = 32 := (((h37).2.1.1 q1 (by rw [hf12]; decide)).2.1 0).trans hf13
  have hf43 : K32.2.1 2 q1 = (nI at9) := (((h37).2.1.1 q1 (by rw [hf12]; decide)).2.1 2).trans hf14
  have hf44 : K32.2.2.1 0 q1 = none := (((h37).2.1.1 q1 (by rw [hf12]; decide)).2.2.1 0).trans hf15
  have hf45 : K32.2.2.1 1 q1 = none := (((h37).2.1.1 q1 (by rw [hf12]; decide)).2.2.1 1).trans hf16
  have hf46 : K32.2.2.1 2 q1 = none := (((h37).2.1.1 q1 (by rw [hf12]; decide)).2.2.1 2).trans hf17
  have hf47 : K32.2.2.1 3 q1 = none := (((h37).2.1.1 q1 (by rw [hf12]; decide)).2.2.1 3).trans hf18
  have hf48 : K32.2.2.1 4 q1 = none := (((h37).2.1.1 q1 (by rw [hf12]; decide)).2.2.1 4).trans hf19
  have hO : OKP G h0 a (upd (upd (upd (upd F 2 (nI sz)) 9 (nI at34)) 10 (nI dp)) 11 (nI sg35)) R Z (updA B 10 f36) J K32 w := hO.to rfl
  refine W.widen (k := (1 + (2 * (at34 - (at9 + 1)) - 3))) (n := (11 + (11 * (2 * (at34 - (at9 + 1)) - 3)))) (by show 1 + (2 * (at34 - (at9 + 1)) - 3) ≤ (1 + (2 * (at34 - (at9 + 1)) - 3)); omega) (by show 11 + (11 * (2 * (at34 - (at9 + 1)) - 3)) ≤ (11 + (11 * (2 * (at34 - (at9 + 1)) - 3))); omega) ?_
  refine W.eq (g2 := F0 m 33 ls [.ref r31, .ref q1]) rfl ?_
  have hns49 : NwS K K32 g g33 := NwS.call hns20 h37 (fun o9 h9 => absurd h9 (by omega))
  have hf50 : K32.1 r31 = 1 := h37.2.2.1.2.1
  have hg51 : g33 0 q1 = 0 := (h37.2.1.2 q1 (by rw [hf12]; decide) 0).trans hg22
  have hno52 : NoO K32 g33 q1 := NoO.call hno23 h37 hf12 (by omega)
  have hgy53 := h37.2.2.1
  have hgy53a := hgy53.2.2.1
  have hgy53b := hgy53.2.2.2.1
  refine p_put (v := .ref r31) (ty := (.object "JinjaTongue$Node")) (C := RX7) (Tc := TX7) (N := 11) (ci := 13) (K' := (kC K32 0 q1 (some r31))) hx hb hq pin_wsX70 tyX7 tyX7_ok nmX7 hown hE hP hD hS hO (by rw [hf41]; decide) (rep_1 hf41) rfl 6 (by decide) (hq _ pw_938) (fun _ h9 => h9) rfl (by decide +kernel) rfl rfl (Nat.le_of_ble_eq_true rfl) rfl (by rw [rep_1 (show (kC K32 0 q1 (some r31)).1 q1 = 1 from hf41), pc_0] <;> rfl) (fun p9 hp9 => rep_kC hp9) dX8_tryStatement_33 (fun H locs w hP hD hS hO => ?_)
  obtain ⟨K54, hK55⟩ : ∃ z : PK, z = (kC K32 0 q1 (some r31)) := ⟨_, rfl⟩
  rw [← hK55] at hO
  have hf56 : K54.1 q1 = 1 := (by rw [hK55]; exact hf41)
  have hf57 : K54.2.1 0 q1 = 32 := (by rw [hK55]; exact hf42)
  have hf58 : K54.2.1 2 q1 = (nI at9) := (by rw [hK55]; exact hf43)
  have hf59 : K54.2.2.1 1 q1 = none := (by rw [hK55]; exact (kC_of (by decide)).trans hf45)
  have hf60 : K54.2.2.1 2 q1 = none := (by rw [hK55]; exact (kC_of (by decide)).trans hf46)
  have hf61 : K54.2.2.1 3 q1 = none := (by rw [hK55]; exact (kC_of (by decide)).trans hf47)
  have hf62 : K54.2.2.1 4 q1 = none := (by rw [hK55]; exact (kC_of (by decide)).trans hf48)
  have hf63 : K54.1 r31 = 1 := (by rw [hK55]; exact hf50)
  have hf64 : K54.2.1 0 r31 = 21 := (by rw [hK55]; exact h40)
  have hf65 : K54.2.2.1 0 q1 = some r31 := by rw [hK55]; exact kC_eq
  have hns66 : NwS K K54 g g33 := by rw [hK55]; exact NwS.put hns49 hq21 hg51
  have hno67 : NoO K54 g33 q1 := by rw [hK55]; exact hno52
  refine lv_null hx hb dX8_tryStatement_36 ?_
  refine lv_astore_nN (lv' := [(2, .null), (1, .ref q1), (0, .ref (a 3))]) hx hb dX8_tryStatement_37 rfl hl (by decide) rfl (fun ls hl => ?_)
  refine lv_iconst (v := 0) hx hb dX8_tryStatement_38 (by decide) ?_
  refine lv_istore_n (lv' := [(3, .int 0), (2, .null), (1, .ref q1), (0, .ref (a 3))]) hx hb dX8_tryStatement_39 rfl hl (by decide) rfl (fun ls hl => ?_)
  have loop_i : ∀ (n_i : Nat) (i2 : Nat) (at2 : Nat) (sg2 : Nat) (f2 : Nat → Int32) (la2 : Option Nat) (K2 : PK) (g2 : Nat → Nat → Nat) (q2 : Nat) (xa : Nat) (H : Heap) (locs : List Loc) (ls : Array Slot) (w : va_W), i2 ≤ sz → sz + 1 ≤ i2 + n_i → (at9 + 3 ≤ at2 ∧ at2 ≤ sz) → (sg ≤ sg2 ∧ sg2 ≤ 60) → (LsN K K2 g g2 q2 1 (172 + 3 * (20 - dp))) → (K2.2.1 0 q2 = 32) → (K2.2.2.1 2 q2 = none) → (K2.2.2.1 3 q2 = none) → (K2.2.2.1 4 q2 = none) → (K2.2.2.1 0 q2 = some xa) → (K2.1 xa = 1) → (K2.2.1 0 xa = 21) → (1 ≤ g2 0 xa ∧ g2 0 xa ≤ (171 + 3 * (20 - dp))) → (LaO K K2 g2 q2 at2 la2) → va_P G.1 pCl w H → va_D A w → va_S A s.heap H locs → OKP G h0 a (upd (upd (upd (upd F 2 (nI sz)) 9 (nI at2)) 10 (nI dp)) 11 (nI sg2)) R Z (updA B 10 f2) J K2 w → lv_has ls 5 [(3, .int (nI i2)), (2, va_rf la2), (1, .ref q2), (0, .ref (a 3))] → W p l e (headSpec (Cond.code yX8_tryStatement cX8_tryStatement 5 (some (.object "JinjaTongue$Node")) :: pw) ({ frames := (50 * n + 58), cells := (2 * (sz - at9) + 20), slots := (11 * (2 * (sz - at9) + 20)), locals := (1500 * n + 1650) } : Room)).room s m ([.ref (a 3)] : List Value).toArray below meth c H locs (2 * (at2 - at9) - 4) (11 * (2 * (at2 - at9) - 4)) (vx_MQ below (pQn G A (fun (v : Option Value) (u : va_W × (Nat × PK × (Nat → Nat → Nat) × Nat × Nat × (Nat → Int32))) => v = some (.ref u.2.1) ∧ (NwR K u.2.2.1 g u.2.2.2.1 u.2.1 O at9 ((173 + 3 * (20 - dp)))) ∧ (at9 + 3 ≤ u.2.2.2.2.1 ∧ u.2.2.2.2.1 ≤ sz) ∧ (sg ≤ u.2.2.2.2.2.1 ∧ u.2.2.2.2.2.1 ≤ 60) ∧ (OKP G h0 a (upd (upd (upd (upd F 2 (nI sz)) 9 (nI u.2.2.2.2.1)) 10 (nI dp)) 11 (nI u.2.2.2.2.2.1)) R Z (updA B 10 u.2.2.2.2.2.2) J u.2.2.1 u.1)) (fun u => u.1) (fun (u : va_W × (Nat × PK × (Nat → Nat → Nat) × Nat × Nat × (Nat → Int32))) => (2 * (u.2.2.2.2.1 - at9) - 4)) (fun (u : va_W × (Nat × PK × (Nat → Nat → Nat) × Nat × Nat × (Nat → Int32))) => (11 * (2 * (u.2.2.2.2.1 - at9) - 4)))) (pXX G A (fun (u : va_W × (Nat → Int32) × (Nat → Value) × (Nat → Nat → Int32)) => ThQ G h0 a (upd (upd (upd (upd F 2 (nI sz)) 9 (nI at9)) 10 (nI dp)) 11 (nI sg)) Z B J u) (fun u => u.1)) ([.ref (a 3)] : List Value).toArray s ({ frames := (50 * n + 58), cells := (2 * (sz - at9) + 20), slots := (11 * (2 * (sz - at9) + 20)), locals := (1500 * n + 1650) } : Room).cells ({ frames := (50 * n + 58), cells := (2 * (sz - at9) + 20), slots := (11 * (2 * (sz - at9) + 20)), locals := (1500 * n + 1650) } : Room).slots A) (F0 m 40 ls []) := by
    intro n_i
    induction n_i with
    | zero => intro i2 at2 sg2 f2 la2 K2 g2 q2 xa H locs ls w hk_i hn_i; omega
    | succ n_i ih_i =>
      intro i2 at2 sg2 f2 la2 K2 g2 q2 xa H locs ls w hk_i hn_i hat2 hsg2 hls2 hkd2 hc22 hc23 hc24 hxa hxT hxk hxg hla2 hP hD hS hO hl
      have hq2 := hls2.2.2.1
      refine lv_iload_n hx hb dX8_tryStatement_40 rfl (lv_at hl 0 rfl) ?_
      refine lv_aload_n hx hb dX8_tryStatement_41 rfl (lv_at hl 3 rfl) ?_
      refine c_get (v := .ref (a 1)) (C := RX8) (Tc := TX8) (N := 5) (ci := 5) hx hb hq pin_wsX80 hown hE hP hO 23 (sg_23 G h0 a _ _ _ _ _) rfl 0 (by decide) (hq _ pw_774) (fun _ h9 => h9) rfl dX8_tryStatement_42 ?_
      refine c_get (v := .int (nI sz)) (C := RX10) (Tc := TX10) (N := 15) (ci := 7) hx hb hq pin_wsX100 hown hE hP hO 2 (sg_2 G h0 a _ _ _ _ _) rfl 8 (by decide) (hq _ pw_792) (fun _ h9 => h9) rfl dX8_tryStatement_45 ?_
      refine lv_icmp_ge (tgt := 93) hx hb dX8_tryStatement_48 (by decide) (fun c68 => ?_) (fun c68 => ?_)
      · have n69 : sz ≤ i2 := (nI_leI (a := sz) (b := i2) (by omega) (by omega)).mp c68
        rcases la2 with _ | y9
        · have hl : lv_has ls 5 [(3, .int (nI i2)), (2, .null), (1, .ref q2), (0, .ref (a 3))] := hl
          refine lv_aload_nN hx hb dX8_tryStatement_93 rfl (lv_at hl 1 rfl) ?_
          refine lv_ifnonnullN hx hb dX8_tryStatement_94 ?_
          refine lv_aload_n hx hb dX8_tryStatement_97 rfl (lv_at hl 3 rfl) ?_
          refine lv_bipush (v := 9) hx hb dX8_tryStatement_98 (by decide) ?_
          have hO : OKW G h0 a (upd (upd (upd (upd (upd (upd F 2 (nI sz)) 9 (nI at2)) 10 (nI dp)) 11 (nI sg2)) 2 (nI sz)) 9 (nI at2)) R Z (updA B 10 f2) J K2.1 (fun q99 x99 => x99 = rep G a K2 q99) w := hO.to rfl
          obtain ⟨_, qr73, hqr74⟩ := hO.2.1 23 _ (sg_23 G h0 a _ _ _ _ _)
          refine pc_V0 (G := G) (As := [.int 9]) (rest := []) hx hb hml hown hq hE hX pX0_al hP hD hS hA hl.1 (P_sees l G h0 a (upd (upd (upd (upd F 2 (nI sz)) 9 (nI at2)) 10 (nI dp)) 11 (nI sg2)) R Z (updA B 10 f2) J K2.1 (fun q99 x99 => x99 = rep G a K2 q99) w 9 at2 sz (by omega) (by omega) hO) (gV pw_803 pw_804 pw_805 pw_796 pw_775) hV_X8_sees qr73 5 hqr74 rfl rfl rfl (Nat.le_of_ble_eq_true rfl) dX8_tryStatement_100 ⟨(by show (2 * (at2 - at9) - 4) + 0 ≤ (2 * (sz - at9) + 20); omega), (by show (11 * (2 * (at2 - at9) - 4)) + 0 ≤ (11 * (2 * (sz - at9) + 20)); omega)⟩ ⟨(by show 3 + 1 ≤ (50 * n + 58); omega), (by show 8 + (2 + 11) + 81 ≤ (1500 * n + 1650); omega)⟩ (fun v72 u70 H locs hw71 hP hD hS => ?_)
          obtain ⟨w, r75⟩ := u70
          obtain ⟨hw71, h76, hO⟩ := hw71
          have h76 : r75 ≤ 1 := h76
          obtain rfl : v72 = some (.int (nI r75)) := hw71
          have hO : OKP G h0 a (upd (upd (upd (upd F 2 (nI sz)) 9 (nI at2)) 10 (nI dp)) 11 (nI sg2)) R Z (updA B 10 f2) J K2 w := hO.to rfl
          refine W.widen (k := (2 * (at2 - at9) - 4)) (n := (11 * (2 * (at2 - at9) - 4))) (by show (2 * (at2 - at9) - 4) + 0 ≤ (2 * (at2 - at9) - 4); omega) (by show (11 * (2 * (at2 - at9) - 4)) + 0 ≤ (11 * (2 * (at2 - at9) - 4)); omega) ?_
          refine W.eq (g2 := F0 m 103 ls [.int (nI r75)]) rfl ?_
          refine lv_if_ne (tgt := 110) hx hb dX8_tryStatement_103 (by decide) (fun c77 => ?_) (fun c77 => ?_)
          · have n78 : ¬ (r75 = 0) := fun h9 => c77 ((nI_eq (a := r75) (b := 0) (by omega) (by omega)).mpr h9)
            refine lv_aload_n hx hb dX8_tryStatement_110 rfl (lv_at hl 3 rfl) ?_
            refine lv_bipush (v := 9) hx hb dX8_tryStatement_111 (by decide) ?_
            have hO : OKW G h0 a (upd (upd (upd (upd (upd (upd F 2 (nI sz)) 9 (nI at2)) 10 (nI dp)) 11 (nI sg2)) 2 (nI sz)) 9 (nI at2)) R Z (updA B 10 f2) J K2.1 (fun q99 x99 => x99 = rep G a K2 q99) w := hO.to rfl
            obtain ⟨_, qr82, hqr83⟩ := hO.2.1 23 _ (sg_23 G h0 a _ _ _ _ _)
            refine pc_V0 (G := G) (As := [.int 9]) (rest := []) hx hb hml hown hq hE hX pX0_al hP hD hS hA hl.1 (P_takeIf l G h0 a (upd (upd (upd (upd F 2 (nI sz)) 9 (nI at2)) 10 (nI dp)) 11 (nI sg2)) R Z (updA B 10 f2) J K2.1 (fun q99 x99 => x99 = rep G a K2 q99) w 9 at2 sz (by omega) (by omega) (by decide) hO) (gV pw_797 pw_798 pw_799 pw_796 pw_789) hV_X8_takeIf qr82 5 hqr83 rfl rfl rfl (Nat.le_of_ble_eq_true rfl) dX8_tryStatement_113 ⟨(by show (2 * (at2 - at9) - 4) + 0 ≤ (2 * (sz - at9) + 20); omega), (by show (11 * (2 * (at2 - at9) - 4)) + 0 ≤ (11 * (2 * (sz - at9) + 20)); omega)⟩ ⟨(by show 3 + 1 ≤ (50 * n + 58); omega), (by show 8 + (2 + 11) + 81 ≤ (1500 * n + 1650); omega)⟩ (fun v81 u79 H locs hw80 hP hD hS => ?_)
            obtain ⟨w, r84⟩ := u79
            obtain ⟨hw80, h85, h86, hO⟩ := hw80
            have h85 : r84 ≤ 1 := h85
            have h86 : at2 + r84 ≤ sz := h86
            obtain rfl : v81 = some (.int (nI r84)) := hw80
            have hO : OKP G h0 a (upd (upd (upd (upd F 2 (nI sz)) 9 (nI (at2 + r84))) 10 (nI dp)) 11 (nI sg2)) R Z (updA B 10 f2) J K2 w := hO.to rfl
            refine W.widen (k := (2 * (at2 - at9) - 4)) (n := (11 * (2 * (at2 - at9) - 4))) (by show (2 * (at2 - at9) - 4) + 0 ≤ (2 * (at2 - at9) - 4); omega) (by show (11 * (2 * (at2 - at9) - 4)) + 0 ≤ (11 * (2 * (at2 - at9) - 4)); omega) ?_
            refine W.eq (g2 := F0 m 116 ls [.int (nI r84)]) rfl ?_
            refine lv_if_eq (tgt := 127) hx hb dX8_tryStatement_116 (by decide) (fun c87 => ?_) (fun c87 => ?_)
            · have n88 : r84 = 0 := (nI_eq (a := r84) (b := 0) (by omega) (by omega)).mp c87
              refine lv_aload_n hx hb dX8_tryStatement_127 rfl (lv_at hl 2 rfl) ?_
              refine W_size (fun hz1 hz2 => ?_)
              refine vx_ret ?_
              have hkid : ∀ f9 y9 : Nat, f9 ≤ 3 → ¬ f9 = 1 → K2.2.2.1 f9 q2 = some y9 → K2.1 y9 = 1 ∧ 1 ≤ g2 0 y9 ∧ g2 0 y9 < (173 + 3 * (20 - dp)) := by
                intro f9 y9 hf9 hf1 hy9
                rcases (show f9 = 0 ∨ f9 = 2 ∨ f9 = 3 by omega) with rfl | rfl | rfl
                · rw [hxa] at hy9; cases hy9; exact ⟨hxT, by omega, by omega⟩
                · rw [hc22] at hy9; cases hy9
                · rw [hc23] at hy9; cases hy9
              have hkch : ∀ f9 y9 : Nat, f9 ≤ 3 → K2.2.2.1 f9 q2 = some y9 → Kch (K2.2.1 0 q2) f9 (K2.2.1 0 y9) := by
                intro f9 y9 hf9 e9
                rw [hkd2]
                refine ⟨fun _ hn9 => ?_, fun z => absurd z (by decide), fun z => absurd z (by decide)⟩
                rcases (show f9 = 0 ∨ f9 = 2 ∨ f9 = 3 by omega) with rfl | rfl | rfl
                · rw [hxa] at e9; cases e9; exact hxk
                · rw [hc22] at e9; cases e9
                · rw [hc23] at e9; cases e9
              have hdn := LsN.done (L := (173 + 3 * (20 - dp))) (O := O) (k := at9) hls2 (by omega) (by omega) (Shp.k32 hkd2 (by show ¬ K2.2.2.1 0 q2 = none; rw [hxa]; intro z; cases z)) (fun f9 => Lsf.k32 hkd2) hkid hc24 hkch how
              have hz89 : NwR K K2 g (gset g2 q2 (173 + 3 * (20 - dp)) O at9) q2 O at9 ((173 + 3 * (20 - dp))) := hdn
              have hz90 : at9 + 3 ≤ (at2 + r84) ∧ (at2 + r84) ≤ sz := (by omega)
              have hz91 : sg ≤ sg2 ∧ sg2 ≤ 60 := (by omega)
              have hO : OKP G h0 a (upd (upd (upd (upd F 2 (nI sz)) 9 (nI (at2 + r84))) 10 (nI dp)) 11 (nI sg2)) R Z (updA B 10 f2) J K2 w := hO.to rfl
              refine W.widen (k := (2 * (sz - at9) + 20)) (n := (11 * (2 * (sz - at9) + 20))) (by omega) (by omega) ?_
              have hzz1 : H.size ≤ s.heap.size + ((2 * ((at2 + r84) - at9) - 4)) := (by have z : (2 * (at2 - at9) - 4) ≤ (2 * ((at2 + r84) - at9) - 4) := (by omega); omega)
              have hzz2 : hSl H ≤ hSl s.heap + ((11 * (2 * ((at2 + r84) - at9) - 4))) := (by have z : (11 * (2 * (at2 - at9) - 4)) ≤ (11 * (2 * ((at2 + r84) - at9) - 4)) := (by omega); omega)
              exact W.aret (v := .ref q2) hx hb hr (Or.inl ⟨_, rfl⟩) (Or.inr ⟨_, rfl⟩) (fun t99 ht99 hW99 => ⟨⟨_, (w, (q2, K2, (gset g2 q2 (173 + 3 * (20 - dp)) O at9), (at2 + r84), sg2, f2)), rfl, ⟨rfl, hz89, hz90, hz91, hO⟩, by rw [ht99]; exact hP, hD, by rw [ht99]; exact hzz1, by rw [ht99]; exact hzz2⟩, hS.F ht99⟩) hS.2.2 dX8_tryStatement_128
            · have n92 : ¬ (r84 = 0) := fun h9 => c87 ((nI_eq (a := r84) (b := 0) (by omega) (by omega)).mpr h9)
              refine lv_aload_n hx hb dX8_tryStatement_119 rfl (lv_at hl 2 rfl) ?_
              refine lv_aload_n hx hb dX8_tryStatement_120 rfl (lv_at hl 3 rfl) ?_
              have hO : OKP G h0 a (upd (upd (upd (upd (upd (upd (upd (upd (upd (upd F 2 (nI sz)) 9 (nI at9)) 10 (nI dp)) 11 (nI sg)) 9 (nI (at2 + r84))) 11 (nI sg2)) 2 (nI sz)) 9 (nI (at2 + r84))) 10 (nI dp)) 11 (nI sg2)) R Z (updA B 10 f2) J K2 w := hO.to rfl
              obtain ⟨_, qr96, hqr97⟩ := hO.2.1 23 _ (sg_23 G h0 a _ _ _ _ _)
              refine pn_V0 (G := G) (As := []) (rest := [.ref q2]) hx hb hml hown hq hE hX pX0_al hP hD hS hA hl.1 (P_block l G h0 a (upd (upd (upd (upd (upd (upd F 2 (nI sz)) 9 (nI at9)) 10 (nI dp)) 11 (nI sg)) 9 (nI (at2 + r84))) 11 (nI sg2)) R Z (updA B 10 f2) J K2 w n (at2 + r84) sz dp sg2 0 g2 (by omega) (by omega) hdp (by omega) hls2.1.1 (fun o9 h9 => absurd h9 (by omega)) ist hO hl0) (gV pw_1007 pw_1008 pw_1009 pw_796 pw_1056) hV_X8_block qr96 5 hqr97 rfl rfl rfl (Nat.le_of_ble_eq_true rfl) dX8_tryStatement_121 ⟨(by show (2 * (at2 - at9) - 4) + (2 * (sz - (at2 + r84)) + 20) ≤ (2 * (sz - at9) + 20); omega), (by show (11 * (2 * (at2 - at9) - 4)) + (11 * (2 * (sz - (at2 + r84)) + 20)) ≤ (11 * (2 * (sz - at9) + 20)); omega)⟩ ⟨(by show (50 * n + 54) + 1 ≤ (50 * n + 58); omega), (by show 8 + (5 + 11) + (1500 * n + 1560) ≤ (1500 * n + 1650); omega)⟩ (fun v95 u93 H locs hw94 hP hD hS => ?_) (fun ux ce9 q9 H9 locs9 hux hP9 hD9 hS9 hce hcv hcl => pb_out ux (ThQ.up (Thx.same (Thx.same (Thx.same (Thx.same (Thx.b (Thx.f (Thx.f Thx.rfl (by omega)) (by omega)) (by omega) (by decide)) rfl) rfl) rfl) rfl) hux) hnt hlocks hce hcv hcl hP9 hD9 hS9 (by show (2 * (at2 - at9) - 4) + (2 * (sz - (at2 + r84)) + 20) ≤ (2 * (sz - at9) + 20); omega) (by show (11 * (2 * (at2 - at9) - 4)) + (11 * (2 * (sz - (at2 + r84)) + 20)) ≤ (11 * (2 * (sz - at9) + 20)); omega))
              obtain ⟨w, r98, K99, g100, at101, sg102, f103⟩ := u93
              obtain ⟨hw94, h104, h105, h106, h107, hO⟩ := hw94
              have h104 : NwR K2 K99 g2 g100 r98 0 (at2 + r84) ((171 + 3 * (20 - dp))) := h104
              have h105 : (at2 + r84) + 2 ≤ at101 ∧ at101 ≤ sz := h105
              have h106 : sg2 ≤ sg102 ∧ sg102 ≤ 60 := h106
              have h107 : K99.2.1 0 r98 = 21 := h107
              obtain rfl : v95 = some (.ref r98) := hw94
              have hf108 : K99.1 q2 = 1 := (((h104).2.1.1 q2 (by rw [hq2]; decide)).1).trans hq2
              have hf109 : K99.2.1 0 q2 = 32 := (((h104).2.1.1 q2 (by rw [hq2]; decide)).2.1 0).trans hkd2
              have hf110 : K99.2.2.1 2 q2 = none := (((h104).2.1.1 q2 (by rw [hq2]; decide)).2.2.1 2).trans hc22
              have hf111 : K99.2.2.1 3 q2 = none := (((h104).2.1.1 q2 (by rw [hq2]; decide)).2.2.1 3).trans hc23
              have hf112 : K99.2.2.1 4 q2 = none := (((h104).2.1.1 q2 (by rw [hq2]; decide)).2.2.1 4).trans hc24
              have hf113 : K99.2.2.1 0 q2 = some xa := (((h104).2.1.1 q2 (by rw [hq2]; decide)).2.2.1 0).trans hxa
              have hf114 : K99.1 xa = 1 := (((h104).2.1.1 xa (by rw [hxT]; decide)).1).trans hxT
              have hf115 : K99.2.1 0 xa = 21 := (((h104).2.1.1 xa (by rw [hxT]; decide)).2.1 0).trans hxk
              have hO : OKP G h0 a (upd (upd (upd (upd F 2 (nI sz)) 9 (nI at101)) 10 (nI dp)) 11 (nI sg102)) R Z (updA B 10 f103) J K99 w := hO.to rfl
              refine W.widen (k := ((2 * (at2 - at9) - 4) + (2 * (at101 - (at2 + r84)) - 3))) (n := ((11 * (2 * (at2 - at9) - 4)) + (11 * (2 * (at101 - (at2 + r84)) - 3)))) (by show (2 * (at2 - at9) - 4) + (2 * (at101 - (at2 + r84)) - 3) ≤ ((2 * (at2 - at9) - 4) + (2 * (at101 - (at2 + r84)) - 3)); omega) (by show (11 * (2 * (at2 - at9) - 4)) + (11 * (2 * (at101 - (at2 + r84)) - 3)) ≤ ((11 * (2 * (at2 - at9) - 4)) + (11 * (2 * (at101 - (at2 + r84)) - 3))); omega) ?_
              refine W.eq (g2 := F0 m 124 ls [.ref r98, .ref q2]) rfl ?_
              have har5 := LsN.call0 hls2 h104
              have hbr := h104.2.2.1
              have hbr1 := hbr.2.2.1
              have hbr2 := hbr.2.2.2.1
              have hf116 : K99.1 r98 = 1 := hbr.2.1
              have hxz : g100 0 xa = g2 0 xa := h104.2.1.2 xa (by rw [hxT]; decide) 0
              refine p_put (v := .ref r98) (ty := (.object "JinjaTongue$Node")) (C := RX7) (Tc := TX7) (N := 11) (ci := 13) (K' := (kC K99 2 q2 (some r98))) hx hb hq pin_wsX70 tyX7 tyX7_ok nmX7 hown hE hP hD hS hO (by rw [hf108]; decide) (rep_1 hf108) rfl 8 (by decide) (hq _ pw_943) (fun _ h9 => h9) rfl (by decide +kernel) rfl rfl (Nat.le_of_ble_eq_true rfl) rfl (by rw [rep_1 (show (kC K99 2 q2 (some r98)).1 q2 = 1 from hf108), pc_2] <;> rfl) (fun p9 hp9 => rep_kC hp9) dX8_tryStatement_124 (fun H locs w hP hD hS hO => ?_)
              obtain ⟨K117, hK118⟩ : ∃ z : PK, z = (kC K99 2 q2 (some r98)) := ⟨_, rfl⟩
              rw [← hK118] at hO
              have hf119 : K117.1 q2 = 1 := (by rw [hK118]; exact hf108)
              have hf120 : K117.2.1 0 q2 = 32 := (by rw [hK118]; exact hf109)
              have hf121 : K117.2.2.1 3 q2 = none := (by rw [hK118]; exact (kC_of (by decide)).trans hf111)
              have hf122 : K117.2.2.1 4 q2 = none := (by rw [hK118]; exact (kC_of (by decide)).trans hf112)
              have hf123 : K117.2.2.1 0 q2 = some xa := (by rw [hK118]; exact (kC_of (by decide)).trans hf113)
              have hf124 : K117.1 xa = 1 := (by rw [hK118]; exact hf114)
              have hf125 : K117.2.1 0 xa = 21 := (by rw [hK118]; exact hf115)
              have hf126 : K117.1 r98 = 1 := (by rw [hK118]; exact hf116)
              have hf127 : K117.2.1 0 r98 = 21 := (by rw [hK118]; exact h107)
              have hf128 : K117.2.2.1 2 q2 = some r98 := by rw [hK118]; exact kC_eq
              refine lv_aload_n hx hb dX8_tryStatement_127 rfl (lv_at hl 2 rfl) ?_
              refine W_size (fun hz1 hz2 => ?_)
              refine vx_ret ?_
              have har6 : LsN K K117 g g100 q2 1 (172 + 3 * (20 - dp)) := by rw [hK118]; exact LsN.put har5 (by decide)
              have hkid : ∀ f9 y9 : Nat, f9 ≤ 3 → ¬ f9 = 1 → K117.2.2.1 f9 q2 = some y9 → K117.1 y9 = 1 ∧ 1 ≤ g100 0 y9 ∧ g100 0 y9 < (173 + 3 * (20 - dp)) := by
                intro f9 y9 hf9 hf1 hy9
                rcases (show f9 = 0 ∨ f9 = 2 ∨ f9 = 3 by omega) with rfl | rfl | rfl
                · rw [hf123] at hy9; cases hy9; exact ⟨hf124, by omega, by omega⟩
                · rw [hf128] at hy9; cases hy9; exact ⟨hf126, by omega, by omega⟩
                · rw [hf121] at hy9; cases hy9
              have hkch : ∀ f9 y9 : Nat, f9 ≤ 3 → K117.2.2.1 f9 q2 = some y9 → Kch (K117.2.1 0 q2) f9 (K117.2.1 0 y9) := by
                intro f9 y9 hf9 e9
                rw [hf120]
                refine ⟨fun _ hn9 => ?_, fun z => absurd z (by decide), fun z => absurd z (by decide)⟩
                rcases (show f9 = 0 ∨ f9 = 2 ∨ f9 = 3 by omega) with rfl | rfl | rfl
                · rw [hf123] at e9; cases e9; exact hf125
                · rw [hf128] at e9; cases e9; exact hf127
                · rw [hf121] at e9; cases e9
              have hdn := LsN.done (L := (173 + 3 * (20 - dp))) (O := O) (k := at9) har6 (by omega) (by omega) (Shp.k32 hf120 (by show ¬ K117.2.2.1 0 q2 = none; rw [hf123]; intro z; cases z)) (fun f9 => Lsf.k32 hf120) hkid hf122 hkch how
              have hz129 : NwR K K117 g (gset g100 q2 (173 + 3 * (20 - dp)) O at9) q2 O at9 ((173 + 3 * (20 - dp))) := hdn
              have hz130 : at9 + 3 ≤ at101 ∧ at101 ≤ sz := (by omega)
              have hz131 : sg ≤ sg102 ∧ sg102 ≤ 60 := (by omega)
              have hO : OKP G h0 a (upd (upd (upd (upd F 2 (nI sz)) 9 (nI at101)) 10 (nI dp)) 11 (nI sg102)) R Z (updA B 10 f103) J K117 w := hO.to rfl
              refine W.widen (k := (2 * (sz - at9) + 20)) (n := (11 * (2 * (sz - at9) + 20))) (by omega) (by omega) ?_
              have hzz1 : H.size ≤ s.heap.size + ((2 * (at101 - at9) - 4)) := (by have z : ((2 * (at2 - at9) - 4) + (2 * (at101 - (at2 + r84)) - 3)) ≤ (2 * (at101 - at9) - 4) := (by omega); omega)
              have hzz2 : hSl H ≤ hSl s.heap + ((11 * (2 * (at101 - at9) - 4))) := (by have z : ((11 * (2 * (at2 - at9) - 4)) + (11 * (2 * (at101 - (at2 + r84)) - 3))) ≤ (11 * (2 * (at101 - at9) - 4)) := (by omega); omega)
              exact W.aret (v := .ref q2) hx hb hr (Or.inl ⟨_, rfl⟩) (Or.inr ⟨_, rfl⟩) (fun t99 ht99 hW99 => ⟨⟨_, (w, (q2, K117, (gset g100 q2 (173 + 3 * (20 - dp)) O at9), at101, sg102, f103)), rfl, ⟨rfl, hz129, hz130, hz131, hO⟩, by rw [ht99]; exact hP, hD, by rw [ht99]; exact hzz1, by rw [ht99]; exact hzz2⟩, hS.F ht99⟩) hS.2.2 dX8_tryStatement_128
          · have n132 : r75 = 0 := (nI_eq (a := r75) (b := 0) (by omega) (by omega)).mp c77
            refine lv_aload_n hx hb dX8_tryStatement_106 rfl (lv_at hl 3 rfl) ?_
            have hO : OKW G h0 a (upd (upd (upd (upd (upd (upd (upd (upd F 2 (nI sz)) 9 (nI at9)) 10 (nI dp)) 11 (nI sg)) 9 (nI at2)) 11 (nI sg2)) 2 (nI sz)) 9 (nI at2)) R Z (updA B 10 f2) J K2.1 (fun q99 x99 => x99 = rep G a K2 q99) w := hO.to rfl
            obtain ⟨_, qr136, hqr137⟩ := hO.2.1 23 _ (sg_23 G h0 a _ _ _ _ _)
            refine pn_V0 (G := G) (As := []) (rest := []) hx hb hml hown hq hE hX pX0_al hP hD hS hA hl.1 (P_refuse l G h0 a (upd (upd (upd (upd (upd (upd F 2 (nI sz)) 9 (nI at9)) 10 (nI dp)) 11 (nI sg)) 9 (nI at2)) 11 (nI sg2)) R Z (updA B 10 f2) J K2.1 (fun q99 x99 => x99 = rep G a K2 q99) w at2 sz (by omega) (by omega) hO hl0) (gV pw_806 pw_807 pw_808 pw_796 pw_778) hV_X8_refuse qr136 5 hqr137 rfl rfl rfl (Nat.le_of_ble_eq_true rfl) dX8_tryStatement_107 ⟨(by show (2 * (at2 - at9) - 4) + 1 ≤ (2 * (sz - at9) + 20); omega), (by show (11 * (2 * (at2 - at9) - 4)) + 6 ≤ (11 * (2 * (sz - at9) + 20)); omega)⟩ ⟨(by show 7 + 1 ≤ (50 * n + 58); omega), (by show 8 + (1 + 11) + 122 ≤ (1500 * n + 1650); omega)⟩ (fun v135 u133 H locs hw134 hP hD hS => hw134.elim) (fun ux ce9 q9 H9 locs9 hux hP9 hD9 hS9 hce hcv hcl => pb_out ux (ThQ.up (Thx.same (Thx.same (Thx.b (Thx.f (Thx.f Thx.rfl (by omega)) (by omega)) (by omega) (by decide)) rfl) rfl) hux) hnt hlocks hce hcv hcl hP9 hD9 hS9 (by show (2 * (at2 - at9) - 4) + 1 ≤ (2 * (sz - at9) + 20); omega) (by show (11 * (2 * (at2 - at9) - 4)) + 6 ≤ (11 * (2 * (sz - at9) + 20)); omega))
        · have hl : lv_has ls 5 [(3, .int (nI i2)), (2, .ref y9), (1, .ref q2), (0, .ref (a 3))] := hl
          refine lv_aload_n hx hb dX8_tryStatement_93 rfl (lv_at hl 1 rfl) ?_
          refine lv_ifnonnull (tgt := 110) hx hb dX8_tryStatement_94 (by decide) ?_
          refine lv_aload_n hx hb dX8_tryStatement_110 rfl (lv_at hl 3 rfl) ?_
          refine lv_bipush (v := 9) hx hb dX8_tryStatement_111 (by decide) ?_
          have hO : OKW G h0 a (upd (upd (upd (upd (upd (upd F 2 (nI sz)) 9 (nI at2)) 10 (nI dp)) 11 (nI sg2)) 2 (nI sz)) 9 (nI at2)) R Z (updA B 10 f2) J K2.1 (fun q99 x99 => x99 = rep G a K2 q99) w := hO.to rfl
          obtain ⟨_, qr141, hqr142⟩ := hO.2.1 23 _ (sg_23 G h0 a _ _ _ _ _)
          refine pc_V0 (G := G) (As := [.int 9]) (rest := []) hx hb hml hown hq hE hX pX0_al hP hD hS hA hl.1 (P_takeIf l G h0 a (upd (upd (upd (upd F 2 (nI sz)) 9 (nI at2)) 10 (nI dp)) 11 (nI sg2)) R Z (updA B 10 f2) J K2.1 (fun q99 x99 => x99 = rep G a K2 q99) w 9 at2 sz (by omega) (by omega) (by decide) hO) (gV pw_797 pw_798 pw_799 pw_796 pw_789) hV_X8_takeIf qr141 5 hqr142 rfl rfl rfl (Nat.le_of_ble_eq_true rfl) dX8_tryStatement_113 ⟨(by show (2 * (at2 - at9) - 4) + 0 ≤ (2 * (sz - at9) + 20); omega), (by show (11 * (2 * (at2 - at9) - 4)) + 0 ≤ (11 * (2 * (sz - at9) + 20)); omega)⟩ ⟨(by show 3 + 1 ≤ (50 * n + 58); omega), (by show 8 + (2 + 11) + 81 ≤ (1500 * n + 1650); omega)⟩ (fun v140 u138 H locs hw139 hP hD hS => ?_)
          obtain ⟨w, r143⟩ := u138
          obtain ⟨hw139, h144, h145, hO⟩ := hw139
          have h144 : r143 ≤ 1 := h144
          have h145 : at2 + r143 ≤ sz := h145
          obtain rfl : v140 = some (.int (nI r143)) := hw139
          have hO : OKP G h0 a (upd (upd (upd (upd F 2 (nI sz)) 9 (nI (at2 + r143))) 10 (nI dp)) 11 (nI sg2)) R Z (updA B 10 f2) J K2 w := hO.to rfl
          refine W.widen (k := (2 * (at2 - at9) - 4)) (n := (11 * (2 * (at2 - at9) - 4))) (by show (2 * (at2 - at9) - 4) + 0 ≤ (2 * (at2 - at9) - 4); omega) (by show (11 * (2 * (at2 - at9) - 4)) + 0 ≤ (11 * (2 * (at2 - at9) - 4)); omega) ?_
          refine W.eq (g2 := F0 m 116 ls [.int (nI r143)]) rfl ?_
          refine lv_if_eq (tgt := 127) hx hb dX8_tryStatement_116 (by decide) (fun c146 => ?_) (fun c146 => ?_)
          · have n147 : r143 = 0 := (nI_eq (a := r143) (b := 0) (by omega) (by omega)).mp c146
            refine lv_aload_n hx hb dX8_tryStatement_127 rfl (lv_at hl 2 rfl) ?_
            refine W_size (fun hz1 hz2 => ?_)
            refine vx_ret ?_
            have hkid : ∀ f9 y9 : Nat, f9 ≤ 3 → ¬ f9 = 1 → K2.2.2.1 f9 q2 = some y9 → K2.1 y9 = 1 ∧ 1 ≤ g2 0 y9 ∧ g2 0 y9 < (173 + 3 * (20 - dp)) := by
              intro f9 y9 hf9 hf1 hy9
              rcases (show f9 = 0 ∨ f9 = 2 ∨ f9 = 3 by omega) with rfl | rfl | rfl
              · rw [hxa] at hy9; cases hy9; exact ⟨hxT, by omega, by omega⟩
              · rw [hc22] at hy9; cases hy9
              · rw [hc23] at hy9; cases hy9
            have hkch : ∀ f9 y9 : Nat, f9 ≤ 3 → K2.2.2.1 f9 q2 = some y9 → Kch (K2.2.1 0 q2) f9 (K2.2.1 0 y9) := by
              intro f9 y9 hf9 e9
              rw [hkd2]
              refine ⟨fun _ hn9 => ?_, fun z => absurd z (by decide), fun z => absurd z (by decide)⟩
              rcases (show f9 = 0 ∨ f9 = 2 ∨ f9 = 3 by omega) with rfl | rfl | rfl
              · rw [hxa] at e9; cases e9; exact hxk
              · rw [hc22] at e9; cases e9
              · rw [hc23] at e9; cases e9
            have hdn := LsN.done (L := (173 + 3 * (20 - dp))) (O := O) (k := at9) hls2 (by omega) (by omega) (Shp.k32 hkd2 (by show ¬ K2.2.2.1 0 q2 = none; rw [hxa]; intro z; cases z)) (fun f9 => Lsf.k32 hkd2) hkid hc24 hkch how
            have hz148 : NwR K K2 g (gset g2 q2 (173 + 3 * (20 - dp)) O at9) q2 O at9 ((173 + 3 * (20 - dp))) := hdn
            have hz149 : at9 + 3 ≤ (at2 + r143) ∧ (at2 + r143) ≤ sz := (by omega)
            have hz150 : sg ≤ sg2 ∧ sg2 ≤ 60 := (by omega)
            have hO : OKP G h0 a (upd (upd (upd (upd F 2 (nI sz)) 9 (nI (at2 + r143))) 10 (nI dp)) 11 (nI sg2)) R Z (updA B 10 f2) J K2 w := hO.to rfl
            refine W.widen (k := (2 * (sz - at9) + 20)) (n := (11 * (2 * (sz - at9) + 20))) (by omega) (by omega) ?_
            have hzz1 : H.size ≤ s.heap.size + ((2 * ((at2 + r143) - at9) - 4)) := (by have z : (2 * (at2 - at9) - 4) ≤ (2 * ((at2 + r143) - at9) - 4) := (by omega); omega)
            have hzz2 : hSl H ≤ hSl s.heap + ((11 * (2 * ((at2 + r143) - at9) - 4))) := (by have z : (11 * (2 * (at2 - at9) - 4)) ≤ (11 * (2 * ((at2 + r143) - at9) - 4)) := (by omega); omega)
            exact W.aret (v := .ref q2) hx hb hr (Or.inl ⟨_, rfl⟩) (Or.inr ⟨_, rfl⟩) (fun t99 ht99 hW99 => ⟨⟨_, (w, (q2, K2, (gset g2 q2 (173 + 3 * (20 - dp)) O at9), (at2 + r143), sg2, f2)), rfl, ⟨rfl, hz148, hz149, hz150, hO⟩, by rw [ht99]; exact hP, hD, by rw [ht99]; exact hzz1, by rw [ht99]; exact hzz2⟩, hS.F ht99⟩) hS.2.2 dX8_tryStatement_128
          · have n151 : ¬ (r143 = 0) := fun h9 => c146 ((nI_eq (a := r143) (b := 0) (by omega) (by omega)).mpr h9)
            refine lv_aload_n hx hb dX8_tryStatement_119 rfl (lv_at hl 2 rfl) ?_
            refine lv_aload_n hx hb dX8_tryStatement_120 rfl (lv_at hl 3 rfl) ?_
            have hO : OKP G h0 a (upd (upd (upd (upd (upd (upd (upd (upd (upd (upd F 2 (nI sz)) 9 (nI at9)) 10 (nI dp)) 11 (nI sg)) 9 (nI (at2 + r143))) 11 (nI sg2)) 2 (nI sz)) 9 (nI (at2 + r143))) 10 (nI dp)) 11 (nI sg2)) R Z (updA B 10 f2) J K2 w := hO.to rfl
            obtain ⟨_, qr155, hqr156⟩ := hO.2.1 23 _ (sg_23 G h0 a _ _ _ _ _)
            refine pn_V0 (G := G) (As := []) (rest := [.ref q2]) hx hb hml hown hq hE hX pX0_al hP hD hS hA hl.1 (P_block l G h0 a (upd (upd (upd (upd (upd (upd F 2 (nI sz)) 9 (nI at9)) 10 (nI dp)) 11 (nI sg)) 9 (nI (at2 + r143))) 11 (nI sg2)) R Z (updA B 10 f2) J K2 w n (at2 + r143) sz dp sg2 0 g2 (by omega) (by omega) hdp (by omega) hls2.1.1 (fun o9 h9 => absurd h9 (by omega)) ist hO hl0) (gV pw_1007 pw_1008 pw_1009 pw_796 pw_1056) hV_X8_block qr155 5 hqr156 rfl rfl rfl (Nat.le_of_ble_eq_true rfl) dX8_tryStatement_121 ⟨(by show (2 * (at2 - at9) - 4) + (2 * (sz - (at2 + r143)) + 20) ≤ (2 * (sz - at9) + 20); omega), (by show (11 * (2 * (at2 - at9) - 4)) + (11 * (2 * (sz - (at2 + r143)) + 20)) ≤ (11 * (2 * (sz - at9) + 20)); omega)⟩ ⟨(by show (50 * n + 54) + 1 ≤ (50 * n + 58); omega), (by show 8 + (5 + 11) + (1500 * n + 1560) ≤ (1500 * n + 1650); omega)⟩ (fun v154 u152 H locs hw153 hP hD hS => ?_) (fun ux ce9 q9 H9 locs9 hux hP9 hD9 hS9 hce hcv hcl => pb_out ux (ThQ.up (Thx.same (Thx.same (Thx.same (Thx.same (Thx.b (Thx.f (Thx.f Thx.rfl (by omega)) (by omega)) (by omega) (by decide)) rfl) rfl) rfl) rfl) hux) hnt hlocks hce hcv hcl hP9 hD9 hS9 (by show (2 * (at2 - at9) - 4) + (2 * (sz - (at2 + r143)) + 20) ≤ (2 * (sz - at9) + 20); omega) (by show (11 * (2 * (at2 - at9) - 4)) + (11 * (2 * (sz - (at2 + r143)) + 20)) ≤ (11 * (2 * (sz - at9) + 20)); omega))
            obtain ⟨w, r157, K158, g159, at160, sg161, f162⟩ := u152
            obtain ⟨hw153, h163, h164, h165, h166, hO⟩ := hw153
            have h163 : NwR K2 K158 g2 g159 r157 0 (at2 + r143) ((171 + 3 * (20 - dp))) := h163
            have h164 : (at2 + r143) + 2 ≤ at160 ∧ at160 ≤ sz := h164
            have h165 : sg2 ≤ sg161 ∧ sg161 ≤ 60 := h165
            have h166 : K158.2.1 0 r157 = 21 := h166
            obtain rfl : v154 = some (.ref r157) := hw153
            have hf167 : K158.1 q2 = 1 := (((h163).2.1.1 q2 (by rw [hq2]; decide)).1).trans hq2
            have hf168 : K158.2.1 0 q2 = 32 := (((h163).2.1.1 q2 (by rw [hq2]; decide)).2.1 0).trans hkd2
            have hf169 : K158.2.2.1 2 q2 = none := (((h163).2.1.1 q2 (by rw [hq2]; decide)).2.2.1 2).trans hc22
            have hf170 : K158.2.2.1 3 q2 = none := (((h163).2.1.1 q2 (by rw [hq2]; decide)).2.2.1 3).trans hc23
            have hf171 : K158.2.2.1 4 q2 = none := (((h163).2.1.1 q2 (by rw [hq2]; decide)).2.2.1 4).trans hc24
            have hf172 : K158.2.2.1 0 q2 = some xa := (((h163).2.1.1 q2 (by rw [hq2]; decide)).2.2.1 0).trans hxa
            have hf173 : K158.1 xa = 1 := (((h163).2.1.1 xa (by rw [hxT]; decide)).1).trans hxT
            have hf174 : K158.2.1 0 xa = 21 := (((h163).2.1.1 xa (by rw [hxT]; decide)).2.1 0).trans hxk
            have hO : OKP G h0 a (upd (upd (upd (upd F 2 (nI sz)) 9 (nI at160)) 10 (nI dp)) 11 (nI sg161)) R Z (updA B 10 f162) J K158 w := hO.to rfl
            refine W.widen (k := ((2 * (at2 - at9) - 4) + (2 * (at160 - (at2 + r143)) - 3))) (n := ((11 * (2 * (at2 - at9) - 4)) + (11 * (2 * (at160 - (at2 + r143)) - 3)))) (by show (2 * (at2 - at9) - 4) + (2 * (at160 - (at2 + r143)) - 3) ≤ ((2 * (at2 - at9) - 4) + (2 * (at160 - (at2 + r143)) - 3)); omega) (by show (11 * (2 * (at2 - at9) - 4)) + (11 * (2 * (at160 - (at2 + r143)) - 3)) ≤ ((11 * (2 * (at2 - at9) - 4)) + (11 * (2 * (at160 - (at2 + r143)) - 3))); omega) ?_
            refine W.eq (g2 := F0 m 124 ls [.ref r157, .ref q2]) rfl ?_
            have har5 := LsN.call0 hls2 h163
            have hbr := h163.2.2.1
            have hbr1 := hbr.2.2.1
            have hbr2 := hbr.2.2.2.1
            have hf175 : K158.1 r157 = 1 := hbr.2.1
            have hxz : g159 0 xa = g2 0 xa := h163.2.1.2 xa (by rw [hxT]; decide) 0
            refine p_put (v := .ref r157) (ty := (.object "JinjaTongue$Node")) (C := RX7) (Tc := TX7) (N := 11) (ci := 13) (K' := (kC K158 2 q2 (some r157))) hx hb hq pin_wsX70 tyX7 tyX7_ok nmX7 hown hE hP hD hS hO (by rw [hf167]; decide) (rep_1 hf167) rfl 8 (by decide) (hq _ pw_943) (fun _ h9 => h9) rfl (by decide +kernel) rfl rfl (Nat.le_of_ble_eq_true rfl) rfl (by rw [rep_1 (show (kC K158 2 q2 (some r157)).1 q2 = 1 from hf167), pc_2] <;> rfl) (fun p9 hp9 => rep_kC hp9) dX8_tryStatement_124 (fun H locs w hP hD hS hO => ?_)
            obtain ⟨K176, hK177⟩ : ∃ z : PK, z = (kC K158 2 q2 (some r157)) := ⟨_, rfl⟩
            rw [← hK177] at hO
            have hf178 : K176.1 q2 = 1 := (by rw [hK177]; exact hf167)
            have hf179 : K176.2.1 0 q2 = 32 := (by rw [hK177]; exact hf168)
            have hf180 : K176.2.2.1 3 q2 = none := (by rw [hK177]; exact (kC_of (by decide)).trans hf170)
            have hf181 : K176.2.2.1 4 q2 = none := (by rw [hK177]; exact (kC_of (by decide)).trans hf171)
            have hf182 : K176.2.2.1 0 q2 = some xa := (by rw [hK177]; exact (kC_of (by decide)).trans hf172)
            have hf183 : K176.1 xa = 1 := (by rw [hK177]; exact hf173)
            have hf184 : K176.2.1 0 xa = 21 := (by rw [hK177]; exact hf174)
            have hf185 : K176.1 r157 = 1 := (by rw [hK177]; exact hf175)
            have hf186 : K176.2.1 0 r157 = 21 := (by rw [hK177]; exact h166)
            have hf187 : K176.2.2.1 2 q2 = some r157 := by rw [hK177]; exact kC_eq
            refine lv_aload_n hx hb dX8_tryStatement_127 rfl (lv_at hl 2 rfl) ?_
            refine W_size (fun hz1 hz2 => ?_)
            refine vx_ret ?_
            have har6 : LsN K K176 g g159 q2 1 (172 + 3 * (20 - dp)) := by rw [hK177]; exact LsN.put har5 (by decide)
            have hkid : ∀ f9 y9 : Nat, f9 ≤ 3 → ¬ f9 = 1 → K176.2.2.1 f9 q2 = some y9 → K176.1 y9 = 1 ∧ 1 ≤ g159 0 y9 ∧ g159 0 y9 < (173 + 3 * (20 - dp)) := by
              intro f9 y9 hf9 hf1 hy9
              rcases (show f9 = 0 ∨ f9 = 2 ∨ f9 = 3 by omega) with rfl | rfl | rfl
              · rw [hf182] at hy9; cases hy9; exact ⟨hf183, by omega, by omega⟩
              · rw [hf187] at hy9; cases hy9; exact ⟨hf185, by omega, by omega⟩
              · rw [hf180] at hy9; cases hy9
            have hkch : ∀ f9 y9 : Nat, f9 ≤ 3 → K176.2.2.1 f9 q2 = some y9 → Kch (K176.2.1 0 q2) f9 (K176.2.1 0 y9) := by
              intro f9 y9 hf9 e9
              rw [hf179]
              refine ⟨fun _ hn9 => ?_, fun z => absurd z (by decide), fun z => absurd z (by decide)⟩
              rcases (show f9 = 0 ∨ f9 = 2 ∨ f9 = 3 by omega) with rfl | rfl | rfl
              · rw [hf182] at e9; cases e9; exact hf184
              · rw [hf187] at e9; cases e9; exact hf186
              · rw [hf180] at e9; cases e9
            have hdn := LsN.done (L := (173 + 3 * (20 - dp))) (O := O) (k := at9) har6 (by omega) (by omega) (Shp.k32 hf179 (by show ¬ K176.2.2.1 0 q2 = none; rw [hf182]; intro z; cases z)) (fun f9 => Lsf.k32 hf179) hkid hf181 hkch how
            have hz188 : NwR K K176 g (gset g159 q2 (173 + 3 * (20 - dp)) O at9) q2 O at9 ((173 + 3 * (20 - dp))) := hdn
            have hz189 : at9 + 3 ≤ at160 ∧ at160 ≤ sz := (by omega)
            have hz190 : sg ≤ sg161 ∧ sg161 ≤ 60 := (by omega)
            have hO : OKP G h0 a (upd (upd (upd (upd F 2 (nI sz)) 9 (nI at160)) 10 (nI dp)) 11 (nI sg161)) R Z (updA B 10 f162) J K176 w := hO.to rfl
            refine W.widen (k := (2 * (sz - at9) + 20)) (n := (11 * (2 * (sz - at9) + 20))) (by omega) (by omega) ?_
            have hzz1 : H.size ≤ s.heap.size + ((2 * (at160 - at9) - 4)) := (by have z : ((2 * (at2 - at9) - 4) + (2 * (at160 - (at2 + r143)) - 3)) ≤ (2 * (at160 - at9) - 4) := (by omega); omega)
            have hzz2 : hSl H ≤ hSl s.heap + ((11 * (2 * (at160 - at9) - 4))) := (by have z : ((11 * (2 * (at2 - at9) - 4)) + (11 * (2 * (at160 - (at2 + r143)) - 3))) ≤ (11 * (2 * (at160 - at9) - 4)) := (by omega); omega)
            exact W.aret (v := .ref q2) hx hb hr (Or.inl ⟨_, rfl⟩) (Or.inr ⟨_, rfl⟩) (fun t99 ht99 hW99 => ⟨⟨_, (w, (q2, K176, (gset g159 q2 (173 + 3 * (20 - dp)) O at9), at160, sg161, f162)), rfl, ⟨rfl, hz188, hz189, hz190, hO⟩, by rw [ht99]; exact hP, hD, by rw [ht99]; exact hzz1, by rw [ht99]; exact hzz2⟩, hS.F ht99⟩) hS.2.2 dX8_tryStatement_128
      · have n191 : ¬ (sz ≤ i2) := fun h9 => c68 ((nI_leI (a := sz) (b := i2) (by omega) (by omega)).mpr h9)
        refine lv_aload_n hx hb dX8_tryStatement_51 rfl (lv_at hl 3 rfl) ?_
        refine lv_iconst (v := 3) hx hb dX8_tryStatement_52 (by decide) ?_
        have hO : OKW G h0 a (upd (upd (upd (upd (upd (upd F 2 (nI sz)) 9 (nI at2)) 10 (nI dp)) 11 (nI sg2)) 2 (nI sz)) 9 (nI at2)) R Z (updA B 10 f2) J K2.1 (fun q99 x99 => x99 = rep G a K2 q99) w := hO.to rfl
        obtain ⟨_, qr195, hqr196⟩ := hO.2.1 23 _ (sg_23 G h0 a _ _ _ _ _)
        refine pc_V0 (G := G) (As := [.int 3]) (rest := []) hx hb hml hown hq hE hX pX0_al hP hD hS hA hl.1 (P_sees l G h0 a (upd (upd (upd (upd F 2 (nI sz)) 9 (nI at2)) 10 (nI dp)) 11 (nI sg2)) R Z (updA B 10 f2) J K2.1 (fun q99 x99 => x99 = rep G a K2 q99) w 3 at2 sz (by omega) (by omega) hO) (gV pw_803 pw_804 pw_805 pw_796 pw_775) hV_X8_sees qr195 5 hqr196 rfl rfl rfl (Nat.le_of_ble_eq_true rfl) dX8_tryStatement_53 ⟨(by show (2 * (at2 - at9) - 4) + 0 ≤ (2 * (sz - at9) + 20); omega), (by show (11 * (2 * (at2 - at9) - 4)) + 0 ≤ (11 * (2 * (sz - at9) + 20)); omega)⟩ ⟨(by show 3 + 1 ≤ (50 * n + 58); omega), (by show 8 + (2 + 11) + 81 ≤ (1500 * n + 1650); omega)⟩ (fun v194 u192 H locs hw193 hP hD hS => ?_)
        obtain ⟨w, r197⟩ := u192
        obtain ⟨hw193, h198, hO⟩ := hw193
        have h198 : r197 ≤ 1 := h198
        obtain rfl : v194 = some (.int (nI r197)) := hw193
        have hO : OKP G h0 a (upd (upd (upd (upd F 2 (nI sz)) 9 (nI at2)) 10 (nI dp)) 11 (nI sg2)) R Z (updA B 10 f2) J K2 w := hO.to rfl
        refine W.widen (k := (2 * (at2 - at9) - 4)) (n := (11 * (2 * (at2 - at9) - 4))) (by show (2 * (at2 - at9) - 4) + 0 ≤ (2 * (at2 - at9) - 4); omega) (by show (11 * (2 * (at2 - at9) - 4)) + 0 ≤ (11 * (2 * (at2 - at9) - 4)); omega) ?_
        refine W.eq (g2 := F0 m 56 ls [.int (nI r197)]) rfl ?_
        refine lv_if_eq (tgt := 93) hx hb dX8_tryStatement_56 (by decide) (fun c199 => ?_) (fun c199 => ?_)
        · have n200 : r197 = 0 := (nI_eq (a := r197) (b := 0) (by omega) (by omega)).mp c199
          rcases la2 with _ | y9
          · have hl : lv_has ls 5 [(3, .int (nI i2)), (2, .null), (1, .ref q2), (0, .ref (a 3))] := hl
            refine lv_aload_nN hx hb dX8_tryStatement_93 rfl (lv_at hl 1 rfl) ?_
            refine lv_ifnonnullN hx hb dX8_tryStatement_94 ?_
            refine lv_aload_n hx hb dX8_tryStatement_97 rfl (lv_at hl 3 rfl) ?_
            refine lv_bipush (v := 9) hx hb dX8_tryStatement_98 (by decide) ?_
            have hO : OKW G h0 a (upd (upd (upd (upd (upd (upd F 2 (nI sz)) 9 (nI at2)) 10 (nI dp)) 11 (nI sg2)) 2 (nI sz)) 9 (nI at2)) R Z (updA B 10 f2) J K2.1 (fun q99 x99 => x99 = rep G a K2 q99) w := hO.to rfl
            obtain ⟨_, qr204, hqr205⟩ := hO.2.1 23 _ (sg_23 G h0 a _ _ _ _ _)
            refine pc_V0 (G := G) (As := [.int 9]) (rest := []) hx hb hml hown hq hE hX pX0_al hP hD hS hA hl.1 (P_sees l G h0 a (upd (upd (upd (upd F 2 (nI sz)) 9 (nI at2)) 10 (nI dp)) 11 (nI sg2)) R Z (updA B 10 f2) J K2.1 (fun q99 x99 => x99 = rep G a K2 q99) w 9 at2 sz (by omega) (by omega) hO) (gV pw_803 pw_804 pw_805 pw_796 pw_775) hV_X8_sees qr204 5 hqr205 rfl rfl rfl (Nat.le_of_ble_eq_true rfl) dX8_tryStatement_100 ⟨(by show (2 * (at2 - at9) - 4) + 0 ≤ (2 * (sz - at9) + 20); omega), (by show (11 * (2 * (at2 - at9) - 4)) + 0 ≤ (11 * (2 * (sz - at9) + 20)); omega)⟩ ⟨(by show 3 + 1 ≤ (50 * n + 58); omega), (by show 8 + (2 + 11) + 81 ≤ (1500 * n + 1650); omega)⟩ (fun v203 u201 H locs hw202 hP hD hS => ?_)
            obtain ⟨w, r206⟩ := u201
            obtain ⟨hw202, h207, hO⟩ := hw202
            have h207 : r206 ≤ 1 := h207
            obtain rfl : v203 = some (.int (nI r206)) := hw202
            have hO : OKP G h0 a (upd (upd (upd (upd F 2 (nI sz)) 9 (nI at2)) 10 (nI dp)) 11 (nI sg2)) R Z (updA B 10 f2) J K2 w := hO.to rfl
            refine W.widen (k := (2 * (at2 - at9) - 4)) (n := (11 * (2 * (at2 - at9) - 4))) (by show (2 * (at2 - at9) - 4) + 0 ≤ (2 * (at2 - at9) - 4); omega) (by show (11 * (2 * (at2 - at9) - 4)) + 0 ≤ (11 * (2 * (at2 - at9) - 4)); omega) ?_
            refine W.eq (g2 := F0 m 103 ls [.int (nI r206)]) rfl ?_
            refine lv_if_ne (tgt := 110) hx hb dX8_tryStatement_103 (by decide) (fun c208 => ?_) (fun c208 => ?_)
            · have n209 : ¬ (r206 = 0) := fun h9 => c208 ((nI_eq (a := r206) (b := 0) (by omega) (by omega)).mpr h9)
              refine lv_aload_n hx hb dX8_tryStatement_110 rfl (lv_at hl 3 rfl) ?_
              refine lv_bipush (v := 9) hx hb dX8_tryStatement_111 (by decide) ?_
              have hO : OKW G h0 a (upd (upd (upd (upd (upd (upd F 2 (nI sz)) 9 (nI at2)) 10 (nI dp)) 11 (nI sg2)) 2 (nI sz)) 9 (nI at2)) R Z (updA B 10 f2) J K2.1 (fun q99 x99 => x99 = rep G a K2 q99) w := hO.to rfl
              obtain ⟨_, qr213, hqr214⟩ := hO.2.1 23 _ (sg_23 G h0 a _ _ _ _ _)
              refine pc_V0 (G := G) (As := [.int 9]) (rest := []) hx hb hml hown hq hE hX pX0_al hP hD hS hA hl.1 (P_takeIf l G h0 a (upd (upd (upd (upd F 2 (nI sz)) 9 (nI at2)) 10 (nI dp)) 11 (nI sg2)) R Z (updA B 10 f2) J K2.1 (fun q99 x99 => x99 = rep G a K2 q99) w 9 at2 sz (by omega) (by omega) (by decide) hO) (gV pw_797 pw_798 pw_799 pw_796 pw_789) hV_X8_takeIf qr213 5 hqr214 rfl rfl rfl (Nat.le_of_ble_eq_true rfl) dX8_tryStatement_113 ⟨(by show (2 * (at2 - at9) - 4) + 0 ≤ (2 * (sz - at9) + 20); omega), (by show (11 * (2 * (at2 - at9) - 4)) + 0 ≤ (11 * (2 * (sz - at9) + 20)); omega)⟩ ⟨(by show 3 + 1 ≤ (50 * n + 58); omega), (by show 8 + (2 + 11) + 81 ≤ (1500 * n + 1650); omega)⟩ (fun v212 u210 H locs hw211 hP hD hS => ?_)
              obtain ⟨w, r215⟩ := u210
              obtain ⟨hw211, h216, h217, hO⟩ := hw211
              have h216 : r215 ≤ 1 := h216
              have h217 : at2 + r215 ≤ sz := h217
              obtain rfl : v212 = some (.int (nI r215)) := hw211
              have hO : OKP G h0 a (upd (upd (upd (upd F 2 (nI sz)) 9 (nI (at2 + r215))) 10 (nI dp)) 11 (nI sg2)) R Z (updA B 10 f2) J K2 w := hO.to rfl
              refine W.widen (k := (2 * (at2 - at9) - 4)) (n := (11 * (2 * (at2 - at9) - 4))) (by show (2 * (at2 - at9) - 4) + 0 ≤ (2 * (at2 - at9) - 4); omega) (by show (11 * (2 * (at2 - at9) - 4)) + 0 ≤ (11 * (2 * (at2 - at9) - 4)); omega) ?_
              refine W.eq (g2 := F0 m 116 ls [.int (nI r215)]) rfl ?_
              refine lv_if_eq (tgt := 127) hx hb dX8_tryStatement_116 (by decide) (fun c218 => ?_) (fun c218 => ?_)
              · have n219 : r215 = 0 := (nI_eq (a := r215) (b := 0) (by omega) (by omega)).mp c218
                refine lv_aload_n hx hb dX8_tryStatement_127 rfl (lv_at hl 2 rfl) ?_
                refine W_size (fun hz1 hz2 => ?_)
                refine vx_ret ?_
                have hkid : ∀ f9 y9 : Nat, f9 ≤ 3 → ¬ f9 = 1 → K2.2.2.1 f9 q2 = some y9 → K2.1 y9 = 1 ∧ 1 ≤ g2 0 y9 ∧ g2 0 y9 < (173 + 3 * (20 - dp)) := by
                  intro f9 y9 hf9 hf1 hy9
                  rcases (show f9 = 0 ∨ f9 = 2 ∨ f9 = 3 by omega) with rfl | rfl | rfl
                  · rw [hxa] at hy9; cases hy9; exact ⟨hxT, by omega, by omega⟩
                  · rw [hc22] at hy9; cases hy9
                  · rw [hc23] at hy9; cases hy9
                have hkch : ∀ f9 y9 : Nat, f9 ≤ 3 → K2.2.2.1 f9 q2 = some y9 → Kch (K2.2.1 0 q2) f9 (K2.2.1 0 y9) := by
                  intro f9 y9 hf9 e9
                  rw [hkd2]
                  refine ⟨fun _ hn9 => ?_, fun z => absurd z (by decide), fun z => absurd z (by decide)⟩
                  rcases (show f9 = 0 ∨ f9 = 2 ∨ f9 = 3 by omega) with rfl | rfl | rfl
                  · rw [hxa] at e9; cases e9; exact hxk
                  · rw [hc22] at e9; cases e9
                  · rw [hc23] at e9; cases e9
                have hdn := LsN.done (L := (173 + 3 * (20 - dp))) (O := O) (k := at9) hls2 (by omega) (by omega) (Shp.k32 hkd2 (by show ¬ K2.2.2.1 0 q2 = none; rw [hxa]; intro z; cases z)) (fun f9 => Lsf.k32 hkd2) hkid hc24 hkch how
                have hz220 : NwR K K2 g (gset g2 q2 (173 + 3 * (20 - dp)) O at9) q2 O at9 ((173 + 3 * (20 - dp))) := hdn
                have hz221 : at9 + 3 ≤ (at2 + r215) ∧ (at2 + r215) ≤ sz := (by omega)
                have hz222 : sg ≤ sg2 ∧ sg2 ≤ 60 := (by omega)
                have hO : OKP G h0 a (upd (upd (upd (upd F 2 (nI sz)) 9 (nI (at2 + r215))) 10 (nI dp)) 11 (nI sg2)) R Z (updA B 10 f2) J K2 w := hO.to rfl
                refine W.widen (k := (2 * (sz - at9) + 20)) (n := (11 * (2 * (sz - at9) + 20))) (by omega) (by omega) ?_
                have hzz1 : H.size ≤ s.heap.size + ((2 * ((at2 + r215) - at9) - 4)) := (by have z : (2 * (at2 - at9) - 4) ≤ (2 * ((at2 + r215) - at9) - 4) := (by omega); omega)
                have hzz2 : hSl H ≤ hSl s.heap + ((11 * (2 * ((at2 + r215) - at9) - 4))) := (by have z : (11 * (2 * (at2 - at9) - 4)) ≤ (11 * (2 * ((at2 + r215) - at9) - 4)) := (by omega); omega)
                exact W.aret (v := .ref q2) hx hb hr (Or.inl ⟨_, rfl⟩) (Or.inr ⟨_, rfl⟩) (fun t99 ht99 hW99 => ⟨⟨_, (w, (q2, K2, (gset g2 q2 (173 + 3 * (20 - dp)) O at9), (at2 + r215), sg2, f2)), rfl, ⟨rfl, hz220, hz221, hz222, hO⟩, by rw [ht99]; exact hP, hD, by rw [ht99]; exact hzz1, by rw [ht99]; exact hzz2⟩, hS.F ht99⟩) hS.2.2 dX8_tryStatement_128
              · have n223 : ¬ (r215 = 0) := fun h9 => c218 ((nI_eq (a := r215) (b := 0) (by omega) (by omega)).mpr h9)
                refine lv_aload_n hx hb dX8_tryStatement_119 rfl (lv_at hl 2 rfl) ?_
                refine lv_aload_n hx hb dX8_tryStatement_120 rfl (lv_at hl 3 rfl) ?_
                have hO : OKP G h0 a (upd (upd (upd (upd (upd (upd (upd (upd (upd (upd F 2 (nI sz)) 9 (nI at9)) 10 (nI dp)) 11 (nI sg)) 9 (nI (at2 + r215))) 11 (nI sg2)) 2 (nI sz)) 9 (nI (at2 + r215))) 10 (nI dp)) 11 (nI sg2)) R Z (updA B 10 f2) J K2 w := hO.to rfl
                obtain ⟨_, qr227, hqr228⟩ := hO.2.1 23 _ (sg_23 G h0 a _ _ _ _ _)
                refine pn_V0 (G := G) (As := []) (rest := [.ref q2]) hx hb hml hown hq hE hX pX0_al hP hD hS hA hl.1 (P_block l G h0 a (upd (upd (upd (upd (upd (upd F 2 (nI sz)) 9 (nI at9)) 10 (nI dp)) 11 (nI sg)) 9 (nI (at2 + r215))) 11 (nI sg2)) R Z (updA B 10 f2) J K2 w n (at2 + r215) sz dp sg2 0 g2 (by omega) (by omega) hdp (by omega) hls2.1.1 (fun o9 h9 => absurd h9 (by omega)) ist hO hl0) (gV pw_1007 pw_1008 pw_1009 pw_796 pw_1056) hV_X8_block qr227 5 hqr228 rfl rfl rfl (Nat.le_of_ble_eq_true rfl) dX8_tryStatement_121 ⟨(by show (2 * (at2 - at9) - 4) + (2 * (sz - (at2 + r215)) + 20) ≤ (2 * (sz - at9) + 20); omega), (by show (11 * (2 * (at2 - at9) - 4)) + (11 * (2 * (sz - (at2 + r215)) + 20)) ≤ (11 * (2 * (sz - at9) + 20)); omega)⟩ ⟨(by show (50 * n + 54) + 1 ≤ (50 * n + 58); omega), (by show 8 + (5 + 11) + (1500 * n + 1560) ≤ (1500 * n + 1650); omega)⟩ (fun v226 u224 H locs hw225 hP hD hS => ?_) (fun ux ce9 q9 H9 locs9 hux hP9 hD9 hS9 hce hcv hcl => pb_out ux (ThQ.up (Thx.same (Thx.same (Thx.same (Thx.same (Thx.b (Thx.f (Thx.f Thx.rfl (by omega)) (by omega)) (by omega) (by decide)) rfl) rfl) rfl) rfl) hux) hnt hlocks hce hcv hcl hP9 hD9 hS9 (by show (2 * (at2 - at9) - 4) + (2 * (sz - (at2 + r215)) + 20) ≤ (2 * (sz - at9) + 20); omega) (by show (11 * (2 * (at2 - at9) - 4)) + (11 * (2 * (sz - (at2 + r215)) + 20)) ≤ (11 * (2 * (sz - at9) + 20)); omega))
                obtain ⟨w, r229, K230, g231, at232, sg233, f234⟩ := u224
                obtain ⟨hw225, h235, h236, h237, h238, hO⟩ := hw225
                have h235 : NwR K2 K230 g2 g231 r229 0 (at2 + r215) ((171 + 3 * (20 - dp))) := h235
                have h236 : (at2 + r215) + 2 ≤ at232 ∧ at232 ≤ sz := h236
                have h237 : sg2 ≤ sg233 ∧ sg233 ≤ 60 := h237
                have h238 : K230.2.1 0 r229 = 21 := h238
                obtain rfl : v226 = some (.ref r229) := hw225
                have hf239 : K230.1 q2 = 1 := (((h235).2.1.1 q2 (by rw [hq2]; decide)).1).trans hq2
                have hf240 : K230.2.1 0 q2 = 32 := (((h235).2.1.1 q2 (by rw [hq2]; decide)).2.1 0).trans hkd2
                have hf241 : K230.2.2.1 2 q2 = none := (((h235).2.1.1 q2 (by rw [hq2]; decide)).2.2.1 2).trans hc22
                have hf242 : K230.2.2.1 3 q2 = none := (((h235).2.1.1 q2 (by rw [hq2]; decide)).2.2.1 3).trans hc23
                have hf243 : K230.2.2.1 4 q2 = none := (((h235).2.1.1 q2 (by rw [hq2]; decide)).2.2.1 4).trans hc24
                have hf244 : K230.2.2.1 0 q2 = some xa := (((h235).2.1.1 q2 (by rw [hq2]; decide)).2.2.1 0).trans hxa
                have hf245 : K230.1 xa = 1 := (((h235).2.1.1 xa (by rw [hxT]; decide)).1).trans hxT
                have hf246 : K230.2.1 0 xa = 21 := (((h235).2.1.1 xa (by rw [hxT]; decide)).2.1 0).trans hxk
                have hO : OKP G h0 a (upd (upd (upd (upd F 2 (nI sz)) 9 (nI at232)) 10 (nI dp)) 11 (nI sg233)) R Z (updA B 10 f234) J K230 w := hO.to rfl
                refine W.widen (k := ((2 * (at2 - at9) - 4) + (2 * (at232 - (at2 + r215)) - 3))) (n := ((11 * (2 * (at2 - at9) - 4)) + (11 * (2 * (at232 - (at2 + r215)) - 3)))) (by show (2 * (at2 - at9) - 4) + (2 * (at232 - (at2 + r215)) - 3) ≤ ((2 * (at2 - at9) - 4) + (2 * (at232 - (at2 + r215)) - 3)); omega) (by show (11 * (2 * (at2 - at9) - 4)) + (11 * (2 * (at232 - (at2 + r215)) - 3)) ≤ ((11 * (2 * (at2 - at9) - 4)) + (11 * (2 * (at232 - (at2 + r215)) - 3))); omega) ?_
                refine W.eq (g2 := F0 m 124 ls [.ref r229, .ref q2]) rfl ?_
                have har5 := LsN.call0 hls2 h235
                have hbr := h235.2.2.1
                have hbr1 := hbr.2.2.1
                have hbr2 := hbr.2.2.2.1
                have hf247 : K230.1 r229 = 1 := hbr.2.1
                have hxz : g231 0 xa = g2 0 xa := h235.2.1.2 xa (by rw [hxT]; decide) 0
                refine p_put (v := .ref r229) (ty := (.object "JinjaTongue$Node")) (C := RX7) (Tc := TX7) (N := 11) (ci := 13) (K' := (kC K230 2 q2 (some r229))) hx hb hq pin_wsX70 tyX7 tyX7_ok nmX7 hown hE hP hD hS hO (by rw [hf239]; decide) (rep_1 hf239) rfl 8 (by decide) (hq _ pw_943) (fun _ h9 => h9) rfl (by decide +kernel) rfl rfl (Nat.le_of_ble_eq_true rfl) rfl (by rw [rep_1 (show (kC K230 2 q2 (some r229)).1 q2 = 1 from hf239), pc_2] <;> rfl) (fun p9 hp9 => rep_kC hp9) dX8_tryStatement_124 (fun H locs w hP hD hS hO => ?_)
                obtain ⟨K248, hK249⟩ : ∃ z : PK, z = (kC K230 2 q2 (some r229)) := ⟨_, rfl⟩
                rw [← hK249] at hO
                have hf250 : K248.1 q2 = 1 := (by rw [hK249]; exact hf239)
                have hf251 : K248.2.1 0 q2 = 32 := (by rw [hK249]; exact hf240)
                have hf252 : K248.2.2.1 3 q2 = none := (by rw [hK249]; exact (kC_of (by decide)).trans hf242)
                have hf253 : K248.2.2.1 4 q2 = none := (by rw [hK249]; exact (kC_of (by decide)).trans hf243)
                have hf254 : K248.2.2.1 0 q2 = some xa := (by rw [hK249]; exact (kC_of (by decide)).trans hf244)
                have hf255 : K248.1 xa = 1 := (by rw [hK249]; exact hf245)
                have hf256 : K248.2.1 0 xa = 21 := (by rw [hK249]; exact hf246)
                have hf257 : K248.1 r229 = 1 := (by rw [hK249]; exact hf247)
                have hf258 : K248.2.1 0 r229 = 21 := (by rw [hK249]; exact h238)
                have hf259 : K248.2.2.1 2 q2 = some r229 := by rw [hK249]; exact kC_eq
                refine lv_aload_n hx hb dX8_tryStatement_127 rfl (lv_at hl 2 rfl) ?_
                refine W_size (fun hz1 hz2 => ?_)
                refine vx_ret ?_
                have har6 : LsN K K248 g g231 q2 1 (172 + 3 * (20 - dp)) := by rw [hK249]; exact LsN.put har5 (by decide)
                have hkid : ∀ f9 y9 : Nat, f9 ≤ 3 → ¬ f9 = 1 → K248.2.2.1 f9 q2 = some y9 → K248.1 y9 = 1 ∧ 1 ≤ g231 0 y9 ∧ g231 0 y9 < (173 + 3 * (20 - dp)) := by
                  intro f9 y9 hf9 hf1 hy9
                  rcases (show f9 = 0 ∨ f9 = 2 ∨ f9 = 3 by omega) with rfl | rfl | rfl
                  · rw [hf254] at hy9; cases hy9; exact ⟨hf255, by omega, by omega⟩
                  · rw [hf259] at hy9; cases hy9; exact ⟨hf257, by omega, by omega⟩
                  · rw [hf252] at hy9; cases hy9
                have hkch : ∀ f9 y9 : Nat, f9 ≤ 3 → K248.2.2.1 f9 q2 = some y9 → Kch (K248.2.1 0 q2) f9 (K248.2.1 0 y9) := by
                  intro f9 y9 hf9 e9
                  rw [hf251]
                  refine ⟨fun _ hn9 => ?_, fun z => absurd z (by decide), fun z => absurd z (by decide)⟩
                  rcases (show f9 = 0 ∨ f9 = 2 ∨ f9 = 3 by omega) with rfl | rfl | rfl
                  · rw [hf254] at e9; cases e9; exact hf256
                  · rw [hf259] at e9; cases e9; exact hf258
                  · rw [hf252] at e9; cases e9
                have hdn := LsN.done (L := (173 + 3 * (20 - dp))) (O := O) (k := at9) har6 (by omega) (by omega) (Shp.k32 hf251 (by show ¬ K248.2.2.1 0 q2 = none; rw [hf254]; intro z; cases z)) (fun f9 => Lsf.k32 hf251) hkid hf253 hkch how
                have hz260 : NwR K K248 g (gset g231 q2 (173 + 3 * (20 - dp)) O at9) q2 O at9 ((173 + 3 * (20 - dp))) := hdn
                have hz261 : at9 + 3 ≤ at232 ∧ at232 ≤ sz := (by omega)
                have hz262 : sg ≤ sg233 ∧ sg233 ≤ 60 := (by omega)
                have hO : OKP G h0 a (upd (upd (upd (upd F 2 (nI sz)) 9 (nI at232)) 10 (nI dp)) 11 (nI sg233)) R Z (updA B 10 f234) J K248 w := hO.to rfl
                refine W.widen (k := (2 * (sz - at9) + 20)) (n := (11 * (2 * (sz - at9) + 20))) (by omega) (by omega) ?_
                have hzz1 : H.size ≤ s.heap.size + ((2 * (at232 - at9) - 4)) := (by have z : ((2 * (at2 - at9) - 4) + (2 * (at232 - (at2 + r215)) - 3)) ≤ (2 * (at232 - at9) - 4) := (by omega); omega)
                have hzz2 : hSl H ≤ hSl s.heap + ((11 * (2 * (at232 - at9) - 4))) := (by have z : ((11 * (2 * (at2 - at9) - 4)) + (11 * (2 * (at232 - (at2 + r215)) - 3))) ≤ (11 * (2 * (at232 - at9) - 4)) := (by omega); omega)
                exact W.aret (v := .ref q2) hx hb hr (Or.inl ⟨_, rfl⟩) (Or.inr ⟨_, rfl⟩) (fun t99 ht99 hW99 => ⟨⟨_, (w, (q2, K248, (gset g231 q2 (173 + 3 * (20 - dp)) O at9), at232, sg233, f234)), rfl, ⟨rfl, hz260, hz261, hz262, hO⟩, by rw [ht99]; exact hP, hD, by rw [ht99]; exact hzz1, by rw [ht99]; exact hzz2⟩, hS.F ht99⟩) hS.2.2 dX8_tryStatement_128
            · have n263 : r206 = 0 := (nI_eq (a := r206) (b := 0) (by omega) (by omega)).mp c208
              refine lv_aload_n hx hb dX8_tryStatement_106 rfl (lv_at hl 3 rfl) ?_
              have hO : OKW G h0 a (upd (upd (upd (upd (upd (upd (upd (upd F 2 (nI sz)) 9 (nI at9)) 10 (nI dp)) 11 (nI sg)) 9 (nI at2)) 11 (nI sg2)) 2 (nI sz)) 9 (nI at2)) R Z (updA B 10 f2) J K2.1 (fun q99 x99 => x99 = rep G a K2 q99) w := hO.to rfl
              obtain ⟨_, qr267, hqr268⟩ := hO.2.1 23 _ (sg_23 G h0 a _ _ _ _ _)
              refine pn_V0 (G := G) (As := []) (rest := []) hx hb hml hown hq hE hX pX0_al hP hD hS hA hl.1 (P_refuse l G h0 a (upd (upd (upd (upd (upd (upd F 2 (nI sz)) 9 (nI at9)) 10 (nI dp)) 11 (nI sg)) 9 (nI at2)) 11 (nI sg2)) R Z (updA B 10 f2) J K2.1 (fun q99 x99 => x99 = rep G a K2 q99) w at2 sz (by omega) (by omega) hO hl0) (gV pw_806 pw_807 pw_808 pw_796 pw_778) hV_X8_refuse qr267 5 hqr268 rfl rfl rfl (Nat.le_of_ble_eq_true rfl) dX8_tryStatement_107 ⟨(by show (2 * (at2 - at9) - 4) + 1 ≤ (2 * (sz - at9) + 20); omega), (by show (11 * (2 * (at2 - at9) - 4)) + 6 ≤ (11 * (2 * (sz - at9) + 20)); omega)⟩ ⟨(by show 7 + 1 ≤ (50 * n + 58); omega), (by show 8 + (1 + 11) + 122 ≤ (1500 * n + 1650); omega)⟩ (fun v266 u264 H locs hw265 hP hD hS => hw265.elim) (fun ux ce9 q9 H9 locs9 hux hP9 hD9 hS9 hce hcv hcl => pb_out ux (ThQ.up (Thx.same (Thx.same (Thx.b (Thx.f (Thx.f Thx.rfl (by omega)) (by omega)) (by omega) (by decide)) rfl) rfl) hux) hnt hlocks hce hcv hcl hP9 hD9 hS9 (by show (2 * (at2 - at9) - 4) + 1 ≤ (2 * (sz - at9) + 20); omega) (by show (11 * (2 * (at2 - at9) - 4)) + 6 ≤ (11 * (2 * (sz - at9) + 20)); omega))
          · have hl : lv_has ls 5 [(3, .int (nI i2)), (2, .ref y9), (1, .ref q2), (0, .ref (a 3))] := hl
            refine lv_aload_n hx hb dX8_tryStatement_93 rfl (lv_at hl 1 rfl) ?_
            refine lv_ifnonnull (tgt := 110) hx hb dX8_tryStatement_94 (by decide) ?_
            refine lv_aload_n hx hb dX8_tryStatement_110 rfl (lv_at hl 3 rfl) ?_
            refine lv_bipush (v := 9) hx hb dX8_tryStatement_111 (by decide) ?_
            have hO : OKW G h0 a (upd (upd (upd (upd (upd (upd F 2 (nI sz)) 9 (nI at2)) 10 (nI dp)) 11 (nI sg2)) 2 (nI sz)) 9 (nI at2)) R Z (updA B 10 f2) J K2.1 (fun q99 x99 => x99 = rep G a K2 q99) w := hO.to rfl
            obtain ⟨_, qr272, hqr273⟩ := hO.2.1 23 _ (sg_23 G h0 a _ _ _ _ _)
            refine pc_V0 (G := G) (As := [.int 9]) (rest := []) hx hb hml hown hq hE hX pX0_al hP hD hS hA hl.1 (P_takeIf l G h0 a (upd (upd (upd (upd F 2 (nI sz)) 9 (nI at2)) 10 (nI dp)) 11 (nI sg2)) R Z (updA B 10 f2) J K2.1 (fun q99 x99 => x99 = rep G a K2 q99) w 9 at2 sz (by omega) (by omega) (by decide) hO) (gV pw_797 pw_798 pw_799 pw_796 pw_789) hV_X8_takeIf qr272 5 hqr273 rfl rfl rfl (Nat.le_of_ble_eq_true rfl) dX8_tryStatement_113 ⟨(by show (2 * (at2 - at9) - 4) + 0 ≤ (2 * (sz - at9) + 20); omega), (by show (11 * (2 * (at2 - at9) - 4)) + 0 ≤ (11 * (2 * (sz - at9) + 20)); omega)⟩ ⟨(by show 3 + 1 ≤ (50 * n + 58); omega), (by show 8 + (2 + 11) + 81 ≤ (1500 * n + 1650); omega)⟩ (fun v271 u269 H locs hw270 hP hD hS => ?_)
            obtain ⟨w, r274⟩ := u269
            obtain ⟨hw270, h275, h276, hO⟩ := hw270
            have h275 : r274 ≤ 1 := h275
            have h276 : at2 + r274 ≤ sz := h276
            obtain rfl : v271 = some (.int (nI r274)) := hw270
            have hO : OKP G h0 a (upd (upd (upd (upd F 2 (nI sz)) 9 (nI (at2 + r274))) 10 (nI dp)) 11 (nI sg2)) R Z (updA B 10 f2) J K2 w := hO.to rfl
            refine W.widen (k := (2 * (at2 - at9) - 4)) (n := (11 * (2 * (at2 - at9) - 4))) (by show (2 * (at2 - at9) - 4) + 0 ≤ (2 * (at2 - at9) - 4); omega) (by show (11 * (2 * (at2 - at9) - 4)) + 0 ≤ (11 * (2 * (at2 - at9) - 4)); omega) ?_
            refine W.eq (g2 := F0 m 116 ls [.int (nI r274)]) rfl ?_
            refine lv_if_eq (tgt := 127) hx hb dX8_tryStatement_116 (by decide) (fun c277 => ?_) (fun c277 => ?_)
            · have n278 : r274 = 0 := (nI_eq (a := r274) (b := 0) (by omega) (by omega)).mp c277
              refine lv_aload_n hx hb dX8_tryStatement_127 rfl (lv_at hl 2 rfl) ?_
              refine W_size (fun hz1 hz2 => ?_)
              refine vx_ret ?_
              have hkid : ∀ f9 y9 : Nat, f9 ≤ 3 → ¬ f9 = 1 → K2.2.2.1 f9 q2 = some y9 → K2.1 y9 = 1 ∧ 1 ≤ g2 0 y9 ∧ g2 0 y9 < (173 + 3 * (20 - dp)) := by
                intro f9 y9 hf9 hf1 hy9
                rcases (show f9 = 0 ∨ f9 = 2 ∨ f9 = 3 by omega) with rfl | rfl | rfl
                · rw [hxa] at hy9; cases hy9; exact ⟨hxT, by omega, by omega⟩
                · rw [hc22] at hy9; cases hy9
                · rw [hc23] at hy9; cases hy9
              have hkch : ∀ f9 y9 : Nat, f9 ≤ 3 → K2.2.2.1 f9 q2 = some y9 → Kch (K2.2.1 0 q2) f9 (K2.2.1 0 y9) := by
                intro f9 y9 hf9 e9
                rw [hkd2]
                refine ⟨fun _ hn9 => ?_, fun z => absurd z (by decide), fun z => absurd z (by decide)⟩
                rcases (show f9 = 0 ∨ f9 = 2 ∨ f9 = 3 by omega) with rfl | rfl | rfl
                · rw [hxa] at e9; cases e9; exact hxk
                · rw [hc22] at e9; cases e9
                · rw [hc23] at e9; cases e9
              have hdn := LsN.done (L := (173 + 3 * (20 - dp))) (O := O) (k := at9) hls2 (by omega) (by omega) (Shp.k32 hkd2 (by show ¬ K2.2.2.1 0 q2 = none; rw [hxa]; intro z; cases z)) (fun f9 => Lsf.k32 hkd2) hkid hc24 hkch how
              have hz279 : NwR K K2 g (gset g2 q2 (173 + 3 * (20 - dp)) O at9) q2 O at9 ((173 + 3 * (20 - dp))) := hdn
              have hz280 : at9 + 3 ≤ (at2 + r274) ∧ (at2 + r274) ≤ sz := (by omega)
              have hz281 : sg ≤ sg2 ∧ sg2 ≤ 60 := (by omega)
              have hO : OKP G h0 a (upd (upd (upd (upd F 2 (nI sz)) 9 (nI (at2 + r274))) 10 (nI dp)) 11 (nI sg2)) R Z (updA B 10 f2) J K2 w := hO.to rfl
              refine W.widen (k := (2 * (sz - at9) + 20)) (n := (11 * (2 * (sz - at9) + 20))) (by omega) (by omega) ?_
              have hzz1 : H.size ≤ s.heap.size + ((2 * ((at2 + r274) - at9) - 4)) := (by have z : (2 * (at2 - at9) - 4) ≤ (2 * ((at2 + r274) - at9) - 4) := (by omega); omega)
              have hzz2 : hSl H ≤ hSl s.heap + ((11 * (2 * ((at2 + r274) - at9) - 4))) := (by have z : (11 * (2 * (at2 - at9) - 4)) ≤ (11 * (2 * ((at2 + r274) - at9) - 4)) := (by omega); omega)
              exact W.aret (v := .ref q2) hx hb hr (Or.inl ⟨_, rfl⟩) (Or.inr ⟨_, rfl⟩) (fun t99 ht99 hW99 => ⟨⟨_, (w, (q2, K2, (gset g2 q2 (173 + 3 * (20 - dp)) O at9), (at2 + r274), sg2, f2)), rfl, ⟨rfl, hz279, hz280, hz281, hO⟩, by rw [ht99]; exact hP, hD, by rw [ht99]; exact hzz1, by rw [ht99]; exact hzz2⟩, hS.F ht99⟩) hS.2.2 dX8_tryStatement_128
            · have n282 : ¬ (r274 = 0) := fun h9 => c277 ((nI_eq (a := r274) (b := 0) (by omega) (by omega)).mpr h9)
              refine lv_aload_n hx hb dX8_tryStatement_119 rfl (lv_at hl 2 rfl) ?_
              refine lv_aload_n hx hb dX8_tryStatement_120 rfl (lv_at hl 3 rfl) ?_
              have hO : OKP G h0 a (upd (upd (upd (upd (upd (upd (upd (upd (upd (upd F 2 (nI sz)) 9 (nI at9)) 10 (nI dp)) 11 (nI sg)) 9 (nI (at2 + r274))) 11 (nI sg2)) 2 (nI sz)) 9 (nI (at2 + r274))) 10 (nI dp)) 11 (nI sg2)) R Z (updA B 10 f2) J K2 w := hO.to rfl
              obtain ⟨_, qr286, hqr287⟩ := hO.2.1 23 _ (sg_23 G h0 a _ _ _ _ _)
              refine pn_V0 (G := G) (As := []) (rest := [.ref q2]) hx hb hml hown hq hE hX pX0_al hP hD hS hA hl.1 (P_block l G h0 a (upd (upd (upd (upd (upd (upd F 2 (nI sz)) 9 (nI at9)) 10 (nI dp)) 11 (nI sg)) 9 (nI (at2 + r274))) 11 (nI sg2)) R Z (updA B 10 f2) J K2 w n (at2 + r274) sz dp sg2 0 g2 (by omega) (by omega) hdp (by omega) hls2.1.1 (fun o9 h9 => absurd h9 (by omega)) ist hO hl0) (gV pw_1007 pw_1008 pw_1009 pw_796 pw_1056) hV_X8_block qr286 5 hqr287 rfl rfl rfl (Nat.le_of_ble_eq_true rfl) dX8_tryStatement_121 ⟨(by show (2 * (at2 - at9) - 4) + (2 * (sz - (at2 + r274)) + 20) ≤ (2 * (sz - at9) + 20); omega), (by show (11 * (2 * (at2 - at9) - 4)) + (11 * (2 * (sz - (at2 + r274)) + 20)) ≤ (11 * (2 * (sz - at9) + 20)); omega)⟩ ⟨(by show (50 * n + 54) + 1 ≤ (50 * n + 58); omega), (by show 8 + (5 + 11) + (1500 * n + 1560) ≤ (1500 * n + 1650); omega)⟩ (fun v285 u283 H locs hw284 hP hD hS => ?_) (fun ux ce9 q9 H9 locs9 hux hP9 hD9 hS9 hce hcv hcl => pb_out ux (ThQ.up (Thx.same (Thx.same (Thx.same (Thx.same (Thx.b (Thx.f (Thx.f Thx.rfl (by omega)) (by omega)) (by omega) (by decide)) rfl) rfl) rfl) rfl) hux) hnt hlocks hce hcv hcl hP9 hD9 hS9 (by show (2 * (at2 - at9) - 4) + (2 * (sz - (at2 + r274)) + 20) ≤ (2 * (sz - at9) + 20); omega) (by show (11 * (2 * (at2 - at9) - 4)) + (11 * (2 * (sz - (at2 + r274)) + 20)) ≤ (11 * (2 * (sz - at9) + 20)); omega))
              obtain ⟨w, r288, K289, g290, at291, sg292, f293⟩ := u283
              obtain ⟨hw284, h294, h295, h296, h297, hO⟩ := hw284
              have h294 : NwR K2 K289 g2 g290 r288 0 (at2 + r274) ((171 + 3 * (20 - dp))) := h294
              have h295 : (at2 + r274) + 2 ≤ at291 ∧ at291 ≤ sz := h295
              have h296 : sg2 ≤ sg292 ∧ sg292 ≤ 60 := h296
              have h297 : K289.2.1 0 r288 = 21 := h297
              obtain rfl : v285 = some (.ref r288) := hw284
              have hf298 : K289.1 q2 = 1 := (((h294).2.1.1 q2 (by rw [hq2]; decide)).1).trans hq2
              have hf299 : K289.2.1 0 q2 = 32 := (((h294).2.1.1 q2 (by rw [hq2]; decide)).2.1 0).trans hkd2
              have hf300 : K289.2.2.1 2 q2 = none := (((h294).2.1.1 q2 (by rw [hq2]; decide)).2.2.1 2).trans hc22
              have hf301 : K289.2.2.1 3 q2 = none := (((h294).2.1.1 q2 (by rw [hq2]; decide)).2.2.1 3).trans hc23
              have hf302 : K289.2.2.1 4 q2 = none := (((h294).2.1.1 q2 (by rw [hq2]; decide)).2.2.1 4).trans hc24
              have hf303 : K289.2.2.1 0 q2 = some xa := (((h294).2.1.1 q2 (by rw [hq2]; decide)).2.2.1 0).trans hxa
              have hf304 : K289.1 xa = 1 := (((h294).2.1.1 xa (by rw [hxT]; decide)).1).trans hxT
              have hf305 : K289.2.1 0 xa = 21 := (((h294).2.1.1 xa (by rw [hxT]; decide)).2.1 0).trans hxk
              have hO : OKP G h0 a (upd (upd (upd (upd F 2 (nI sz)) 9 (nI at291)) 10 (nI dp)) 11 (nI sg292)) R Z (updA B 10 f293) J K289 w := hO.to rfl
              refine W.widen (k := ((2 * (at2 - at9) - 4) + (2 * (at291 - (at2 + r274)) - 3))) (n := ((11 * (2 * (at2 - at9) - 4)) + (11 * (2 * (at291 - (at2 + r274)) - 3)))) (by show (2 * (at2 - at9) - 4) + (2 * (at291 - (at2 + r274)) - 3) ≤ ((2 * (at2 - at9) - 4) + (2 * (at291 - (at2 + r274)) - 3)); omega) (by show (11 * (2 * (at2 - at9) - 4)) + (11 * (2 * (at291 - (at2 + r274)) - 3)) ≤ ((11 * (2 * (at2 - at9) - 4)) + (11 * (2 * (at291 - (at2 + r274)) - 3))); omega) ?_
              refine W.eq (g2 := F0 m 124 ls [.ref r288, .ref q2]) rfl ?_
              have har5 := LsN.call0 hls2 h294
              have hbr := h294.2.2.1
              have hbr1 := hbr.2.2.1
              have hbr2 := hbr.2.2.2.1
              have hf306 : K289.1 r288 = 1 := hbr.2.1
              have hxz : g290 0 xa = g2 0 xa := h294.2.1.2 xa (by rw [hxT]; decide) 0
              refine p_put (v := .ref r288) (ty := (.object "JinjaTongue$Node")) (C := RX7) (Tc := TX7) (N := 11) (ci := 13) (K' := (kC K289 2 q2 (some r288))) hx hb hq pin_wsX70 tyX7 tyX7_ok nmX7 hown hE hP hD hS hO (by rw [hf298]; decide) (rep_1 hf298) rfl 8 (by decide) (hq _ pw_943) (fun _ h9 => h9) rfl (by decide +kernel) rfl rfl (Nat.le_of_ble_eq_true rfl) rfl (by rw [rep_1 (show (kC K289 2 q2 (some r288)).1 q2 = 1 from hf298), pc_2] <;> rfl) (fun p9 hp9 => rep_kC hp9) dX8_tryStatement_124 (fun H locs w hP hD hS hO => ?_)
              obtain ⟨K307, hK308⟩ : ∃ z : PK, z = (kC K289 2 q2 (some r288)) := ⟨_, rfl⟩
              rw [← hK308] at hO
              have hf309 : K307.1 q2 = 1 := (by rw [hK308]; exact hf298)
              have hf310 : K307.2.1 0 q2 = 32 := (by rw [hK308]; exact hf299)
              have hf311 : K307.2.2.1 3 q2 = none := (by rw [hK308]; exact (kC_of (by decide)).trans hf301)
              have hf312 : K307.2.2.1 4 q2 = none := (by rw [hK308]; exact (kC_of (by decide)).trans hf302)
              have hf313 : K307.2.2.1 0 q2 = some xa := (by rw [hK308]; exact (kC_of (by decide)).trans hf303)
              have hf314 : K307.1 xa = 1 := (by rw [hK308]; exact hf304)
              have hf315 : K307.2.1 0 xa = 21 := (by rw [hK308]; exact hf305)
              have hf316 : K307.1 r288 = 1 := (by rw [hK308]; exact hf306)
              have hf317 : K307.2.1 0 r288 = 21 := (by rw [hK308]; exact h297)
              have hf318 : K307.2.2.1 2 q2 = some r288 := by rw [hK308]; exact kC_eq
              refine lv_aload_n hx hb dX8_tryStatement_127 rfl (lv_at hl 2 rfl) ?_
              refine W_size (fun hz1 hz2 => ?_)
              refine vx_ret ?_
              have har6 : LsN K K307 g g290 q2 1 (172 + 3 * (20 - dp)) := by rw [hK308]; exact LsN.put har5 (by decide)
              have hkid : ∀ f9 y9 : Nat, f9 ≤ 3 → ¬ f9 = 1 → K307.2.2.1 f9 q2 = some y9 → K307.1 y9 = 1 ∧ 1 ≤ g290 0 y9 ∧ g290 0 y9 < (173 + 3 * (20 - dp)) := by
                intro f9 y9 hf9 hf1 hy9
                rcases (show f9 = 0 ∨ f9 = 2 ∨ f9 = 3 by omega) with rfl | rfl | rfl
                · rw [hf313] at hy9; cases hy9; exact ⟨hf314, by omega, by omega⟩
                · rw [hf318] at hy9; cases hy9; exact ⟨hf316, by omega, by omega⟩
                · rw [hf311] at hy9; cases hy9
              have hkch : ∀ f9 y9 : Nat, f9 ≤ 3 → K307.2.2.1 f9 q2 = some y9 → Kch (K307.2.1 0 q2) f9 (K307.2.1 0 y9) := by
                intro f9 y9 hf9 e9
                rw [hf310]
                refine ⟨fun _ hn9 => ?_, fun z => absurd z (by decide), fun z => absurd z (by decide)⟩
                rcases (show f9 = 0 ∨ f9 = 2 ∨ f9 = 3 by omega) with rfl | rfl | rfl
                · rw [hf313] at e9; cases e9; exact hf315
                · rw [hf318] at e9; cases e9; exact hf317
                · rw [hf311] at e9; cases e9
              have hdn := LsN.done (L := (173 + 3 * (20 - dp))) (O := O) (k := at9) har6 (by omega) (by omega) (Shp.k32 hf310 (by show ¬ K307.2.2.1 0 q2 = none; rw [hf313]; intro z; cases z)) (fun f9 => Lsf.k32 hf310) hkid hf312 hkch how
              have hz319 : NwR K K307 g (gset g290 q2 (173 + 3 * (20 - dp)) O at9) q2 O at9 ((173 + 3 * (20 - dp))) := hdn
              have hz320 : at9 + 3 ≤ at291 ∧ at291 ≤ sz := (by omega)
              have hz321 : sg ≤ sg292 ∧ sg292 ≤ 60 := (by omega)
              have hO : OKP G h0 a (upd (upd (upd (upd F 2 (nI sz)) 9 (nI at291)) 10 (nI dp)) 11 (nI sg292)) R Z (updA B 10 f293) J K307 w := hO.to rfl
              refine W.widen (k := (2 * (sz - at9) + 20)) (n := (11 * (2 * (sz - at9) + 20))) (by omega) (by omega) ?_
              have hzz1 : H.size ≤ s.heap.size + ((2 * (at291 - at9) - 4)) := (by have z : ((2 * (at2 - at9) - 4) + (2 * (at291 - (at2 + r274)) - 3)) ≤ (2 * (at291 - at9) - 4) := (by omega); omega)
              have hzz2 : hSl H ≤ hSl s.heap + ((11 * (2 * (at291 - at9) - 4))) := (by have z : ((11 * (2 * (at2 - at9) - 4)) + (11 * (2 * (at291 - (at2 + r274)) - 3))) ≤ (11 * (2 * (at291 - at9) - 4)) := (by omega); omega)
              exact W.aret (v := .ref q2) hx hb hr (Or.inl ⟨_, rfl⟩) (Or.inr ⟨_, rfl⟩) (fun t99 ht99 hW99 => ⟨⟨_, (w, (q2, K307, (gset g290 q2 (173 + 3 * (20 - dp)) O at9), at291, sg292, f293)), rfl, ⟨rfl, hz319, hz320, hz321, hO⟩, by rw [ht99]; exact hP, hD, by rw [ht99]; exact hzz1, by rw [ht99]; exact hzz2⟩, hS.F ht99⟩) hS.2.2 dX8_tryStatement_128
        · have n322 : ¬ (r197 = 0) := fun h9 => c199 ((nI_eq (a := r197) (b := 0) (by omega) (by omega)).mpr h9)
          refine lv_aload_n hx hb dX8_tryStatement_59 rfl (lv_at hl 3 rfl) ?_
          have hO : OKP G h0 a (upd (upd (upd (upd (upd (upd (upd (upd (upd (upd F 2 (nI sz)) 9 (nI at9)) 10 (nI dp)) 11 (nI sg)) 9 (nI at2)) 11 (nI sg2)) 2 (nI sz)) 9 (nI at2)) 10 (nI dp)) 11 (nI sg2)) R Z (updA B 10 f2) J K2 w := hO.to rfl
          obtain ⟨_, qr326, hqr327⟩ := hO.2.1 23 _ (sg_23 G h0 a _ _ _ _ _)
          refine pn_V0 (G := G) (As := []) (rest := []) hx hb hml hown hq hE hX pX0_al hP hD hS hA hl.1 (P_catch l G h0 a (upd (upd (upd (upd (upd (upd F 2 (nI sz)) 9 (nI at9)) 10 (nI dp)) 11 (nI sg)) 9 (nI at2)) 11 (nI sg2)) R Z (updA B 10 f2) J K2 w n at2 sz dp sg2 (q2 + 1) g2 (by omega) (by omega) hdp (by omega) hls2.1.1 (fun o9 h9 => by have z : o9 = q2 := (by omega); rw [z]; exact ⟨hq2, hls2.2.2.2.1⟩) ist hO hl0) (gV pw_1052 pw_1053 pw_1054 pw_796 pw_1006) hV_X8_catchBlock qr326 5 hqr327 rfl rfl rfl (Nat.le_of_ble_eq_true rfl) dX8_tryStatement_60 ⟨(by show (2 * (at2 - at9) - 4) + (2 * (sz - at2) + 20) ≤ (2 * (sz - at9) + 20); omega), (by show (11 * (2 * (at2 - at9) - 4)) + (11 * (2 * (sz - at2) + 20)) ≤ (11 * (2 * (sz - at9) + 20)); omega)⟩ ⟨(by show (50 * n + 56) + 1 ≤ (50 * n + 58); omega), (by show 8 + (3 + 11) + (1500 * n + 1600) ≤ (1500 * n + 1650); omega)⟩ (fun v325 u323 H locs hw324 hP hD hS => ?_) (fun ux ce9 q9 H9 locs9 hux hP9 hD9 hS9 hce hcv hcl => pb_out ux (ThQ.up (Thx.same (Thx.same (Thx.same (Thx.same (Thx.b (Thx.f (Thx.f Thx.rfl (by omega)) (by omega)) (by omega) (by decide)) rfl) rfl) rfl) rfl) hux) hnt hlocks hce hcv hcl hP9 hD9 hS9 (by show (2 * (at2 - at9) - 4) + (2 * (sz - at2) + 20) ≤ (2 * (sz - at9) + 20); omega) (by show (11 * (2 * (at2 - at9) - 4)) + (11 * (2 * (sz - at2) + 20)) ≤ (11 * (2 * (sz - at9) + 20)); omega))
          obtain ⟨w, r328, K329, g330, at331, sg332, f333⟩ := u323
          obtain ⟨hw324, h334, h335, h336, hO⟩ := hw324
          have h334 : NwR K2 K329 g2 g330 r328 (q2 + 1) at2 ((172 + 3 * (20 - dp))) := h334
          have h335 : at2 + 7 ≤ at331 ∧ at331 ≤ sz := h335
          have h336 : sg2 ≤ sg332 ∧ sg332 ≤ 60 := h336
          obtain rfl : v325 = some (.ref r328) := hw324
          have hf337 : K329.1 q2 = 1 := (((h334).2.1.1 q2 (by rw [hq2]; decide)).1).trans hq2
          have hf338 : K329.2.1 0 q2 = 32 := (((h334).2.1.1 q2 (by rw [hq2]; decide)).2.1 0).trans hkd2
          have hf339 : K329.2.2.1 2 q2 = none := (((h334).2.1.1 q2 (by rw [hq2]; decide)).2.2.1 2).trans hc22
          have hf340 : K329.2.2.1 3 q2 = none := (((h334).2.1.1 q2 (by rw [hq2]; decide)).2.2.1 3).trans hc23
          have hf341 : K329.2.2.1 4 q2 = none := (((h334).2.1.1 q2 (by rw [hq2]; decide)).2.2.1 4).trans hc24
          have hf342 : K329.2.2.1 0 q2 = some xa := (((h334).2.1.1 q2 (by rw [hq2]; decide)).2.2.1 0).trans hxa
          have hf343 : K329.1 xa = 1 := (((h334).2.1.1 xa (by rw [hxT]; decide)).1).trans hxT
          have hf344 : K329.2.1 0 xa = 21 := (((h334).2.1.1 xa (by rw [hxT]; decide)).2.1 0).trans hxk
          have hO : OKP G h0 a (upd (upd (upd (upd F 2 (nI sz)) 9 (nI at331)) 10 (nI dp)) 11 (nI sg332)) R Z (updA B 10 f333) J K329 w := hO.to rfl
          refine W.widen (k := ((2 * (at2 - at9) - 4) + (2 * (at331 - at2) - 6))) (n := ((11 * (2 * (at2 - at9) - 4)) + (11 * (2 * (at331 - at2) - 6)))) (by show (2 * (at2 - at9) - 4) + (2 * (at331 - at2) - 6) ≤ ((2 * (at2 - at9) - 4) + (2 * (at331 - at2) - 6)); omega) (by show (11 * (2 * (at2 - at9) - 4)) + (11 * (2 * (at331 - at2) - 6)) ≤ ((11 * (2 * (at2 - at9) - 4)) + (11 * (2 * (at331 - at2) - 6))); omega) ?_
          refine W.eq (g2 := F0 m 63 ls [.ref r328]) rfl ?_
          have har3 := LsN.call (B2 := (172 + 3 * (20 - dp))) hls2 h334 (by omega)
          have hr3 := h334.2.2.1
          have hr4 : K329.1 r328 = 1 ∧ 1 ≤ g330 0 r328 ∧ g330 1 r328 = q2 + 1 := ⟨hr3.2.1, hr3.2.2.1, hr3.2.2.2.2.1⟩
          have hr5 : K.1 r328 = 0 := old_T hls2.1.2.1 hr3.1
          have hr6 := hr3.2.2.2.2.2.1
          have hf345 : K329.1 r328 = 1 := hr3.2.1
          have hrq : ¬ r328 = q2 := fun z => by have z2 := hr3.1; rw [z, hq2] at z2; exact absurd z2 (by decide)
          refine lv_astore (lv' := [(4, .ref r328), (3, .int (nI i2)), (2, va_rf la2), (1, .ref q2), (0, .ref (a 3))]) hx hb dX8_tryStatement_63 hl (by decide) rfl (fun ls hl => ?_)
          rcases la2 with _ | y9
          · have hl : lv_has ls 5 [(4, .ref r328), (3, .int (nI i2)), (2, .null), (1, .ref q2), (0, .ref (a 3))] := hl
            refine lv_aload_nN hx hb dX8_tryStatement_65 rfl (lv_at hl 2 rfl) ?_
            refine lv_ifnonnullN hx hb dX8_tryStatement_66 ?_
            refine lv_aload_n hx hb dX8_tryStatement_69 rfl (lv_at hl 3 rfl) ?_
            refine lv_aload hx hb dX8_tryStatement_70 (lv_at hl 0 rfl) ?_
            refine p_put (v := .ref r328) (ty := (.object "JinjaTongue$Node")) (C := RX7) (Tc := TX7) (N := 11) (ci := 13) (K' := (kC K329 1 q2 (some r328))) hx hb hq pin_wsX70 tyX7 tyX7_ok nmX7 hown hE hP hD hS hO (by rw [hf337]; decide) (rep_1 hf337) rfl 7 (by decide) (hq _ pw_910) (fun _ h9 => h9) rfl (by decide +kernel) rfl rfl (Nat.le_of_ble_eq_true rfl) rfl (by rw [rep_1 (show (kC K329 1 q2 (some r328)).1 q2 = 1 from hf337), pc_1] <;> rfl) (fun p9 hp9 => rep_kC hp9) dX8_tryStatement_72 (fun H locs w hP hD hS hO => ?_)
            obtain ⟨K346, hK347⟩ : ∃ z : PK, z = (kC K329 1 q2 (some r328)) := ⟨_, rfl⟩
            rw [← hK347] at hO
            have hf348 : K346.1 q2 = 1 := (by rw [hK347]; exact hf337)
            have hf349 : K346.2.1 0 q2 = 32 := (by rw [hK347]; exact hf338)
            have hf350 : K346.2.2.1 2 q2 = none := (by rw [hK347]; exact (kC_of (by decide)).trans hf339)
            have hf351 : K346.2.2.1 3 q2 = none := (by rw [hK347]; exact (kC_of (by decide)).trans hf340)
            have hf352 : K346.2.2.1 4 q2 = none := (by rw [hK347]; exact (kC_of (by decide)).trans hf341)
            have hf353 : K346.2.2.1 0 q2 = some xa := (by rw [hK347]; exact (kC_of (by decide)).trans hf342)
            have hf354 : K346.1 xa = 1 := (by rw [hK347]; exact hf343)
            have hf355 : K346.2.1 0 xa = 21 := (by rw [hK347]; exact hf344)
            have hf356 : K346.1 r328 = 1 := (by rw [hK347]; exact hf345)
            have hf357 : K346.2.2.1 1 q2 = some r328 := by rw [hK347]; exact kC_eq
            refine lv_goto (tgt := 84) hx hb dX8_tryStatement_75 (by decide) ?_
            have har4 : LsN K K346 g g330 q2 1 (172 + 3 * (20 - dp)) := by rw [hK347]; exact LsN.first har3 hr4
            have hr7 : (K.1 r328 = 0 ∧ K346.1 r328 = 1 ∧ 1 ≤ g330 0 r328 ∧ g330 1 r328 = q2 + 1) := ⟨hr5, by rw [hK347]; exact hr4.1, hr4.2.1, hr4.2.2⟩
            refine lv_aload hx hb dX8_tryStatement_84 (lv_at hl 0 rfl) ?_
            refine lv_astore_n (lv' := [(2, .ref r328), (4, .ref r328), (3, .int (nI i2)), (1, .ref q2), (0, .ref (a 3))]) hx hb dX8_tryStatement_86 rfl hl (by decide) rfl (fun ls hl => ?_)
            refine lv_iinc (v := (nI (i2 + 1))) (lv' := [(3, .int (nI (i2 + 1))), (2, .ref r328), (4, .ref r328), (1, .ref q2), (0, .ref (a 3))]) hx hb dX8_tryStatement_87 hl (k := 2) rfl (nI_1 i2) (by decide) rfl (fun ls hl => ?_)
            refine lv_goto (tgt := 40) hx hb dX8_tryStatement_90 (by decide) ?_
            have hxz : g330 0 xa = g2 0 xa := h334.2.1.2 xa (by rw [hxT]; decide) 0
            refine W.widen (k := (2 * (at331 - at9) - 4)) (n := (11 * (2 * (at331 - at9) - 4))) (by show ((2 * (at2 - at9) - 4) + (2 * (at331 - at2) - 6)) ≤ _; omega) (by show ((11 * (2 * (at2 - at9) - 4)) + (11 * (2 * (at331 - at2) - 6))) ≤ _; omega) ?_
            have hO : OKP G h0 a (upd (upd (upd (upd F 2 (nI sz)) 9 (nI at331)) 10 (nI dp)) 11 (nI sg332)) R Z (updA B 10 f333) J K346 w := hO.to rfl
            exact ih_i (i2 + 1) at331 sg332 f333 (some r328) K346 g330 q2 xa _ _ _ _ (by omega) (by omega) (by omega) (by omega) har4 hf349 hf350 hf351 hf352 hf353 hf354 hf355 (by omega) (fun y h => by cases h; exact ⟨hr7, by omega⟩) hP hD hS hO (lv_sub hl [0, 1, 3, 4] rfl)
          · have hl : lv_has ls 5 [(4, .ref r328), (3, .int (nI i2)), (2, .ref y9), (1, .ref q2), (0, .ref (a 3))] := hl
            obtain ⟨hy1, hy2⟩ := hla2 y9 rfl
            have hy0 : ¬ K2.1 y9 = 0 := by rw [hy1.2.1]; decide
            have hy3 : K329.1 y9 = 1 := ((h334.2.1.1 y9 hy0).1).trans hy1.2.1
            have hy4 := fun i => h334.2.1.2 y9 hy0 i
            have hyq : ¬ q2 = y9 := fun z => by have z2 := hy1.1; rw [← z, hls2.2.1] at z2; have z3 := hy1.2.2.1; rw [← z, hls2.2.2.2.1] at z3; omega
            refine lv_aload_n hx hb dX8_tryStatement_65 rfl (lv_at hl 2 rfl) ?_
            refine lv_ifnonnull (tgt := 78) hx hb dX8_tryStatement_66 (by decide) ?_
            refine lv_aload_n hx hb dX8_tryStatement_78 rfl (lv_at hl 2 rfl) ?_
            refine lv_aload hx hb dX8_tryStatement_79 (lv_at hl 0 rfl) ?_
            refine p_put (v := .ref r328) (ty := (.object "JinjaTongue$Node")) (C := RX7) (Tc := TX7) (N := 11) (ci := 13) (K' := (kC K329 4 y9 (some r328))) hx hb hq pin_wsX70 tyX7 tyX7_ok nmX7 hown hE hP hD hS hO (by rw [hy3]; decide) (rep_1 hy3) rfl 10 (by decide) (hq _ pw_911) (fun _ h9 => h9) rfl (by decide +kernel) rfl rfl (Nat.le_of_ble_eq_true rfl) rfl (by rw [rep_1 (show (kC K329 4 y9 (some r328)).1 y9 = 1 from hy3), pc_4] <;> rfl) (fun p9 hp9 => rep_kC hp9) dX8_tryStatement_81 (fun H locs w hP hD hS hO => ?_)
            obtain ⟨K358, hK359⟩ : ∃ z : PK, z = (kC K329 4 y9 (some r328)) := ⟨_, rfl⟩
            rw [← hK359] at hO
            have hf360 : K358.1 q2 = 1 := (by rw [hK359]; exact hf337)
            have hf361 : K358.2.1 0 q2 = 32 := (by rw [hK359]; exact hf338)
            have hf362 : K358.2.2.1 2 q2 = none := (by rw [hK359]; exact (kC_of (by decide)).trans hf339)
            have hf363 : K358.2.2.1 3 q2 = none := (by rw [hK359]; exact (kC_of (by decide)).trans hf340)
            have hf364 : K358.2.2.1 4 q2 = none := (by rw [hK359]; exact (kC_ne hyq).trans hf341)
            have hf365 : K358.2.2.1 0 q2 = some xa := (by rw [hK359]; exact (kC_of (by decide)).trans hf342)
            have hf366 : K358.1 xa = 1 := (by rw [hK359]; exact hf343)
            have hf367 : K358.2.1 0 xa = 21 := (by rw [hK359]; exact hf344)
            have hf368 : K358.1 r328 = 1 := (by rw [hK359]; exact hf345)
            have hf369 : K358.1 y9 = 1 := (by rw [hK359]; exact hy3)
            have hf370 : K358.2.2.1 4 y9 = some r328 := by rw [hK359]; exact kC_eq
            have hy5 := hy4 2
            have har4 : LsN K K358 g g330 q2 1 (172 + 3 * (20 - dp)) := by rw [hK359]; exact LsN.next har3 (by decide) ⟨hy1.1, hy3, by rw [hy4 0]; exact hy1.2.2.1, by rw [hy4 1]; exact hy1.2.2.2⟩ hr4 (by omega)
            have hr7 : (K.1 r328 = 0 ∧ K358.1 r328 = 1 ∧ 1 ≤ g330 0 r328 ∧ g330 1 r328 = q2 + 1) := ⟨hr5, by rw [hK359]; exact hr4.1, hr4.2.1, hr4.2.2⟩
            refine lv_aload hx hb dX8_tryStatement_84 (lv_at hl 0 rfl) ?_
            refine lv_astore_n (lv' := [(2, .ref r328), (4, .ref r328), (3, .int (nI i2)), (1, .ref q2), (0, .ref (a 3))]) hx hb dX8_tryStatement_86 rfl hl (by decide) rfl (fun ls hl => ?_)
            refine lv_iinc (v := (nI (i2 + 1))) (lv' := [(3, .int (nI (i2 + 1))), (2, .ref r328), (4, .ref r328), (1, .ref q2), (0, .ref (a 3))]) hx hb dX8_tryStatement_87 hl (k := 2) rfl (nI_1 i2) (by decide) rfl (fun ls hl => ?_)
            refine lv_goto (tgt := 40) hx hb dX8_tryStatement_90 (by decide) ?_
            have hxz : g330 0 xa = g2 0 xa := h334.2.1.2 xa (by rw [hxT]; decide) 0
            refine W.widen (k := (2 * (at331 - at9) - 4)) (n := (11 * (2 * (at331 - at9) - 4))) (by show ((2 * (at2 - at9) - 4) + (2 * (at331 - at2) - 6)) ≤ _; omega) (by show ((11 * (2 * (at2 - at9) - 4)) + (11 * (2 * (at331 - at2) - 6))) ≤ _; omega) ?_
            have hO : OKP G h0 a (upd (upd (upd (upd F 2 (nI sz)) 9 (nI at331)) 10 (nI dp)) 11 (nI sg332)) R Z (updA B 10 f333) J K358 w := hO.to rfl
            exact ih_i (i2 + 1) at331 sg332 f333 (some r328) K358 g330 q2 xa _ _ _ _ (by omega) (by omega) (by omega) (by omega) har4 hf361 hf362 hf363 hf364 hf365 hf366 hf367 (by omega) (fun y h => by cases h; exact ⟨hr7, by omega⟩) hP hD hS hO (lv_sub hl [0, 1, 3, 4] rfl)
  refine W.widen (k := (2 * (at34 - at9) - 4)) (n := (11 * (2 * (at34 - at9) - 4))) (by show (1 + (2 * (at34 - (at9 + 1)) - 3)) ≤ _; omega) (by show (11 + (11 * (2 * (at34 - (at9 + 1)) - 3))) ≤ _; omega) ?_
  have hO : OKP G h0 a (upd (upd (upd (upd F 2 (nI sz)) 9 (nI at34)) 10 (nI dp)) 11 (nI sg35)) R Z (updA B 10 f36) J K54 w := hO.to rfl
  exact loop_i (sz + 1) 0 at34 sg35 f36 none K54 g33 q1 r31 _ _ _ _ (by omega) (by omega) (by omega) (by omega) (LsN.of hns66 hq21 hf56 hg51 hno67 hf59) hf57 hf60 hf61 hf62 hf65 hf63 hf64 (by omega) (fun y h => by cases h) hP hD hS hO (lv_sub hl [0, 1, 2, 3] rfl)
