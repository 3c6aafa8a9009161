theorem dX8_tryStatement_0 : decode cX8_tryStatement 0 = .ok (.new 143, 3) := by decide +kernel
theorem dX8_tryStatement_3 : decode cX8_tryStatement 3 = .ok (.dup, 1) := by decide +kernel
theorem dX8_tryStatement_4 : decode cX8_tryStatement 4 = .ok (.bipush 32, 2) := by decide +kernel
theorem dX8_tryStatement_6 : decode cX8_tryStatement 6 = .ok (.aload_n 0, 1) := by decide +kernel
theorem dX8_tryStatement_7 : decode cX8_tryStatement 7 = .ok (.getfield 17, 3) := by decide +kernel
theorem dX8_tryStatement_10 : decode cX8_tryStatement 10 = .ok (.aload_n 0, 1) := by decide +kernel
theorem dX8_tryStatement_11 : decode cX8_tryStatement 11 = .ok (.getfield 17, 3) := by decide +kernel
theorem dX8_tryStatement_14 : decode cX8_tryStatement 14 = .ok (.invokespecial 145, 3) := by decide +kernel
theorem dX8_tryStatement_17 : decode cX8_tryStatement 17 = .ok (.astore_n 1, 1) := by decide +kernel
theorem dX8_tryStatement_18 : decode cX8_tryStatement 18 = .ok (.aload_n 0, 1) := by decide +kernel
theorem dX8_tryStatement_19 : decode cX8_tryStatement 19 = .ok (.dup, 1) := by decide +kernel
theorem dX8_tryStatement_20 : decode cX8_tryStatement 20 = .ok (.getfield 17, 3) := by decide +kernel
theorem dX8_tryStatement_23 : decode cX8_tryStatement 23 = .ok (.iconst 1, 1) := by decide +kernel
theorem dX8_tryStatement_24 : decode cX8_tryStatement 24 = .ok (.iadd, 1) := by decide +kernel
theorem dX8_tryStatement_25 : decode cX8_tryStatement 25 = .ok (.putfield 17, 3) := by decide +kernel
theorem dX8_tryStatement_28 : decode cX8_tryStatement 28 = .ok (.aload_n 1, 1) := by decide +kernel
theorem dX8_tryStatement_29 : decode cX8_tryStatement 29 = .ok (.aload_n 0, 1) := by decide +kernel
theorem dX8_tryStatement_30 : decode cX8_tryStatement 30 = .ok (.invokevirtual 120, 3) := by decide +kernel
theorem dX8_tryStatement_33 : decode cX8_tryStatement 33 = .ok (.putfield 165, 3) := by decide +kernel
theorem dX8_tryStatement_36 : decode cX8_tryStatement 36 = .ok (.aconst_null, 1) := by decide +kernel
theorem dX8_tryStatement_37 : decode cX8_tryStatement 37 = .ok (.astore_n 2, 1) := by decide +kernel
theorem dX8_tryStatement_38 : decode cX8_tryStatement 38 = .ok (.iconst 0, 1) := by decide +kernel
theorem dX8_tryStatement_39 : decode cX8_tryStatement 39 = .ok (.istore_n 3, 1) := by decide +kernel
theorem dX8_tryStatement_40 : decode cX8_tryStatement 40 = .ok (.iload_n 3, 1) := by decide +kernel
theorem dX8_tryStatement_41 : decode cX8_tryStatement 41 = .ok (.aload_n 0, 1) := by decide +kernel
theorem dX8_tryStatement_42 : decode cX8_tryStatement 42 = .ok (.getfield 7, 3) := by decide +kernel
theorem dX8_tryStatement_45 : decode cX8_tryStatement 45 = .ok (.getfield 27, 3) := by decide +kernel
theorem dX8_tryStatement_48 : decode cX8_tryStatement 48 = .ok (.if_icmp .ge 45, 3) := by decide +kernel
theorem dX8_tryStatement_93 : decode cX8_tryStatement 93 = .ok (.aload_n 2, 1) := by decide +kernel
theorem dX8_tryStatement_94 : decode cX8_tryStatement 94 = .ok (.ifnonnull 16, 3) := by decide +kernel
theorem dX8_tryStatement_97 : decode cX8_tryStatement 97 = .ok (.aload_n 0, 1) := by decide +kernel
theorem dX8_tryStatement_98 : decode cX8_tryStatement 98 = .ok (.bipush 9, 2) := by decide +kernel
theorem dX8_tryStatement_100 : decode cX8_tryStatement 100 = .ok (.invokevirtual 36, 3) := by decide +kernel
theorem dX8_tryStatement_103 : decode cX8_tryStatement 103 = .ok (.ifCond .ne 7, 3) := by decide +kernel
theorem dX8_tryStatement_110 : decode cX8_tryStatement 110 = .ok (.aload_n 0, 1) := by decide +kernel
theorem dX8_tryStatement_111 : decode cX8_tryStatement 111 = .ok (.bipush 9, 2) := by decide +kernel
theorem dX8_tryStatement_113 : decode cX8_tryStatement 113 = .ok (.invokevirtual 80, 3) := by decide +kernel
theorem dX8_tryStatement_116 : decode cX8_tryStatement 116 = .ok (.ifCond .eq 11, 3) := by decide +kernel
theorem dX8_tryStatement_127 : decode cX8_tryStatement 127 = .ok (.aload_n 1, 1) := by decide +kernel
theorem dX8_tryStatement_128 : decode cX8_tryStatement 128 = .ok (.areturn, 1) := by decide +kernel
theorem dX8_tryStatement_119 : decode cX8_tryStatement 119 = .ok (.aload_n 1, 1) := by decide +kernel
theorem dX8_tryStatement_120 : decode cX8_tryStatement 120 = .ok (.aload_n 0, 1) := by decide +kernel
theorem dX8_tryStatement_121 : decode cX8_tryStatement 121 = .ok (.invokevirtual 120, 3) := by decide +kernel
theorem dX8_tryStatement_124 : decode cX8_tryStatement 124 = .ok (.putfield 236, 3) := by decide +kernel
theorem dX8_tryStatement_106 : decode cX8_tryStatement 106 = .ok (.aload_n 0, 1) := by decide +kernel
theorem dX8_tryStatement_107 : decode cX8_tryStatement 107 = .ok (.invokevirtual 67, 3) := by decide +kernel
theorem dX8_tryStatement_51 : decode cX8_tryStatement 51 = .ok (.aload_n 0, 1) := by decide +kernel
theorem dX8_tryStatement_52 : decode cX8_tryStatement 52 = .ok (.iconst 3, 1) := by decide +kernel
theorem dX8_tryStatement_53 : decode cX8_tryStatement 53 = .ok (.invokevirtual 36, 3) := by decide +kernel
theorem dX8_tryStatement_56 : decode cX8_tryStatement 56 = .ok (.ifCond .eq 37, 3) := by decide +kernel
theorem dX8_tryStatement_59 : decode cX8_tryStatement 59 = .ok (.aload_n 0, 1) := by decide +kernel
theorem dX8_tryStatement_60 : decode cX8_tryStatement 60 = .ok (.invokevirtual 242, 3) := by decide +kernel
theorem dX8_tryStatement_63 : decode cX8_tryStatement 63 = .ok (.astore 4, 2) := by decide +kernel
theorem dX8_tryStatement_65 : decode cX8_tryStatement 65 = .ok (.aload_n 2, 1) := by decide +kernel
theorem dX8_tryStatement_66 : decode cX8_tryStatement 66 = .ok (.ifnonnull 12, 3) := by decide +kernel
theorem dX8_tryStatement_69 : decode cX8_tryStatement 69 = .ok (.aload_n 1, 1) := by decide +kernel
theorem dX8_tryStatement_70 : decode cX8_tryStatement 70 = .ok (.aload 4, 2) := by decide +kernel
theorem dX8_tryStatement_72 : decode cX8_tryStatement 72 = .ok (.putfield 230, 3) := by decide +kernel
theorem dX8_tryStatement_75 : decode cX8_tryStatement 75 = .ok (.goto 9, 3) := by decide +kernel
theorem dX8_tryStatement_84 : decode cX8_tryStatement 84 = .ok (.aload 4, 2) := by decide +kernel
theorem dX8_tryStatement_86 : decode cX8_tryStatement 86 = .ok (.astore_n 2, 1) := by decide +kernel
theorem dX8_tryStatement_87 : decode cX8_tryStatement 87 = .ok (.iinc 3 1, 3) := by decide +kernel
theorem dX8_tryStatement_90 : decode cX8_tryStatement 90 = .ok (.goto (-50), 3) := by decide +kernel
theorem dX8_tryStatement_78 : decode cX8_tryStatement 78 = .ok (.aload_n 2, 1) := by decide +kernel
theorem dX8_tryStatement_79 : decode cX8_tryStatement 79 = .ok (.aload 4, 2) := by decide +kernel
theorem dX8_tryStatement_81 : decode cX8_tryStatement 81 = .ok (.putfield 168, 3) := by decide +kernel
theorem hV_X8_catchBlock : yX8_catchBlock.cls = RX8 ∧ yX8_catchBlock.cls ≠ "java/lang/invoke/MethodHandle" ∧ yX8_catchBlock.cls ≠ "java/lang/invoke/VarHandle" ∧ (parseMethodDescriptor yX8_catchBlock.desc).map (fun d => d.parameters.length) = some 0 := by decide +kernel
set_option maxHeartbeats 40000000 in
set_option maxRecDepth 100000 in
theorem P_try (l : Launch) (G : pT) (h0 : Nat) (a : Nat → Nat) (F : Nat → Int32) (R : Nat → Value) (Z : Int64) (B : Nat → Nat → Int32) (J : Nat → Nat → Int64) (K : PK) (w : va_W) (n : Nat) (at9 : Nat) (sz : Nat) (dp : Nat) (sg : Nat) (O : Nat) (g : Nat → Nat → Nat) (hsz : sz ≤ 5000) (hat : at9 ≤ sz) (hdp : dp + n = 20) (hsg : sg ≤ 60) (hwn : WN K g) (how : ∀ o : Nat, O = o + 1 → K.1 o = 1 ∧ g 0 o = 0 ∧ ¬ K.2.1 0 o = 32) (hle : at9 + 1 ≤ sz) (ist : PSt l G n) (hO : OKP G h0 a (upd (upd (upd (upd F 2 (nI sz)) 9 (nI at9)) 10 (nI dp)) 11 (nI sg)) R Z B J K w) (hl0 : l.stackTraces = false) : PBn l G pX0 yX8_tryStatement cX8_tryStatement 5 (some (.object "JinjaTongue$Node")) ({ frames := (50 * n + 58), cells := (2 * (sz - at9) + 20), slots := (11 * (2 * (sz - at9) + 20)), locals := (1500 * n + 1650) }) [.ref (a 3)] w (fun (v : Option Value) (u : va_W × (Nat × PK × (Nat → Nat → Nat) × Nat × Nat × (Nat → Int32) × Nat)) => v = some (.ref u.2.1) ∧ (NwR K u.2.2.1 g u.2.2.2.1 u.2.1 O u.2.2.2.2.2.2.2 ((173 + 3 * (20 - dp)))) ∧ (at9 + 3 ≤ u.2.2.2.2.1 ∧ u.2.2.2.2.1 ≤ sz) ∧ (sg ≤ u.2.2.2.2.2.1 ∧ u.2.2.2.2.2.1 ≤ 60) ∧ (rS u.2.2.2.2.2.2.2 = at9 ∧ rE u.2.2.2.2.2.2.2 ≤ u.2.2.2.2.1 ∧ rS u.2.2.2.2.2.2.2 ≤ rE u.2.2.2.2.2.2.2) ∧ (OKP G h0 a (upd (upd (upd (upd F 2 (nI sz)) 9 (nI u.2.2.2.2.1)) 10 (nI dp)) 11 (nI u.2.2.2.2.2.1)) R Z (updA B 10 u.2.2.2.2.2.2.1) J u.2.2.1 u.1)) (fun u => u.1) (fun (u : va_W × (Nat × PK × (Nat → Nat → Nat) × Nat × Nat × (Nat → Int32) × Nat)) => (2 * (u.2.2.2.2.1 - at9) - 4)) (fun (u : va_W × (Nat × PK × (Nat → Nat → Nat) × Nat × Nat × (Nat → Int32) × Nat)) => (11 * (2 * (u.2.2.2.2.1 - at9) - 4))) (fun (u : va_W × (Nat → Int32) × (Nat → Value) × (Nat → Nat → Int32)) => ThQ G h0 a (upd (upd (upd (upd F 2 (nI sz)) 9 (nI at9)) 10 (nI dp)) 11 (nI sg)) R Z B J u) (fun u => u.1) := by
  intro sz
  refine vx_ofW (cc := cX8_tryStatement) (maxL := 5) (ret := (some (.object "JinjaTongue$Node"))) (by decide) rfl ?_
  intro p e s m args below meth c s₁ B9 hml hnt hv
  obtain ⟨rfl, hsz, hP, hD0, hE, hX⟩ := hv
  have hx := B9.exec
  have hb := B9.bytes
  have hr := B9.returns
  have hts := atoms_spec (ws := Cond.code yX8_tryStatement cX8_tryStatement 5 (some (.object "JinjaTongue$Node")) :: pw) B9.pre
  have hq : ∀ w ∈ pw, w.before _ s = true := fun w h => hts w (List.mem_cons_of_mem _ h)
  have hown : s.vm.findClass RX8 = some m.cls := findClass_of_methodNamed B9.named
  have hlocks := B9.notSynchronized
  subst hsz
  have hD := hD0.self (sz := s.heap.size)
  have hA : ∀ q : Nat, s.heap.size ≤ q → va_A w s.heap.size q := fun q h => Or.inr h
  generalize va_A w s.heap.size = A at hD hE hA ⊢
  have hS : va_S A s.heap s.heap [] := va_S.rf
  have hl := lv_entry ([.ref (a 3)]) (n := 5) (Nat.le_of_ble_eq_true rfl)
  rw [lg_entry_eq]
  generalize (lg_sl ([.ref (a 3)]) ++ List.replicate (5 - (lg_sl ([.ref (a 3)])).length) Slot.unset).toArray = ls at hl ⊢
  have hl : lv_has ls 5 [(0, .ref (a 3))] := hl
  have hns0 : NwS K K g g := NwS.nil hwn
  refine p_new (s9 := 1) (C := RX7) (T := TX7) (N := 11) (ci := 13) (fs := [.int 0, .int 0, .int 0, .int 0, .int 0, .int 0, .null, .null, .null, .null, .null]) hx hb hq pin_wsX70 tyX7 tyX7_ok hown (hq _ pw_870) (hq _ pw_871) (hq _ pw_872) hE hP hD hS hA hO rfl nw_X7 (by decide) (fun q => by rw [rep_1 (show (kN K q 1 0).1 q = 1 from if_pos rfl)]; unfold fsNode kN; simp only [if_true]; rfl) (by show 0 + 1 ≤ (2 * (sz - at9) + 20); omega) (by show 0 + 11 ≤ (11 * (2 * (sz - at9) + 20)); omega) dX8_tryStatement_0 (fun q1 H w hq2 hP hD hS hO => ?_)
  have hf3 : (kN K q1 1 0).1 q1 = 1 := if_pos rfl
  refine W.widen (k := 1) (n := 11) (by show 0 + 1 ≤ 1; omega) (by show 0 + 11 ≤ 11; omega) ?_
  refine lv_dup hx hb dX8_tryStatement_3 rfl ?_
  refine lv_bipush (v := 32) hx hb dX8_tryStatement_4 (by decide) ?_
  refine lv_aload_n hx hb dX8_tryStatement_6 rfl (lv_at hl 0 rfl) ?_
  refine c_get (v := .int (nI at9)) (C := RX8) (Tc := TX8) (N := 5) (ci := 5) hx hb hq pin_wsX80 hown hE hP hO 23 (sg_23 G h0 a _ _ _ _ _) rfl 2 (by decide) (hq _ pw_776) (fun _ h9 => h9) rfl dX8_tryStatement_7 ?_
  refine lv_aload_n hx hb dX8_tryStatement_10 rfl (lv_at hl 0 rfl) ?_
  refine c_get (v := .int (nI at9)) (C := RX8) (Tc := TX8) (N := 5) (ci := 5) hx hb hq pin_wsX80 hown hE hP hO 23 (sg_23 G h0 a _ _ _ _ _) rfl 2 (by decide) (hq _ pw_776) (fun _ h9 => h9) rfl dX8_tryStatement_11 ?_
  have hO : OKP G h0 a (upd (upd (upd (upd F 2 (nI sz)) 9 (nI at9)) 10 (nI dp)) 11 (nI sg)) R Z B J (kN K q1 1 0) w := hO.to rfl
  obtain ⟨qr7, hqr8⟩ := p_recv hO (by rw [hf3]; decide) (rep_1 hf3)
  refine pc_I0 (G := G) (As := [.int 32, .int (nI at9), .int (nI at9)]) (rest := [.ref q1]) hx hb hml hown hq hE hX pX0_al hP hD hS hA hl.1 (N_init l G h0 a (upd (upd (upd (upd F 2 (nI sz)) 9 (nI at9)) 10 (nI dp)) 11 (nI sg)) R Z B J (kN K q1 1 0) w q1 32 (nI at9) (nI at9) (by omega) hO) pw_874 pw_875 pw_872 pw_765 rfl hS_X7_init rfl (Nat.le_of_ble_eq_true rfl) dX8_tryStatement_14 ⟨(by show 1 + 0 ≤ (2 * (sz - at9) + 20); omega), (by show 11 + 0 ≤ (11 * (2 * (sz - at9) + 20)); omega)⟩ ⟨(by show 2 + 1 ≤ (50 * n + 58); omega), (by show 8 + (4 + 11) + 60 ≤ (1500 * n + 1650); omega)⟩ (fun v6 u4 H locs hw5 hP hD hS => ?_)
  obtain ⟨w, _⟩ := u4
  obtain ⟨hw5, hO⟩ := hw5
  obtain rfl : v6 = none := hw5
  have hf9 : (kI (kI (kI (kN K q1 1 0) 0 q1 32) 1 q1 (nI at9)) 2 q1 (nI at9)).1 q1 = 1 := hf3
  have hO : OKP G h0 a (upd (upd (upd (upd F 2 (nI sz)) 9 (nI at9)) 10 (nI dp)) 11 (nI sg)) R Z B J (kI (kI (kI (kN K q1 1 0) 0 q1 32) 1 q1 (nI at9)) 2 q1 (nI at9)) w := hO.to rfl
  refine W.widen (k := 1) (n := 11) (by show 1 + 0 ≤ 1; omega) (by show 11 + 0 ≤ 11; omega) ?_
  refine W.eq (g2 := F0 m 17 ls [.ref q1]) rfl ?_
  change OKP G h0 a (upd (upd (upd (upd F 2 (nI sz)) 9 (nI at9)) 10 (nI dp)) 11 (nI sg)) R Z B J (mkN K q1 32 (nI at9) (nI at9)) w at hO
  obtain ⟨K10, hK11⟩ : ∃ z : PK, z = (mkN K q1 32 (nI at9) (nI at9)) := ⟨_, rfl⟩
  rw [← hK11] at hO
  have hf12 : K10.1 q1 = 1 := by rw [hK11]; exact mkN_T
  have hf13 : K10.2.1 0 q1 = 32 := by rw [hK11]; exact mkN_0
  have hf14 : K10.2.1 2 q1 = (nI at9) := by rw [hK11]; exact mkN_2
  have hf15 : K10.2.2.1 0 q1 = none := by rw [hK11]; exact mkN_C
  have hf16 : K10.2.2.1 1 q1 = none := by rw [hK11]; exact mkN_C
  have hf17 : K10.2.2.1 2 q1 = none := by rw [hK11]; exact mkN_C
  have hf18 : K10.2.2.1 3 q1 = none := by rw [hK11]; exact mkN_C
  have hf19 : K10.2.2.1 4 q1 = none := by rw [hK11]; exact mkN_C
  have hns20 : NwS K K10 g (gset g q1 0 0 0) := by rw [hK11]; exact NwS.node hns0 hq2
  have hq21 : K.1 q1 = 0 := old_T hns0.2.1 hq2
  have hg22 : (gset g q1 0 0 0) 0 q1 = 0 := gset_0
  have hno23 : NoO K10 (gset g q1 0 0 0) q1 := by rw [hK11]; exact NoO.new hns0.1 hq2
  refine lv_astore_n (lv' := [(1, .ref q1), (0, .ref (a 3))]) hx hb dX8_tryStatement_17 rfl hl (by decide) rfl (fun ls hl => ?_)
  refine lv_aload_n hx hb dX8_tryStatement_18 rfl (lv_at hl 1 rfl) ?_
  refine lv_dup hx hb dX8_tryStatement_19 rfl ?_
  refine c_get (v := .int (nI at9)) (C := RX8) (Tc := TX8) (N := 5) (ci := 5) hx hb hq pin_wsX80 hown hE hP hO 23 (sg_23 G h0 a _ _ _ _ _) rfl 2 (by decide) (hq _ pw_776) (fun _ h9 => h9) rfl dX8_tryStatement_20 ?_
  refine lv_iconst (v := 1) hx hb dX8_tryStatement_23 (by decide) ?_
  refine lv_iadd hx hb dX8_tryStatement_24 ?_
  refine lv_topi (fun x24 e25 => ?_)
  obtain rfl : x24 = nI (at9 + 1) := e25.trans (nI_add (at9) (1))
  refine c_put (v := .int (nI (at9 + 1))) (ty := .int) (C := RX8) (Tc := TX8) (N := 5) (ci := 5) hx hb hq pin_wsX80 tyX8 tyX8_ok nmX8 hown hE hP hD hS hO 23 (sg_23 G h0 a _ _ _ _ _) rfl 2 (by decide) (hq _ pw_776) (fun _ h9 => h9) rfl (by decide +kernel) rfl rfl (Nat.le_of_ble_eq_true rfl) (sf_9 G h0 a _ _ _ _ _ (nI (at9 + 1))) dX8_tryStatement_25 (fun H locs w hP hD hS hO => ?_)
  refine lv_aload_n hx hb dX8_tryStatement_28 rfl (lv_at hl 0 rfl) ?_
  refine lv_aload_n hx hb dX8_tryStatement_29 rfl (lv_at hl 1 rfl) ?_
  have hO : OKP G h0 a (upd (upd (upd (upd (upd (upd (upd (upd (upd F 2 (nI sz)) 9 (nI at9)) 10 (nI dp)) 11 (nI sg)) 9 (nI (at9 + 1))) 2 (nI sz)) 9 (nI (at9 + 1))) 10 (nI dp)) 11 (nI sg)) R Z B J K10 w := hO.to rfl
  obtain ⟨_, qr29, hqr30⟩ := hO.2.1 23 _ (sg_23 G h0 a _ _ _ _ _)
  refine pn_V0 (G := G) (As := []) (rest := [.ref q1]) hx hb hml hown hq hE hX pX0_al hP hD hS hA hl.1 (P_block l G h0 a (upd (upd (upd (upd (upd F 2 (nI sz)) 9 (nI at9)) 10 (nI dp)) 11 (nI sg)) 9 (nI (at9 + 1))) R Z B J K10 w n (at9 + 1) sz dp sg 0 (gset g q1 0 0 0) (by omega) (by omega) hdp (by omega) hns20.1 (fun o9 h9 => absurd h9 (by omega)) ist hO hl0) (gV pw_1007 pw_1008 pw_1009 pw_796 pw_1056) hV_X8_block qr29 5 hqr30 rfl rfl rfl (Nat.le_of_ble_eq_true rfl) dX8_tryStatement_30 ⟨(by show 1 + (2 * (sz - (at9 + 1)) + 20) ≤ (2 * (sz - at9) + 20); omega), (by show 11 + (11 * (2 * (sz - (at9 + 1)) + 20)) ≤ (11 * (2 * (sz - at9) + 20)); omega)⟩ ⟨(by show (50 * n + 54) + 1 ≤ (50 * n + 58); omega), (by show 8 + (5 + 11) + (1500 * n + 1560) ≤ (1500 * n + 1650); omega)⟩ (fun v28 u26 H locs hw27 hP hD hS => ?_) (fun ux ce9 q9 H9 locs9 hux hP9 hD9 hS9 hce hcv hcl => pb_out ux (ThQ.up (Thx.same (Thx.same (Thx.same (Thx.same (Thx.f Thx.rfl (by omega)) rfl) rfl) rfl) rfl) RhX.rfl hux) hnt hlocks hce hcv hcl hP9 hD9 hS9 (by show 1 + (2 * (sz - (at9 + 1)) + 20) ≤ (2 * (sz - at9) + 20); omega) (by show 11 + (11 * (2 * (sz - (at9 + 1)) + 20)) ≤ (11 * (2 * (sz - at9) + 20)); omega))
  obtain ⟨w, r31, K32, g33, at34, sg35, f36, k37⟩ := u26
  obtain ⟨hw27, h38, h39, h40, h41, h42, hO⟩ := hw27
  have h38 : NwR K10 K32 (gset g q1 0 0 0) g33 r31 0 k37 ((171 + 3 * (20 - dp))) := h38
  have h39 : (at9 + 1) + 2 ≤ at34 ∧ at34 ≤ sz := h39
  have h40 : sg ≤ sg35 ∧ sg35 ≤ 60 := h40
  have h41 : rS k37 = (at9 + 1) ∧ rE k37 ≤ at34 ∧ rS k37 ≤ rE k37 := h41
  have h42 : K32.2.1 0 r31 = 21 := h42
  obtain rfl : v28 = some (.ref r31) := hw27
  have hf43 : K32.1 q1 = 1 := (((h38).2.1.1 q1 (by rw [hf12]; decide)).1).trans hf12
  have hf44 : K32.2.1 0 q1 = 32 := (((h38).2.1.1 q1 (by rw [hf12]; decide)).2.1 0).trans hf13
  have hf45 : K32.2.1 2 q1 = (nI at9) := (((h38).2.1.1 q1 (by rw [hf12]; decide)).2.1 2).trans hf14
  have hf46 : K32.2.2.1 0 q1 = none := (((h38).2.1.1 q1 (by rw [hf12]; decide)).2.2.1 0).trans hf15
  have hf47 : K32.2.2.1 1 q1 = none := (((h38).2.1.1 q1 (by rw [hf12]; decide)).2.2.1 1).trans hf16
  have hf48 : K32.2.2.1 2 q1 = none := (((h38).2.1.1 q1 (by rw [hf12]; decide)).2.2.1 2).trans hf17
  have hf49 : K32.2.2.1 3 q1 = none := (((h38).2.1.1 q1 (by rw [hf12]; decide)).2.2.1 3).trans hf18
  have hf50 : K32.2.2.1 4 q1 = none := (((h38).2.1.1 q1 (by rw [hf12]; decide)).2.2.1 4).trans hf19
  have hO : OKP G h0 a (upd (upd (upd (upd F 2 (nI sz)) 9 (nI at34)) 10 (nI dp)) 11 (nI sg35)) R Z (updA B 10 f36) J K32 w := hO.to rfl
  refine W.widen (k := (1 + (2 * (at34 - (at9 + 1)) - 3))) (n := (11 + (11 * (2 * (at34 - (at9 + 1)) - 3)))) (by show 1 + (2 * (at34 - (at9 + 1)) - 3) ≤ (1 + (2 * (at34 - (at9 + 1)) - 3)); omega) (by show 11 + (11 * (2 * (at34 - (at9 + 1)) - 3)) ≤ (11 + (11 * (2 * (at34 - (at9 + 1)) - 3))); omega) ?_
  refine W.eq (g2 := F0 m 33 ls [.ref r31, .ref q1]) rfl ?_
  have hns51 : NwS K K32 g g33 := NwS.call hns20 h38 (fun o9 h9 => absurd h9 (by omega))
  have hf52 : K32.1 r31 = 1 := h38.2.2.1.2.1
  have hg53 : g33 0 q1 = 0 := (h38.2.1.2 q1 (by rw [hf12]; decide) 0).trans hg22
  have hno54 : NoO K32 g33 q1 := NoO.call hno23 h38 hf12 (by omega)
  have hrk55 : g33 2 r31 = k37 := h38.2.2.1.2.2.2.2.2.1
  have hgy56 := h38.2.2.1
  have hgy56a := hgy56.2.2.1
  have hgy56b := hgy56.2.2.2.1
  refine p_put (v := .ref r31) (ty := (.object "JinjaTongue$Node")) (C := RX7) (Tc := TX7) (N := 11) (ci := 13) (K' := (kC K32 0 q1 (some r31))) hx hb hq pin_wsX70 tyX7 tyX7_ok nmX7 hown hE hP hD hS hO (by rw [hf43]; decide) (rep_1 hf43) rfl 6 (by decide) (hq _ pw_938) (fun _ h9 => h9) rfl (by decide +kernel) rfl rfl (Nat.le_of_ble_eq_true rfl) rfl (by rw [rep_1 (show (kC K32 0 q1 (some r31)).1 q1 = 1 from hf43), pc_0] <;> rfl) (fun p9 hp9 => rep_kC hp9) dX8_tryStatement_33 (fun H locs w hP hD hS hO => ?_)
  obtain ⟨K57, hK58⟩ : ∃ z : PK, z = (kC K32 0 q1 (some r31)) := ⟨_, rfl⟩
  rw [← hK58] at hO
  have hf59 : K57.1 q1 = 1 := (by rw [hK58]; exact hf43)
  have hf60 : K57.2.1 0 q1 = 32 := (by rw [hK58]; exact hf44)
  have hf61 : K57.2.1 2 q1 = (nI at9) := (by rw [hK58]; exact hf45)
  have hf62 : K57.2.2.1 1 q1 = none := (by rw [hK58]; exact (kC_of (by decide)).trans hf47)
  have hf63 : K57.2.2.1 2 q1 = none := (by rw [hK58]; exact (kC_of (by decide)).trans hf48)
  have hf64 : K57.2.2.1 3 q1 = none := (by rw [hK58]; exact (kC_of (by decide)).trans hf49)
  have hf65 : K57.2.2.1 4 q1 = none := (by rw [hK58]; exact (kC_of (by decide)).trans hf50)
  have hf66 : K57.1 r31 = 1 := (by rw [hK58]; exact hf52)
  have hf67 : K57.2.1 0 r31 = 21 := (by rw [hK58]; exact h42)
  have hf68 : K57.2.2.1 0 q1 = some r31 := by rw [hK58]; exact kC_eq
  have hns69 : NwS K K57 g g33 := by rw [hK58]; exact NwS.put hns51 hq21 hg53
  have hno70 : NoO K57 g33 q1 := by rw [hK58]; exact hno54
  refine lv_null hx hb dX8_tryStatement_36 ?_
  refine lv_astore_nN (lv' := [(2, .null), (1, .ref q1), (0, .ref (a 3))]) hx hb dX8_tryStatement_37 rfl hl (by decide) rfl (fun ls hl => ?_)
  refine lv_iconst (v := 0) hx hb dX8_tryStatement_38 (by decide) ?_
  refine lv_istore_n (lv' := [(3, .int 0), (2, .null), (1, .ref q1), (0, .ref (a 3))]) hx hb dX8_tryStatement_39 rfl hl (by decide) rfl (fun ls hl => ?_)
  have loop_i : ∀ (n_i : Nat) (i2 : Nat) (at2 : Nat) (sg2 : Nat) (f2 : Nat → Int32) (la2 : Option Nat) (K2 : PK) (g2 : Nat → Nat → Nat) (q2 : Nat) (xa : Nat) (ka : Nat) (H : Heap) (locs : List Loc) (ls : Array Slot) (w : va_W), i2 ≤ sz → sz + 1 ≤ i2 + n_i → (at9 + 3 ≤ at2 ∧ at2 ≤ sz) → (sg ≤ sg2 ∧ sg2 ≤ 60) → (LsN K K2 g g2 q2 1 (172 + 3 * (20 - dp)) (rE ka) at2) → (K2.2.1 0 q2 = 32) → (K2.2.2.1 2 q2 = none) → (K2.2.2.1 3 q2 = none) → (K2.2.2.1 4 q2 = none) → (K2.2.2.1 0 q2 = some xa) → (K2.1 xa = 1) → (K2.2.1 0 xa = 21) → (1 ≤ g2 0 xa ∧ g2 0 xa ≤ (171 + 3 * (20 - dp))) → (g2 2 xa = ka) → (rS ka = at9 + 1 ∧ rE ka ≤ at2 ∧ rS ka ≤ rE ka) → (LaS K K2 g2 q2 at2 la2) → va_P G.1 pCl w H → va_D A w → va_S A s.heap H locs → OKP G h0 a (upd (upd (upd (upd F 2 (nI sz)) 9 (nI at2)) 10 (nI dp)) 11 (nI sg2)) R Z (updA B 10 f2) J K2 w → lv_has ls 5 [(3, .int (nI i2)), (2, va_rf la2), (1, .ref q2), (0, .ref (a 3))] → W p l e (headSpec (Cond.code yX8_tryStatement cX8_tryStatement 5 (some (.object "JinjaTongue$Node")) :: pw) ({ frames := (50 * n + 58), cells := (2 * (sz - at9) + 20), slots := (11 * (2 * (sz - at9) + 20)), locals := (1500 * n + 1650) } : Room)).room s m ([.ref (a 3)] : List Value).toArray below meth c H locs (2 * (at2 - at9) - 4) (11 * (2 * (at2 - at9) - 4)) (vx_MQ below (pQn G A (fun (v : Option Value) (u : va_W × (Nat × PK × (Nat → Nat → Nat) × Nat × Nat × (Nat → Int32) × Nat)) => v = some (.ref u.2.1) ∧ (NwR K u.2.2.1 g u.2.2.2.1 u.2.1 O u.2.2.2.2.2.2.2 ((173 + 3 * (20 - dp)))) ∧ (at9 + 3 ≤ u.2.2.2.2.1 ∧ u.2.2.2.2.1 ≤ sz) ∧ (sg ≤ u.2.2.2.2.2.1 ∧ u.2.2.2.2.2.1 ≤ 60) ∧ (rS u.2.2.2.2.2.2.2 = at9 ∧ rE u.2.2.2.2.2.2.2 ≤ u.2.2.2.2.1 ∧ rS u.2.2.2.2.2.2.2 ≤ rE u.2.2.2.2.2.2.2) ∧ (OKP G h0 a (upd (upd (upd (upd F 2 (nI sz)) 9 (nI u.2.2.2.2.1)) 10 (nI dp)) 11 (nI u.2.2.2.2.2.1)) R Z (updA B 10 u.2.2.2.2.2.2.1) J u.2.2.1 u.1)) (fun u => u.1) (fun (u : va_W × (Nat × PK × (Nat → Nat → Nat) × Nat × Nat × (Nat → Int32) × Nat)) => (2 * (u.2.2.2.2.1 - at9) - 4)) (fun (u : va_W × (Nat × PK × (Nat → Nat → Nat) × Nat × Nat × (Nat → Int32) × Nat)) => (11 * (2 * (u.2.2.2.2.1 - at9) - 4)))) (pXX G A (fun (u : va_W × (Nat → Int32) × (Nat → Value) × (Nat → Nat → Int32)) => ThQ G h0 a (upd (upd (upd (upd F 2 (nI sz)) 9 (nI at9)) 10 (nI dp)) 11 (nI sg)) R Z B J u) (fun u => u.1)) ([.ref (a 3)] : List Value).toArray s ({ frames := (50 * n + 58), cells := (2 * (sz - at9) + 20), slots := (11 * (2 * (sz - at9) + 20)), locals := (1500 * n + 1650) } : Room).cells ({ frames := (50 * n + 58), cells := (2 * (sz - at9) + 20), slots := (11 * (2 * (sz - at9) + 20)), locals := (1500 * n + 1650) } : Room).slots A) (F0 m 40 ls []) := by
    intro n_i
    induction n_i with
    | zero => intro i2 at2 sg2 f2 la2 K2 g2 q2 xa ka H locs ls w hk_i hn_i; omega
    | succ n_i ih_i =>
      intro i2 at2 sg2 f2 la2 K2 g2 q2 xa ka H locs ls w hk_i hn_i hat2 hsg2 hls2 hkd2 hc22 hc23 hc24 hxa hxT hxk hxg hxr hxi hla2 hP hD hS hO hl
      have hq2 := hls2.2.2.1
      refine lv_iload_n hx hb dX8_tryStatement_40 rfl (lv_at hl 0 rfl) ?_
      refine lv_aload_n hx hb dX8_tryStatement_41 rfl (lv_at hl 3 rfl) ?_
      refine c_get (v := .ref (a 1)) (C := RX8) (Tc := TX8) (N := 5) (ci := 5) hx hb hq pin_wsX80 hown hE hP hO 23 (sg_23 G h0 a _ _ _ _ _) rfl 0 (by decide) (hq _ pw_774) (fun _ h9 => h9) rfl dX8_tryStatement_42 ?_
      refine c_get (v := .int (nI sz)) (C := RX10) (Tc := TX10) (N := 15) (ci := 7) hx hb hq pin_wsX100 hown hE hP hO 2 (sg_2 G h0 a _ _ _ _ _) rfl 8 (by decide) (hq _ pw_792) (fun _ h9 => h9) rfl dX8_tryStatement_45 ?_
      refine lv_icmp_ge (tgt := 93) hx hb dX8_tryStatement_48 (by decide) (fun c71 => ?_) (fun c71 => ?_)
      · have n72 : sz ≤ i2 := (nI_leI (a := sz) (b := i2) (by omega) (by omega)).mp c71
        rcases la2 with _ | y9
        · have hl : lv_has ls 5 [(3, .int (nI i2)), (2, .null), (1, .ref q2), (0, .ref (a 3))] := hl
          refine lv_aload_nN hx hb dX8_tryStatement_93 rfl (lv_at hl 1 rfl) ?_
          refine lv_ifnonnullN hx hb dX8_tryStatement_94 ?_
          refine lv_aload_n hx hb dX8_tryStatement_97 rfl (lv_at hl 3 rfl) ?_
          refine lv_bipush (v := 9) hx hb dX8_tryStatement_98 (by decide) ?_
          have hO : OKW G h0 a (upd (upd (upd (upd (upd (upd F 2 (nI sz)) 9 (nI at2)) 10 (nI dp)) 11 (nI sg2)) 2 (nI sz)) 9 (nI at2)) R Z (updA B 10 f2) J K2.1 (fun q99 x99 => x99 = rep G a K2 q99) w := hO.to rfl
          obtain ⟨_, qr76, hqr77⟩ := hO.2.1 23 _ (sg_23 G h0 a _ _ _ _ _)
          refine pc_V0 (G := G) (As := [.int 9]) (rest := []) hx hb hml hown hq hE hX pX0_al hP hD hS hA hl.1 (P_sees l G h0 a (upd (upd (upd (upd F 2 (nI sz)) 9 (nI at2)) 10 (nI dp)) 11 (nI sg2)) R Z (updA B 10 f2) J K2.1 (fun q99 x99 => x99 = rep G a K2 q99) w 9 at2 sz (by omega) (by omega) hO) (gV pw_803 pw_804 pw_805 pw_796 pw_775) hV_X8_sees qr76 5 hqr77 rfl rfl rfl (Nat.le_of_ble_eq_true rfl) dX8_tryStatement_100 ⟨(by show (2 * (at2 - at9) - 4) + 0 ≤ (2 * (sz - at9) + 20); omega), (by show (11 * (2 * (at2 - at9) - 4)) + 0 ≤ (11 * (2 * (sz - at9) + 20)); omega)⟩ ⟨(by show 3 + 1 ≤ (50 * n + 58); omega), (by show 8 + (2 + 11) + 81 ≤ (1500 * n + 1650); omega)⟩ (fun v75 u73 H locs hw74 hP hD hS => ?_)
          obtain ⟨w, r78⟩ := u73
          obtain ⟨hw74, h79, hO⟩ := hw74
          have h79 : r78 ≤ 1 := h79
          obtain rfl : v75 = some (.int (nI r78)) := hw74
          have hO : OKP G h0 a (upd (upd (upd (upd F 2 (nI sz)) 9 (nI at2)) 10 (nI dp)) 11 (nI sg2)) R Z (updA B 10 f2) J K2 w := hO.to rfl
          refine W.widen (k := (2 * (at2 - at9) - 4)) (n := (11 * (2 * (at2 - at9) - 4))) (by show (2 * (at2 - at9) - 4) + 0 ≤ (2 * (at2 - at9) - 4); omega) (by show (11 * (2 * (at2 - at9) - 4)) + 0 ≤ (11 * (2 * (at2 - at9) - 4)); omega) ?_
          refine W.eq (g2 := F0 m 103 ls [.int (nI r78)]) rfl ?_
          refine lv_if_ne (tgt := 110) hx hb dX8_tryStatement_103 (by decide) (fun c80 => ?_) (fun c80 => ?_)
          · have n81 : ¬ (r78 = 0) := fun h9 => c80 ((nI_eq (a := r78) (b := 0) (by omega) (by omega)).mpr h9)
            refine lv_aload_n hx hb dX8_tryStatement_110 rfl (lv_at hl 3 rfl) ?_
            refine lv_bipush (v := 9) hx hb dX8_tryStatement_111 (by decide) ?_
            have hO : OKW G h0 a (upd (upd (upd (upd (upd (upd F 2 (nI sz)) 9 (nI at2)) 10 (nI dp)) 11 (nI sg2)) 2 (nI sz)) 9 (nI at2)) R Z (updA B 10 f2) J K2.1 (fun q99 x99 => x99 = rep G a K2 q99) w := hO.to rfl
            obtain ⟨_, qr85, hqr86⟩ := hO.2.1 23 _ (sg_23 G h0 a _ _ _ _ _)
            refine pc_V0 (G := G) (As := [.int 9]) (rest := []) hx hb hml hown hq hE hX pX0_al hP hD hS hA hl.1 (P_takeIf l G h0 a (upd (upd (upd (upd F 2 (nI sz)) 9 (nI at2)) 10 (nI dp)) 11 (nI sg2)) R Z (updA B 10 f2) J K2.1 (fun q99 x99 => x99 = rep G a K2 q99) w 9 at2 sz (by omega) (by omega) (by decide) hO) (gV pw_797 pw_798 pw_799 pw_796 pw_789) hV_X8_takeIf qr85 5 hqr86 rfl rfl rfl (Nat.le_of_ble_eq_true rfl) dX8_tryStatement_113 ⟨(by show (2 * (at2 - at9) - 4) + 0 ≤ (2 * (sz - at9) + 20); omega), (by show (11 * (2 * (at2 - at9) - 4)) + 0 ≤ (11 * (2 * (sz - at9) + 20)); omega)⟩ ⟨(by show 3 + 1 ≤ (50 * n + 58); omega), (by show 8 + (2 + 11) + 81 ≤ (1500 * n + 1650); omega)⟩ (fun v84 u82 H locs hw83 hP hD hS => ?_)
            obtain ⟨w, r87⟩ := u82
            obtain ⟨hw83, h88, h89, hO⟩ := hw83
            have h88 : r87 ≤ 1 := h88
            have h89 : at2 + r87 ≤ sz := h89
            obtain rfl : v84 = some (.int (nI r87)) := hw83
            have hO : OKP G h0 a (upd (upd (upd (upd F 2 (nI sz)) 9 (nI (at2 + r87))) 10 (nI dp)) 11 (nI sg2)) R Z (updA B 10 f2) J K2 w := hO.to rfl
            refine W.widen (k := (2 * (at2 - at9) - 4)) (n := (11 * (2 * (at2 - at9) - 4))) (by show (2 * (at2 - at9) - 4) + 0 ≤ (2 * (at2 - at9) - 4); omega) (by show (11 * (2 * (at2 - at9) - 4)) + 0 ≤ (11 * (2 * (at2 - at9) - 4)); omega) ?_
            refine W.eq (g2 := F0 m 116 ls [.int (nI r87)]) rfl ?_
            refine lv_if_eq (tgt := 127) hx hb dX8_tryStatement_116 (by decide) (fun c90 => ?_) (fun c90 => ?_)
            · have n91 : r87 = 0 := (nI_eq (a := r87) (b := 0) (by omega) (by omega)).mp c90
              refine lv_aload_n hx hb dX8_tryStatement_127 rfl (lv_at hl 2 rfl) ?_
              refine W_size (fun hz1 hz2 => ?_)
              refine vx_ret ?_
              have hkid : ∀ f9 y9 : Nat, f9 ≤ 3 → ¬ f9 = 1 → K2.2.2.1 f9 q2 = some y9 → K2.1 y9 = 1 ∧ 1 ≤ g2 0 y9 ∧ g2 0 y9 < (173 + 3 * (20 - dp)) := by
                intro f9 y9 hf9 hf1 hy9
                rcases (show f9 = 0 ∨ f9 = 2 ∨ f9 = 3 by omega) with rfl | rfl | rfl
                · rw [hxa] at hy9; cases hy9; exact ⟨hxT, by omega, by omega⟩
                · rw [hc22] at hy9; cases hy9
                · rw [hc23] at hy9; cases hy9
              obtain ⟨k9, hkI, hkS, hkE, hkM, hkN⟩ : ∃ z : Nat, Itv z ∧ rS z = at9 ∧ rE z = (at2 + r87) ∧ rM z = (rE ka) ∧ rN z = at2 := ⟨rk at9 (at2 + r87) (rE ka) at2, Itv.of (by omega), rS_rk (by omega), rE_rk (by omega), rM_rk (by omega), rN_rk (by omega)⟩
              have hkch : ∀ f9 y9 : Nat, f9 ≤ 3 → K2.2.2.1 f9 q2 = some y9 → Kch (K2.2.1 0 q2) f9 (K2.2.1 0 y9) k9 (g2 2 y9) := by
                intro f9 y9 hf9 e9
                rw [hkd2]
                rcases (show f9 = 1 ∨ f9 = 0 ∨ f9 = 2 ∨ f9 = 3 by omega) with rfl | rfl | rfl | rfl
                · exact Kch.k32 (fun z => absurd rfl z) (fun z => absurd z (by decide)) (fun z => absurd z (by decide))
                · rw [hxa] at e9; cases e9; rw [hxr]; exact Kch.k32 (fun _ => hxk) (fun _ => (by omega)) (fun z => absurd z (by decide))
                · rw [hc22] at e9; cases e9
                · rw [hc23] at e9; cases e9
              have hdn := LsN.done (L := (173 + 3 * (20 - dp))) (O := O) (k := k9) hls2 (by omega) (fun x9 => Owi.k32 hkd2 (by omega)) hkI (Shp.k32 hkd2 (by show ¬ K2.2.2.1 0 q2 = none; rw [hxa]; intro z; cases z)) (fun f9 => Lsf.k32 hkd2) hkid hc24 hkch how
              have hz92 : NwR K K2 g (gset g2 q2 (173 + 3 * (20 - dp)) O k9) q2 O k9 ((173 + 3 * (20 - dp))) := hdn
              have hz93 : at9 + 3 ≤ (at2 + r87) ∧ (at2 + r87) ≤ sz := (by omega)
              have hz94 : sg ≤ sg2 ∧ sg2 ≤ 60 := (by omega)
              have hz95 : rS k9 = at9 ∧ rE k9 ≤ (at2 + r87) ∧ rS k9 ≤ rE k9 := (by omega)
              have hO : OKP G h0 a (upd (upd (upd (upd F 2 (nI sz)) 9 (nI (at2 + r87))) 10 (nI dp)) 11 (nI sg2)) R Z (updA B 10 f2) J K2 w := hO.to rfl
              refine W.widen (k := (2 * (sz - at9) + 20)) (n := (11 * (2 * (sz - at9) + 20))) (by omega) (by omega) ?_
              have hzz1 : H.size ≤ s.heap.size + ((2 * ((at2 + r87) - at9) - 4)) := (by have z : (2 * (at2 - at9) - 4) ≤ (2 * ((at2 + r87) - at9) - 4) := (by omega); omega)
              have hzz2 : hSl H ≤ hSl s.heap + ((11 * (2 * ((at2 + r87) - at9) - 4))) := (by have z : (11 * (2 * (at2 - at9) - 4)) ≤ (11 * (2 * ((at2 + r87) - at9) - 4)) := (by omega); omega)
              exact W.aret (v := .ref q2) hx hb hr (Or.inl ⟨_, rfl⟩) (Or.inr ⟨_, rfl⟩) (fun t99 ht99 hW99 => ⟨⟨_, (w, (q2, K2, (gset g2 q2 (173 + 3 * (20 - dp)) O k9), (at2 + r87), sg2, f2, k9)), rfl, ⟨rfl, hz92, hz93, hz94, hz95, hO⟩, by rw [ht99]; exact hP, hD, by rw [ht99]; exact hzz1, by rw [ht99]; exact hzz2⟩, hS.F ht99⟩) hS.2.2 dX8_tryStatement_128
            · have n96 : ¬ (r87 = 0) := fun h9 => c90 ((nI_eq (a := r87) (b := 0) (by omega) (by omega)).mpr h9)
              refine lv_aload_n hx hb dX8_tryStatement_119 rfl (lv_at hl 2 rfl) ?_
              refine lv_aload_n hx hb dX8_tryStatement_120 rfl (lv_at hl 3 rfl) ?_
              have hO : OKP G h0 a (upd (upd (upd (upd (upd (upd (upd (upd (upd (upd F 2 (nI sz)) 9 (nI at9)) 10 (nI dp)) 11 (nI sg)) 9 (nI (at2 + r87))) 11 (nI sg2)) 2 (nI sz)) 9 (nI (at2 + r87))) 10 (nI dp)) 11 (nI sg2)) R Z (updA B 10 f2) J K2 w := hO.to rfl
              obtain ⟨_, qr100, hqr101⟩ := hO.2.1 23 _ (sg_23 G h0 a _ _ _ _ _)
              refine pn_V0 (G := G) (As := []) (rest := [.ref q2]) hx hb hml hown hq hE hX pX0_al hP hD hS hA hl.1 (P_block l G h0 a (upd (upd (upd (upd (upd (upd F 2 (nI sz)) 9 (nI at9)) 10 (nI dp)) 11 (nI sg)) 9 (nI (at2 + r87))) 11 (nI sg2)) R Z (updA B 10 f2) J K2 w n (at2 + r87) sz dp sg2 0 g2 (by omega) (by omega) hdp (by omega) hls2.1.1 (fun o9 h9 => absurd h9 (by omega)) ist hO hl0) (gV pw_1007 pw_1008 pw_1009 pw_796 pw_1056) hV_X8_block qr100 5 hqr101 rfl rfl rfl (Nat.le_of_ble_eq_true rfl) dX8_tryStatement_121 ⟨(by show (2 * (at2 - at9) - 4) + (2 * (sz - (at2 + r87)) + 20) ≤ (2 * (sz - at9) + 20); omega), (by show (11 * (2 * (at2 - at9) - 4)) + (11 * (2 * (sz - (at2 + r87)) + 20)) ≤ (11 * (2 * (sz - at9) + 20)); omega)⟩ ⟨(by show (50 * n + 54) + 1 ≤ (50 * n + 58); omega), (by show 8 + (5 + 11) + (1500 * n + 1560) ≤ (1500 * n + 1650); omega)⟩ (fun v99 u97 H locs hw98 hP hD hS => ?_) (fun ux ce9 q9 H9 locs9 hux hP9 hD9 hS9 hce hcv hcl => pb_out ux (ThQ.up (Thx.same (Thx.same (Thx.same (Thx.same (Thx.b (Thx.f (Thx.f Thx.rfl (by omega)) (by omega)) (by omega) (by decide)) rfl) rfl) rfl) rfl) RhX.rfl hux) hnt hlocks hce hcv hcl hP9 hD9 hS9 (by show (2 * (at2 - at9) - 4) + (2 * (sz - (at2 + r87)) + 20) ≤ (2 * (sz - at9) + 20); omega) (by show (11 * (2 * (at2 - at9) - 4)) + (11 * (2 * (sz - (at2 + r87)) + 20)) ≤ (11 * (2 * (sz - at9) + 20)); omega))
              obtain ⟨w, r102, K103, g104, at105, sg106, f107, k108⟩ := u97
              obtain ⟨hw98, h109, h110, h111, h112, h113, hO⟩ := hw98
              have h109 : NwR K2 K103 g2 g104 r102 0 k108 ((171 + 3 * (20 - dp))) := h109
              have h110 : (at2 + r87) + 2 ≤ at105 ∧ at105 ≤ sz := h110
              have h111 : sg2 ≤ sg106 ∧ sg106 ≤ 60 := h111
              have h112 : rS k108 = (at2 + r87) ∧ rE k108 ≤ at105 ∧ rS k108 ≤ rE k108 := h112
              have h113 : K103.2.1 0 r102 = 21 := h113
              obtain rfl : v99 = some (.ref r102) := hw98
              have hf114 : K103.1 q2 = 1 := (((h109).2.1.1 q2 (by rw [hq2]; decide)).1).trans hq2
              have hf115 : K103.2.1 0 q2 = 32 := (((h109).2.1.1 q2 (by rw [hq2]; decide)).2.1 0).trans hkd2
              have hf116 : K103.2.2.1 2 q2 = none := (((h109).2.1.1 q2 (by rw [hq2]; decide)).2.2.1 2).trans hc22
              have hf117 : K103.2.2.1 3 q2 = none := (((h109).2.1.1 q2 (by rw [hq2]; decide)).2.2.1 3).trans hc23
              have hf118 : K103.2.2.1 4 q2 = none := (((h109).2.1.1 q2 (by rw [hq2]; decide)).2.2.1 4).trans hc24
              have hf119 : K103.2.2.1 0 q2 = some xa := (((h109).2.1.1 q2 (by rw [hq2]; decide)).2.2.1 0).trans hxa
              have hf120 : K103.1 xa = 1 := (((h109).2.1.1 xa (by rw [hxT]; decide)).1).trans hxT
              have hf121 : K103.2.1 0 xa = 21 := (((h109).2.1.1 xa (by rw [hxT]; decide)).2.1 0).trans hxk
              have hO : OKP G h0 a (upd (upd (upd (upd F 2 (nI sz)) 9 (nI at105)) 10 (nI dp)) 11 (nI sg106)) R Z (updA B 10 f107) J K103 w := hO.to rfl
              refine W.widen (k := ((2 * (at2 - at9) - 4) + (2 * (at105 - (at2 + r87)) - 3))) (n := ((11 * (2 * (at2 - at9) - 4)) + (11 * (2 * (at105 - (at2 + r87)) - 3)))) (by show (2 * (at2 - at9) - 4) + (2 * (at105 - (at2 + r87)) - 3) ≤ ((2 * (at2 - at9) - 4) + (2 * (at105 - (at2 + r87)) - 3)); omega) (by show (11 * (2 * (at2 - at9) - 4)) + (11 * (2 * (at105 - (at2 + r87)) - 3)) ≤ ((11 * (2 * (at2 - at9) - 4)) + (11 * (2 * (at105 - (at2 + r87)) - 3))); omega) ?_
              refine W.eq (g2 := F0 m 124 ls [.ref r102, .ref q2]) rfl ?_
              have har5 := LsN.call0 hls2 h109
              have hbr := h109.2.2.1
              have hbr1 := hbr.2.2.1
              have hbr2 := hbr.2.2.2.1
              have hf122 : K103.1 r102 = 1 := hbr.2.1
              have hxz : g104 0 xa = g2 0 xa := h109.2.1.2 xa (by rw [hxT]; decide) 0
              have hxr9 : g104 2 xa = ka := (h109.2.1.2 xa (by rw [hxT]; decide) 2).trans hxr
              have hbr9 : g104 2 r102 = k108 := hbr.2.2.2.2.2.1
              refine p_put (v := .ref r102) (ty := (.object "JinjaTongue$Node")) (C := RX7) (Tc := TX7) (N := 11) (ci := 13) (K' := (kC K103 2 q2 (some r102))) hx hb hq pin_wsX70 tyX7 tyX7_ok nmX7 hown hE hP hD hS hO (by rw [hf114]; decide) (rep_1 hf114) rfl 8 (by decide) (hq _ pw_943) (fun _ h9 => h9) rfl (by decide +kernel) rfl rfl (Nat.le_of_ble_eq_true rfl) rfl (by rw [rep_1 (show (kC K103 2 q2 (some r102)).1 q2 = 1 from hf114), pc_2] <;> rfl) (fun p9 hp9 => rep_kC hp9) dX8_tryStatement_124 (fun H locs w hP hD hS hO => ?_)
              obtain ⟨K123, hK124⟩ : ∃ z : PK, z = (kC K103 2 q2 (some r102)) := ⟨_, rfl⟩
              rw [← hK124] at hO
              have hf125 : K123.1 q2 = 1 := (by rw [hK124]; exact hf114)
              have hf126 : K123.2.1 0 q2 = 32 := (by rw [hK124]; exact hf115)
              have hf127 : K123.2.2.1 3 q2 = none := (by rw [hK124]; exact (kC_of (by decide)).trans hf117)
              have hf128 : K123.2.2.1 4 q2 = none := (by rw [hK124]; exact (kC_of (by decide)).trans hf118)
              have hf129 : K123.2.2.1 0 q2 = some xa := (by rw [hK124]; exact (kC_of (by decide)).trans hf119)
              have hf130 : K123.1 xa = 1 := (by rw [hK124]; exact hf120)
              have hf131 : K123.2.1 0 xa = 21 := (by rw [hK124]; exact hf121)
              have hf132 : K123.1 r102 = 1 := (by rw [hK124]; exact hf122)
              have hf133 : K123.2.1 0 r102 = 21 := (by rw [hK124]; exact h113)
              have hf134 : K123.2.2.1 2 q2 = some r102 := by rw [hK124]; exact kC_eq
              refine lv_aload_n hx hb dX8_tryStatement_127 rfl (lv_at hl 2 rfl) ?_
              refine W_size (fun hz1 hz2 => ?_)
              refine vx_ret ?_
              have har6 : LsN K K123 g g104 q2 1 (172 + 3 * (20 - dp)) (rE ka) at2 := by rw [hK124]; exact LsN.put har5 (by decide)
              have hkid : ∀ f9 y9 : Nat, f9 ≤ 3 → ¬ f9 = 1 → K123.2.2.1 f9 q2 = some y9 → K123.1 y9 = 1 ∧ 1 ≤ g104 0 y9 ∧ g104 0 y9 < (173 + 3 * (20 - dp)) := by
                intro f9 y9 hf9 hf1 hy9
                rcases (show f9 = 0 ∨ f9 = 2 ∨ f9 = 3 by omega) with rfl | rfl | rfl
                · rw [hf129] at hy9; cases hy9; exact ⟨hf130, by omega, by omega⟩
                · rw [hf134] at hy9; cases hy9; exact ⟨hf132, by omega, by omega⟩
                · rw [hf127] at hy9; cases hy9
              obtain ⟨k9, hkI, hkS, hkE, hkM, hkN⟩ : ∃ z : Nat, Itv z ∧ rS z = at9 ∧ rE z = at105 ∧ rM z = (rE ka) ∧ rN z = at2 := ⟨rk at9 at105 (rE ka) at2, Itv.of (by omega), rS_rk (by omega), rE_rk (by omega), rM_rk (by omega), rN_rk (by omega)⟩
              have hkch : ∀ f9 y9 : Nat, f9 ≤ 3 → K123.2.2.1 f9 q2 = some y9 → Kch (K123.2.1 0 q2) f9 (K123.2.1 0 y9) k9 (g104 2 y9) := by
                intro f9 y9 hf9 e9
                rw [hf126]
                rcases (show f9 = 1 ∨ f9 = 0 ∨ f9 = 2 ∨ f9 = 3 by omega) with rfl | rfl | rfl | rfl
                · exact Kch.k32 (fun z => absurd rfl z) (fun z => absurd z (by decide)) (fun z => absurd z (by decide))
                · rw [hf129] at e9; cases e9; rw [hxr9]; exact Kch.k32 (fun _ => hf131) (fun _ => (by omega)) (fun z => absurd z (by decide))
                · rw [hf134] at e9; cases e9; rw [hbr9]; exact Kch.k32 (fun _ => hf133) (fun z => absurd z (by decide)) (fun _ => (by omega))
                · rw [hf127] at e9; cases e9
              have hdn := LsN.done (L := (173 + 3 * (20 - dp))) (O := O) (k := k9) har6 (by omega) (fun x9 => Owi.k32 hf126 (by omega)) hkI (Shp.k32 hf126 (by show ¬ K123.2.2.1 0 q2 = none; rw [hf129]; intro z; cases z)) (fun f9 => Lsf.k32 hf126) hkid hf128 hkch how
              have hz135 : NwR K K123 g (gset g104 q2 (173 + 3 * (20 - dp)) O k9) q2 O k9 ((173 + 3 * (20 - dp))) := hdn
              have hz136 : at9 + 3 ≤ at105 ∧ at105 ≤ sz := (by omega)
              have hz137 : sg ≤ sg106 ∧ sg106 ≤ 60 := (by omega)
              have hz138 : rS k9 = at9 ∧ rE k9 ≤ at105 ∧ rS k9 ≤ rE k9 := (by omega)
              have hO : OKP G h0 a (upd (upd (upd (upd F 2 (nI sz)) 9 (nI at105)) 10 (nI dp)) 11 (nI sg106)) R Z (updA B 10 f107) J K123 w := hO.to rfl
              refine W.widen (k := (2 * (sz - at9) + 20)) (n := (11 * (2 * (sz - at9) + 20))) (by omega) (by omega) ?_
              have hzz1 : H.size ≤ s.heap.size + ((2 * (at105 - at9) - 4)) := (by have z : ((2 * (at2 - at9) - 4) + (2 * (at105 - (at2 + r87)) - 3)) ≤ (2 * (at105 - at9) - 4) := (by omega); omega)
              have hzz2 : hSl H ≤ hSl s.heap + ((11 * (2 * (at105 - at9) - 4))) := (by have z : ((11 * (2 * (at2 - at9) - 4)) + (11 * (2 * (at105 - (at2 + r87)) - 3))) ≤ (11 * (2 * (at105 - at9) - 4)) := (by omega); omega)
              exact W.aret (v := .ref q2) hx hb hr (Or.inl ⟨_, rfl⟩) (Or.inr ⟨_, rfl⟩) (fun t99 ht99 hW99 => ⟨⟨_, (w, (q2, K123, (gset g104 q2 (173 + 3 * (20 - dp)) O k9), at105, sg106, f107, k9)), rfl, ⟨rfl, hz135, hz136, hz137, hz138, hO⟩, by rw [ht99]; exact hP, hD, by rw [ht99]; exact hzz1, by rw [ht99]; exact hzz2⟩, hS.F ht99⟩) hS.2.2 dX8_tryStatement_128
          · have n139 : r78 = 0 := (nI_eq (a := r78) (b := 0) (by omega) (by omega)).mp c80
            refine lv_aload_n hx hb dX8_tryStatement_106 rfl (lv_at hl 3 rfl) ?_
            have hO : OKW G h0 a (upd (upd (upd (upd (upd (upd (upd (upd F 2 (nI sz)) 9 (nI at9)) 10 (nI dp)) 11 (nI sg)) 9 (nI at2)) 11 (nI sg2)) 2 (nI sz)) 9 (nI at2)) R Z (updA B 10 f2) J K2.1 (fun q99 x99 => x99 = rep G a K2 q99) w := hO.to rfl
            obtain ⟨_, qr143, hqr144⟩ := hO.2.1 23 _ (sg_23 G h0 a _ _ _ _ _)
            refine pn_V0 (G := G) (As := []) (rest := []) hx hb hml hown hq hE hX pX0_al hP hD hS hA hl.1 (P_refuse l G h0 a (upd (upd (upd (upd (upd (upd F 2 (nI sz)) 9 (nI at9)) 10 (nI dp)) 11 (nI sg)) 9 (nI at2)) 11 (nI sg2)) R Z (updA B 10 f2) J K2.1 (fun q99 x99 => x99 = rep G a K2 q99) w at2 sz (by omega) (by omega) hO hl0) (gV pw_806 pw_807 pw_808 pw_796 pw_778) hV_X8_refuse qr143 5 hqr144 rfl rfl rfl (Nat.le_of_ble_eq_true rfl) dX8_tryStatement_107 ⟨(by show (2 * (at2 - at9) - 4) + 1 ≤ (2 * (sz - at9) + 20); omega), (by show (11 * (2 * (at2 - at9) - 4)) + 6 ≤ (11 * (2 * (sz - at9) + 20)); omega)⟩ ⟨(by show 7 + 1 ≤ (50 * n + 58); omega), (by show 8 + (1 + 11) + 122 ≤ (1500 * n + 1650); omega)⟩ (fun v142 u140 H locs hw141 hP hD hS => hw141.elim) (fun ux ce9 q9 H9 locs9 hux hP9 hD9 hS9 hce hcv hcl => pb_out ux (ThQ.up (Thx.same (Thx.same (Thx.b (Thx.f (Thx.f Thx.rfl (by omega)) (by omega)) (by omega) (by decide)) rfl) rfl) RhX.rfl hux) hnt hlocks hce hcv hcl hP9 hD9 hS9 (by show (2 * (at2 - at9) - 4) + 1 ≤ (2 * (sz - at9) + 20); omega) (by show (11 * (2 * (at2 - at9) - 4)) + 6 ≤ (11 * (2 * (sz - at9) + 20)); omega))
        · have hl : lv_has ls 5 [(3, .int (nI i2)), (2, .ref y9), (1, .ref q2), (0, .ref (a 3))] := hl
          refine lv_aload_n hx hb dX8_tryStatement_93 rfl (lv_at hl 1 rfl) ?_
          refine lv_ifnonnull (tgt := 110) hx hb dX8_tryStatement_94 (by decide) ?_
          refine lv_aload_n hx hb dX8_tryStatement_110 rfl (lv_at hl 3 rfl) ?_
          refine lv_bipush (v := 9) hx hb dX8_tryStatement_111 (by decide) ?_
          have hO : OKW G h0 a (upd (upd (upd (upd (upd (upd F 2 (nI sz)) 9 (nI at2)) 10 (nI dp)) 11 (nI sg2)) 2 (nI sz)) 9 (nI at2)) R Z (updA B 10 f2) J K2.1 (fun q99 x99 => x99 = rep G a K2 q99) w := hO.to rfl
          obtain ⟨_, qr148, hqr149⟩ := hO.2.1 23 _ (sg_23 G h0 a _ _ _ _ _)
          refine pc_V0 (G := G) (As := [.int 9]) (rest := []) hx hb hml hown hq hE hX pX0_al hP hD hS hA hl.1 (P_takeIf l G h0 a (upd (upd (upd (upd F 2 (nI sz)) 9 (nI at2)) 10 (nI dp)) 11 (nI sg2)) R Z (updA B 10 f2) J K2.1 (fun q99 x99 => x99 = rep G a K2 q99) w 9 at2 sz (by omega) (by omega) (by decide) hO) (gV pw_797 pw_798 pw_799 pw_796 pw_789) hV_X8_takeIf qr148 5 hqr149 rfl rfl rfl (Nat.le_of_ble_eq_true rfl) dX8_tryStatement_113 ⟨(by show (2 * (at2 - at9) - 4) + 0 ≤ (2 * (sz - at9) + 20); omega), (by show (11 * (2 * (at2 - at9) - 4)) + 0 ≤ (11 * (2 * (sz - at9) + 20)); omega)⟩ ⟨(by show 3 + 1 ≤ (50 * n + 58); omega), (by show 8 + (2 + 11) + 81 ≤ (1500 * n + 1650); omega)⟩ (fun v147 u145 H locs hw146 hP hD hS => ?_)
          obtain ⟨w, r150⟩ := u145
          obtain ⟨hw146, h151, h152, hO⟩ := hw146
          have h151 : r150 ≤ 1 := h151
          have h152 : at2 + r150 ≤ sz := h152
          obtain rfl : v147 = some (.int (nI r150)) := hw146
          have hO : OKP G h0 a (upd (upd (upd (upd F 2 (nI sz)) 9 (nI (at2 + r150))) 10 (nI dp)) 11 (nI sg2)) R Z (updA B 10 f2) J K2 w := hO.to rfl
          refine W.widen (k := (2 * (at2 - at9) - 4)) (n := (11 * (2 * (at2 - at9) - 4))) (by show (2 * (at2 - at9) - 4) + 0 ≤ (2 * (at2 - at9) - 4); omega) (by show (11 * (2 * (at2 - at9) - 4)) + 0 ≤ (11 * (2 * (at2 - at9) - 4)); omega) ?_
          refine W.eq (g2 := F0 m 116 ls [.int (nI r150)]) rfl ?_
          refine lv_if_eq (tgt := 127) hx hb dX8_tryStatement_116 (by decide) (fun c153 => ?_) (fun c153 => ?_)
          · have n154 : r150 = 0 := (nI_eq (a := r150) (b := 0) (by omega) (by omega)).mp c153
            refine lv_aload_n hx hb dX8_tryStatement_127 rfl (lv_at hl 2 rfl) ?_
            refine W_size (fun hz1 hz2 => ?_)
            refine vx_ret ?_
            have hkid : ∀ f9 y9 : Nat, f9 ≤ 3 → ¬ f9 = 1 → K2.2.2.1 f9 q2 = some y9 → K2.1 y9 = 1 ∧ 1 ≤ g2 0 y9 ∧ g2 0 y9 < (173 + 3 * (20 - dp)) := by
              intro f9 y9 hf9 hf1 hy9
              rcases (show f9 = 0 ∨ f9 = 2 ∨ f9 = 3 by omega) with rfl | rfl | rfl
              · rw [hxa] at hy9; cases hy9; exact ⟨hxT, by omega, by omega⟩
              · rw [hc22] at hy9; cases hy9
              · rw [hc23] at hy9; cases hy9
            obtain ⟨k9, hkI, hkS, hkE, hkM, hkN⟩ : ∃ z : Nat, Itv z ∧ rS z = at9 ∧ rE z = (at2 + r150) ∧ rM z = (rE ka) ∧ rN z = at2 := ⟨rk at9 (at2 + r150) (rE ka) at2, Itv.of (by omega), rS_rk (by omega), rE_rk (by omega), rM_rk (by omega), rN_rk (by omega)⟩
            have hkch : ∀ f9 y9 : Nat, f9 ≤ 3 → K2.2.2.1 f9 q2 = some y9 → Kch (K2.2.1 0 q2) f9 (K2.2.1 0 y9) k9 (g2 2 y9) := by
              intro f9 y9 hf9 e9
              rw [hkd2]
              rcases (show f9 = 1 ∨ f9 = 0 ∨ f9 = 2 ∨ f9 = 3 by omega) with rfl | rfl | rfl | rfl
              · exact Kch.k32 (fun z => absurd rfl z) (fun z => absurd z (by decide)) (fun z => absurd z (by decide))
              · rw [hxa] at e9; cases e9; rw [hxr]; exact Kch.k32 (fun _ => hxk) (fun _ => (by omega)) (fun z => absurd z (by decide))
              · rw [hc22] at e9; cases e9
              · rw [hc23] at e9; cases e9
            have hdn := LsN.done (L := (173 + 3 * (20 - dp))) (O := O) (k := k9) hls2 (by omega) (fun x9 => Owi.k32 hkd2 (by omega)) hkI (Shp.k32 hkd2 (by show ¬ K2.2.2.1 0 q2 = none; rw [hxa]; intro z; cases z)) (fun f9 => Lsf.k32 hkd2) hkid hc24 hkch how
            have hz155 : NwR K K2 g (gset g2 q2 (173 + 3 * (20 - dp)) O k9) q2 O k9 ((173 + 3 * (20 - dp))) := hdn
            have hz156 : at9 + 3 ≤ (at2 + r150) ∧ (at2 + r150) ≤ sz := (by omega)
            have hz157 : sg ≤ sg2 ∧ sg2 ≤ 60 := (by omega)
            have hz158 : rS k9 = at9 ∧ rE k9 ≤ (at2 + r150) ∧ rS k9 ≤ rE k9 := (by omega)
            have hO : OKP G h0 a (upd (upd (upd (upd F 2 (nI sz)) 9 (nI (at2 + r150))) 10 (nI dp)) 11 (nI sg2)) R Z (updA B 10 f2) J K2 w := hO.to rfl
            refine W.widen (k := (2 * (sz - at9) + 20)) (n := (11 * (2 * (sz - at9) + 20))) (by omega) (by omega) ?_
            have hzz1 : H.size ≤ s.heap.size + ((2 * ((at2 + r150) - at9) - 4)) := (by have z : (2 * (at2 - at9) - 4) ≤ (2 * ((at2 + r150) - at9) - 4) := (by omega); omega)
            have hzz2 : hSl H ≤ hSl s.heap + ((11 * (2 * ((at2 + r150) - at9) - 4))) := (by have z : (11 * (2 * (at2 - at9) - 4)) ≤ (11 * (2 * ((at2 + r150) - at9) - 4)) := (by omega); omega)
            exact W.aret (v := .ref q2) hx hb hr (Or.inl ⟨_, rfl⟩) (Or.inr ⟨_, rfl⟩) (fun t99 ht99 hW99 => ⟨⟨_, (w, (q2, K2, (gset g2 q2 (173 + 3 * (20 - dp)) O k9), (at2 + r150), sg2, f2, k9)), rfl, ⟨rfl, hz155, hz156, hz157, hz158, hO⟩, by rw [ht99]; exact hP, hD, by rw [ht99]; exact hzz1, by rw [ht99]; exact hzz2⟩, hS.F ht99⟩) hS.2.2 dX8_tryStatement_128
          · have n159 : ¬ (r150 = 0) := fun h9 => c153 ((nI_eq (a := r150) (b := 0) (by omega) (by omega)).mpr h9)
            refine lv_aload_n hx hb dX8_tryStatement_119 rfl (lv_at hl 2 rfl) ?_
            refine lv_aload_n hx hb dX8_tryStatement_120 rfl (lv_at hl 3 rfl) ?_
            have hO : OKP G h0 a (upd (upd (upd (upd (upd (upd (upd (upd (upd (upd F 2 (nI sz)) 9 (nI at9)) 10 (nI dp)) 11 (nI sg)) 9 (nI (at2 + r150))) 11 (nI sg2)) 2 (nI sz)) 9 (nI (at2 + r150))) 10 (nI dp)) 11 (nI sg2)) R Z (updA B 10 f2) J K2 w := hO.to rfl
            obtain ⟨_, qr163, hqr164⟩ := hO.2.1 23 _ (sg_23 G h0 a _ _ _ _ _)
            refine pn_V0 (G := G) (As := []) (rest := [.ref q2]) hx hb hml hown hq hE hX pX0_al hP hD hS hA hl.1 (P_block l G h0 a (upd (upd (upd (upd (upd (upd F 2 (nI sz)) 9 (nI at9)) 10 (nI dp)) 11 (nI sg)) 9 (nI (at2 + r150))) 11 (nI sg2)) R Z (updA B 10 f2) J K2 w n (at2 + r150) sz dp sg2 0 g2 (by omega) (by omega) hdp (by omega) hls2.1.1 (fun o9 h9 => absurd h9 (by omega)) ist hO hl0) (gV pw_1007 pw_1008 pw_1009 pw_796 pw_1056) hV_X8_block qr163 5 hqr164 rfl rfl rfl (Nat.le_of_ble_eq_true rfl) dX8_tryStatement_121 ⟨(by show (2 * (at2 - at9) - 4) + (2 * (sz - (at2 + r150)) + 20) ≤ (2 * (sz - at9) + 20); omega), (by show (11 * (2 * (at2 - at9) - 4)) + (11 * (2 * (sz - (at2 + r150)) + 20)) ≤ (11 * (2 * (sz - at9) + 20)); omega)⟩ ⟨(by show (50 * n + 54) + 1 ≤ (50 * n + 58); omega), (by show 8 + (5 + 11) + (1500 * n + 1560) ≤ (1500 * n + 1650); omega)⟩ (fun v162 u160 H locs hw161 hP hD hS => ?_) (fun ux ce9 q9 H9 locs9 hux hP9 hD9 hS9 hce hcv hcl => pb_out ux (ThQ.up (Thx.same (Thx.same (Thx.same (Thx.same (Thx.b (Thx.f (Thx.f Thx.rfl (by omega)) (by omega)) (by omega) (by decide)) rfl) rfl) rfl) rfl) RhX.rfl hux) hnt hlocks hce hcv hcl hP9 hD9 hS9 (by show (2 * (at2 - at9) - 4) + (2 * (sz - (at2 + r150)) + 20) ≤ (2 * (sz - at9) + 20); omega) (by show (11 * (2 * (at2 - at9) - 4)) + (11 * (2 * (sz - (at2 + r150)) + 20)) ≤ (11 * (2 * (sz - at9) + 20)); omega))
            obtain ⟨w, r165, K166, g167, at168, sg169, f170, k171⟩ := u160
            obtain ⟨hw161, h172, h173, h174, h175, h176, hO⟩ := hw161
            have h172 : NwR K2 K166 g2 g167 r165 0 k171 ((171 + 3 * (20 - dp))) := h172
            have h173 : (at2 + r150) + 2 ≤ at168 ∧ at168 ≤ sz := h173
            have h174 : sg2 ≤ sg169 ∧ sg169 ≤ 60 := h174
            have h175 : rS k171 = (at2 + r150) ∧ rE k171 ≤ at168 ∧ rS k171 ≤ rE k171 := h175
            have h176 : K166.2.1 0 r165 = 21 := h176
            obtain rfl : v162 = some (.ref r165) := hw161
            have hf177 : K166.1 q2 = 1 := (((h172).2.1.1 q2 (by rw [hq2]; decide)).1).trans hq2
            have hf178 : K166.2.1 0 q2 = 32 := (((h172).2.1.1 q2 (by rw [hq2]; decide)).2.1 0).trans hkd2
            have hf179 : K166.2.2.1 2 q2 = none := (((h172).2.1.1 q2 (by rw [hq2]; decide)).2.2.1 2).trans hc22
            have hf180 : K166.2.2.1 3 q2 = none := (((h172).2.1.1 q2 (by rw [hq2]; decide)).2.2.1 3).trans hc23
            have hf181 : K166.2.2.1 4 q2 = none := (((h172).2.1.1 q2 (by rw [hq2]; decide)).2.2.1 4).trans hc24
            have hf182 : K166.2.2.1 0 q2 = some xa := (((h172).2.1.1 q2 (by rw [hq2]; decide)).2.2.1 0).trans hxa
            have hf183 : K166.1 xa = 1 := (((h172).2.1.1 xa (by rw [hxT]; decide)).1).trans hxT
            have hf184 : K166.2.1 0 xa = 21 := (((h172).2.1.1 xa (by rw [hxT]; decide)).2.1 0).trans hxk
            have hO : OKP G h0 a (upd (upd (upd (upd F 2 (nI sz)) 9 (nI at168)) 10 (nI dp)) 11 (nI sg169)) R Z (updA B 10 f170) J K166 w := hO.to rfl
            refine W.widen (k := ((2 * (at2 - at9) - 4) + (2 * (at168 - (at2 + r150)) - 3))) (n := ((11 * (2 * (at2 - at9) - 4)) + (11 * (2 * (at168 - (at2 + r150)) - 3)))) (by show (2 * (at2 - at9) - 4) + (2 * (at168 - (at2 + r150)) - 3) ≤ ((2 * (at2 - at9) - 4) + (2 * (at168 - (at2 + r150)) - 3)); omega) (by show (11 * (2 * (at2 - at9) - 4)) + (11 * (2 * (at168 - (at2 + r150)) - 3)) ≤ ((11 * (2 * (at2 - at9) - 4)) + (11 * (2 * (at168 - (at2 + r150)) - 3))); omega) ?_
            refine W.eq (g2 := F0 m 124 ls [.ref r165, .ref q2]) rfl ?_
            have har5 := LsN.call0 hls2 h172
            have hbr := h172.2.2.1
            have hbr1 := hbr.2.2.1
            have hbr2 := hbr.2.2.2.1
            have hf185 : K166.1 r165 = 1 := hbr.2.1
            have hxz : g167 0 xa = g2 0 xa := h172.2.1.2 xa (by rw [hxT]; decide) 0
            have hxr9 : g167 2 xa = ka := (h172.2.1.2 xa (by rw [hxT]; decide) 2).trans hxr
            have hbr9 : g167 2 r165 = k171 := hbr.2.2.2.2.2.1
            refine p_put (v := .ref r165) (ty := (.object "JinjaTongue$Node")) (C := RX7) (Tc := TX7) (N := 11) (ci := 13) (K' := (kC K166 2 q2 (some r165))) hx hb hq pin_wsX70 tyX7 tyX7_ok nmX7 hown hE hP hD hS hO (by rw [hf177]; decide) (rep_1 hf177) rfl 8 (by decide) (hq _ pw_943) (fun _ h9 => h9) rfl (by decide +kernel) rfl rfl (Nat.le_of_ble_eq_true rfl) rfl (by rw [rep_1 (show (kC K166 2 q2 (some r165)).1 q2 = 1 from hf177), pc_2] <;> rfl) (fun p9 hp9 => rep_kC hp9) dX8_tryStatement_124 (fun H locs w hP hD hS hO => ?_)
            obtain ⟨K186, hK187⟩ : ∃ z : PK, z = (kC K166 2 q2 (some r165)) := ⟨_, rfl⟩
            rw [← hK187] at hO
            have hf188 : K186.1 q2 = 1 := (by rw [hK187]; exact hf177)
            have hf189 : K186.2.1 0 q2 = 32 := (by rw [hK187]; exact hf178)
            have hf190 : K186.2.2.1 3 q2 = none := (by rw [hK187]; exact (kC_of (by decide)).trans hf180)
            have hf191 : K186.2.2.1 4 q2 = none := (by rw [hK187]; exact (kC_of (by decide)).trans hf181)
            have hf192 : K186.2.2.1 0 q2 = some xa := (by rw [hK187]; exact (kC_of (by decide)).trans hf182)
            have hf193 : K186.1 xa = 1 := (by rw [hK187]; exact hf183)
            have hf194 : K186.2.1 0 xa = 21 := (by rw [hK187]; exact hf184)
            have hf195 : K186.1 r165 = 1 := (by rw [hK187]; exact hf185)
            have hf196 : K186.2.1 0 r165 = 21 := (by rw [hK187]; exact h176)
            have hf197 : K186.2.2.1 2 q2 = some r165 := by rw [hK187]; exact kC_eq
            refine lv_aload_n hx hb dX8_tryStatement_127 rfl (lv_at hl 2 rfl) ?_
            refine W_size (fun hz1 hz2 => ?_)
            refine vx_ret ?_
            have har6 : LsN K K186 g g167 q2 1 (172 + 3 * (20 - dp)) (rE ka) at2 := by rw [hK187]; exact LsN.put har5 (by decide)
            have hkid : ∀ f9 y9 : Nat, f9 ≤ 3 → ¬ f9 = 1 → K186.2.2.1 f9 q2 = some y9 → K186.1 y9 = 1 ∧ 1 ≤ g167 0 y9 ∧ g167 0 y9 < (173 + 3 * (20 - dp)) := by
              intro f9 y9 hf9 hf1 hy9
              rcases (show f9 = 0 ∨ f9 = 2 ∨ f9 = 3 by omega) with rfl | rfl | rfl
              · rw [hf192] at hy9; cases hy9; exact ⟨hf193, by omega, by omega⟩
              · rw [hf197] at hy9; cases hy9; exact ⟨hf195, by omega, by omega⟩
              · rw [hf190] at hy9; cases hy9
            obtain ⟨k9, hkI, hkS, hkE, hkM, hkN⟩ : ∃ z : Nat, Itv z ∧ rS z = at9 ∧ rE z = at168 ∧ rM z = (rE ka) ∧ rN z = at2 := ⟨rk at9 at168 (rE ka) at2, Itv.of (by omega), rS_rk (by omega), rE_rk (by omega), rM_rk (by omega), rN_rk (by omega)⟩
            have hkch : ∀ f9 y9 : Nat, f9 ≤ 3 → K186.2.2.1 f9 q2 = some y9 → Kch (K186.2.1 0 q2) f9 (K186.2.1 0 y9) k9 (g167 2 y9) := by
              intro f9 y9 hf9 e9
              rw [hf189]
              rcases (show f9 = 1 ∨ f9 = 0 ∨ f9 = 2 ∨ f9 = 3 by omega) with rfl | rfl | rfl | rfl
              · exact Kch.k32 (fun z => absurd rfl z) (fun z => absurd z (by decide)) (fun z => absurd z (by decide))
              · rw [hf192] at e9; cases e9; rw [hxr9]; exact Kch.k32 (fun _ => hf194) (fun _ => (by omega)) (fun z => absurd z (by decide))
              · rw [hf197] at e9; cases e9; rw [hbr9]; exact Kch.k32 (fun _ => hf196) (fun z => absurd z (by decide)) (fun _ => (by omega))
              · rw [hf190] at e9; cases e9
            have hdn := LsN.done (L := (173 + 3 * (20 - dp))) (O := O) (k := k9) har6 (by omega) (fun x9 => Owi.k32 hf189 (by omega)) hkI (Shp.k32 hf189 (by show ¬ K186.2.2.1 0 q2 = none; rw [hf192]; intro z; cases z)) (fun f9 => Lsf.k32 hf189) hkid hf191 hkch how
            have hz198 : NwR K K186 g (gset g167 q2 (173 + 3 * (20 - dp)) O k9) q2 O k9 ((173 + 3 * (20 - dp))) := hdn
            have hz199 : at9 + 3 ≤ at168 ∧ at168 ≤ sz := (by omega)
            have hz200 : sg ≤ sg169 ∧ sg169 ≤ 60 := (by omega)
            have hz201 : rS k9 = at9 ∧ rE k9 ≤ at168 ∧ rS k9 ≤ rE k9 := (by omega)
            have hO : OKP G h0 a (upd (upd (upd (upd F 2 (nI sz)) 9 (nI at168)) 10 (nI dp)) 11 (nI sg169)) R Z (updA B 10 f170) J K186 w := hO.to rfl
            refine W.widen (k := (2 * (sz - at9) + 20)) (n := (11 * (2 * (sz - at9) + 20))) (by omega) (by omega) ?_
            have hzz1 : H.size ≤ s.heap.size + ((2 * (at168 - at9) - 4)) := (by have z : ((2 * (at2 - at9) - 4) + (2 * (at168 - (at2 + r150)) - 3)) ≤ (2 * (at168 - at9) - 4) := (by omega); omega)
            have hzz2 : hSl H ≤ hSl s.heap + ((11 * (2 * (at168 - at9) - 4))) := (by have z : ((11 * (2 * (at2 - at9) - 4)) + (11 * (2 * (at168 - (at2 + r150)) - 3))) ≤ (11 * (2 * (at168 - at9) - 4)) := (by omega); omega)
            exact W.aret (v := .ref q2) hx hb hr (Or.inl ⟨_, rfl⟩) (Or.inr ⟨_, rfl⟩) (fun t99 ht99 hW99 => ⟨⟨_, (w, (q2, K186, (gset g167 q2 (173 + 3 * (20 - dp)) O k9), at168, sg169, f170, k9)), rfl, ⟨rfl, hz198, hz199, hz200, hz201, hO⟩, by rw [ht99]; exact hP, hD, by rw [ht99]; exact hzz1, by rw [ht99]; exact hzz2⟩, hS.F ht99⟩) hS.2.2 dX8_tryStatement_128
      · have n202 : ¬ (sz ≤ i2) := fun h9 => c71 ((nI_leI (a := sz) (b := i2) (by omega) (by omega)).mpr h9)
        refine lv_aload_n hx hb dX8_tryStatement_51 rfl (lv_at hl 3 rfl) ?_
        refine lv_iconst (v := 3) hx hb dX8_tryStatement_52 (by decide) ?_
        have hO : OKW G h0 a (upd (upd (upd (upd (upd (upd F 2 (nI sz)) 9 (nI at2)) 10 (nI dp)) 11 (nI sg2)) 2 (nI sz)) 9 (nI at2)) R Z (updA B 10 f2) J K2.1 (fun q99 x99 => x99 = rep G a K2 q99) w := hO.to rfl
        obtain ⟨_, qr206, hqr207⟩ := hO.2.1 23 _ (sg_23 G h0 a _ _ _ _ _)
        refine pc_V0 (G := G) (As := [.int 3]) (rest := []) hx hb hml hown hq hE hX pX0_al hP hD hS hA hl.1 (P_sees l G h0 a (upd (upd (upd (upd F 2 (nI sz)) 9 (nI at2)) 10 (nI dp)) 11 (nI sg2)) R Z (updA B 10 f2) J K2.1 (fun q99 x99 => x99 = rep G a K2 q99) w 3 at2 sz (by omega) (by omega) hO) (gV pw_803 pw_804 pw_805 pw_796 pw_775) hV_X8_sees qr206 5 hqr207 rfl rfl rfl (Nat.le_of_ble_eq_true rfl) dX8_tryStatement_53 ⟨(by show (2 * (at2 - at9) - 4) + 0 ≤ (2 * (sz - at9) + 20); omega), (by show (11 * (2 * (at2 - at9) - 4)) + 0 ≤ (11 * (2 * (sz - at9) + 20)); omega)⟩ ⟨(by show 3 + 1 ≤ (50 * n + 58); omega), (by show 8 + (2 + 11) + 81 ≤ (1500 * n + 1650); omega)⟩ (fun v205 u203 H locs hw204 hP hD hS => ?_)
        obtain ⟨w, r208⟩ := u203
        obtain ⟨hw204, h209, hO⟩ := hw204
        have h209 : r208 ≤ 1 := h209
        obtain rfl : v205 = some (.int (nI r208)) := hw204
        have hO : OKP G h0 a (upd (upd (upd (upd F 2 (nI sz)) 9 (nI at2)) 10 (nI dp)) 11 (nI sg2)) R Z (updA B 10 f2) J K2 w := hO.to rfl
        refine W.widen (k := (2 * (at2 - at9) - 4)) (n := (11 * (2 * (at2 - at9) - 4))) (by show (2 * (at2 - at9) - 4) + 0 ≤ (2 * (at2 - at9) - 4); omega) (by show (11 * (2 * (at2 - at9) - 4)) + 0 ≤ (11 * (2 * (at2 - at9) - 4)); omega) ?_
        refine W.eq (g2 := F0 m 56 ls [.int (nI r208)]) rfl ?_
        refine lv_if_eq (tgt := 93) hx hb dX8_tryStatement_56 (by decide) (fun c210 => ?_) (fun c210 => ?_)
        · have n211 : r208 = 0 := (nI_eq (a := r208) (b := 0) (by omega) (by omega)).mp c210
          rcases la2 with _ | y9
          · have hl : lv_has ls 5 [(3, .int (nI i2)), (2, .null), (1, .ref q2), (0, .ref (a 3))] := hl
            refine lv_aload_nN hx hb dX8_tryStatement_93 rfl (lv_at hl 1 rfl) ?_
            refine lv_ifnonnullN hx hb dX8_tryStatement_94 ?_
            refine lv_aload_n hx hb dX8_tryStatement_97 rfl (lv_at hl 3 rfl) ?_
            refine lv_bipush (v := 9) hx hb dX8_tryStatement_98 (by decide) ?_
            have hO : OKW G h0 a (upd (upd (upd (upd (upd (upd F 2 (nI sz)) 9 (nI at2)) 10 (nI dp)) 11 (nI sg2)) 2 (nI sz)) 9 (nI at2)) R Z (updA B 10 f2) J K2.1 (fun q99 x99 => x99 = rep G a K2 q99) w := hO.to rfl
            obtain ⟨_, qr215, hqr216⟩ := hO.2.1 23 _ (sg_23 G h0 a _ _ _ _ _)
            refine pc_V0 (G := G) (As := [.int 9]) (rest := []) hx hb hml hown hq hE hX pX0_al hP hD hS hA hl.1 (P_sees l G h0 a (upd (upd (upd (upd F 2 (nI sz)) 9 (nI at2)) 10 (nI dp)) 11 (nI sg2)) R Z (updA B 10 f2) J K2.1 (fun q99 x99 => x99 = rep G a K2 q99) w 9 at2 sz (by omega) (by omega) hO) (gV pw_803 pw_804 pw_805 pw_796 pw_775) hV_X8_sees qr215 5 hqr216 rfl rfl rfl (Nat.le_of_ble_eq_true rfl) dX8_tryStatement_100 ⟨(by show (2 * (at2 - at9) - 4) + 0 ≤ (2 * (sz - at9) + 20); omega), (by show (11 * (2 * (at2 - at9) - 4)) + 0 ≤ (11 * (2 * (sz - at9) + 20)); omega)⟩ ⟨(by show 3 + 1 ≤ (50 * n + 58); omega), (by show 8 + (2 + 11) + 81 ≤ (1500 * n + 1650); omega)⟩ (fun v214 u212 H locs hw213 hP hD hS => ?_)
            obtain ⟨w, r217⟩ := u212
            obtain ⟨hw213, h218, hO⟩ := hw213
            have h218 : r217 ≤ 1 := h218
            obtain rfl : v214 = some (.int (nI r217)) := hw213
            have hO : OKP G h0 a (upd (upd (upd (upd F 2 (nI sz)) 9 (nI at2)) 10 (nI dp)) 11 (nI sg2)) R Z (updA B 10 f2) J K2 w := hO.to rfl
            refine W.widen (k := (2 * (at2 - at9) - 4)) (n := (11 * (2 * (at2 - at9) - 4))) (by show (2 * (at2 - at9) - 4) + 0 ≤ (2 * (at2 - at9) - 4); omega) (by show (11 * (2 * (at2 - at9) - 4)) + 0 ≤ (11 * (2 * (at2 - at9) - 4)); omega) ?_
            refine W.eq (g2 := F0 m 103 ls [.int (nI r217)]) rfl ?_
            refine lv_if_ne (tgt := 110) hx hb dX8_tryStatement_103 (by decide) (fun c219 => ?_) (fun c219 => ?_)
            · have n220 : ¬ (r217 = 0) := fun h9 => c219 ((nI_eq (a := r217) (b := 0) (by omega) (by omega)).mpr h9)
              refine lv_aload_n hx hb dX8_tryStatement_110 rfl (lv_at hl 3 rfl) ?_
              refine lv_bipush (v := 9) hx hb dX8_tryStatement_111 (by decide) ?_
              have hO : OKW G h0 a (upd (upd (upd (upd (upd (upd F 2 (nI sz)) 9 (nI at2)) 10 (nI dp)) 11 (nI sg2)) 2 (nI sz)) 9 (nI at2)) R Z (updA B 10 f2) J K2.1 (fun q99 x99 => x99 = rep G a K2 q99) w := hO.to rfl
              obtain ⟨_, qr224, hqr225⟩ := hO.2.1 23 _ (sg_23 G h0 a _ _ _ _ _)
              refine pc_V0 (G := G) (As := [.int 9]) (rest := []) hx hb hml hown hq hE hX pX0_al hP hD hS hA hl.1 (P_takeIf l G h0 a (upd (upd (upd (upd F 2 (nI sz)) 9 (nI at2)) 10 (nI dp)) 11 (nI sg2)) R Z (updA B 10 f2) J K2.1 (fun q99 x99 => x99 = rep G a K2 q99) w 9 at2 sz (by omega) (by omega) (by decide) hO) (gV pw_797 pw_798 pw_799 pw_796 pw_789) hV_X8_takeIf qr224 5 hqr225 rfl rfl rfl (Nat.le_of_ble_eq_true rfl) dX8_tryStatement_113 ⟨(by show (2 * (at2 - at9) - 4) + 0 ≤ (2 * (sz - at9) + 20); omega), (by show (11 * (2 * (at2 - at9) - 4)) + 0 ≤ (11 * (2 * (sz - at9) + 20)); omega)⟩ ⟨(by show 3 + 1 ≤ (50 * n + 58); omega), (by show 8 + (2 + 11) + 81 ≤ (1500 * n + 1650); omega)⟩ (fun v223 u221 H locs hw222 hP hD hS => ?_)
              obtain ⟨w, r226⟩ := u221
              obtain ⟨hw222, h227, h228, hO⟩ := hw222
              have h227 : r226 ≤ 1 := h227
              have h228 : at2 + r226 ≤ sz := h228
              obtain rfl : v223 = some (.int (nI r226)) := hw222
              have hO : OKP G h0 a (upd (upd (upd (upd F 2 (nI sz)) 9 (nI (at2 + r226))) 10 (nI dp)) 11 (nI sg2)) R Z (updA B 10 f2) J K2 w := hO.to rfl
              refine W.widen (k := (2 * (at2 - at9) - 4)) (n := (11 * (2 * (at2 - at9) - 4))) (by show (2 * (at2 - at9) - 4) + 0 ≤ (2 * (at2 - at9) - 4); omega) (by show (11 * (2 * (at2 - at9) - 4)) + 0 ≤ (11 * (2 * (at2 - at9) - 4)); omega) ?_
              refine W.eq (g2 := F0 m 116 ls [.int (nI r226)]) rfl ?_
              refine lv_if_eq (tgt := 127) hx hb dX8_tryStatement_116 (by decide) (fun c229 => ?_) (fun c229 => ?_)
              · have n230 : r226 = 0 := (nI_eq (a := r226) (b := 0) (by omega) (by omega)).mp c229
                refine lv_aload_n hx hb dX8_tryStatement_127 rfl (lv_at hl 2 rfl) ?_
                refine W_size (fun hz1 hz2 => ?_)
                refine vx_ret ?_
                have hkid : ∀ f9 y9 : Nat, f9 ≤ 3 → ¬ f9 = 1 → K2.2.2.1 f9 q2 = some y9 → K2.1 y9 = 1 ∧ 1 ≤ g2 0 y9 ∧ g2 0 y9 < (173 + 3 * (20 - dp)) := by
                  intro f9 y9 hf9 hf1 hy9
                  rcases (show f9 = 0 ∨ f9 = 2 ∨ f9 = 3 by omega) with rfl | rfl | rfl
                  · rw [hxa] at hy9; cases hy9; exact ⟨hxT, by omega, by omega⟩
                  · rw [hc22] at hy9; cases hy9
                  · rw [hc23] at hy9; cases hy9
                obtain ⟨k9, hkI, hkS, hkE, hkM, hkN⟩ : ∃ z : Nat, Itv z ∧ rS z = at9 ∧ rE z = (at2 + r226) ∧ rM z = (rE ka) ∧ rN z = at2 := ⟨rk at9 (at2 + r226) (rE ka) at2, Itv.of (by omega), rS_rk (by omega), rE_rk (by omega), rM_rk (by omega), rN_rk (by omega)⟩
                have hkch : ∀ f9 y9 : Nat, f9 ≤ 3 → K2.2.2.1 f9 q2 = some y9 → Kch (K2.2.1 0 q2) f9 (K2.2.1 0 y9) k9 (g2 2 y9) := by
                  intro f9 y9 hf9 e9
                  rw [hkd2]
                  rcases (show f9 = 1 ∨ f9 = 0 ∨ f9 = 2 ∨ f9 = 3 by omega) with rfl | rfl | rfl | rfl
                  · exact Kch.k32 (fun z => absurd rfl z) (fun z => absurd z (by decide)) (fun z => absurd z (by decide))
                  · rw [hxa] at e9; cases e9; rw [hxr]; exact Kch.k32 (fun _ => hxk) (fun _ => (by omega)) (fun z => absurd z (by decide))
                  · rw [hc22] at e9; cases e9
                  · rw [hc23] at e9; cases e9
                have hdn := LsN.done (L := (173 + 3 * (20 - dp))) (O := O) (k := k9) hls2 (by omega) (fun x9 => Owi.k32 hkd2 (by omega)) hkI (Shp.k32 hkd2 (by show ¬ K2.2.2.1 0 q2 = none; rw [hxa]; intro z; cases z)) (fun f9 => Lsf.k32 hkd2) hkid hc24 hkch how
                have hz231 : NwR K K2 g (gset g2 q2 (173 + 3 * (20 - dp)) O k9) q2 O k9 ((173 + 3 * (20 - dp))) := hdn
                have hz232 : at9 + 3 ≤ (at2 + r226) ∧ (at2 + r226) ≤ sz := (by omega)
                have hz233 : sg ≤ sg2 ∧ sg2 ≤ 60 := (by omega)
                have hz234 : rS k9 = at9 ∧ rE k9 ≤ (at2 + r226) ∧ rS k9 ≤ rE k9 := (by omega)
                have hO : OKP G h0 a (upd (upd (upd (upd F 2 (nI sz)) 9 (nI (at2 + r226))) 10 (nI dp)) 11 (nI sg2)) R Z (updA B 10 f2) J K2 w := hO.to rfl
                refine W.widen (k := (2 * (sz - at9) + 20)) (n := (11 * (2 * (sz - at9) + 20))) (by omega) (by omega) ?_
                have hzz1 : H.size ≤ s.heap.size + ((2 * ((at2 + r226) - at9) - 4)) := (by have z : (2 * (at2 - at9) - 4) ≤ (2 * ((at2 + r226) - at9) - 4) := (by omega); omega)
                have hzz2 : hSl H ≤ hSl s.heap + ((11 * (2 * ((at2 + r226) - at9) - 4))) := (by have z : (11 * (2 * (at2 - at9) - 4)) ≤ (11 * (2 * ((at2 + r226) - at9) - 4)) := (by omega); omega)
                exact W.aret (v := .ref q2) hx hb hr (Or.inl ⟨_, rfl⟩) (Or.inr ⟨_, rfl⟩) (fun t99 ht99 hW99 => ⟨⟨_, (w, (q2, K2, (gset g2 q2 (173 + 3 * (20 - dp)) O k9), (at2 + r226), sg2, f2, k9)), rfl, ⟨rfl, hz231, hz232, hz233, hz234, hO⟩, by rw [ht99]; exact hP, hD, by rw [ht99]; exact hzz1, by rw [ht99]; exact hzz2⟩, hS.F ht99⟩) hS.2.2 dX8_tryStatement_128
              · have n235 : ¬ (r226 = 0) := fun h9 => c229 ((nI_eq (a := r226) (b := 0) (by omega) (by omega)).mpr h9)
                refine lv_aload_n hx hb dX8_tryStatement_119 rfl (lv_at hl 2 rfl) ?_
                refine lv_aload_n hx hb dX8_tryStatement_120 rfl (lv_at hl 3 rfl) ?_
                have hO : OKP G h0 a (upd (upd (upd (upd (upd (upd (upd (upd (upd (upd F 2 (nI sz)) 9 (nI at9)) 10 (nI dp)) 11 (nI sg)) 9 (nI (at2 + r226))) 11 (nI sg2)) 2 (nI sz)) 9 (nI (at2 + r226))) 10 (nI dp)) 11 (nI sg2)) R Z (updA B 10 f2) J K2 w := hO.to rfl
                obtain ⟨_, qr239, hqr240⟩ := hO.2.1 23 _ (sg_23 G h0 a _ _ _ _ _)
                refine pn_V0 (G := G) (As := []) (rest := [.ref q2]) hx hb hml hown hq hE hX pX0_al hP hD hS hA hl.1 (P_block l G h0 a (upd (upd (upd (upd (upd (upd F 2 (nI sz)) 9 (nI at9)) 10 (nI dp)) 11 (nI sg)) 9 (nI (at2 + r226))) 11 (nI sg2)) R Z (updA B 10 f2) J K2 w n (at2 + r226) sz dp sg2 0 g2 (by omega) (by omega) hdp (by omega) hls2.1.1 (fun o9 h9 => absurd h9 (by omega)) ist hO hl0) (gV pw_1007 pw_1008 pw_1009 pw_796 pw_1056) hV_X8_block qr239 5 hqr240 rfl rfl rfl (Nat.le_of_ble_eq_true rfl) dX8_tryStatement_121 ⟨(by show (2 * (at2 - at9) - 4) + (2 * (sz - (at2 + r226)) + 20) ≤ (2 * (sz - at9) + 20); omega), (by show (11 * (2 * (at2 - at9) - 4)) + (11 * (2 * (sz - (at2 + r226)) + 20)) ≤ (11 * (2 * (sz - at9) + 20)); omega)⟩ ⟨(by show (50 * n + 54) + 1 ≤ (50 * n + 58); omega), (by show 8 + (5 + 11) + (1500 * n + 1560) ≤ (1500 * n + 1650); omega)⟩ (fun v238 u236 H locs hw237 hP hD hS => ?_) (fun ux ce9 q9 H9 locs9 hux hP9 hD9 hS9 hce hcv hcl => pb_out ux (ThQ.up (Thx.same (Thx.same (Thx.same (Thx.same (Thx.b (Thx.f (Thx.f Thx.rfl (by omega)) (by omega)) (by omega) (by decide)) rfl) rfl) rfl) rfl) RhX.rfl hux) hnt hlocks hce hcv hcl hP9 hD9 hS9 (by show (2 * (at2 - at9) - 4) + (2 * (sz - (at2 + r226)) + 20) ≤ (2 * (sz - at9) + 20); omega) (by show (11 * (2 * (at2 - at9) - 4)) + (11 * (2 * (sz - (at2 + r226)) + 20)) ≤ (11 * (2 * (sz - at9) + 20)); omega))
                obtain ⟨w, r241, K242, g243, at244, sg245, f246, k247⟩ := u236
                obtain ⟨hw237, h248, h249, h250, h251, h252, hO⟩ := hw237
                have h248 : NwR K2 K242 g2 g243 r241 0 k247 ((171 + 3 * (20 - dp))) := h248
                have h249 : (at2 + r226) + 2 ≤ at244 ∧ at244 ≤ sz := h249
                have h250 : sg2 ≤ sg245 ∧ sg245 ≤ 60 := h250
                have h251 : rS k247 = (at2 + r226) ∧ rE k247 ≤ at244 ∧ rS k247 ≤ rE k247 := h251
                have h252 : K242.2.1 0 r241 = 21 := h252
                obtain rfl : v238 = some (.ref r241) := hw237
                have hf253 : K242.1 q2 = 1 := (((h248).2.1.1 q2 (by rw [hq2]; decide)).1).trans hq2
                have hf254 : K242.2.1 0 q2 = 32 := (((h248).2.1.1 q2 (by rw [hq2]; decide)).2.1 0).trans hkd2
                have hf255 : K242.2.2.1 2 q2 = none := (((h248).2.1.1 q2 (by rw [hq2]; decide)).2.2.1 2).trans hc22
                have hf256 : K242.2.2.1 3 q2 = none := (((h248).2.1.1 q2 (by rw [hq2]; decide)).2.2.1 3).trans hc23
                have hf257 : K242.2.2.1 4 q2 = none := (((h248).2.1.1 q2 (by rw [hq2]; decide)).2.2.1 4).trans hc24
                have hf258 : K242.2.2.1 0 q2 = some xa := (((h248).2.1.1 q2 (by rw [hq2]; decide)).2.2.1 0).trans hxa
                have hf259 : K242.1 xa = 1 := (((h248).2.1.1 xa (by rw [hxT]; decide)).1).trans hxT
                have hf260 : K242.2.1 0 xa = 21 := (((h248).2.1.1 xa (by rw [hxT]; decide)).2.1 0).trans hxk
                have hO : OKP G h0 a (upd (upd (upd (upd F 2 (nI sz)) 9 (nI at244)) 10 (nI dp)) 11 (nI sg245)) R Z (updA B 10 f246) J K242 w := hO.to rfl
                refine W.widen (k := ((2 * (at2 - at9) - 4) + (2 * (at244 - (at2 + r226)) - 3))) (n := ((11 * (2 * (at2 - at9) - 4)) + (11 * (2 * (at244 - (at2 + r226)) - 3)))) (by show (2 * (at2 - at9) - 4) + (2 * (at244 - (at2 + r226)) - 3) ≤ ((2 * (at2 - at9) - 4) + (2 * (at244 - (at2 + r226)) - 3)); omega) (by show (11 * (2 * (at2 - at9) - 4)) + (11 * (2 * (at244 - (at2 + r226)) - 3)) ≤ ((11 * (2 * (at2 - at9) - 4)) + (11 * (2 * (at244 - (at2 + r226)) - 3))); omega) ?_
                refine W.eq (g2 := F0 m 124 ls [.ref r241, .ref q2]) rfl ?_
                have har5 := LsN.call0 hls2 h248
                have hbr := h248.2.2.1
                have hbr1 := hbr.2.2.1
                have hbr2 := hbr.2.2.2.1
                have hf261 : K242.1 r241 = 1 := hbr.2.1
                have hxz : g243 0 xa = g2 0 xa := h248.2.1.2 xa (by rw [hxT]; decide) 0
                have hxr9 : g243 2 xa = ka := (h248.2.1.2 xa (by rw [hxT]; decide) 2).trans hxr
                have hbr9 : g243 2 r241 = k247 := hbr.2.2.2.2.2.1
                refine p_put (v := .ref r241) (ty := (.object "JinjaTongue$Node")) (C := RX7) (Tc := TX7) (N := 11) (ci := 13) (K' := (kC K242 2 q2 (some r241))) hx hb hq pin_wsX70 tyX7 tyX7_ok nmX7 hown hE hP hD hS hO (by rw [hf253]; decide) (rep_1 hf253) rfl 8 (by decide) (hq _ pw_943) (fun _ h9 => h9) rfl (by decide +kernel) rfl rfl (Nat.le_of_ble_eq_true rfl) rfl (by rw [rep_1 (show (kC K242 2 q2 (some r241)).1 q2 = 1 from hf253), pc_2] <;> rfl) (fun p9 hp9 => rep_kC hp9) dX8_tryStatement_124 (fun H locs w hP hD hS hO => ?_)
                obtain ⟨K262, hK263⟩ : ∃ z : PK, z = (kC K242 2 q2 (some r241)) := ⟨_, rfl⟩
                rw [← hK263] at hO
                have hf264 : K262.1 q2 = 1 := (by rw [hK263]; exact hf253)
                have hf265 : K262.2.1 0 q2 = 32 := (by rw [hK263]; exact hf254)
                have hf266 : K262.2.2.1 3 q2 = none := (by rw [hK263]; exact (kC_of (by decide)).trans hf256)
                have hf267 : K262.2.2.1 4 q2 = none := (by rw [hK263]; exact (kC_of (by decide)).trans hf257)
                have hf268 : K262.2.2.1 0 q2 = some xa := (by rw [hK263]; exact (kC_of (by decide)).trans hf258)
                have hf269 : K262.1 xa = 1 := (by rw [hK263]; exact hf259)
                have hf270 : K262.2.1 0 xa = 21 := (by rw [hK263]; exact hf260)
                have hf271 : K262.1 r241 = 1 := (by rw [hK263]; exact hf261)
                have hf272 : K262.2.1 0 r241 = 21 := (by rw [hK263]; exact h252)
                have hf273 : K262.2.2.1 2 q2 = some r241 := by rw [hK263]; exact kC_eq
                refine lv_aload_n hx hb dX8_tryStatement_127 rfl (lv_at hl 2 rfl) ?_
                refine W_size (fun hz1 hz2 => ?_)
                refine vx_ret ?_
                have har6 : LsN K K262 g g243 q2 1 (172 + 3 * (20 - dp)) (rE ka) at2 := by rw [hK263]; exact LsN.put har5 (by decide)
                have hkid : ∀ f9 y9 : Nat, f9 ≤ 3 → ¬ f9 = 1 → K262.2.2.1 f9 q2 = some y9 → K262.1 y9 = 1 ∧ 1 ≤ g243 0 y9 ∧ g243 0 y9 < (173 + 3 * (20 - dp)) := by
                  intro f9 y9 hf9 hf1 hy9
                  rcases (show f9 = 0 ∨ f9 = 2 ∨ f9 = 3 by omega) with rfl | rfl | rfl
                  · rw [hf268] at hy9; cases hy9; exact ⟨hf269, by omega, by omega⟩
                  · rw [hf273] at hy9; cases hy9; exact ⟨hf271, by omega, by omega⟩
                  · rw [hf266] at hy9; cases hy9
                obtain ⟨k9, hkI, hkS, hkE, hkM, hkN⟩ : ∃ z : Nat, Itv z ∧ rS z = at9 ∧ rE z = at244 ∧ rM z = (rE ka) ∧ rN z = at2 := ⟨rk at9 at244 (rE ka) at2, Itv.of (by omega), rS_rk (by omega), rE_rk (by omega), rM_rk (by omega), rN_rk (by omega)⟩
                have hkch : ∀ f9 y9 : Nat, f9 ≤ 3 → K262.2.2.1 f9 q2 = some y9 → Kch (K262.2.1 0 q2) f9 (K262.2.1 0 y9) k9 (g243 2 y9) := by
                  intro f9 y9 hf9 e9
                  rw [hf265]
                  rcases (show f9 = 1 ∨ f9 = 0 ∨ f9 = 2 ∨ f9 = 3 by omega) with rfl | rfl | rfl | rfl
                  · exact Kch.k32 (fun z => absurd rfl z) (fun z => absurd z (by decide)) (fun z => absurd z (by decide))
                  · rw [hf268] at e9; cases e9; rw [hxr9]; exact Kch.k32 (fun _ => hf270) (fun _ => (by omega)) (fun z => absurd z (by decide))
                  · rw [hf273] at e9; cases e9; rw [hbr9]; exact Kch.k32 (fun _ => hf272) (fun z => absurd z (by decide)) (fun _ => (by omega))
                  · rw [hf266] at e9; cases e9
                have hdn := LsN.done (L := (173 + 3 * (20 - dp))) (O := O) (k := k9) har6 (by omega) (fun x9 => Owi.k32 hf265 (by omega)) hkI (Shp.k32 hf265 (by show ¬ K262.2.2.1 0 q2 = none; rw [hf268]; intro z; cases z)) (fun f9 => Lsf.k32 hf265) hkid hf267 hkch how
                have hz274 : NwR K K262 g (gset g243 q2 (173 + 3 * (20 - dp)) O k9) q2 O k9 ((173 + 3 * (20 - dp))) := hdn
                have hz275 : at9 + 3 ≤ at244 ∧ at244 ≤ sz := (by omega)
                have hz276 : sg ≤ sg245 ∧ sg245 ≤ 60 := (by omega)
                have hz277 : rS k9 = at9 ∧ rE k9 ≤ at244 ∧ rS k9 ≤ rE k9 := (by omega)
                have hO : OKP G h0 a (upd (upd (upd (upd F 2 (nI sz)) 9 (nI at244)) 10 (nI dp)) 11 (nI sg245)) R Z (updA B 10 f246) J K262 w := hO.to rfl
                refine W.widen (k := (2 * (sz - at9) + 20)) (n := (11 * (2 * (sz - at9) + 20))) (by omega) (by omega) ?_
                have hzz1 : H.size ≤ s.heap.size + ((2 * (at244 - at9) - 4)) := (by have z : ((2 * (at2 - at9) - 4) + (2 * (at244 - (at2 + r226)) - 3)) ≤ (2 * (at244 - at9) - 4) := (by omega); omega)
                have hzz2 : hSl H ≤ hSl s.heap + ((11 * (2 * (at244 - at9) - 4))) := (by have z : ((11 * (2 * (at2 - at9) - 4)) + (11 * (2 * (at244 - (at2 + r226)) - 3))) ≤ (11 * (2 * (at244 - at9) - 4)) := (by omega); omega)
                exact W.aret (v := .ref q2) hx hb hr (Or.inl ⟨_, rfl⟩) (Or.inr ⟨_, rfl⟩) (fun t99 ht99 hW99 => ⟨⟨_, (w, (q2, K262, (gset g243 q2 (173 + 3 * (20 - dp)) O k9), at244, sg245, f246, k9)), rfl, ⟨rfl, hz274, hz275, hz276, hz277, hO⟩, by rw [ht99]; exact hP, hD, by rw [ht99]; exact hzz1, by rw [ht99]; exact hzz2⟩, hS.F ht99⟩) hS.2.2 dX8_tryStatement_128
            · have n278 : r217 = 0 := (nI_eq (a := r217) (b := 0) (by omega) (by omega)).mp c219
              refine lv_aload_n hx hb dX8_tryStatement_106 rfl (lv_at hl 3 rfl) ?_
              have hO : OKW G h0 a (upd (upd (upd (upd (upd (upd (upd (upd F 2 (nI sz)) 9 (nI at9)) 10 (nI dp)) 11 (nI sg)) 9 (nI at2)) 11 (nI sg2)) 2 (nI sz)) 9 (nI at2)) R Z (updA B 10 f2) J K2.1 (fun q99 x99 => x99 = rep G a K2 q99) w := hO.to rfl
              obtain ⟨_, qr282, hqr283⟩ := hO.2.1 23 _ (sg_23 G h0 a _ _ _ _ _)
              refine pn_V0 (G := G) (As := []) (rest := []) hx hb hml hown hq hE hX pX0_al hP hD hS hA hl.1 (P_refuse l G h0 a (upd (upd (upd (upd (upd (upd F 2 (nI sz)) 9 (nI at9)) 10 (nI dp)) 11 (nI sg)) 9 (nI at2)) 11 (nI sg2)) R Z (updA B 10 f2) J K2.1 (fun q99 x99 => x99 = rep G a K2 q99) w at2 sz (by omega) (by omega) hO hl0) (gV pw_806 pw_807 pw_808 pw_796 pw_778) hV_X8_refuse qr282 5 hqr283 rfl rfl rfl (Nat.le_of_ble_eq_true rfl) dX8_tryStatement_107 ⟨(by show (2 * (at2 - at9) - 4) + 1 ≤ (2 * (sz - at9) + 20); omega), (by show (11 * (2 * (at2 - at9) - 4)) + 6 ≤ (11 * (2 * (sz - at9) + 20)); omega)⟩ ⟨(by show 7 + 1 ≤ (50 * n + 58); omega), (by show 8 + (1 + 11) + 122 ≤ (1500 * n + 1650); omega)⟩ (fun v281 u279 H locs hw280 hP hD hS => hw280.elim) (fun ux ce9 q9 H9 locs9 hux hP9 hD9 hS9 hce hcv hcl => pb_out ux (ThQ.up (Thx.same (Thx.same (Thx.b (Thx.f (Thx.f Thx.rfl (by omega)) (by omega)) (by omega) (by decide)) rfl) rfl) RhX.rfl hux) hnt hlocks hce hcv hcl hP9 hD9 hS9 (by show (2 * (at2 - at9) - 4) + 1 ≤ (2 * (sz - at9) + 20); omega) (by show (11 * (2 * (at2 - at9) - 4)) + 6 ≤ (11 * (2 * (sz - at9) + 20)); omega))
          · have hl : lv_has ls 5 [(3, .int (nI i2)), (2, .ref y9), (1, .ref q2), (0, .ref (a 3))] := hl
            refine lv_aload_n hx hb dX8_tryStatement_93 rfl (lv_at hl 1 rfl) ?_
            refine lv_ifnonnull (tgt := 110) hx hb dX8_tryStatement_94 (by decide) ?_
            refine lv_aload_n hx hb dX8_tryStatement_110 rfl (lv_at hl 3 rfl) ?_
            refine lv_bipush (v := 9) hx hb dX8_tryStatement_111 (by decide) ?_
            have hO : OKW G h0 a (upd (upd (upd (upd (upd (upd F 2 (nI sz)) 9 (nI at2)) 10 (nI dp)) 11 (nI sg2)) 2 (nI sz)) 9 (nI at2)) R Z (updA B 10 f2) J K2.1 (fun q99 x99 => x99 = rep G a K2 q99) w := hO.to rfl
            obtain ⟨_, qr287, hqr288⟩ := hO.2.1 23 _ (sg_23 G h0 a _ _ _ _ _)
            refine pc_V0 (G := G) (As := [.int 9]) (rest := []) hx hb hml hown hq hE hX pX0_al hP hD hS hA hl.1 (P_takeIf l G h0 a (upd (upd (upd (upd F 2 (nI sz)) 9 (nI at2)) 10 (nI dp)) 11 (nI sg2)) R Z (updA B 10 f2) J K2.1 (fun q99 x99 => x99 = rep G a K2 q99) w 9 at2 sz (by omega) (by omega) (by decide) hO) (gV pw_797 pw_798 pw_799 pw_796 pw_789) hV_X8_takeIf qr287 5 hqr288 rfl rfl rfl (Nat.le_of_ble_eq_true rfl) dX8_tryStatement_113 ⟨(by show (2 * (at2 - at9) - 4) + 0 ≤ (2 * (sz - at9) + 20); omega), (by show (11 * (2 * (at2 - at9) - 4)) + 0 ≤ (11 * (2 * (sz - at9) + 20)); omega)⟩ ⟨(by show 3 + 1 ≤ (50 * n + 58); omega), (by show 8 + (2 + 11) + 81 ≤ (1500 * n + 1650); omega)⟩ (fun v286 u284 H locs hw285 hP hD hS => ?_)
            obtain ⟨w, r289⟩ := u284
            obtain ⟨hw285, h290, h291, hO⟩ := hw285
            have h290 : r289 ≤ 1 := h290
            have h291 : at2 + r289 ≤ sz := h291
            obtain rfl : v286 = some (.int (nI r289)) := hw285
            have hO : OKP G h0 a (upd (upd (upd (upd F 2 (nI sz)) 9 (nI (at2 + r289))) 10 (nI dp)) 11 (nI sg2)) R Z (updA B 10 f2) J K2 w := hO.to rfl
            refine W.widen (k := (2 * (at2 - at9) - 4)) (n := (11 * (2 * (at2 - at9) - 4))) (by show (2 * (at2 - at9) - 4) + 0 ≤ (2 * (at2 - at9) - 4); omega) (by show (11 * (2 * (at2 - at9) - 4)) + 0 ≤ (11 * (2 * (at2 - at9) - 4)); omega) ?_
            refine W.eq (g2 := F0 m 116 ls [.int (nI r289)]) rfl ?_
            refine lv_if_eq (tgt := 127) hx hb dX8_tryStatement_116 (by decide) (fun c292 => ?_) (fun c292 => ?_)
            · have n293 : r289 = 0 := (nI_eq (a := r289) (b := 0) (by omega) (by omega)).mp c292
              refine lv_aload_n hx hb dX8_tryStatement_127 rfl (lv_at hl 2 rfl) ?_
              refine W_size (fun hz1 hz2 => ?_)
              refine vx_ret ?_
              have hkid : ∀ f9 y9 : Nat, f9 ≤ 3 → ¬ f9 = 1 → K2.2.2.1 f9 q2 = some y9 → K2.1 y9 = 1 ∧ 1 ≤ g2 0 y9 ∧ g2 0 y9 < (173 + 3 * (20 - dp)) := by
                intro f9 y9 hf9 hf1 hy9
                rcases (show f9 = 0 ∨ f9 = 2 ∨ f9 = 3 by omega) with rfl | rfl | rfl
                · rw [hxa] at hy9; cases hy9; exact ⟨hxT, by omega, by omega⟩
                · rw [hc22] at hy9; cases hy9
                · rw [hc23] at hy9; cases hy9
              obtain ⟨k9, hkI, hkS, hkE, hkM, hkN⟩ : ∃ z : Nat, Itv z ∧ rS z = at9 ∧ rE z = (at2 + r289) ∧ rM z = (rE ka) ∧ rN z = at2 := ⟨rk at9 (at2 + r289) (rE ka) at2, Itv.of (by omega), rS_rk (by omega), rE_rk (by omega), rM_rk (by omega), rN_rk (by omega)⟩
              have hkch : ∀ f9 y9 : Nat, f9 ≤ 3 → K2.2.2.1 f9 q2 = some y9 → Kch (K2.2.1 0 q2) f9 (K2.2.1 0 y9) k9 (g2 2 y9) := by
                intro f9 y9 hf9 e9
                rw [hkd2]
                rcases (show f9 = 1 ∨ f9 = 0 ∨ f9 = 2 ∨ f9 = 3 by omega) with rfl | rfl | rfl | rfl
                · exact Kch.k32 (fun z => absurd rfl z) (fun z => absurd z (by decide)) (fun z => absurd z (by decide))
                · rw [hxa] at e9; cases e9; rw [hxr]; exact Kch.k32 (fun _ => hxk) (fun _ => (by omega)) (fun z => absurd z (by decide))
                · rw [hc22] at e9; cases e9
                · rw [hc23] at e9; cases e9
              have hdn := LsN.done (L := (173 + 3 * (20 - dp))) (O := O) (k := k9) hls2 (by omega) (fun x9 => Owi.k32 hkd2 (by omega)) hkI (Shp.k32 hkd2 (by show ¬ K2.2.2.1 0 q2 = none; rw [hxa]; intro z; cases z)) (fun f9 => Lsf.k32 hkd2) hkid hc24 hkch how
              have hz294 : NwR K K2 g (gset g2 q2 (173 + 3 * (20 - dp)) O k9) q2 O k9 ((173 + 3 * (20 - dp))) := hdn
              have hz295 : at9 + 3 ≤ (at2 + r289) ∧ (at2 + r289) ≤ sz := (by omega)
              have hz296 : sg ≤ sg2 ∧ sg2 ≤ 60 := (by omega)
              have hz297 : rS k9 = at9 ∧ rE k9 ≤ (at2 + r289) ∧ rS k9 ≤ rE k9 := (by omega)
              have hO : OKP G h0 a (upd (upd (upd (upd F 2 (nI sz)) 9 (nI (at2 + r289))) 10 (nI dp)) 11 (nI sg2)) R Z (updA B 10 f2) J K2 w := hO.to rfl
              refine W.widen (k := (2 * (sz - at9) + 20)) (n := (11 * (2 * (sz - at9) + 20))) (by omega) (by omega) ?_
              have hzz1 : H.size ≤ s.heap.size + ((2 * ((at2 + r289) - at9) - 4)) := (by have z : (2 * (at2 - at9) - 4) ≤ (2 * ((at2 + r289) - at9) - 4) := (by omega); omega)
              have hzz2 : hSl H ≤ hSl s.heap + ((11 * (2 * ((at2 + r289) - at9) - 4))) := (by have z : (11 * (2 * (at2 - at9) - 4)) ≤ (11 * (2 * ((at2 + r289) - at9) - 4)) := (by omega); omega)
              exact W.aret (v := .ref q2) hx hb hr (Or.inl ⟨_, rfl⟩) (Or.inr ⟨_, rfl⟩) (fun t99 ht99 hW99 => ⟨⟨_, (w, (q2, K2, (gset g2 q2 (173 + 3 * (20 - dp)) O k9), (at2 + r289), sg2, f2, k9)), rfl, ⟨rfl, hz294, hz295, hz296, hz297, hO⟩, by rw [ht99]; exact hP, hD, by rw [ht99]; exact hzz1, by rw [ht99]; exact hzz2⟩, hS.F ht99⟩) hS.2.2 dX8_tryStatement_128
            · have n298 : ¬ (r289 = 0) := fun h9 => c292 ((nI_eq (a := r289) (b := 0) (by omega) (by omega)).mpr h9)
              refine lv_aload_n hx hb dX8_tryStatement_119 rfl (lv_at hl 2 rfl) ?_
              refine lv_aload_n hx hb dX8_tryStatement_120 rfl (lv_at hl 3 rfl) ?_
              have hO : OKP G h0 a (upd (upd (upd (upd (upd (upd (upd (upd (upd (upd F 2 (nI sz)) 9 (nI at9)) 10 (nI dp)) 11 (nI sg)) 9 (nI (at2 + r289))) 11 (nI sg2)) 2 (nI sz)) 9 (nI (at2 + r289))) 10 (nI dp)) 11 (nI sg2)) R Z (updA B 10 f2) J K2 w := hO.to rfl
              obtain ⟨_, qr302, hqr303⟩ := hO.2.1 23 _ (sg_23 G h0 a _ _ _ _ _)
              refine pn_V0 (G := G) (As := []) (rest := [.ref q2]) hx hb hml hown hq hE hX pX0_al hP hD hS hA hl.1 (P_block l G h0 a (upd (upd (upd (upd (upd (upd F 2 (nI sz)) 9 (nI at9)) 10 (nI dp)) 11 (nI sg)) 9 (nI (at2 + r289))) 11 (nI sg2)) R Z (updA B 10 f2) J K2 w n (at2 + r289) sz dp sg2 0 g2 (by omega) (by omega) hdp (by omega) hls2.1.1 (fun o9 h9 => absurd h9 (by omega)) ist hO hl0) (gV pw_1007 pw_1008 pw_1009 pw_796 pw_1056) hV_X8_block qr302 5 hqr303 rfl rfl rfl (Nat.le_of_ble_eq_true rfl) dX8_tryStatement_121 ⟨(by show (2 * (at2 - at9) - 4) + (2 * (sz - (at2 + r289)) + 20) ≤ (2 * (sz - at9) + 20); omega), (by show (11 * (2 * (at2 - at9) - 4)) + (11 * (2 * (sz - (at2 + r289)) + 20)) ≤ (11 * (2 * (sz - at9) + 20)); omega)⟩ ⟨(by show (50 * n + 54) + 1 ≤ (50 * n + 58); omega), (by show 8 + (5 + 11) + (1500 * n + 1560) ≤ (1500 * n + 1650); omega)⟩ (fun v301 u299 H locs hw300 hP hD hS => ?_) (fun ux ce9 q9 H9 locs9 hux hP9 hD9 hS9 hce hcv hcl => pb_out ux (ThQ.up (Thx.same (Thx.same (Thx.same (Thx.same (Thx.b (Thx.f (Thx.f Thx.rfl (by omega)) (by omega)) (by omega) (by decide)) rfl) rfl) rfl) rfl) RhX.rfl hux) hnt hlocks hce hcv hcl hP9 hD9 hS9 (by show (2 * (at2 - at9) - 4) + (2 * (sz - (at2 + r289)) + 20) ≤ (2 * (sz - at9) + 20); omega) (by show (11 * (2 * (at2 - at9) - 4)) + (11 * (2 * (sz - (at2 + r289)) + 20)) ≤ (11 * (2 * (sz - at9) + 20)); omega))
              obtain ⟨w, r304, K305, g306, at307, sg308, f309, k310⟩ := u299
              obtain ⟨hw300, h311, h312, h313, h314, h315, hO⟩ := hw300
              have h311 : NwR K2 K305 g2 g306 r304 0 k310 ((171 + 3 * (20 - dp))) := h311
              have h312 : (at2 + r289) + 2 ≤ at307 ∧ at307 ≤ sz := h312
              have h313 : sg2 ≤ sg308 ∧ sg308 ≤ 60 := h313
              have h314 : rS k310 = (at2 + r289) ∧ rE k310 ≤ at307 ∧ rS k310 ≤ rE k310 := h314
              have h315 : K305.2.1 0 r304 = 21 := h315
              obtain rfl : v301 = some (.ref r304) := hw300
              have hf316 : K305.1 q2 = 1 := (((h311).2.1.1 q2 (by rw [hq2]; decide)).1).trans hq2
              have hf317 : K305.2.1 0 q2 = 32 := (((h311).2.1.1 q2 (by rw [hq2]; decide)).2.1 0).trans hkd2
              have hf318 : K305.2.2.1 2 q2 = none := (((h311).2.1.1 q2 (by rw [hq2]; decide)).2.2.1 2).trans hc22
              have hf319 : K305.2.2.1 3 q2 = none := (((h311).2.1.1 q2 (by rw [hq2]; decide)).2.2.1 3).trans hc23
              have hf320 : K305.2.2.1 4 q2 = none := (((h311).2.1.1 q2 (by rw [hq2]; decide)).2.2.1 4).trans hc24
              have hf321 : K305.2.2.1 0 q2 = some xa := (((h311).2.1.1 q2 (by rw [hq2]; decide)).2.2.1 0).trans hxa
              have hf322 : K305.1 xa = 1 := (((h311).2.1.1 xa (by rw [hxT]; decide)).1).trans hxT
              have hf323 : K305.2.1 0 xa = 21 := (((h311).2.1.1 xa (by rw [hxT]; decide)).2.1 0).trans hxk
              have hO : OKP G h0 a (upd (upd (upd (upd F 2 (nI sz)) 9 (nI at307)) 10 (nI dp)) 11 (nI sg308)) R Z (updA B 10 f309) J K305 w := hO.to rfl
              refine W.widen (k := ((2 * (at2 - at9) - 4) + (2 * (at307 - (at2 + r289)) - 3))) (n := ((11 * (2 * (at2 - at9) - 4)) + (11 * (2 * (at307 - (at2 + r289)) - 3)))) (by show (2 * (at2 - at9) - 4) + (2 * (at307 - (at2 + r289)) - 3) ≤ ((2 * (at2 - at9) - 4) + (2 * (at307 - (at2 + r289)) - 3)); omega) (by show (11 * (2 * (at2 - at9) - 4)) + (11 * (2 * (at307 - (at2 + r289)) - 3)) ≤ ((11 * (2 * (at2 - at9) - 4)) + (11 * (2 * (at307 - (at2 + r289)) - 3))); omega) ?_
              refine W.eq (g2 := F0 m 124 ls [.ref r304, .ref q2]) rfl ?_
              have har5 := LsN.call0 hls2 h311
              have hbr := h311.2.2.1
              have hbr1 := hbr.2.2.1
              have hbr2 := hbr.2.2.2.1
              have hf324 : K305.1 r304 = 1 := hbr.2.1
              have hxz : g306 0 xa = g2 0 xa := h311.2.1.2 xa (by rw [hxT]; decide) 0
              have hxr9 : g306 2 xa = ka := (h311.2.1.2 xa (by rw [hxT]; decide) 2).trans hxr
              have hbr9 : g306 2 r304 = k310 := hbr.2.2.2.2.2.1
              refine p_put (v := .ref r304) (ty := (.object "JinjaTongue$Node")) (C := RX7) (Tc := TX7) (N := 11) (ci := 13) (K' := (kC K305 2 q2 (some r304))) hx hb hq pin_wsX70 tyX7 tyX7_ok nmX7 hown hE hP hD hS hO (by rw [hf316]; decide) (rep_1 hf316) rfl 8 (by decide) (hq _ pw_943) (fun _ h9 => h9) rfl (by decide +kernel) rfl rfl (Nat.le_of_ble_eq_true rfl) rfl (by rw [rep_1 (show (kC K305 2 q2 (some r304)).1 q2 = 1 from hf316), pc_2] <;> rfl) (fun p9 hp9 => rep_kC hp9) dX8_tryStatement_124 (fun H locs w hP hD hS hO => ?_)
              obtain ⟨K325, hK326⟩ : ∃ z : PK, z = (kC K305 2 q2 (some r304)) := ⟨_, rfl⟩
              rw [← hK326] at hO
              have hf327 : K325.1 q2 = 1 := (by rw [hK326]; exact hf316)
              have hf328 : K325.2.1 0 q2 = 32 := (by rw [hK326]; exact hf317)
              have hf329 : K325.2.2.1 3 q2 = none := (by rw [hK326]; exact (kC_of (by decide)).trans hf319)
              have hf330 : K325.2.2.1 4 q2 = none := (by rw [hK326]; exact (kC_of (by decide)).trans hf320)
              have hf331 : K325.2.2.1 0 q2 = some xa := (by rw [hK326]; exact (kC_of (by decide)).trans hf321)
              have hf332 : K325.1 xa = 1 := (by rw [hK326]; exact hf322)
              have hf333 : K325.2.1 0 xa = 21 := (by rw [hK326]; exact hf323)
              have hf334 : K325.1 r304 = 1 := (by rw [hK326]; exact hf324)
              have hf335 : K325.2.1 0 r304 = 21 := (by rw [hK326]; exact h315)
              have hf336 : K325.2.2.1 2 q2 = some r304 := by rw [hK326]; exact kC_eq
              refine lv_aload_n hx hb dX8_tryStatement_127 rfl (lv_at hl 2 rfl) ?_
              refine W_size (fun hz1 hz2 => ?_)
              refine vx_ret ?_
              have har6 : LsN K K325 g g306 q2 1 (172 + 3 * (20 - dp)) (rE ka) at2 := by rw [hK326]; exact LsN.put har5 (by decide)
              have hkid : ∀ f9 y9 : Nat, f9 ≤ 3 → ¬ f9 = 1 → K325.2.2.1 f9 q2 = some y9 → K325.1 y9 = 1 ∧ 1 ≤ g306 0 y9 ∧ g306 0 y9 < (173 + 3 * (20 - dp)) := by
                intro f9 y9 hf9 hf1 hy9
                rcases (show f9 = 0 ∨ f9 = 2 ∨ f9 = 3 by omega) with rfl | rfl | rfl
                · rw [hf331] at hy9; cases hy9; exact ⟨hf332, by omega, by omega⟩
                · rw [hf336] at hy9; cases hy9; exact ⟨hf334, by omega, by omega⟩
                · rw [hf329] at hy9; cases hy9
              obtain ⟨k9, hkI, hkS, hkE, hkM, hkN⟩ : ∃ z : Nat, Itv z ∧ rS z = at9 ∧ rE z = at307 ∧ rM z = (rE ka) ∧ rN z = at2 := ⟨rk at9 at307 (rE ka) at2, Itv.of (by omega), rS_rk (by omega), rE_rk (by omega), rM_rk (by omega), rN_rk (by omega)⟩
              have hkch : ∀ f9 y9 : Nat, f9 ≤ 3 → K325.2.2.1 f9 q2 = some y9 → Kch (K325.2.1 0 q2) f9 (K325.2.1 0 y9) k9 (g306 2 y9) := by
                intro f9 y9 hf9 e9
                rw [hf328]
                rcases (show f9 = 1 ∨ f9 = 0 ∨ f9 = 2 ∨ f9 = 3 by omega) with rfl | rfl | rfl | rfl
                · exact Kch.k32 (fun z => absurd rfl z) (fun z => absurd z (by decide)) (fun z => absurd z (by decide))
                · rw [hf331] at e9; cases e9; rw [hxr9]; exact Kch.k32 (fun _ => hf333) (fun _ => (by omega)) (fun z => absurd z (by decide))
                · rw [hf336] at e9; cases e9; rw [hbr9]; exact Kch.k32 (fun _ => hf335) (fun z => absurd z (by decide)) (fun _ => (by omega))
                · rw [hf329] at e9; cases e9
              have hdn := LsN.done (L := (173 + 3 * (20 - dp))) (O := O) (k := k9) har6 (by omega) (fun x9 => Owi.k32 hf328 (by omega)) hkI (Shp.k32 hf328 (by show ¬ K325.2.2.1 0 q2 = none; rw [hf331]; intro z; cases z)) (fun f9 => Lsf.k32 hf328) hkid hf330 hkch how
              have hz337 : NwR K K325 g (gset g306 q2 (173 + 3 * (20 - dp)) O k9) q2 O k9 ((173 + 3 * (20 - dp))) := hdn
              have hz338 : at9 + 3 ≤ at307 ∧ at307 ≤ sz := (by omega)
              have hz339 : sg ≤ sg308 ∧ sg308 ≤ 60 := (by omega)
              have hz340 : rS k9 = at9 ∧ rE k9 ≤ at307 ∧ rS k9 ≤ rE k9 := (by omega)
              have hO : OKP G h0 a (upd (upd (upd (upd F 2 (nI sz)) 9 (nI at307)) 10 (nI dp)) 11 (nI sg308)) R Z (updA B 10 f309) J K325 w := hO.to rfl
              refine W.widen (k := (2 * (sz - at9) + 20)) (n := (11 * (2 * (sz - at9) + 20))) (by omega) (by omega) ?_
              have hzz1 : H.size ≤ s.heap.size + ((2 * (at307 - at9) - 4)) := (by have z : ((2 * (at2 - at9) - 4) + (2 * (at307 - (at2 + r289)) - 3)) ≤ (2 * (at307 - at9) - 4) := (by omega); omega)
              have hzz2 : hSl H ≤ hSl s.heap + ((11 * (2 * (at307 - at9) - 4))) := (by have z : ((11 * (2 * (at2 - at9) - 4)) + (11 * (2 * (at307 - (at2 + r289)) - 3))) ≤ (11 * (2 * (at307 - at9) - 4)) := (by omega); omega)
              exact W.aret (v := .ref q2) hx hb hr (Or.inl ⟨_, rfl⟩) (Or.inr ⟨_, rfl⟩) (fun t99 ht99 hW99 => ⟨⟨_, (w, (q2, K325, (gset g306 q2 (173 + 3 * (20 - dp)) O k9), at307, sg308, f309, k9)), rfl, ⟨rfl, hz337, hz338, hz339, hz340, hO⟩, by rw [ht99]; exact hP, hD, by rw [ht99]; exact hzz1, by rw [ht99]; exact hzz2⟩, hS.F ht99⟩) hS.2.2 dX8_tryStatement_128
        · have n341 : ¬ (r208 = 0) := fun h9 => c210 ((nI_eq (a := r208) (b := 0) (by omega) (by omega)).mpr h9)
          refine lv_aload_n hx hb dX8_tryStatement_59 rfl (lv_at hl 3 rfl) ?_
          have hO : OKP G h0 a (upd (upd (upd (upd (upd (upd (upd (upd (upd (upd F 2 (nI sz)) 9 (nI at9)) 10 (nI dp)) 11 (nI sg)) 9 (nI at2)) 11 (nI sg2)) 2 (nI sz)) 9 (nI at2)) 10 (nI dp)) 11 (nI sg2)) R Z (updA B 10 f2) J K2 w := hO.to rfl
          obtain ⟨_, qr345, hqr346⟩ := hO.2.1 23 _ (sg_23 G h0 a _ _ _ _ _)
          refine pn_V0 (G := G) (As := []) (rest := []) hx hb hml hown hq hE hX pX0_al hP hD hS hA hl.1 (P_catch l G h0 a (upd (upd (upd (upd (upd (upd F 2 (nI sz)) 9 (nI at9)) 10 (nI dp)) 11 (nI sg)) 9 (nI at2)) 11 (nI sg2)) R Z (updA B 10 f2) J K2 w n at2 sz dp sg2 (q2 + 1) g2 (by omega) (by omega) hdp (by omega) hls2.1.1 (fun o9 h9 => by have z : o9 = q2 := (by omega); rw [z]; exact ⟨hq2, hls2.2.2.2.1⟩) ist hO hl0) (gV pw_1052 pw_1053 pw_1054 pw_796 pw_1006) hV_X8_catchBlock qr345 5 hqr346 rfl rfl rfl (Nat.le_of_ble_eq_true rfl) dX8_tryStatement_60 ⟨(by show (2 * (at2 - at9) - 4) + (2 * (sz - at2) + 20) ≤ (2 * (sz - at9) + 20); omega), (by show (11 * (2 * (at2 - at9) - 4)) + (11 * (2 * (sz - at2) + 20)) ≤ (11 * (2 * (sz - at9) + 20)); omega)⟩ ⟨(by show (50 * n + 56) + 1 ≤ (50 * n + 58); omega), (by show 8 + (3 + 11) + (1500 * n + 1600) ≤ (1500 * n + 1650); omega)⟩ (fun v344 u342 H locs hw343 hP hD hS => ?_) (fun ux ce9 q9 H9 locs9 hux hP9 hD9 hS9 hce hcv hcl => pb_out ux (ThQ.up (Thx.same (Thx.same (Thx.same (Thx.same (Thx.b (Thx.f (Thx.f Thx.rfl (by omega)) (by omega)) (by omega) (by decide)) rfl) rfl) rfl) rfl) RhX.rfl hux) hnt hlocks hce hcv hcl hP9 hD9 hS9 (by show (2 * (at2 - at9) - 4) + (2 * (sz - at2) + 20) ≤ (2 * (sz - at9) + 20); omega) (by show (11 * (2 * (at2 - at9) - 4)) + (11 * (2 * (sz - at2) + 20)) ≤ (11 * (2 * (sz - at9) + 20)); omega))
          obtain ⟨w, r347, K348, g349, at350, sg351, f352, k353⟩ := u342
          obtain ⟨hw343, h354, h355, h356, h357, hO⟩ := hw343
          have h354 : NwR K2 K348 g2 g349 r347 (q2 + 1) k353 ((172 + 3 * (20 - dp))) := h354
          have h355 : at2 + 7 ≤ at350 ∧ at350 ≤ sz := h355
          have h356 : sg2 ≤ sg351 ∧ sg351 ≤ 60 := h356
          have h357 : rS k353 = at2 ∧ rE k353 ≤ at350 ∧ rS k353 ≤ rE k353 := h357
          obtain rfl : v344 = some (.ref r347) := hw343
          have hf358 : K348.1 q2 = 1 := (((h354).2.1.1 q2 (by rw [hq2]; decide)).1).trans hq2
          have hf359 : K348.2.1 0 q2 = 32 := (((h354).2.1.1 q2 (by rw [hq2]; decide)).2.1 0).trans hkd2
          have hf360 : K348.2.2.1 2 q2 = none := (((h354).2.1.1 q2 (by rw [hq2]; decide)).2.2.1 2).trans hc22
          have hf361 : K348.2.2.1 3 q2 = none := (((h354).2.1.1 q2 (by rw [hq2]; decide)).2.2.1 3).trans hc23
          have hf362 : K348.2.2.1 4 q2 = none := (((h354).2.1.1 q2 (by rw [hq2]; decide)).2.2.1 4).trans hc24
          have hf363 : K348.2.2.1 0 q2 = some xa := (((h354).2.1.1 q2 (by rw [hq2]; decide)).2.2.1 0).trans hxa
          have hf364 : K348.1 xa = 1 := (((h354).2.1.1 xa (by rw [hxT]; decide)).1).trans hxT
          have hf365 : K348.2.1 0 xa = 21 := (((h354).2.1.1 xa (by rw [hxT]; decide)).2.1 0).trans hxk
          have hO : OKP G h0 a (upd (upd (upd (upd F 2 (nI sz)) 9 (nI at350)) 10 (nI dp)) 11 (nI sg351)) R Z (updA B 10 f352) J K348 w := hO.to rfl
          refine W.widen (k := ((2 * (at2 - at9) - 4) + (2 * (at350 - at2) - 6))) (n := ((11 * (2 * (at2 - at9) - 4)) + (11 * (2 * (at350 - at2) - 6)))) (by show (2 * (at2 - at9) - 4) + (2 * (at350 - at2) - 6) ≤ ((2 * (at2 - at9) - 4) + (2 * (at350 - at2) - 6)); omega) (by show (11 * (2 * (at2 - at9) - 4)) + (11 * (2 * (at350 - at2) - 6)) ≤ ((11 * (2 * (at2 - at9) - 4)) + (11 * (2 * (at350 - at2) - 6))); omega) ?_
          refine W.eq (g2 := F0 m 63 ls [.ref r347]) rfl ?_
          have har3 := LsN.call (B2 := (172 + 3 * (20 - dp))) (hi2 := at350) hls2 h354 (by omega)
          have hr3 := h354.2.2.1
          have hr4 : K348.1 r347 = 1 ∧ 1 ≤ g349 0 r347 ∧ g349 1 r347 = q2 + 1 := ⟨hr3.2.1, hr3.2.2.1, hr3.2.2.2.2.1⟩
          have hr5 : K.1 r347 = 0 := old_T hls2.1.2.1 hr3.1
          have hr6 := hr3.2.2.2.2.2.1
          have hr8 : rS (g349 2 r347) = at2 ∧ rE (g349 2 r347) ≤ at350 ∧ rS (g349 2 r347) ≤ rE (g349 2 r347) := by rw [hr6]; exact h357
          have hf366 : K348.1 r347 = 1 := hr3.2.1
          have hrq : ¬ r347 = q2 := fun z => by have z2 := hr3.1; rw [z, hq2] at z2; exact absurd z2 (by decide)
          refine lv_astore (lv' := [(4, .ref r347), (3, .int (nI i2)), (2, va_rf la2), (1, .ref q2), (0, .ref (a 3))]) hx hb dX8_tryStatement_63 hl (by decide) rfl (fun ls hl => ?_)
          rcases la2 with _ | y9
          · have hl : lv_has ls 5 [(4, .ref r347), (3, .int (nI i2)), (2, .null), (1, .ref q2), (0, .ref (a 3))] := hl
            refine lv_aload_nN hx hb dX8_tryStatement_65 rfl (lv_at hl 2 rfl) ?_
            refine lv_ifnonnullN hx hb dX8_tryStatement_66 ?_
            refine lv_aload_n hx hb dX8_tryStatement_69 rfl (lv_at hl 3 rfl) ?_
            refine lv_aload hx hb dX8_tryStatement_70 (lv_at hl 0 rfl) ?_
            refine p_put (v := .ref r347) (ty := (.object "JinjaTongue$Node")) (C := RX7) (Tc := TX7) (N := 11) (ci := 13) (K' := (kC K348 1 q2 (some r347))) hx hb hq pin_wsX70 tyX7 tyX7_ok nmX7 hown hE hP hD hS hO (by rw [hf358]; decide) (rep_1 hf358) rfl 7 (by decide) (hq _ pw_910) (fun _ h9 => h9) rfl (by decide +kernel) rfl rfl (Nat.le_of_ble_eq_true rfl) rfl (by rw [rep_1 (show (kC K348 1 q2 (some r347)).1 q2 = 1 from hf358), pc_1] <;> rfl) (fun p9 hp9 => rep_kC hp9) dX8_tryStatement_72 (fun H locs w hP hD hS hO => ?_)
            obtain ⟨K367, hK368⟩ : ∃ z : PK, z = (kC K348 1 q2 (some r347)) := ⟨_, rfl⟩
            rw [← hK368] at hO
            have hf369 : K367.1 q2 = 1 := (by rw [hK368]; exact hf358)
            have hf370 : K367.2.1 0 q2 = 32 := (by rw [hK368]; exact hf359)
            have hf371 : K367.2.2.1 2 q2 = none := (by rw [hK368]; exact (kC_of (by decide)).trans hf360)
            have hf372 : K367.2.2.1 3 q2 = none := (by rw [hK368]; exact (kC_of (by decide)).trans hf361)
            have hf373 : K367.2.2.1 4 q2 = none := (by rw [hK368]; exact (kC_of (by decide)).trans hf362)
            have hf374 : K367.2.2.1 0 q2 = some xa := (by rw [hK368]; exact (kC_of (by decide)).trans hf363)
            have hf375 : K367.1 xa = 1 := (by rw [hK368]; exact hf364)
            have hf376 : K367.2.1 0 xa = 21 := (by rw [hK368]; exact hf365)
            have hf377 : K367.1 r347 = 1 := (by rw [hK368]; exact hf366)
            have hf378 : K367.2.2.1 1 q2 = some r347 := by rw [hK368]; exact kC_eq
            refine lv_goto (tgt := 84) hx hb dX8_tryStatement_75 (by decide) ?_
            have har4 : LsN K K367 g g349 q2 1 (172 + 3 * (20 - dp)) (rE ka) at350 := by rw [hK368]; exact LsN.first har3 hr4
            have hr7 : (K.1 r347 = 0 ∧ K367.1 r347 = 1 ∧ 1 ≤ g349 0 r347 ∧ g349 1 r347 = q2 + 1) := ⟨hr5, by rw [hK368]; exact hr4.1, hr4.2.1, hr4.2.2⟩
            refine lv_aload hx hb dX8_tryStatement_84 (lv_at hl 0 rfl) ?_
            refine lv_astore_n (lv' := [(2, .ref r347), (4, .ref r347), (3, .int (nI i2)), (1, .ref q2), (0, .ref (a 3))]) hx hb dX8_tryStatement_86 rfl hl (by decide) rfl (fun ls hl => ?_)
            refine lv_iinc (v := (nI (i2 + 1))) (lv' := [(3, .int (nI (i2 + 1))), (2, .ref r347), (4, .ref r347), (1, .ref q2), (0, .ref (a 3))]) hx hb dX8_tryStatement_87 hl (k := 2) rfl (nI_1 i2) (by decide) rfl (fun ls hl => ?_)
            refine lv_goto (tgt := 40) hx hb dX8_tryStatement_90 (by decide) ?_
            have hxz : g349 0 xa = g2 0 xa := h354.2.1.2 xa (by rw [hxT]; decide) 0
            refine W.widen (k := (2 * (at350 - at9) - 4)) (n := (11 * (2 * (at350 - at9) - 4))) (by show ((2 * (at2 - at9) - 4) + (2 * (at350 - at2) - 6)) ≤ _; omega) (by show ((11 * (2 * (at2 - at9) - 4)) + (11 * (2 * (at350 - at2) - 6))) ≤ _; omega) ?_
            have hO : OKP G h0 a (upd (upd (upd (upd F 2 (nI sz)) 9 (nI at350)) 10 (nI dp)) 11 (nI sg351)) R Z (updA B 10 f352) J K367 w := hO.to rfl
            exact ih_i (i2 + 1) at350 sg351 f352 (some r347) K367 g349 q2 xa ka _ _ _ _ (by omega) (by omega) (by omega) (by omega) har4 hf370 hf371 hf372 hf373 hf374 hf375 hf376 (by omega) ((h354.2.1.2 xa (by rw [hxT]; decide) 2).trans hxr) (by omega) (fun y h => by cases h; exact ⟨hr7, by omega⟩) hP hD hS hO (lv_sub hl [0, 1, 3, 4] rfl)
          · have hl : lv_has ls 5 [(4, .ref r347), (3, .int (nI i2)), (2, .ref y9), (1, .ref q2), (0, .ref (a 3))] := hl
            obtain ⟨hy1, hy2⟩ := hla2 y9 rfl
            have hy0 : ¬ K2.1 y9 = 0 := by rw [hy1.2.1]; decide
            have hy3 : K348.1 y9 = 1 := ((h354.2.1.1 y9 hy0).1).trans hy1.2.1
            have hy4 := fun i => h354.2.1.2 y9 hy0 i
            have hyq : ¬ q2 = y9 := fun z => by have z2 := hy1.1; rw [← z, hls2.2.1] at z2; have z3 := hy1.2.2.1; rw [← z, hls2.2.2.2.1] at z3; omega
            refine lv_aload_n hx hb dX8_tryStatement_65 rfl (lv_at hl 2 rfl) ?_
            refine lv_ifnonnull (tgt := 78) hx hb dX8_tryStatement_66 (by decide) ?_
            refine lv_aload_n hx hb dX8_tryStatement_78 rfl (lv_at hl 2 rfl) ?_
            refine lv_aload hx hb dX8_tryStatement_79 (lv_at hl 0 rfl) ?_
            refine p_put (v := .ref r347) (ty := (.object "JinjaTongue$Node")) (C := RX7) (Tc := TX7) (N := 11) (ci := 13) (K' := (kC K348 4 y9 (some r347))) hx hb hq pin_wsX70 tyX7 tyX7_ok nmX7 hown hE hP hD hS hO (by rw [hy3]; decide) (rep_1 hy3) rfl 10 (by decide) (hq _ pw_911) (fun _ h9 => h9) rfl (by decide +kernel) rfl rfl (Nat.le_of_ble_eq_true rfl) rfl (by rw [rep_1 (show (kC K348 4 y9 (some r347)).1 y9 = 1 from hy3), pc_4] <;> rfl) (fun p9 hp9 => rep_kC hp9) dX8_tryStatement_81 (fun H locs w hP hD hS hO => ?_)
            obtain ⟨K379, hK380⟩ : ∃ z : PK, z = (kC K348 4 y9 (some r347)) := ⟨_, rfl⟩
            rw [← hK380] at hO
            have hf381 : K379.1 q2 = 1 := (by rw [hK380]; exact hf358)
            have hf382 : K379.2.1 0 q2 = 32 := (by rw [hK380]; exact hf359)
            have hf383 : K379.2.2.1 2 q2 = none := (by rw [hK380]; exact (kC_of (by decide)).trans hf360)
            have hf384 : K379.2.2.1 3 q2 = none := (by rw [hK380]; exact (kC_of (by decide)).trans hf361)
            have hf385 : K379.2.2.1 4 q2 = none := (by rw [hK380]; exact (kC_ne hyq).trans hf362)
            have hf386 : K379.2.2.1 0 q2 = some xa := (by rw [hK380]; exact (kC_of (by decide)).trans hf363)
            have hf387 : K379.1 xa = 1 := (by rw [hK380]; exact hf364)
            have hf388 : K379.2.1 0 xa = 21 := (by rw [hK380]; exact hf365)
            have hf389 : K379.1 r347 = 1 := (by rw [hK380]; exact hf366)
            have hf390 : K379.1 y9 = 1 := (by rw [hK380]; exact hy3)
            have hf391 : K379.2.2.1 4 y9 = some r347 := by rw [hK380]; exact kC_eq
            have hy5 := hy4 2
            have har4 : LsN K K379 g g349 q2 1 (172 + 3 * (20 - dp)) (rE ka) at350 := by rw [hK380]; exact LsN.next har3 (by decide) ⟨hy1.1, hy3, by rw [hy4 0]; exact hy1.2.2.1, by rw [hy4 1]; exact hy1.2.2.2⟩ hr4 (rS_lt (by rw [hy5]; omega)) (by rw [hy5]; omega)
            have hr7 : (K.1 r347 = 0 ∧ K379.1 r347 = 1 ∧ 1 ≤ g349 0 r347 ∧ g349 1 r347 = q2 + 1) := ⟨hr5, by rw [hK380]; exact hr4.1, hr4.2.1, hr4.2.2⟩
            refine lv_aload hx hb dX8_tryStatement_84 (lv_at hl 0 rfl) ?_
            refine lv_astore_n (lv' := [(2, .ref r347), (4, .ref r347), (3, .int (nI i2)), (1, .ref q2), (0, .ref (a 3))]) hx hb dX8_tryStatement_86 rfl hl (by decide) rfl (fun ls hl => ?_)
            refine lv_iinc (v := (nI (i2 + 1))) (lv' := [(3, .int (nI (i2 + 1))), (2, .ref r347), (4, .ref r347), (1, .ref q2), (0, .ref (a 3))]) hx hb dX8_tryStatement_87 hl (k := 2) rfl (nI_1 i2) (by decide) rfl (fun ls hl => ?_)
            refine lv_goto (tgt := 40) hx hb dX8_tryStatement_90 (by decide) ?_
            have hxz : g349 0 xa = g2 0 xa := h354.2.1.2 xa (by rw [hxT]; decide) 0
            refine W.widen (k := (2 * (at350 - at9) - 4)) (n := (11 * (2 * (at350 - at9) - 4))) (by show ((2 * (at2 - at9) - 4) + (2 * (at350 - at2) - 6)) ≤ _; omega) (by show ((11 * (2 * (at2 - at9) - 4)) + (11 * (2 * (at350 - at2) - 6))) ≤ _; omega) ?_
            have hO : OKP G h0 a (upd (upd (upd (upd F 2 (nI sz)) 9 (nI at350)) 10 (nI dp)) 11 (nI sg351)) R Z (updA B 10 f352) J K379 w := hO.to rfl
            exact ih_i (i2 + 1) at350 sg351 f352 (some r347) K379 g349 q2 xa ka _ _ _ _ (by omega) (by omega) (by omega) (by omega) har4 hf382 hf383 hf384 hf385 hf386 hf387 hf388 (by omega) ((h354.2.1.2 xa (by rw [hxT]; decide) 2).trans hxr) (by omega) (fun y h => by cases h; exact ⟨hr7, by omega⟩) hP hD hS hO (lv_sub hl [0, 1, 3, 4] rfl)
  refine W.widen (k := (2 * (at34 - at9) - 4)) (n := (11 * (2 * (at34 - at9) - 4))) (by show (1 + (2 * (at34 - (at9 + 1)) - 3)) ≤ _; omega) (by show (11 + (11 * (2 * (at34 - (at9 + 1)) - 3))) ≤ _; omega) ?_
  have hO : OKP G h0 a (upd (upd (upd (upd F 2 (nI sz)) 9 (nI at34)) 10 (nI dp)) 11 (nI sg35)) R Z (updA B 10 f36) J K57 w := hO.to rfl
  exact loop_i (sz + 1) 0 at34 sg35 f36 none K57 g33 q1 r31 k37 _ _ _ _ (by omega) (by omega) (by omega) (by omega) (LsN.of hns69 hq21 hf59 hg53 hno70 hf62) hf60 hf63 hf64 hf65 hf68 hf66 hf67 (by omega) hrk55 (by omega) (fun y h => by cases h) hP hD hS hO (lv_sub hl [0, 1, 2, 3] rfl)
