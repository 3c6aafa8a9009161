theorem dX8_tryStatement_0 : decode cX8_tryStatement 0 = .ok (.new 143, 3) := by decide +kernel
theorem dX8_tryStatement_3 : decode cX8_tryStatement 3 = .ok (.dup, 1) := by decide +kernel
theorem dX8_tryStatement_4 : decode cX8_tryStatement 4 = .ok (.bipush 32, 2) := by decide +kernel
theorem dX8_tryStatement_6 : decode cX8_tryStatement 6 = .ok (.aload_n 0, 1) := by decide +kernel
theorem dX8_tryStatement_7 : decode cX8_tryStatement 7 = .ok (.getfield 17, 3) := by decide +kernel
theorem dX8_tryStatement_10 : decode cX8_tryStatement 10 = .ok (.aload_n 0, 1) := by decide +kernel
theorem dX8_tryStatement_11 : decode cX8_tryStatement 11 = .ok (.getfield 17, 3) := by decide +kernel
theorem dX8_tryStatement_14 : decode cX8_tryStatement 14 = .ok (.invokespecial 145, 3) := by decide +kernel
theorem dX8_tryStatement_17 : decode cX8_tryStatement 17 = .ok (.astore_n 1, 1) := by decide +kernel
theorem dX8_tryStatement_18 : decode cX8_tryStatement 18 = .ok (.aload_n 0, 1) := by decide +kernel
theorem dX8_tryStatement_19 : decode cX8_tryStatement 19 = .ok (.dup, 1) := by decide +kernel
theorem dX8_tryStatement_20 : decode cX8_tryStatement 20 = .ok (.getfield 17, 3) := by decide +kernel
theorem dX8_tryStatement_23 : decode cX8_tryStatement 23 = .ok (.iconst 1, 1) := by decide +kernel
theorem dX8_tryStatement_24 : decode cX8_tryStatement 24 = .ok (.iadd, 1) := by decide +kernel
theorem dX8_tryStatement_25 : decode cX8_tryStatement 25 = .ok (.putfield 17, 3) := by decide +kernel
theorem dX8_tryStatement_28 : decode cX8_tryStatement 28 = .ok (.aload_n 1, 1) := by decide +kernel
theorem dX8_tryStatement_29 : decode cX8_tryStatement 29 = .ok (.aload_n 0, 1) := by decide +kernel
theorem dX8_tryStatement_30 : decode cX8_tryStatement 30 = .ok (.invokevirtual 120, 3) := by decide +kernel
theorem dX8_tryStatement_33 : decode cX8_tryStatement 33 = .ok (.putfield 165, 3) := by decide +kernel
theorem dX8_tryStatement_36 : decode cX8_tryStatement 36 = .ok (.aconst_null, 1) := by decide +kernel
theorem dX8_tryStatement_37 : decode cX8_tryStatement 37 = .ok (.astore_n 2, 1) := by decide +kernel
theorem dX8_tryStatement_38 : decode cX8_tryStatement 38 = .ok (.iconst 0, 1) := by decide +kernel
theorem dX8_tryStatement_39 : decode cX8_tryStatement 39 = .ok (.istore_n 3, 1) := by decide +kernel
theorem dX8_tryStatement_40 : decode cX8_tryStatement 40 = .ok (.iload_n 3, 1) := by decide +kernel
theorem dX8_tryStatement_41 : decode cX8_tryStatement 41 = .ok (.aload_n 0, 1) := by decide +kernel
theorem dX8_tryStatement_42 : decode cX8_tryStatement 42 = .ok (.getfield 7, 3) := by decide +kernel
theorem dX8_tryStatement_45 : decode cX8_tryStatement 45 = .ok (.getfield 27, 3) := by decide +kernel
theorem dX8_tryStatement_48 : decode cX8_tryStatement 48 = .ok (.if_icmp .ge 45, 3) := by decide +kernel
theorem dX8_tryStatement_93 : decode cX8_tryStatement 93 = .ok (.aload_n 2, 1) := by decide +kernel
theorem dX8_tryStatement_94 : decode cX8_tryStatement 94 = .ok (.ifnonnull 16, 3) := by decide +kernel
theorem dX8_tryStatement_97 : decode cX8_tryStatement 97 = .ok (.aload_n 0, 1) := by decide +kernel
theorem dX8_tryStatement_98 : decode cX8_tryStatement 98 = .ok (.bipush 9, 2) := by decide +kernel
theorem dX8_tryStatement_100 : decode cX8_tryStatement 100 = .ok (.invokevirtual 36, 3) := by decide +kernel
theorem dX8_tryStatement_103 : decode cX8_tryStatement 103 = .ok (.ifCond .ne 7, 3) := by decide +kernel
theorem dX8_tryStatement_110 : decode cX8_tryStatement 110 = .ok (.aload_n 0, 1) := by decide +kernel
theorem dX8_tryStatement_111 : decode cX8_tryStatement 111 = .ok (.bipush 9, 2) := by decide +kernel
theorem dX8_tryStatement_113 : decode cX8_tryStatement 113 = .ok (.invokevirtual 80, 3) := by decide +kernel
theorem dX8_tryStatement_116 : decode cX8_tryStatement 116 = .ok (.ifCond .eq 11, 3) := by decide +kernel
theorem dX8_tryStatement_127 : decode cX8_tryStatement 127 = .ok (.aload_n 1, 1) := by decide +kernel
theorem dX8_tryStatement_128 : decode cX8_tryStatement 128 = .ok (.areturn, 1) := by decide +kernel
theorem dX8_tryStatement_119 : decode cX8_tryStatement 119 = .ok (.aload_n 1, 1) := by decide +kernel
theorem dX8_tryStatement_120 : decode cX8_tryStatement 120 = .ok (.aload_n 0, 1) := by decide +kernel
theorem dX8_tryStatement_121 : decode cX8_tryStatement 121 = .ok (.invokevirtual 120, 3) := by decide +kernel
theorem dX8_tryStatement_124 : decode cX8_tryStatement 124 = .ok (.putfield 236, 3) := by decide +kernel
theorem dX8_tryStatement_106 : decode cX8_tryStatement 106 = .ok (.aload_n 0, 1) := by decide +kernel
theorem dX8_tryStatement_107 : decode cX8_tryStatement 107 = .ok (.invokevirtual 67, 3) := by decide +kernel
theorem dX8_tryStatement_51 : decode cX8_tryStatement 51 = .ok (.aload_n 0, 1) := by decide +kernel
theorem dX8_tryStatement_52 : decode cX8_tryStatement 52 = .ok (.iconst 3, 1) := by decide +kernel
theorem dX8_tryStatement_53 : decode cX8_tryStatement 53 = .ok (.invokevirtual 36, 3) := by decide +kernel
theorem dX8_tryStatement_56 : decode cX8_tryStatement 56 = .ok (.ifCond .eq 37, 3) := by decide +kernel
theorem dX8_tryStatement_59 : decode cX8_tryStatement 59 = .ok (.aload_n 0, 1) := by decide +kernel
theorem dX8_tryStatement_60 : decode cX8_tryStatement 60 = .ok (.invokevirtual 242, 3) := by decide +kernel
theorem dX8_tryStatement_63 : decode cX8_tryStatement 63 = .ok (.astore 4, 2) := by decide +kernel
theorem dX8_tryStatement_65 : decode cX8_tryStatement 65 = .ok (.aload_n 2, 1) := by decide +kernel
theorem dX8_tryStatement_66 : decode cX8_tryStatement 66 = .ok (.ifnonnull 12, 3) := by decide +kernel
theorem dX8_tryStatement_69 : decode cX8_tryStatement 69 = .ok (.aload_n 1, 1) := by decide +kernel
theorem dX8_tryStatement_70 : decode cX8_tryStatement 70 = .ok (.aload 4, 2) := by decide +kernel
theorem dX8_tryStatement_72 : decode cX8_tryStatement 72 = .ok (.putfield 230, 3) := by decide +kernel
theorem dX8_tryStatement_75 : decode cX8_tryStatement 75 = .ok (.goto 9, 3) := by decide +kernel
theorem dX8_tryStatement_84 : decode cX8_tryStatement 84 = .ok (.aload 4, 2) := by decide +kernel
theorem dX8_tryStatement_86 : decode cX8_tryStatement 86 = .ok (.astore_n 2, 1) := by decide +kernel
theorem dX8_tryStatement_87 : decode cX8_tryStatement 87 = .ok (.iinc 3 1, 3) := by decide +kernel
theorem dX8_tryStatement_90 : decode cX8_tryStatement 90 = .ok (.goto (-50), 3) := by decide +kernel
theorem dX8_tryStatement_78 : decode cX8_tryStatement 78 = .ok (.aload_n 2, 1) := by decide +kernel
theorem dX8_tryStatement_79 : decode cX8_tryStatement 79 = .ok (.aload 4, 2) := by decide +kernel
theorem dX8_tryStatement_81 : decode cX8_tryStatement 81 = .ok (.putfield 168, 3) := by decide +kernel
theorem hV_X8_catchBlock : yX8_catchBlock.cls = RX8 ∧ yX8_catchBlock.cls ≠ "java/lang/invoke/MethodHandle" ∧ yX8_catchBlock.cls ≠ "java/lang/invoke/VarHandle" ∧ (parseMethodDescriptor yX8_catchBlock.desc).map (fun d => d.parameters.length) = some 0 := by decide +kernel
set_option maxHeartbeats 40000000 in
set_option maxRecDepth 100000 in
theorem P_try (l : Launch) (G : pT) (h0 : Nat) (a : Nat → Nat) (F : Nat → Int32) (R : Nat → Value) (Z : Int64) (B : Nat → Nat → Int32) (J : Nat → Nat → Int64) (K : PK) (w : va_W) (n : Nat) (at9 : Nat) (sz : Nat) (dp : Nat) (sg : Nat) (O : Nat) (g : Nat → Nat → Nat) (hsz : sz ≤ 5000) (hat : at9 ≤ sz) (hdp : dp + n = 20) (hsg : sg ≤ 60) (hwn : WN K g) (how : ∀ o : Nat, O = o + 1 → K.1 o = 1 ∧ g 0 o = 0 ∧ ¬ K.2.1 0 o = 32) (hle : at9 + 1 ≤ sz) (ist : PSt l G n) (hO : OKP G h0 a (upd (upd (upd (upd F 2 (nI sz)) 9 (nI at9)) 10 (nI dp)) 11 (nI sg)) R Z B J K w) (hl0 : l.stackTraces = false) : PBn l G pX0 yX8_tryStatement cX8_tryStatement 5 (some (.object "JinjaTongue$Node")) ({ frames := (50 * n + 58), cells := (2 * (sz - at9) + 20), slots := (11 * (2 * (sz - at9) + 20)), locals := (1500 * n + 1650) }) [.ref (a 3)] w (fun (v : Option Value) (u : va_W × (Nat × PK × (Nat → Nat → Nat) × Nat × Nat × (Nat → Int32) × Nat)) => v = some (.ref u.2.1) ∧ (NwR K u.2.2.1 g u.2.2.2.1 u.2.1 O u.2.2.2.2.2.2.2 ((173 + 3 * (20 - dp)))) ∧ (rS u.2.2.2.2.2.2.2 = at9 ∧ rE u.2.2.2.2.2.2.2 ≤ u.2.2.2.2.1 ∧ rS u.2.2.2.2.2.2.2 ≤ rE u.2.2.2.2.2.2.2 ∧ rD u.2.2.2.2.2.2.2 ≤ 2 * (20 - dp) + 2) ∧ (at9 + 3 ≤ u.2.2.2.2.1 ∧ u.2.2.2.2.1 ≤ sz) ∧ (sg ≤ u.2.2.2.2.2.1 ∧ u.2.2.2.2.2.1 ≤ 60) ∧ (¬ u.2.2.1.2.1 0 u.2.1 = 22) ∧ (NwT (B 7) sz (B 10) u.2.2.2.2.2.2.1 K u.2.2.1 at9 u.2.2.2.2.1) ∧ (OKP G h0 a (upd (upd (upd (upd F 2 (nI sz)) 9 (nI u.2.2.2.2.1)) 10 (nI dp)) 11 (nI u.2.2.2.2.2.1)) R Z (updA B 10 u.2.2.2.2.2.2.1) J u.2.2.1 u.1)) (fun u => u.1) (fun (u : va_W × (Nat × PK × (Nat → Nat → Nat) × Nat × Nat × (Nat → Int32) × Nat)) => (2 * (u.2.2.2.2.1 - at9) - 4)) (fun (u : va_W × (Nat × PK × (Nat → Nat → Nat) × Nat × Nat × (Nat → Int32) × Nat)) => (11 * (2 * (u.2.2.2.2.1 - at9) - 4))) (fun (u : va_W × (Nat → Int32) × (Nat → Value) × (Nat → Nat → Int32)) => ThQ G h0 a (upd (upd (upd (upd F 2 (nI sz)) 9 (nI at9)) 10 (nI dp)) 11 (nI sg)) R Z B J u) (fun u => u.1) := by
  intro sz
  refine vx_ofW (cc := cX8_tryStatement) (maxL := 5) (ret := (some (.object "JinjaTongue$Node"))) (by decide) rfl ?_
  intro p e s m args below meth c s₁ B9 hml hnt hv
  obtain ⟨rfl, hsz, hP, hD0, hE, hX⟩ := hv
  have hx := B9.exec
  have hb := B9.bytes
  have hr := B9.returns
  have hts := atoms_spec (ws := Cond.code yX8_tryStatement cX8_tryStatement 5 (some (.object "JinjaTongue$Node")) :: pw) B9.pre
  have hq : ∀ w ∈ pw, w.before _ s = true := fun w h => hts w (List.mem_cons_of_mem _ h)
  have hown : s.vm.findClass RX8 = some m.cls := findClass_of_methodNamed B9.named
  have hlocks := B9.notSynchronized
  subst hsz
  have hD := hD0.self (sz := s.heap.size)
  have hA : ∀ q : Nat, s.heap.size ≤ q → va_A w s.heap.size q := fun q h => Or.inr h
  generalize va_A w s.heap.size = A at hD hE hA ⊢
  have hS : va_S A s.heap s.heap [] := va_S.rf
  have hl := lv_entry ([.ref (a 3)]) (n := 5) (Nat.le_of_ble_eq_true rfl)
  rw [lg_entry_eq]
  generalize (lg_sl ([.ref (a 3)]) ++ List.replicate (5 - (lg_sl ([.ref (a 3)])).length) Slot.unset).toArray = ls at hl ⊢
  have hl : lv_has ls 5 [(0, .ref (a 3))] := hl
  have htk0 : NwT (B 7) sz (B 10) (B 10) K K at9 at9 := NwT.nil
  have hns0 : NwS K K g g := NwS.nil hwn
  refine p_new (s9 := 1) (C := RX7) (T := TX7) (N := 11) (ci := 13) (fs := [.int 0, .int 0, .int 0, .int 0, .int 0, .int 0, .null, .null, .null, .null, .null]) hx hb hq pin_wsX70 tyX7 tyX7_ok hown (hq _ pw_870) (hq _ pw_871) (hq _ pw_872) hE hP hD hS hA hO rfl nw_X7 (by decide) (fun q => by rw [rep_1 (show (kN K q 1 0).1 q = 1 from if_pos rfl)]; unfold fsNode kN; simp only [if_true]; rfl) (by show 0 + 1 ≤ (2 * (sz - at9) + 20); omega) (by show 0 + 11 ≤ (11 * (2 * (sz - at9) + 20)); omega) dX8_tryStatement_0 (fun q1 H w hq2 hP hD hS hO => ?_)
  have hf3 : (kN K q1 1 0).1 q1 = 1 := if_pos rfl
  refine W.widen (k := 1) (n := 11) (by show 0 + 1 ≤ 1; omega) (by show 0 + 11 ≤ 11; omega) ?_
  refine lv_dup hx hb dX8_tryStatement_3 rfl ?_
  refine lv_bipush (v := 32) hx hb dX8_tryStatement_4 (by decide) ?_
  refine lv_aload_n hx hb dX8_tryStatement_6 rfl (lv_at hl 0 rfl) ?_
  refine c_get (v := .int (nI at9)) (C := RX8) (Tc := TX8) (N := 5) (ci := 5) hx hb hq pin_wsX80 hown hE hP hO 23 (sg_23 G h0 a _ _ _ _ _) rfl 2 (by decide) (hq _ pw_776) (fun _ h9 => h9) rfl dX8_tryStatement_7 ?_
  refine lv_aload_n hx hb dX8_tryStatement_10 rfl (lv_at hl 0 rfl) ?_
  refine c_get (v := .int (nI at9)) (C := RX8) (Tc := TX8) (N := 5) (ci := 5) hx hb hq pin_wsX80 hown hE hP hO 23 (sg_23 G h0 a _ _ _ _ _) rfl 2 (by decide) (hq _ pw_776) (fun _ h9 => h9) rfl dX8_tryStatement_11 ?_
  have hO : OKP G h0 a (upd (upd (upd (upd F 2 (nI sz)) 9 (nI at9)) 10 (nI dp)) 11 (nI sg)) R Z B J (kN K q1 1 0) w := hO.to rfl
  obtain ⟨qr7, hqr8⟩ := p_recv hO (by rw [hf3]; decide) (rep_1 hf3)
  refine pc_I0 (G := G) (As := [.int 32, .int (nI at9), .int (nI at9)]) (rest := [.ref q1]) hx hb hml hown hq hE hX pX0_al hP hD hS hA hl.1 (N_init l G h0 a (upd (upd (upd (upd F 2 (nI sz)) 9 (nI at9)) 10 (nI dp)) 11 (nI sg)) R Z B J (kN K q1 1 0) w q1 32 (nI at9) (nI at9) (by omega) hO) pw_874 pw_875 pw_872 pw_765 rfl hS_X7_init rfl (Nat.le_of_ble_eq_true rfl) dX8_tryStatement_14 ⟨(by show 1 + 0 ≤ (2 * (sz - at9) + 20); omega), (by show 11 + 0 ≤ (11 * (2 * (sz - at9) + 20)); omega)⟩ ⟨(by show 2 + 1 ≤ (50 * n + 58); omega), (by show 8 + (4 + 11) + 60 ≤ (1500 * n + 1650); omega)⟩ (fun v6 u4 H locs hw5 hP hD hS => ?_)
  obtain ⟨w, _⟩ := u4
  obtain ⟨hw5, hO⟩ := hw5
  obtain rfl : v6 = none := hw5
  have hf9 : (kI (kI (kI (kN K q1 1 0) 0 q1 32) 1 q1 (nI at9)) 2 q1 (nI at9)).1 q1 = 1 := hf3
  have hO : OKP G h0 a (upd (upd (upd (upd F 2 (nI sz)) 9 (nI at9)) 10 (nI dp)) 11 (nI sg)) R Z B J (kI (kI (kI (kN K q1 1 0) 0 q1 32) 1 q1 (nI at9)) 2 q1 (nI at9)) w := hO.to rfl
  refine W.widen (k := 1) (n := 11) (by show 1 + 0 ≤ 1; omega) (by show 11 + 0 ≤ 11; omega) ?_
  refine W.eq (g2 := F0 m 17 ls [.ref q1]) rfl ?_
  change OKP G h0 a (upd (upd (upd (upd F 2 (nI sz)) 9 (nI at9)) 10 (nI dp)) 11 (nI sg)) R Z B J (mkN K q1 32 (nI at9) (nI at9)) w at hO
  obtain ⟨K10, hK11⟩ : ∃ z : PK, z = (mkN K q1 32 (nI at9) (nI at9)) := ⟨_, rfl⟩
  rw [← hK11] at hO
  have htk12 : NwT (B 7) sz (B 10) (B 10) K K10 at9 at9 := by rw [hK11]; exact NwT.new (NwT.le htk0 (show _ ≤ at9 by omega)) hq2 (TkP.no (by decide))
  have hf13 : K10.1 q1 = 1 := by rw [hK11]; exact mkN_T
  have hf14 : K10.2.1 0 q1 = 32 := by rw [hK11]; exact mkN_0
  have hf15 : K10.2.1 2 q1 = (nI at9) := by rw [hK11]; exact mkN_2
  have hf16 : K10.2.2.1 0 q1 = none := by rw [hK11]; exact mkN_C
  have hf17 : K10.2.2.1 1 q1 = none := by rw [hK11]; exact mkN_C
  have hf18 : K10.2.2.1 2 q1 = none := by rw [hK11]; exact mkN_C
  have hf19 : K10.2.2.1 3 q1 = none := by rw [hK11]; exact mkN_C
  have hf20 : K10.2.2.1 4 q1 = none := by rw [hK11]; exact mkN_C
  have hns21 : NwS K K10 g (gset g q1 0 0 0) := by rw [hK11]; exact NwS.node hns0 hq2
  have hq22 : K.1 q1 = 0 := old_T hns0.2.1 hq2
  have hg23 : (gset g q1 0 0 0) 0 q1 = 0 := gset_0
  have hno24 : NoO K10 (gset g q1 0 0 0) q1 := by rw [hK11]; exact NoO.new hns0.1 hq2
  refine lv_astore_n (lv' := [(1, .ref q1), (0, .ref (a 3))]) hx hb dX8_tryStatement_17 rfl hl (by decide) rfl (fun ls hl => ?_)
  refine lv_aload_n hx hb dX8_tryStatement_18 rfl (lv_at hl 1 rfl) ?_
  refine lv_dup hx hb dX8_tryStatement_19 rfl ?_
  refine c_get (v := .int (nI at9)) (C := RX8) (Tc := TX8) (N := 5) (ci := 5) hx hb hq pin_wsX80 hown hE hP hO 23 (sg_23 G h0 a _ _ _ _ _) rfl 2 (by decide) (hq _ pw_776) (fun _ h9 => h9) rfl dX8_tryStatement_20 ?_
  refine lv_iconst (v := 1) hx hb dX8_tryStatement_23 (by decide) ?_
  refine lv_iadd hx hb dX8_tryStatement_24 ?_
  refine lv_topi (fun x25 e26 => ?_)
  obtain rfl : x25 = nI (at9 + 1) := e26.trans (nI_add (at9) (1))
  refine c_put (v := .int (nI (at9 + 1))) (ty := .int) (C := RX8) (Tc := TX8) (N := 5) (ci := 5) hx hb hq pin_wsX80 tyX8 tyX8_ok nmX8 hown hE hP hD hS hO 23 (sg_23 G h0 a _ _ _ _ _) rfl 2 (by decide) (hq _ pw_776) (fun _ h9 => h9) rfl (by decide +kernel) rfl rfl (Nat.le_of_ble_eq_true rfl) (sf_9 G h0 a _ _ _ _ _ (nI (at9 + 1))) dX8_tryStatement_25 (fun H locs w hP hD hS hO => ?_)
  refine lv_aload_n hx hb dX8_tryStatement_28 rfl (lv_at hl 0 rfl) ?_
  refine lv_aload_n hx hb dX8_tryStatement_29 rfl (lv_at hl 1 rfl) ?_
  have hO : OKP G h0 a (upd (upd (upd (upd (upd (upd (upd (upd (upd F 2 (nI sz)) 9 (nI at9)) 10 (nI dp)) 11 (nI sg)) 9 (nI (at9 + 1))) 2 (nI sz)) 9 (nI (at9 + 1))) 10 (nI dp)) 11 (nI sg)) R Z B J K10 w := hO.to rfl
  obtain ⟨_, qr30, hqr31⟩ := hO.2.1 23 _ (sg_23 G h0 a _ _ _ _ _)
  refine pn_V0 (G := G) (As := []) (rest := [.ref q1]) hx hb hml hown hq hE hX pX0_al hP hD hS hA hl.1 (P_block l G h0 a (upd (upd (upd (upd (upd F 2 (nI sz)) 9 (nI at9)) 10 (nI dp)) 11 (nI sg)) 9 (nI (at9 + 1))) R Z B J K10 w n (at9 + 1) sz dp sg 0 (gset g q1 0 0 0) (by omega) (by omega) hdp (by omega) hns21.1 (fun o9 h9 => absurd h9 (by omega)) ist hO hl0) (gV pw_1007 pw_1008 pw_1009 pw_796 pw_1056) hV_X8_block qr30 5 hqr31 rfl rfl rfl (Nat.le_of_ble_eq_true rfl) dX8_tryStatement_30 ⟨(by show 1 + (2 * (sz - (at9 + 1)) + 20) ≤ (2 * (sz - at9) + 20); omega), (by show 11 + (11 * (2 * (sz - (at9 + 1)) + 20)) ≤ (11 * (2 * (sz - at9) + 20)); omega)⟩ ⟨(by show (50 * n + 54) + 1 ≤ (50 * n + 58); omega), (by show 8 + (5 + 11) + (1500 * n + 1560) ≤ (1500 * n + 1650); omega)⟩ (fun v29 u27 H locs hw28 hP hD hS => ?_) (fun ux ce9 q9 H9 locs9 hux hP9 hD9 hS9 hce hcv hcl => pb_out ux (ThQ.up (Thx.same (Thx.same (Thx.same (Thx.same (Thx.f Thx.rfl (by omega)) rfl) rfl) rfl) rfl) RhX.rfl hux) hnt hlocks hce hcv hcl hP9 hD9 hS9 (by show 1 + (2 * (sz - (at9 + 1)) + 20) ≤ (2 * (sz - at9) + 20); omega) (by show 11 + (11 * (2 * (sz - (at9 + 1)) + 20)) ≤ (11 * (2 * (sz - at9) + 20)); omega))
  obtain ⟨w, r32, K33, g34, at35, sg36, f37, k38⟩ := u27
  obtain ⟨hw28, h39, h40, h41, h42, h43, h44, h45, hO⟩ := hw28
  have h39 : NwR K10 K33 (gset g q1 0 0 0) g34 r32 0 k38 ((171 + 3 * (20 - dp))) := h39
  have h40 : rS k38 = (at9 + 1) ∧ rE k38 ≤ at35 ∧ rS k38 ≤ rE k38 ∧ rD k38 ≤ 2 * (20 - dp) := h40
  have h41 : (at9 + 1) + 2 ≤ at35 ∧ at35 ≤ sz := h41
  have h42 : sg ≤ sg36 ∧ sg36 ≤ 60 := h42
  have h43 : K33.2.1 0 r32 = 21 := h43
  have h44 : rS k38 + 2 ≤ rE k38 := h44
  have h45 : NwT ((B 7)) sz ((B 10)) f37 K10 K33 (at9 + 1) at35 := h45
  obtain rfl : v29 = some (.ref r32) := hw28
  have hf46 : K33.1 q1 = 1 := (((h39).2.1.1 q1 (by rw [hf13]; decide)).1).trans hf13
  have hf47 : K33.2.1 0 q1 = 32 := (((h39).2.1.1 q1 (by rw [hf13]; decide)).2.1 0).trans hf14
  have hf48 : K33.2.1 2 q1 = (nI at9) := (((h39).2.1.1 q1 (by rw [hf13]; decide)).2.1 2).trans hf15
  have hf49 : K33.2.2.1 0 q1 = none := (((h39).2.1.1 q1 (by rw [hf13]; decide)).2.2.1 0).trans hf16
  have hf50 : K33.2.2.1 1 q1 = none := (((h39).2.1.1 q1 (by rw [hf13]; decide)).2.2.1 1).trans hf17
  have hf51 : K33.2.2.1 2 q1 = none := (((h39).2.1.1 q1 (by rw [hf13]; decide)).2.2.1 2).trans hf18
  have hf52 : K33.2.2.1 3 q1 = none := (((h39).2.1.1 q1 (by rw [hf13]; decide)).2.2.1 3).trans hf19
  have hf53 : K33.2.2.1 4 q1 = none := (((h39).2.1.1 q1 (by rw [hf13]; decide)).2.2.1 4).trans hf20
  have hO : OKP G h0 a (upd (upd (upd (upd F 2 (nI sz)) 9 (nI at35)) 10 (nI dp)) 11 (nI sg36)) R Z (updA B 10 f37) J K33 w := hO.to rfl
  refine W.widen (k := (1 + (2 * (at35 - (at9 + 1)) - 3))) (n := (11 + (11 * (2 * (at35 - (at9 + 1)) - 3)))) (by show 1 + (2 * (at35 - (at9 + 1)) - 3) ≤ (1 + (2 * (at35 - (at9 + 1)) - 3)); omega) (by show 11 + (11 * (2 * (at35 - (at9 + 1)) - 3)) ≤ (11 + (11 * (2 * (at35 - (at9 + 1)) - 3))); omega) ?_
  refine W.eq (g2 := F0 m 33 ls [.ref r32, .ref q1]) rfl ?_
  have htk54 : NwT (B 7) sz (B 10) f37 K K33 at9 at35 := (NwT.call htk12 h45 (by omega))
  have hns55 : NwS K K33 g g34 := NwS.call hns21 h39 (fun o9 h9 => absurd h9 (by omega))
  have hrk56 : g34 2 r32 = k38 := h39.2.2.1.2.2.2.2.2.1
  have hf57 : K33.1 r32 = 1 := h39.2.2.1.2.1
  have hg58 : g34 0 q1 = 0 := (h39.2.1.2 q1 (by rw [hf13]; decide) 0).trans hg23
  have hno59 : NoO K33 g34 q1 := NoO.call hno24 h39 hf13 (by omega)
  have hgy60 := h39.2.2.1
  have hgy60a := hgy60.2.2.1
  have hgy60b := hgy60.2.2.2.1
  refine p_put (v := .ref r32) (ty := (.object "JinjaTongue$Node")) (C := RX7) (Tc := TX7) (N := 11) (ci := 13) (K' := (kC K33 0 q1 (some r32))) hx hb hq pin_wsX70 tyX7 tyX7_ok nmX7 hown hE hP hD hS hO (by rw [hf46]; decide) (rep_1 hf46) rfl 6 (by decide) (hq _ pw_938) (fun _ h9 => h9) rfl (by decide +kernel) rfl rfl (Nat.le_of_ble_eq_true rfl) rfl (by rw [rep_1 (show (kC K33 0 q1 (some r32)).1 q1 = 1 from hf46), pc_0] <;> rfl) (fun p9 hp9 => rep_kC hp9) dX8_tryStatement_33 (fun H locs w hP hD hS hO => ?_)
  obtain ⟨K61, hK62⟩ : ∃ z : PK, z = (kC K33 0 q1 (some r32)) := ⟨_, rfl⟩
  rw [← hK62] at hO
  have hf63 : K61.1 q1 = 1 := (by rw [hK62]; exact hf46)
  have hf64 : K61.2.1 0 q1 = 32 := (by rw [hK62]; exact hf47)
  have hf65 : K61.2.1 2 q1 = (nI at9) := (by rw [hK62]; exact hf48)
  have hf66 : K61.2.2.1 1 q1 = none := (by rw [hK62]; exact (kC_of (by decide)).trans hf50)
  have hf67 : K61.2.2.1 2 q1 = none := (by rw [hK62]; exact (kC_of (by decide)).trans hf51)
  have hf68 : K61.2.2.1 3 q1 = none := (by rw [hK62]; exact (kC_of (by decide)).trans hf52)
  have hf69 : K61.2.2.1 4 q1 = none := (by rw [hK62]; exact (kC_of (by decide)).trans hf53)
  have hf70 : K61.1 r32 = 1 := (by rw [hK62]; exact hf57)
  have hf71 : K61.2.1 0 r32 = 21 := (by rw [hK62]; exact h43)
  have hf72 : K61.2.2.1 0 q1 = some r32 := by rw [hK62]; exact kC_eq
  have htk73 : NwT (B 7) sz (B 10) f37 K K61 at9 at35 := by rw [hK62]; exact NwT.put htk54
  have hns74 : NwS K K61 g g34 := by rw [hK62]; exact NwS.put hns55 hq22 hg58
  have hno75 : NoO K61 g34 q1 := by rw [hK62]; exact hno59
  refine lv_null hx hb dX8_tryStatement_36 ?_
  refine lv_astore_nN (lv' := [(2, .null), (1, .ref q1), (0, .ref (a 3))]) hx hb dX8_tryStatement_37 rfl hl (by decide) rfl (fun ls hl => ?_)
  refine lv_iconst (v := 0) hx hb dX8_tryStatement_38 (by decide) ?_
  refine lv_istore_n (lv' := [(3, .int 0), (2, .null), (1, .ref q1), (0, .ref (a 3))]) hx hb dX8_tryStatement_39 rfl hl (by decide) rfl (fun ls hl => ?_)
  have loop_i : ∀ (n_i : Nat) (i2 : Nat) (at2 : Nat) (sg2 : Nat) (f2 : Nat → Int32) (la2 : Option Nat) (K2 : PK) (g2 : Nat → Nat → Nat) (q2 : Nat) (xa : Nat) (ka : Nat) (H : Heap) (locs : List Loc) (ls : Array Slot) (w : va_W), i2 ≤ sz → sz + 1 ≤ i2 + n_i → (at9 + 3 ≤ at2 ∧ at2 ≤ sz) → (sg ≤ sg2 ∧ sg2 ≤ 60) → (LsN K K2 g g2 q2 1 (172 + 3 * (20 - dp)) (rE ka) at2 (2 * (20 - dp))) → (K2.2.1 0 q2 = 32) → (K2.2.2.1 2 q2 = none) → (K2.2.2.1 3 q2 = none) → (K2.2.2.1 4 q2 = none) → (K2.2.2.1 0 q2 = some xa) → (K2.1 xa = 1) → (K2.2.1 0 xa = 21) → (1 ≤ g2 0 xa ∧ g2 0 xa ≤ (171 + 3 * (20 - dp))) → (g2 2 xa = ka) → (rS ka = at9 + 1 ∧ rE ka ≤ at2 ∧ rS ka + 2 ≤ rE ka ∧ rD ka ≤ 2 * (20 - dp)) → (LaS K K2 g2 q2 at2 la2) → (NwT (B 7) sz (B 10) f2 K K2 at9 at2) → va_P G.1 pCl w H → va_D A w → va_S A s.heap H locs → OKP G h0 a (upd (upd (upd (upd F 2 (nI sz)) 9 (nI at2)) 10 (nI dp)) 11 (nI sg2)) R Z (updA B 10 f2) J K2 w → lv_has ls 5 [(3, .int (nI i2)), (2, va_rf la2), (1, .ref q2), (0, .ref (a 3))] → W p l e (headSpec (Cond.code yX8_tryStatement cX8_tryStatement 5 (some (.object "JinjaTongue$Node")) :: pw) ({ frames := (50 * n + 58), cells := (2 * (sz - at9) + 20), slots := (11 * (2 * (sz - at9) + 20)), locals := (1500 * n + 1650) } : Room)).room s m ([.ref (a 3)] : List Value).toArray below meth c H locs (2 * (at2 - at9) - 4) (11 * (2 * (at2 - at9) - 4)) (vx_MQ below (pQn G A (fun (v : Option Value) (u : va_W × (Nat × PK × (Nat → Nat → Nat) × Nat × Nat × (Nat → Int32) × Nat)) => v = some (.ref u.2.1) ∧ (NwR K u.2.2.1 g u.2.2.2.1 u.2.1 O u.2.2.2.2.2.2.2 ((173 + 3 * (20 - dp)))) ∧ (rS u.2.2.2.2.2.2.2 = at9 ∧ rE u.2.2.2.2.2.2.2 ≤ u.2.2.2.2.1 ∧ rS u.2.2.2.2.2.2.2 ≤ rE u.2.2.2.2.2.2.2 ∧ rD u.2.2.2.2.2.2.2 ≤ 2 * (20 - dp) + 2) ∧ (at9 + 3 ≤ u.2.2.2.2.1 ∧ u.2.2.2.2.1 ≤ sz) ∧ (sg ≤ u.2.2.2.2.2.1 ∧ u.2.2.2.2.2.1 ≤ 60) ∧ (¬ u.2.2.1.2.1 0 u.2.1 = 22) ∧ (NwT (B 7) sz (B 10) u.2.2.2.2.2.2.1 K u.2.2.1 at9 u.2.2.2.2.1) ∧ (OKP G h0 a (upd (upd (upd (upd F 2 (nI sz)) 9 (nI u.2.2.2.2.1)) 10 (nI dp)) 11 (nI u.2.2.2.2.2.1)) R Z (updA B 10 u.2.2.2.2.2.2.1) J u.2.2.1 u.1)) (fun u => u.1) (fun (u : va_W × (Nat × PK × (Nat → Nat → Nat) × Nat × Nat × (Nat → Int32) × Nat)) => (2 * (u.2.2.2.2.1 - at9) - 4)) (fun (u : va_W × (Nat × PK × (Nat → Nat → Nat) × Nat × Nat × (Nat → Int32) × Nat)) => (11 * (2 * (u.2.2.2.2.1 - at9) - 4)))) (pXX G A (fun (u : va_W × (Nat → Int32) × (Nat → Value) × (Nat → Nat → Int32)) => ThQ G h0 a (upd (upd (upd (upd F 2 (nI sz)) 9 (nI at9)) 10 (nI dp)) 11 (nI sg)) R Z B J u) (fun u => u.1)) ([.ref (a 3)] : List Value).toArray s ({ frames := (50 * n + 58), cells := (2 * (sz - at9) + 20), slots := (11 * (2 * (sz - at9) + 20)), locals := (1500 * n + 1650) } : Room).cells ({ frames := (50 * n + 58), cells := (2 * (sz - at9) + 20), slots := (11 * (2 * (sz - at9) + 20)), locals := (1500 * n + 1650) } : Room).slots A) (F0 m 40 ls []) := by
    intro n_i
    induction n_i with
    | zero => intro i2 at2 sg2 f2 la2 K2 g2 q2 xa ka H locs ls w hk_i hn_i; omega
    | succ n_i ih_i =>
      intro i2 at2 sg2 f2 la2 K2 g2 q2 xa ka H locs ls w hk_i hn_i hat2 hsg2 hls2 hkd2 hc22 hc23 hc24 hxa hxT hxk hxg hxr hxi hla2 htki hP hD hS hO hl
      have hq2 := hls2.2.2.1
      refine lv_iload_n hx hb dX8_tryStatement_40 rfl (lv_at hl 0 rfl) ?_
      refine lv_aload_n hx hb dX8_tryStatement_41 rfl (lv_at hl 3 rfl) ?_
      refine c_get (v := .ref (a 1)) (C := RX8) (Tc := TX8) (N := 5) (ci := 5) hx hb hq pin_wsX80 hown hE hP hO 23 (sg_23 G h0 a _ _ _ _ _) rfl 0 (by decide) (hq _ pw_774) (fun _ h9 => h9) rfl dX8_tryStatement_42 ?_
      refine c_get (v := .int (nI sz)) (C := RX10) (Tc := TX10) (N := 15) (ci := 7) hx hb hq pin_wsX100 hown hE hP hO 2 (sg_2 G h0 a _ _ _ _ _) rfl 8 (by decide) (hq _ pw_792) (fun _ h9 => h9) rfl dX8_tryStatement_45 ?_
      refine lv_icmp_ge (tgt := 93) hx hb dX8_tryStatement_48 (by decide) (fun c76 => ?_) (fun c76 => ?_)
      · have n77 : sz ≤ i2 := (nI_leI (a := sz) (b := i2) (by omega) (by omega)).mp c76
        rcases la2 with _ | y9
        · have hl : lv_has ls 5 [(3, .int (nI i2)), (2, .null), (1, .ref q2), (0, .ref (a 3))] := hl
          refine lv_aload_nN hx hb dX8_tryStatement_93 rfl (lv_at hl 1 rfl) ?_
          refine lv_ifnonnullN hx hb dX8_tryStatement_94 ?_
          refine lv_aload_n hx hb dX8_tryStatement_97 rfl (lv_at hl 3 rfl) ?_
          refine lv_bipush (v := 9) hx hb dX8_tryStatement_98 (by decide) ?_
          have hO : OKW G h0 a (upd (upd (upd (upd (upd (upd F 2 (nI sz)) 9 (nI at2)) 10 (nI dp)) 11 (nI sg2)) 2 (nI sz)) 9 (nI at2)) R Z (updA B 10 f2) J K2.1 (fun q99 x99 => x99 = rep G a K2 q99) w := hO.to rfl
          obtain ⟨_, qr81, hqr82⟩ := hO.2.1 23 _ (sg_23 G h0 a _ _ _ _ _)
          refine pc_V0 (G := G) (As := [.int 9]) (rest := []) hx hb hml hown hq hE hX pX0_al hP hD hS hA hl.1 (P_sees l G h0 a (upd (upd (upd (upd F 2 (nI sz)) 9 (nI at2)) 10 (nI dp)) 11 (nI sg2)) R Z (updA B 10 f2) J K2.1 (fun q99 x99 => x99 = rep G a K2 q99) w 9 at2 sz (by omega) (by omega) hO) (gV pw_803 pw_804 pw_805 pw_796 pw_775) hV_X8_sees qr81 5 hqr82 rfl rfl rfl (Nat.le_of_ble_eq_true rfl) dX8_tryStatement_100 ⟨(by show (2 * (at2 - at9) - 4) + 0 ≤ (2 * (sz - at9) + 20); omega), (by show (11 * (2 * (at2 - at9) - 4)) + 0 ≤ (11 * (2 * (sz - at9) + 20)); omega)⟩ ⟨(by show 3 + 1 ≤ (50 * n + 58); omega), (by show 8 + (2 + 11) + 81 ≤ (1500 * n + 1650); omega)⟩ (fun v80 u78 H locs hw79 hP hD hS => ?_)
          obtain ⟨w, r83⟩ := u78
          obtain ⟨hw79, h84, h85, hO⟩ := hw79
          have h84 : r83 ≤ 1 := h84
          have h85 : SeQ ((B 7)) sz at2 9 r83 := h85
          obtain rfl : v80 = some (.int (nI r83)) := hw79
          have hO : OKP G h0 a (upd (upd (upd (upd F 2 (nI sz)) 9 (nI at2)) 10 (nI dp)) 11 (nI sg2)) R Z (updA B 10 f2) J K2 w := hO.to rfl
          refine W.widen (k := (2 * (at2 - at9) - 4)) (n := (11 * (2 * (at2 - at9) - 4))) (by show (2 * (at2 - at9) - 4) + 0 ≤ (2 * (at2 - at9) - 4); omega) (by show (11 * (2 * (at2 - at9) - 4)) + 0 ≤ (11 * (2 * (at2 - at9) - 4)); omega) ?_
          refine W.eq (g2 := F0 m 103 ls [.int (nI r83)]) rfl ?_
          refine lv_if_ne (tgt := 110) hx hb dX8_tryStatement_103 (by decide) (fun c86 => ?_) (fun c86 => ?_)
          · have n87 : ¬ (r83 = 0) := fun h9 => c86 ((nI_eq (a := r83) (b := 0) (by omega) (by omega)).mpr h9)
            refine lv_aload_n hx hb dX8_tryStatement_110 rfl (lv_at hl 3 rfl) ?_
            refine lv_bipush (v := 9) hx hb dX8_tryStatement_111 (by decide) ?_
            have hO : OKW G h0 a (upd (upd (upd (upd (upd (upd F 2 (nI sz)) 9 (nI at2)) 10 (nI dp)) 11 (nI sg2)) 2 (nI sz)) 9 (nI at2)) R Z (updA B 10 f2) J K2.1 (fun q99 x99 => x99 = rep G a K2 q99) w := hO.to rfl
            obtain ⟨_, qr91, hqr92⟩ := hO.2.1 23 _ (sg_23 G h0 a _ _ _ _ _)
            refine pc_V0 (G := G) (As := [.int 9]) (rest := []) hx hb hml hown hq hE hX pX0_al hP hD hS hA hl.1 (P_takeIf l G h0 a (upd (upd (upd (upd F 2 (nI sz)) 9 (nI at2)) 10 (nI dp)) 11 (nI sg2)) R Z (updA B 10 f2) J K2.1 (fun q99 x99 => x99 = rep G a K2 q99) w 9 at2 sz (by omega) (by omega) (by decide) hO) (gV pw_797 pw_798 pw_799 pw_796 pw_789) hV_X8_takeIf qr91 5 hqr92 rfl rfl rfl (Nat.le_of_ble_eq_true rfl) dX8_tryStatement_113 ⟨(by show (2 * (at2 - at9) - 4) + 0 ≤ (2 * (sz - at9) + 20); omega), (by show (11 * (2 * (at2 - at9) - 4)) + 0 ≤ (11 * (2 * (sz - at9) + 20)); omega)⟩ ⟨(by show 3 + 1 ≤ (50 * n + 58); omega), (by show 8 + (2 + 11) + 81 ≤ (1500 * n + 1650); omega)⟩ (fun v90 u88 H locs hw89 hP hD hS => ?_)
            obtain ⟨w, r93⟩ := u88
            obtain ⟨hw89, h94, h95, h96, hO⟩ := hw89
            have h94 : r93 ≤ 1 := h94
            have h95 : at2 + r93 ≤ sz := h95
            have h96 : SeQ ((B 7)) sz at2 9 r93 := h96
            obtain rfl : v90 = some (.int (nI r93)) := hw89
            have hO : OKP G h0 a (upd (upd (upd (upd F 2 (nI sz)) 9 (nI (at2 + r93))) 10 (nI dp)) 11 (nI sg2)) R Z (updA B 10 f2) J K2 w := hO.to rfl
            refine W.widen (k := (2 * (at2 - at9) - 4)) (n := (11 * (2 * (at2 - at9) - 4))) (by show (2 * (at2 - at9) - 4) + 0 ≤ (2 * (at2 - at9) - 4); omega) (by show (11 * (2 * (at2 - at9) - 4)) + 0 ≤ (11 * (2 * (at2 - at9) - 4)); omega) ?_
            refine W.eq (g2 := F0 m 116 ls [.int (nI r93)]) rfl ?_
            refine lv_if_eq (tgt := 127) hx hb dX8_tryStatement_116 (by decide) (fun c97 => ?_) (fun c97 => ?_)
            · have n98 : r93 = 0 := (nI_eq (a := r93) (b := 0) (by omega) (by omega)).mp c97
              refine lv_aload_n hx hb dX8_tryStatement_127 rfl (lv_at hl 2 rfl) ?_
              refine W_size (fun hz1 hz2 => ?_)
              refine vx_ret ?_
              have hkid : ∀ f9 y9 : Nat, f9 ≤ 3 → ¬ f9 = 1 → K2.2.2.1 f9 q2 = some y9 → K2.1 y9 = 1 ∧ 1 ≤ g2 0 y9 ∧ g2 0 y9 < (173 + 3 * (20 - dp)) := by
                intro f9 y9 hf9 hf1 hy9
                rcases (show f9 = 0 ∨ f9 = 2 ∨ f9 = 3 by omega) with rfl | rfl | rfl
                · rw [hxa] at hy9; cases hy9; exact ⟨hxT, by omega, by omega⟩
                · rw [hc22] at hy9; cases hy9
                · rw [hc23] at hy9; cases hy9
              obtain ⟨k9, k9I, hkS, hkE, hkM, hkN, hkX, hkD⟩ := rk_ex (s := at9) (e := (at2 + r93)) (m := (rE ka)) (n := at2) (x := at2) (d := (2 * (20 - dp) + 2)) (by omega)
              have hkch : ∀ f9 y9 : Nat, f9 ≤ 3 → K2.2.2.1 f9 q2 = some y9 → Kch (K2.2.1 0 q2) f9 (K2.2.1 0 y9) k9 (g2 2 y9) := by
                intro f9 y9 hf9 e9
                rw [hkd2]
                rcases (show f9 = 1 ∨ f9 = 0 ∨ f9 = 2 ∨ f9 = 3 by omega) with rfl | rfl | rfl | rfl
                · exact ⟨(fun _ z => absurd rfl z), (fun z => absurd z (by decide)), (fun z => absurd z (by decide)), (fun z => absurd z (by decide)), (fun z => absurd z (by decide)), (fun z => absurd z (by decide)), (fun z => absurd z (by decide)), (fun z => absurd z (by decide)), (fun z => absurd z (by decide)), (fun z => absurd z (by decide)), (fun z => absurd z (by decide)), (fun z => absurd z (by decide)), (fun z => absurd z (by decide)), (fun z => absurd z (by decide)), (fun z => absurd z (by decide)), (fun z => absurd z (by decide)), (fun z => absurd z (by decide)), (fun z => absurd z (by decide)), (fun z => absurd z (by decide)), (fun z => absurd z (by decide)), (fun z => absurd z (by decide)), (fun _ z => absurd z (by decide)), (fun _ z => absurd z (by decide)), (fun z => absurd z (by decide))⟩
                · rw [hxa] at e9; cases e9; rw [hxr]; exact ⟨(fun _ _ => hxk), (fun z => absurd z (by decide)), (fun z => absurd z (by decide)), (fun z => absurd z (by decide)), (fun z => absurd z (by decide)), (fun z => absurd z (by decide)), (fun z => absurd z (by decide)), (fun z => absurd z (by decide)), (fun z => absurd z (by decide)), (fun z => absurd z (by decide)), (fun z => absurd z (by decide)), (fun z => absurd z (by decide)), (fun z => absurd z (by decide)), (fun z => absurd z (by decide)), (fun z => absurd z (by decide)), (fun z => absurd z (by decide)), (fun z => absurd z (by decide)), (fun z => absurd z (by decide)), (fun z => absurd z (by decide)), (fun z => absurd z (by decide)), (fun z => absurd z (by decide)), (fun _ _ => ⟨hxk, (by omega)⟩), (fun _ z => absurd z (by decide)), (fun z => absurd z (by decide))⟩
                · rw [hc22] at e9; cases e9
                · rw [hc23] at e9; cases e9
              have hdn := LsN.done (L := (173 + 3 * (20 - dp))) (O := O) (k := k9) hls2 (by omega) (fun x9 => Owi.k32 hkd2 (by omega)) ⟨k9I, (by rw [hkd2]; exact ⟨(fun z => absurd z (by decide)), (fun z => absurd z (by decide)), (fun z => absurd z (by decide))⟩)⟩ (Shp.k32 hkd2 (by show ¬ K2.2.2.1 0 q2 = none; rw [hxa]; intro z; cases z)) (fun f9 => Lsf.k32 hkd2) hkid hc24 hkch how
              have hz99 : NwR K K2 g (gset g2 q2 (173 + 3 * (20 - dp)) O k9) q2 O k9 ((173 + 3 * (20 - dp))) := hdn
              have hz100 : rS k9 = at9 ∧ rE k9 ≤ (at2 + r93) ∧ rS k9 ≤ rE k9 ∧ rD k9 ≤ 2 * (20 - dp) + 2 := (by omega)
              have hz101 : at9 + 3 ≤ (at2 + r93) ∧ (at2 + r93) ≤ sz := (by omega)
              have hz102 : sg ≤ sg2 ∧ sg2 ≤ 60 := (by omega)
              have hz103 : ¬ K2.2.1 0 q2 = 22 := (by rw [hkd2]; decide)
              have hz104 : NwT (B 7) sz (B 10) f2 K K2 at9 (at2 + r93) := (NwT.le htki (by omega))
              have hO : OKP G h0 a (upd (upd (upd (upd F 2 (nI sz)) 9 (nI (at2 + r93))) 10 (nI dp)) 11 (nI sg2)) R Z (updA B 10 f2) J K2 w := hO.to rfl
              refine W.widen (k := (2 * (sz - at9) + 20)) (n := (11 * (2 * (sz - at9) + 20))) (by omega) (by omega) ?_
              have hzz1 : H.size ≤ s.heap.size + ((2 * ((at2 + r93) - at9) - 4)) := (by have z : (2 * (at2 - at9) - 4) ≤ (2 * ((at2 + r93) - at9) - 4) := (by omega); omega)
              have hzz2 : hSl H ≤ hSl s.heap + ((11 * (2 * ((at2 + r93) - at9) - 4))) := (by have z : (11 * (2 * (at2 - at9) - 4)) ≤ (11 * (2 * ((at2 + r93) - at9) - 4)) := (by omega); omega)
              exact W.aret (v := .ref q2) hx hb hr (Or.inl ⟨_, rfl⟩) (Or.inr ⟨_, rfl⟩) (fun t99 ht99 hW99 => ⟨⟨_, (w, (q2, K2, (gset g2 q2 (173 + 3 * (20 - dp)) O k9), (at2 + r93), sg2, f2, k9)), rfl, ⟨rfl, hz99, hz100, hz101, hz102, hz103, hz104, hO⟩, by rw [ht99]; exact hP, hD, by rw [ht99]; exact hzz1, by rw [ht99]; exact hzz2⟩, hS.F ht99⟩) hS.2.2 dX8_tryStatement_128
            · have n105 : ¬ (r93 = 0) := fun h9 => c97 ((nI_eq (a := r93) (b := 0) (by omega) (by omega)).mpr h9)
              refine lv_aload_n hx hb dX8_tryStatement_119 rfl (lv_at hl 2 rfl) ?_
              refine lv_aload_n hx hb dX8_tryStatement_120 rfl (lv_at hl 3 rfl) ?_
              have hO : OKP G h0 a (upd (upd (upd (upd (upd (upd (upd (upd (upd (upd F 2 (nI sz)) 9 (nI at9)) 10 (nI dp)) 11 (nI sg)) 9 (nI (at2 + r93))) 11 (nI sg2)) 2 (nI sz)) 9 (nI (at2 + r93))) 10 (nI dp)) 11 (nI sg2)) R Z (updA B 10 f2) J K2 w := hO.to rfl
              obtain ⟨_, qr109, hqr110⟩ := hO.2.1 23 _ (sg_23 G h0 a _ _ _ _ _)
              refine pn_V0 (G := G) (As := []) (rest := [.ref q2]) hx hb hml hown hq hE hX pX0_al hP hD hS hA hl.1 (P_block l G h0 a (upd (upd (upd (upd (upd (upd F 2 (nI sz)) 9 (nI at9)) 10 (nI dp)) 11 (nI sg)) 9 (nI (at2 + r93))) 11 (nI sg2)) R Z (updA B 10 f2) J K2 w n (at2 + r93) sz dp sg2 0 g2 (by omega) (by omega) hdp (by omega) hls2.1.1 (fun o9 h9 => absurd h9 (by omega)) ist hO hl0) (gV pw_1007 pw_1008 pw_1009 pw_796 pw_1056) hV_X8_block qr109 5 hqr110 rfl rfl rfl (Nat.le_of_ble_eq_true rfl) dX8_tryStatement_121 ⟨(by show (2 * (at2 - at9) - 4) + (2 * (sz - (at2 + r93)) + 20) ≤ (2 * (sz - at9) + 20); omega), (by show (11 * (2 * (at2 - at9) - 4)) + (11 * (2 * (sz - (at2 + r93)) + 20)) ≤ (11 * (2 * (sz - at9) + 20)); omega)⟩ ⟨(by show (50 * n + 54) + 1 ≤ (50 * n + 58); omega), (by show 8 + (5 + 11) + (1500 * n + 1560) ≤ (1500 * n + 1650); omega)⟩ (fun v108 u106 H locs hw107 hP hD hS => ?_) (fun ux ce9 q9 H9 locs9 hux hP9 hD9 hS9 hce hcv hcl => pb_out ux (ThQ.up (Thx.same (Thx.same (Thx.same (Thx.same (Thx.b (Thx.f (Thx.f Thx.rfl (by omega)) (by omega)) (by omega) (by decide)) rfl) rfl) rfl) rfl) RhX.rfl hux) hnt hlocks hce hcv hcl hP9 hD9 hS9 (by show (2 * (at2 - at9) - 4) + (2 * (sz - (at2 + r93)) + 20) ≤ (2 * (sz - at9) + 20); omega) (by show (11 * (2 * (at2 - at9) - 4)) + (11 * (2 * (sz - (at2 + r93)) + 20)) ≤ (11 * (2 * (sz - at9) + 20)); omega))
              obtain ⟨w, r111, K112, g113, at114, sg115, f116, k117⟩ := u106
              obtain ⟨hw107, h118, h119, h120, h121, h122, h123, h124, hO⟩ := hw107
              have h118 : NwR K2 K112 g2 g113 r111 0 k117 ((171 + 3 * (20 - dp))) := h118
              have h119 : rS k117 = (at2 + r93) ∧ rE k117 ≤ at114 ∧ rS k117 ≤ rE k117 ∧ rD k117 ≤ 2 * (20 - dp) := h119
              have h120 : (at2 + r93) + 2 ≤ at114 ∧ at114 ≤ sz := h120
              have h121 : sg2 ≤ sg115 ∧ sg115 ≤ 60 := h121
              have h122 : K112.2.1 0 r111 = 21 := h122
              have h123 : rS k117 + 2 ≤ rE k117 := h123
              have h124 : NwT ((B 7)) sz (f2) f116 K2 K112 (at2 + r93) at114 := h124
              obtain rfl : v108 = some (.ref r111) := hw107
              have hf125 : K112.1 q2 = 1 := (((h118).2.1.1 q2 (by rw [hq2]; decide)).1).trans hq2
              have hf126 : K112.2.1 0 q2 = 32 := (((h118).2.1.1 q2 (by rw [hq2]; decide)).2.1 0).trans hkd2
              have hf127 : K112.2.2.1 2 q2 = none := (((h118).2.1.1 q2 (by rw [hq2]; decide)).2.2.1 2).trans hc22
              have hf128 : K112.2.2.1 3 q2 = none := (((h118).2.1.1 q2 (by rw [hq2]; decide)).2.2.1 3).trans hc23
              have hf129 : K112.2.2.1 4 q2 = none := (((h118).2.1.1 q2 (by rw [hq2]; decide)).2.2.1 4).trans hc24
              have hf130 : K112.2.2.1 0 q2 = some xa := (((h118).2.1.1 q2 (by rw [hq2]; decide)).2.2.1 0).trans hxa
              have hf131 : K112.1 xa = 1 := (((h118).2.1.1 xa (by rw [hxT]; decide)).1).trans hxT
              have hf132 : K112.2.1 0 xa = 21 := (((h118).2.1.1 xa (by rw [hxT]; decide)).2.1 0).trans hxk
              have hO : OKP G h0 a (upd (upd (upd (upd F 2 (nI sz)) 9 (nI at114)) 10 (nI dp)) 11 (nI sg115)) R Z (updA B 10 f116) J K112 w := hO.to rfl
              refine W.widen (k := ((2 * (at2 - at9) - 4) + (2 * (at114 - (at2 + r93)) - 3))) (n := ((11 * (2 * (at2 - at9) - 4)) + (11 * (2 * (at114 - (at2 + r93)) - 3)))) (by show (2 * (at2 - at9) - 4) + (2 * (at114 - (at2 + r93)) - 3) ≤ ((2 * (at2 - at9) - 4) + (2 * (at114 - (at2 + r93)) - 3)); omega) (by show (11 * (2 * (at2 - at9) - 4)) + (11 * (2 * (at114 - (at2 + r93)) - 3)) ≤ ((11 * (2 * (at2 - at9) - 4)) + (11 * (2 * (at114 - (at2 + r93)) - 3))); omega) ?_
              refine W.eq (g2 := F0 m 124 ls [.ref r111, .ref q2]) rfl ?_
              have htk133 : NwT (B 7) sz (B 10) f116 K K112 at9 at114 := (NwT.call htki h124 (by omega))
              have har5 := LsN.call0 hls2 h118
              have hbr := h118.2.2.1
              have hbr1 := hbr.2.2.1
              have hbr2 := hbr.2.2.2.1
              have hf134 : K112.1 r111 = 1 := hbr.2.1
              have hxz : g113 0 xa = g2 0 xa := h118.2.1.2 xa (by rw [hxT]; decide) 0
              have hxr9 : g113 2 xa = ka := (h118.2.1.2 xa (by rw [hxT]; decide) 2).trans hxr
              have hbr9 : g113 2 r111 = k117 := hbr.2.2.2.2.2.1
              refine p_put (v := .ref r111) (ty := (.object "JinjaTongue$Node")) (C := RX7) (Tc := TX7) (N := 11) (ci := 13) (K' := (kC K112 2 q2 (some r111))) hx hb hq pin_wsX70 tyX7 tyX7_ok nmX7 hown hE hP hD hS hO (by rw [hf125]; decide) (rep_1 hf125) rfl 8 (by decide) (hq _ pw_943) (fun _ h9 => h9) rfl (by decide +kernel) rfl rfl (Nat.le_of_ble_eq_true rfl) rfl (by rw [rep_1 (show (kC K112 2 q2 (some r111)).1 q2 = 1 from hf125), pc_2] <;> rfl) (fun p9 hp9 => rep_kC hp9) dX8_tryStatement_124 (fun H locs w hP hD hS hO => ?_)
              obtain ⟨K135, hK136⟩ : ∃ z : PK, z = (kC K112 2 q2 (some r111)) := ⟨_, rfl⟩
              rw [← hK136] at hO
              have hf137 : K135.1 q2 = 1 := (by rw [hK136]; exact hf125)
              have hf138 : K135.2.1 0 q2 = 32 := (by rw [hK136]; exact hf126)
              have hf139 : K135.2.2.1 3 q2 = none := (by rw [hK136]; exact (kC_of (by decide)).trans hf128)
              have hf140 : K135.2.2.1 4 q2 = none := (by rw [hK136]; exact (kC_of (by decide)).trans hf129)
              have hf141 : K135.2.2.1 0 q2 = some xa := (by rw [hK136]; exact (kC_of (by decide)).trans hf130)
              have hf142 : K135.1 xa = 1 := (by rw [hK136]; exact hf131)
              have hf143 : K135.2.1 0 xa = 21 := (by rw [hK136]; exact hf132)
              have hf144 : K135.1 r111 = 1 := (by rw [hK136]; exact hf134)
              have hf145 : K135.2.1 0 r111 = 21 := (by rw [hK136]; exact h122)
              have hf146 : K135.2.2.1 2 q2 = some r111 := by rw [hK136]; exact kC_eq
              have htk147 : NwT (B 7) sz (B 10) f116 K K135 at9 at114 := by rw [hK136]; exact NwT.put htk133
              refine lv_aload_n hx hb dX8_tryStatement_127 rfl (lv_at hl 2 rfl) ?_
              refine W_size (fun hz1 hz2 => ?_)
              refine vx_ret ?_
              have har6 : LsN K K135 g g113 q2 1 (172 + 3 * (20 - dp)) (rE ka) at2 (2 * (20 - dp)) := by rw [hK136]; exact LsN.put har5 (by decide)
              have hkid : ∀ f9 y9 : Nat, f9 ≤ 3 → ¬ f9 = 1 → K135.2.2.1 f9 q2 = some y9 → K135.1 y9 = 1 ∧ 1 ≤ g113 0 y9 ∧ g113 0 y9 < (173 + 3 * (20 - dp)) := by
                intro f9 y9 hf9 hf1 hy9
                rcases (show f9 = 0 ∨ f9 = 2 ∨ f9 = 3 by omega) with rfl | rfl | rfl
                · rw [hf141] at hy9; cases hy9; exact ⟨hf142, by omega, by omega⟩
                · rw [hf146] at hy9; cases hy9; exact ⟨hf144, by omega, by omega⟩
                · rw [hf139] at hy9; cases hy9
              obtain ⟨k9, k9I, hkS, hkE, hkM, hkN, hkX, hkD⟩ := rk_ex (s := at9) (e := at114) (m := (rE ka)) (n := at2) (x := at2) (d := (2 * (20 - dp) + 2)) (by omega)
              have hkch : ∀ f9 y9 : Nat, f9 ≤ 3 → K135.2.2.1 f9 q2 = some y9 → Kch (K135.2.1 0 q2) f9 (K135.2.1 0 y9) k9 (g113 2 y9) := by
                intro f9 y9 hf9 e9
                rw [hf138]
                rcases (show f9 = 1 ∨ f9 = 0 ∨ f9 = 2 ∨ f9 = 3 by omega) with rfl | rfl | rfl | rfl
                · exact ⟨(fun _ z => absurd rfl z), (fun z => absurd z (by decide)), (fun z => absurd z (by decide)), (fun z => absurd z (by decide)), (fun z => absurd z (by decide)), (fun z => absurd z (by decide)), (fun z => absurd z (by decide)), (fun z => absurd z (by decide)), (fun z => absurd z (by decide)), (fun z => absurd z (by decide)), (fun z => absurd z (by decide)), (fun z => absurd z (by decide)), (fun z => absurd z (by decide)), (fun z => absurd z (by decide)), (fun z => absurd z (by decide)), (fun z => absurd z (by decide)), (fun z => absurd z (by decide)), (fun z => absurd z (by decide)), (fun z => absurd z (by decide)), (fun z => absurd z (by decide)), (fun z => absurd z (by decide)), (fun _ z => absurd z (by decide)), (fun _ z => absurd z (by decide)), (fun z => absurd z (by decide))⟩
                · rw [hf141] at e9; cases e9; rw [hxr9]; exact ⟨(fun _ _ => hf143), (fun z => absurd z (by decide)), (fun z => absurd z (by decide)), (fun z => absurd z (by decide)), (fun z => absurd z (by decide)), (fun z => absurd z (by decide)), (fun z => absurd z (by decide)), (fun z => absurd z (by decide)), (fun z => absurd z (by decide)), (fun z => absurd z (by decide)), (fun z => absurd z (by decide)), (fun z => absurd z (by decide)), (fun z => absurd z (by decide)), (fun z => absurd z (by decide)), (fun z => absurd z (by decide)), (fun z => absurd z (by decide)), (fun z => absurd z (by decide)), (fun z => absurd z (by decide)), (fun z => absurd z (by decide)), (fun z => absurd z (by decide)), (fun z => absurd z (by decide)), (fun _ _ => ⟨hf143, (by omega)⟩), (fun _ z => absurd z (by decide)), (fun z => absurd z (by decide))⟩
                · rw [hf146] at e9; cases e9; rw [hbr9]; exact ⟨(fun _ _ => hf145), (fun z => absurd z (by decide)), (fun z => absurd z (by decide)), (fun z => absurd z (by decide)), (fun z => absurd z (by decide)), (fun z => absurd z (by decide)), (fun z => absurd z (by decide)), (fun z => absurd z (by decide)), (fun z => absurd z (by decide)), (fun z => absurd z (by decide)), (fun z => absurd z (by decide)), (fun z => absurd z (by decide)), (fun z => absurd z (by decide)), (fun z => absurd z (by decide)), (fun z => absurd z (by decide)), (fun z => absurd z (by decide)), (fun z => absurd z (by decide)), (fun z => absurd z (by decide)), (fun z => absurd z (by decide)), (fun z => absurd z (by decide)), (fun z => absurd z (by decide)), (fun _ z => absurd z (by decide)), (fun _ _ => ⟨hf145, (by omega)⟩), (fun z => absurd z (by decide))⟩
                · rw [hf139] at e9; cases e9
              have hdn := LsN.done (L := (173 + 3 * (20 - dp))) (O := O) (k := k9) har6 (by omega) (fun x9 => Owi.k32 hf138 (by omega)) ⟨k9I, (by rw [hf138]; exact ⟨(fun z => absurd z (by decide)), (fun z => absurd z (by decide)), (fun z => absurd z (by decide))⟩)⟩ (Shp.k32 hf138 (by show ¬ K135.2.2.1 0 q2 = none; rw [hf141]; intro z; cases z)) (fun f9 => Lsf.k32 hf138) hkid hf140 hkch how
              have hz148 : NwR K K135 g (gset g113 q2 (173 + 3 * (20 - dp)) O k9) q2 O k9 ((173 + 3 * (20 - dp))) := hdn
              have hz149 : rS k9 = at9 ∧ rE k9 ≤ at114 ∧ rS k9 ≤ rE k9 ∧ rD k9 ≤ 2 * (20 - dp) + 2 := (by omega)
              have hz150 : at9 + 3 ≤ at114 ∧ at114 ≤ sz := (by omega)
              have hz151 : sg ≤ sg115 ∧ sg115 ≤ 60 := (by omega)
              have hz152 : ¬ K135.2.1 0 q2 = 22 := (by rw [hf138]; decide)
              have hz153 : NwT (B 7) sz (B 10) f116 K K135 at9 at114 := (NwT.le htk147 (by omega))
              have hO : OKP G h0 a (upd (upd (upd (upd F 2 (nI sz)) 9 (nI at114)) 10 (nI dp)) 11 (nI sg115)) R Z (updA B 10 f116) J K135 w := hO.to rfl
              refine W.widen (k := (2 * (sz - at9) + 20)) (n := (11 * (2 * (sz - at9) + 20))) (by omega) (by omega) ?_
              have hzz1 : H.size ≤ s.heap.size + ((2 * (at114 - at9) - 4)) := (by have z : ((2 * (at2 - at9) - 4) + (2 * (at114 - (at2 + r93)) - 3)) ≤ (2 * (at114 - at9) - 4) := (by omega); omega)
              have hzz2 : hSl H ≤ hSl s.heap + ((11 * (2 * (at114 - at9) - 4))) := (by have z : ((11 * (2 * (at2 - at9) - 4)) + (11 * (2 * (at114 - (at2 + r93)) - 3))) ≤ (11 * (2 * (at114 - at9) - 4)) := (by omega); omega)
              exact W.aret (v := .ref q2) hx hb hr (Or.inl ⟨_, rfl⟩) (Or.inr ⟨_, rfl⟩) (fun t99 ht99 hW99 => ⟨⟨_, (w, (q2, K135, (gset g113 q2 (173 + 3 * (20 - dp)) O k9), at114, sg115, f116, k9)), rfl, ⟨rfl, hz148, hz149, hz150, hz151, hz152, hz153, hO⟩, by rw [ht99]; exact hP, hD, by rw [ht99]; exact hzz1, by rw [ht99]; exact hzz2⟩, hS.F ht99⟩) hS.2.2 dX8_tryStatement_128
          · have n154 : r83 = 0 := (nI_eq (a := r83) (b := 0) (by omega) (by omega)).mp c86
            refine lv_aload_n hx hb dX8_tryStatement_106 rfl (lv_at hl 3 rfl) ?_
            have hO : OKW G h0 a (upd (upd (upd (upd (upd (upd (upd (upd F 2 (nI sz)) 9 (nI at9)) 10 (nI dp)) 11 (nI sg)) 9 (nI at2)) 11 (nI sg2)) 2 (nI sz)) 9 (nI at2)) R Z (updA B 10 f2) J K2.1 (fun q99 x99 => x99 = rep G a K2 q99) w := hO.to rfl
            obtain ⟨_, qr158, hqr159⟩ := hO.2.1 23 _ (sg_23 G h0 a _ _ _ _ _)
            refine pn_V0 (G := G) (As := []) (rest := []) hx hb hml hown hq hE hX pX0_al hP hD hS hA hl.1 (P_refuse l G h0 a (upd (upd (upd (upd (upd (upd F 2 (nI sz)) 9 (nI at9)) 10 (nI dp)) 11 (nI sg)) 9 (nI at2)) 11 (nI sg2)) R Z (updA B 10 f2) J K2.1 (fun q99 x99 => x99 = rep G a K2 q99) w at2 sz (by omega) (by omega) hO hl0) (gV pw_806 pw_807 pw_808 pw_796 pw_778) hV_X8_refuse qr158 5 hqr159 rfl rfl rfl (Nat.le_of_ble_eq_true rfl) dX8_tryStatement_107 ⟨(by show (2 * (at2 - at9) - 4) + 1 ≤ (2 * (sz - at9) + 20); omega), (by show (11 * (2 * (at2 - at9) - 4)) + 6 ≤ (11 * (2 * (sz - at9) + 20)); omega)⟩ ⟨(by show 7 + 1 ≤ (50 * n + 58); omega), (by show 8 + (1 + 11) + 122 ≤ (1500 * n + 1650); omega)⟩ (fun v157 u155 H locs hw156 hP hD hS => hw156.elim) (fun ux ce9 q9 H9 locs9 hux hP9 hD9 hS9 hce hcv hcl => pb_out ux (ThQ.up (Thx.same (Thx.same (Thx.b (Thx.f (Thx.f Thx.rfl (by omega)) (by omega)) (by omega) (by decide)) rfl) rfl) RhX.rfl hux) hnt hlocks hce hcv hcl hP9 hD9 hS9 (by show (2 * (at2 - at9) - 4) + 1 ≤ (2 * (sz - at9) + 20); omega) (by show (11 * (2 * (at2 - at9) - 4)) + 6 ≤ (11 * (2 * (sz - at9) + 20)); omega))
        · have hl : lv_has ls 5 [(3, .int (nI i2)), (2, .ref y9), (1, .ref q2), (0, .ref (a 3))] := hl
          refine lv_aload_n hx hb dX8_tryStatement_93 rfl (lv_at hl 1 rfl) ?_
          refine lv_ifnonnull (tgt := 110) hx hb dX8_tryStatement_94 (by decide) ?_
          refine lv_aload_n hx hb dX8_tryStatement_110 rfl (lv_at hl 3 rfl) ?_
          refine lv_bipush (v := 9) hx hb dX8_tryStatement_111 (by decide) ?_
          have hO : OKW G h0 a (upd (upd (upd (upd (upd (upd F 2 (nI sz)) 9 (nI at2)) 10 (nI dp)) 11 (nI sg2)) 2 (nI sz)) 9 (nI at2)) R Z (updA B 10 f2) J K2.1 (fun q99 x99 => x99 = rep G a K2 q99) w := hO.to rfl
          obtain ⟨_, qr163, hqr164⟩ := hO.2.1 23 _ (sg_23 G h0 a _ _ _ _ _)
          refine pc_V0 (G := G) (As := [.int 9]) (rest := []) hx hb hml hown hq hE hX pX0_al hP hD hS hA hl.1 (P_takeIf l G h0 a (upd (upd (upd (upd F 2 (nI sz)) 9 (nI at2)) 10 (nI dp)) 11 (nI sg2)) R Z (updA B 10 f2) J K2.1 (fun q99 x99 => x99 = rep G a K2 q99) w 9 at2 sz (by omega) (by omega) (by decide) hO) (gV pw_797 pw_798 pw_799 pw_796 pw_789) hV_X8_takeIf qr163 5 hqr164 rfl rfl rfl (Nat.le_of_ble_eq_true rfl) dX8_tryStatement_113 ⟨(by show (2 * (at2 - at9) - 4) + 0 ≤ (2 * (sz - at9) + 20); omega), (by show (11 * (2 * (at2 - at9) - 4)) + 0 ≤ (11 * (2 * (sz - at9) + 20)); omega)⟩ ⟨(by show 3 + 1 ≤ (50 * n + 58); omega), (by show 8 + (2 + 11) + 81 ≤ (1500 * n + 1650); omega)⟩ (fun v162 u160 H locs hw161 hP hD hS => ?_)
          obtain ⟨w, r165⟩ := u160
          obtain ⟨hw161, h166, h167, h168, hO⟩ := hw161
          have h166 : r165 ≤ 1 := h166
          have h167 : at2 + r165 ≤ sz := h167
          have h168 : SeQ ((B 7)) sz at2 9 r165 := h168
          obtain rfl : v162 = some (.int (nI r165)) := hw161
          have hO : OKP G h0 a (upd (upd (upd (upd F 2 (nI sz)) 9 (nI (at2 + r165))) 10 (nI dp)) 11 (nI sg2)) R Z (updA B 10 f2) J K2 w := hO.to rfl
          refine W.widen (k := (2 * (at2 - at9) - 4)) (n := (11 * (2 * (at2 - at9) - 4))) (by show (2 * (at2 - at9) - 4) + 0 ≤ (2 * (at2 - at9) - 4); omega) (by show (11 * (2 * (at2 - at9) - 4)) + 0 ≤ (11 * (2 * (at2 - at9) - 4)); omega) ?_
          refine W.eq (g2 := F0 m 116 ls [.int (nI r165)]) rfl ?_
          refine lv_if_eq (tgt := 127) hx hb dX8_tryStatement_116 (by decide) (fun c169 => ?_) (fun c169 => ?_)
          · have n170 : r165 = 0 := (nI_eq (a := r165) (b := 0) (by omega) (by omega)).mp c169
            refine lv_aload_n hx hb dX8_tryStatement_127 rfl (lv_at hl 2 rfl) ?_
            refine W_size (fun hz1 hz2 => ?_)
            refine vx_ret ?_
            have hkid : ∀ f9 y9 : Nat, f9 ≤ 3 → ¬ f9 = 1 → K2.2.2.1 f9 q2 = some y9 → K2.1 y9 = 1 ∧ 1 ≤ g2 0 y9 ∧ g2 0 y9 < (173 + 3 * (20 - dp)) := by
              intro f9 y9 hf9 hf1 hy9
              rcases (show f9 = 0 ∨ f9 = 2 ∨ f9 = 3 by omega) with rfl | rfl | rfl
              · rw [hxa] at hy9; cases hy9; exact ⟨hxT, by omega, by omega⟩
              · rw [hc22] at hy9; cases hy9
              · rw [hc23] at hy9; cases hy9
            obtain ⟨k9, k9I, hkS, hkE, hkM, hkN, hkX, hkD⟩ := rk_ex (s := at9) (e := (at2 + r165)) (m := (rE ka)) (n := at2) (x := at2) (d := (2 * (20 - dp) + 2)) (by omega)
            have hkch : ∀ f9 y9 : Nat, f9 ≤ 3 → K2.2.2.1 f9 q2 = some y9 → Kch (K2.2.1 0 q2) f9 (K2.2.1 0 y9) k9 (g2 2 y9) := by
              intro f9 y9 hf9 e9
              rw [hkd2]
              rcases (show f9 = 1 ∨ f9 = 0 ∨ f9 = 2 ∨ f9 = 3 by omega) with rfl | rfl | rfl | rfl
              · exact ⟨(fun _ z => absurd rfl z), (fun z => absurd z (by decide)), (fun z => absurd z (by decide)), (fun z => absurd z (by decide)), (fun z => absurd z (by decide)), (fun z => absurd z (by decide)), (fun z => absurd z (by decide)), (fun z => absurd z (by decide)), (fun z => absurd z (by decide)), (fun z => absurd z (by decide)), (fun z => absurd z (by decide)), (fun z => absurd z (by decide)), (fun z => absurd z (by decide)), (fun z => absurd z (by decide)), (fun z => absurd z (by decide)), (fun z => absurd z (by decide)), (fun z => absurd z (by decide)), (fun z => absurd z (by decide)), (fun z => absurd z (by decide)), (fun z => absurd z (by decide)), (fun z => absurd z (by decide)), (fun _ z => absurd z (by decide)), (fun _ z => absurd z (by decide)), (fun z => absurd z (by decide))⟩
              · rw [hxa] at e9; cases e9; rw [hxr]; exact ⟨(fun _ _ => hxk), (fun z => absurd z (by decide)), (fun z => absurd z (by decide)), (fun z => absurd z (by decide)), (fun z => absurd z (by decide)), (fun z => absurd z (by decide)), (fun z => absurd z (by decide)), (fun z => absurd z (by decide)), (fun z => absurd z (by decide)), (fun z => absurd z (by decide)), (fun z => absurd z (by decide)), (fun z => absurd z (by decide)), (fun z => absurd z (by decide)), (fun z => absurd z (by decide)), (fun z => absurd z (by decide)), (fun z => absurd z (by decide)), (fun z => absurd z (by decide)), (fun z => absurd z (by decide)), (fun z => absurd z (by decide)), (fun z => absurd z (by decide)), (fun z => absurd z (by decide)), (fun _ _ => ⟨hxk, (by omega)⟩), (fun _ z => absurd z (by decide)), (fun z => absurd z (by decide))⟩
              · rw [hc22] at e9; cases e9
              · rw [hc23] at e9; cases e9
            have hdn := LsN.done (L := (173 + 3 * (20 - dp))) (O := O) (k := k9) hls2 (by omega) (fun x9 => Owi.k32 hkd2 (by omega)) ⟨k9I, (by rw [hkd2]; exact ⟨(fun z => absurd z (by decide)), (fun z => absurd z (by decide)), (fun z => absurd z (by decide))⟩)⟩ (Shp.k32 hkd2 (by show ¬ K2.2.2.1 0 q2 = none; rw [hxa]; intro z; cases z)) (fun f9 => Lsf.k32 hkd2) hkid hc24 hkch how
            have hz171 : NwR K K2 g (gset g2 q2 (173 + 3 * (20 - dp)) O k9) q2 O k9 ((173 + 3 * (20 - dp))) := hdn
            have hz172 : rS k9 = at9 ∧ rE k9 ≤ (at2 + r165) ∧ rS k9 ≤ rE k9 ∧ rD k9 ≤ 2 * (20 - dp) + 2 := (by omega)
            have hz173 : at9 + 3 ≤ (at2 + r165) ∧ (at2 + r165) ≤ sz := (by omega)
            have hz174 : sg ≤ sg2 ∧ sg2 ≤ 60 := (by omega)
            have hz175 : ¬ K2.2.1 0 q2 = 22 := (by rw [hkd2]; decide)
            have hz176 : NwT (B 7) sz (B 10) f2 K K2 at9 (at2 + r165) := (NwT.le htki (by omega))
            have hO : OKP G h0 a (upd (upd (upd (upd F 2 (nI sz)) 9 (nI (at2 + r165))) 10 (nI dp)) 11 (nI sg2)) R Z (updA B 10 f2) J K2 w := hO.to rfl
            refine W.widen (k := (2 * (sz - at9) + 20)) (n := (11 * (2 * (sz - at9) + 20))) (by omega) (by omega) ?_
            have hzz1 : H.size ≤ s.heap.size + ((2 * ((at2 + r165) - at9) - 4)) := (by have z : (2 * (at2 - at9) - 4) ≤ (2 * ((at2 + r165) - at9) - 4) := (by omega); omega)
            have hzz2 : hSl H ≤ hSl s.heap + ((11 * (2 * ((at2 + r165) - at9) - 4))) := (by have z : (11 * (2 * (at2 - at9) - 4)) ≤ (11 * (2 * ((at2 + r165) - at9) - 4)) := (by omega); omega)
            exact W.aret (v := .ref q2) hx hb hr (Or.inl ⟨_, rfl⟩) (Or.inr ⟨_, rfl⟩) (fun t99 ht99 hW99 => ⟨⟨_, (w, (q2, K2, (gset g2 q2 (173 + 3 * (20 - dp)) O k9), (at2 + r165), sg2, f2, k9)), rfl, ⟨rfl, hz171, hz172, hz173, hz174, hz175, hz176, hO⟩, by rw [ht99]; exact hP, hD, by rw [ht99]; exact hzz1, by rw [ht99]; exact hzz2⟩, hS.F ht99⟩) hS.2.2 dX8_tryStatement_128
          · have n177 : ¬ (r165 = 0) := fun h9 => c169 ((nI_eq (a := r165) (b := 0) (by omega) (by omega)).mpr h9)
            refine lv_aload_n hx hb dX8_tryStatement_119 rfl (lv_at hl 2 rfl) ?_
            refine lv_aload_n hx hb dX8_tryStatement_120 rfl (lv_at hl 3 rfl) ?_
            have hO : OKP G h0 a (upd (upd (upd (upd (upd (upd (upd (upd (upd (upd F 2 (nI sz)) 9 (nI at9)) 10 (nI dp)) 11 (nI sg)) 9 (nI (at2 + r165))) 11 (nI sg2)) 2 (nI sz)) 9 (nI (at2 + r165))) 10 (nI dp)) 11 (nI sg2)) R Z (updA B 10 f2) J K2 w := hO.to rfl
            obtain ⟨_, qr181, hqr182⟩ := hO.2.1 23 _ (sg_23 G h0 a _ _ _ _ _)
            refine pn_V0 (G := G) (As := []) (rest := [.ref q2]) hx hb hml hown hq hE hX pX0_al hP hD hS hA hl.1 (P_block l G h0 a (upd (upd (upd (upd (upd (upd F 2 (nI sz)) 9 (nI at9)) 10 (nI dp)) 11 (nI sg)) 9 (nI (at2 + r165))) 11 (nI sg2)) R Z (updA B 10 f2) J K2 w n (at2 + r165) sz dp sg2 0 g2 (by omega) (by omega) hdp (by omega) hls2.1.1 (fun o9 h9 => absurd h9 (by omega)) ist hO hl0) (gV pw_1007 pw_1008 pw_1009 pw_796 pw_1056) hV_X8_block qr181 5 hqr182 rfl rfl rfl (Nat.le_of_ble_eq_true rfl) dX8_tryStatement_121 ⟨(by show (2 * (at2 - at9) - 4) + (2 * (sz - (at2 + r165)) + 20) ≤ (2 * (sz - at9) + 20); omega), (by show (11 * (2 * (at2 - at9) - 4)) + (11 * (2 * (sz - (at2 + r165)) + 20)) ≤ (11 * (2 * (sz - at9) + 20)); omega)⟩ ⟨(by show (50 * n + 54) + 1 ≤ (50 * n + 58); omega), (by show 8 + (5 + 11) + (1500 * n + 1560) ≤ (1500 * n + 1650); omega)⟩ (fun v180 u178 H locs hw179 hP hD hS => ?_) (fun ux ce9 q9 H9 locs9 hux hP9 hD9 hS9 hce hcv hcl => pb_out ux (ThQ.up (Thx.same (Thx.same (Thx.same (Thx.same (Thx.b (Thx.f (Thx.f Thx.rfl (by omega)) (by omega)) (by omega) (by decide)) rfl) rfl) rfl) rfl) RhX.rfl hux) hnt hlocks hce hcv hcl hP9 hD9 hS9 (by show (2 * (at2 - at9) - 4) + (2 * (sz - (at2 + r165)) + 20) ≤ (2 * (sz - at9) + 20); omega) (by show (11 * (2 * (at2 - at9) - 4)) + (11 * (2 * (sz - (at2 + r165)) + 20)) ≤ (11 * (2 * (sz - at9) + 20)); omega))
            obtain ⟨w, r183, K184, g185, at186, sg187, f188, k189⟩ := u178
            obtain ⟨hw179, h190, h191, h192, h193, h194, h195, h196, hO⟩ := hw179
            have h190 : NwR K2 K184 g2 g185 r183 0 k189 ((171 + 3 * (20 - dp))) := h190
            have h191 : rS k189 = (at2 + r165) ∧ rE k189 ≤ at186 ∧ rS k189 ≤ rE k189 ∧ rD k189 ≤ 2 * (20 - dp) := h191
            have h192 : (at2 + r165) + 2 ≤ at186 ∧ at186 ≤ sz := h192
            have h193 : sg2 ≤ sg187 ∧ sg187 ≤ 60 := h193
            have h194 : K184.2.1 0 r183 = 21 := h194
            have h195 : rS k189 + 2 ≤ rE k189 := h195
            have h196 : NwT ((B 7)) sz (f2) f188 K2 K184 (at2 + r165) at186 := h196
            obtain rfl : v180 = some (.ref r183) := hw179
            have hf197 : K184.1 q2 = 1 := (((h190).2.1.1 q2 (by rw [hq2]; decide)).1).trans hq2
            have hf198 : K184.2.1 0 q2 = 32 := (((h190).2.1.1 q2 (by rw [hq2]; decide)).2.1 0).trans hkd2
            have hf199 : K184.2.2.1 2 q2 = none := (((h190).2.1.1 q2 (by rw [hq2]; decide)).2.2.1 2).trans hc22
            have hf200 : K184.2.2.1 3 q2 = none := (((h190).2.1.1 q2 (by rw [hq2]; decide)).2.2.1 3).trans hc23
            have hf201 : K184.2.2.1 4 q2 = none := (((h190).2.1.1 q2 (by rw [hq2]; decide)).2.2.1 4).trans hc24
            have hf202 : K184.2.2.1 0 q2 = some xa := (((h190).2.1.1 q2 (by rw [hq2]; decide)).2.2.1 0).trans hxa
            have hf203 : K184.1 xa = 1 := (((h190).2.1.1 xa (by rw [hxT]; decide)).1).trans hxT
            have hf204 : K184.2.1 0 xa = 21 := (((h190).2.1.1 xa (by rw [hxT]; decide)).2.1 0).trans hxk
            have hO : OKP G h0 a (upd (upd (upd (upd F 2 (nI sz)) 9 (nI at186)) 10 (nI dp)) 11 (nI sg187)) R Z (updA B 10 f188) J K184 w := hO.to rfl
            refine W.widen (k := ((2 * (at2 - at9) - 4) + (2 * (at186 - (at2 + r165)) - 3))) (n := ((11 * (2 * (at2 - at9) - 4)) + (11 * (2 * (at186 - (at2 + r165)) - 3)))) (by show (2 * (at2 - at9) - 4) + (2 * (at186 - (at2 + r165)) - 3) ≤ ((2 * (at2 - at9) - 4) + (2 * (at186 - (at2 + r165)) - 3)); omega) (by show (11 * (2 * (at2 - at9) - 4)) + (11 * (2 * (at186 - (at2 + r165)) - 3)) ≤ ((11 * (2 * (at2 - at9) - 4)) + (11 * (2 * (at186 - (at2 + r165)) - 3))); omega) ?_
            refine W.eq (g2 := F0 m 124 ls [.ref r183, .ref q2]) rfl ?_
            have htk205 : NwT (B 7) sz (B 10) f188 K K184 at9 at186 := (NwT.call htki h196 (by omega))
            have har5 := LsN.call0 hls2 h190
            have hbr := h190.2.2.1
            have hbr1 := hbr.2.2.1
            have hbr2 := hbr.2.2.2.1
            have hf206 : K184.1 r183 = 1 := hbr.2.1
            have hxz : g185 0 xa = g2 0 xa := h190.2.1.2 xa (by rw [hxT]; decide) 0
            have hxr9 : g185 2 xa = ka := (h190.2.1.2 xa (by rw [hxT]; decide) 2).trans hxr
            have hbr9 : g185 2 r183 = k189 := hbr.2.2.2.2.2.1
            refine p_put (v := .ref r183) (ty := (.object "JinjaTongue$Node")) (C := RX7) (Tc := TX7) (N := 11) (ci := 13) (K' := (kC K184 2 q2 (some r183))) hx hb hq pin_wsX70 tyX7 tyX7_ok nmX7 hown hE hP hD hS hO (by rw [hf197]; decide) (rep_1 hf197) rfl 8 (by decide) (hq _ pw_943) (fun _ h9 => h9) rfl (by decide +kernel) rfl rfl (Nat.le_of_ble_eq_true rfl) rfl (by rw [rep_1 (show (kC K184 2 q2 (some r183)).1 q2 = 1 from hf197), pc_2] <;> rfl) (fun p9 hp9 => rep_kC hp9) dX8_tryStatement_124 (fun H locs w hP hD hS hO => ?_)
            obtain ⟨K207, hK208⟩ : ∃ z : PK, z = (kC K184 2 q2 (some r183)) := ⟨_, rfl⟩
            rw [← hK208] at hO
            have hf209 : K207.1 q2 = 1 := (by rw [hK208]; exact hf197)
            have hf210 : K207.2.1 0 q2 = 32 := (by rw [hK208]; exact hf198)
            have hf211 : K207.2.2.1 3 q2 = none := (by rw [hK208]; exact (kC_of (by decide)).trans hf200)
            have hf212 : K207.2.2.1 4 q2 = none := (by rw [hK208]; exact (kC_of (by decide)).trans hf201)
            have hf213 : K207.2.2.1 0 q2 = some xa := (by rw [hK208]; exact (kC_of (by decide)).trans hf202)
            have hf214 : K207.1 xa = 1 := (by rw [hK208]; exact hf203)
            have hf215 : K207.2.1 0 xa = 21 := (by rw [hK208]; exact hf204)
            have hf216 : K207.1 r183 = 1 := (by rw [hK208]; exact hf206)
            have hf217 : K207.2.1 0 r183 = 21 := (by rw [hK208]; exact h194)
            have hf218 : K207.2.2.1 2 q2 = some r183 := by rw [hK208]; exact kC_eq
            have htk219 : NwT (B 7) sz (B 10) f188 K K207 at9 at186 := by rw [hK208]; exact NwT.put htk205
            refine lv_aload_n hx hb dX8_tryStatement_127 rfl (lv_at hl 2 rfl) ?_
            refine W_size (fun hz1 hz2 => ?_)
            refine vx_ret ?_
            have har6 : LsN K K207 g g185 q2 1 (172 + 3 * (20 - dp)) (rE ka) at2 (2 * (20 - dp)) := by rw [hK208]; exact LsN.put har5 (by decide)
            have hkid : ∀ f9 y9 : Nat, f9 ≤ 3 → ¬ f9 = 1 → K207.2.2.1 f9 q2 = some y9 → K207.1 y9 = 1 ∧ 1 ≤ g185 0 y9 ∧ g185 0 y9 < (173 + 3 * (20 - dp)) := by
              intro f9 y9 hf9 hf1 hy9
              rcases (show f9 = 0 ∨ f9 = 2 ∨ f9 = 3 by omega) with rfl | rfl | rfl
              · rw [hf213] at hy9; cases hy9; exact ⟨hf214, by omega, by omega⟩
              · rw [hf218] at hy9; cases hy9; exact ⟨hf216, by omega, by omega⟩
              · rw [hf211] at hy9; cases hy9
            obtain ⟨k9, k9I, hkS, hkE, hkM, hkN, hkX, hkD⟩ := rk_ex (s := at9) (e := at186) (m := (rE ka)) (n := at2) (x := at2) (d := (2 * (20 - dp) + 2)) (by omega)
            have hkch : ∀ f9 y9 : Nat, f9 ≤ 3 → K207.2.2.1 f9 q2 = some y9 → Kch (K207.2.1 0 q2) f9 (K207.2.1 0 y9) k9 (g185 2 y9) := by
              intro f9 y9 hf9 e9
              rw [hf210]
              rcases (show f9 = 1 ∨ f9 = 0 ∨ f9 = 2 ∨ f9 = 3 by omega) with rfl | rfl | rfl | rfl
              · exact ⟨(fun _ z => absurd rfl z), (fun z => absurd z (by decide)), (fun z => absurd z (by decide)), (fun z => absurd z (by decide)), (fun z => absurd z (by decide)), (fun z => absurd z (by decide)), (fun z => absurd z (by decide)), (fun z => absurd z (by decide)), (fun z => absurd z (by decide)), (fun z => absurd z (by decide)), (fun z => absurd z (by decide)), (fun z => absurd z (by decide)), (fun z => absurd z (by decide)), (fun z => absurd z (by decide)), (fun z => absurd z (by decide)), (fun z => absurd z (by decide)), (fun z => absurd z (by decide)), (fun z => absurd z (by decide)), (fun z => absurd z (by decide)), (fun z => absurd z (by decide)), (fun z => absurd z (by decide)), (fun _ z => absurd z (by decide)), (fun _ z => absurd z (by decide)), (fun z => absurd z (by decide))⟩
              · rw [hf213] at e9; cases e9; rw [hxr9]; exact ⟨(fun _ _ => hf215), (fun z => absurd z (by decide)), (fun z => absurd z (by decide)), (fun z => absurd z (by decide)), (fun z => absurd z (by decide)), (fun z => absurd z (by decide)), (fun z => absurd z (by decide)), (fun z => absurd z (by decide)), (fun z => absurd z (by decide)), (fun z => absurd z (by decide)), (fun z => absurd z (by decide)), (fun z => absurd z (by decide)), (fun z => absurd z (by decide)), (fun z => absurd z (by decide)), (fun z => absurd z (by decide)), (fun z => absurd z (by decide)), (fun z => absurd z (by decide)), (fun z => absurd z (by decide)), (fun z => absurd z (by decide)), (fun z => absurd z (by decide)), (fun z => absurd z (by decide)), (fun _ _ => ⟨hf215, (by omega)⟩), (fun _ z => absurd z (by decide)), (fun z => absurd z (by decide))⟩
              · rw [hf218] at e9; cases e9; rw [hbr9]; exact ⟨(fun _ _ => hf217), (fun z => absurd z (by decide)), (fun z => absurd z (by decide)), (fun z => absurd z (by decide)), (fun z => absurd z (by decide)), (fun z => absurd z (by decide)), (fun z => absurd z (by decide)), (fun z => absurd z (by decide)), (fun z => absurd z (by decide)), (fun z => absurd z (by decide)), (fun z => absurd z (by decide)), (fun z => absurd z (by decide)), (fun z => absurd z (by decide)), (fun z => absurd z (by decide)), (fun z => absurd z (by decide)), (fun z => absurd z (by decide)), (fun z => absurd z (by decide)), (fun z => absurd z (by decide)), (fun z => absurd z (by decide)), (fun z => absurd z (by decide)), (fun z => absurd z (by decide)), (fun _ z => absurd z (by decide)), (fun _ _ => ⟨hf217, (by omega)⟩), (fun z => absurd z (by decide))⟩
              · rw [hf211] at e9; cases e9
            have hdn := LsN.done (L := (173 + 3 * (20 - dp))) (O := O) (k := k9) har6 (by omega) (fun x9 => Owi.k32 hf210 (by omega)) ⟨k9I, (by rw [hf210]; exact ⟨(fun z => absurd z (by decide)), (fun z => absurd z (by decide)), (fun z => absurd z (by decide))⟩)⟩ (Shp.k32 hf210 (by show ¬ K207.2.2.1 0 q2 = none; rw [hf213]; intro z; cases z)) (fun f9 => Lsf.k32 hf210) hkid hf212 hkch how
            have hz220 : NwR K K207 g (gset g185 q2 (173 + 3 * (20 - dp)) O k9) q2 O k9 ((173 + 3 * (20 - dp))) := hdn
            have hz221 : rS k9 = at9 ∧ rE k9 ≤ at186 ∧ rS k9 ≤ rE k9 ∧ rD k9 ≤ 2 * (20 - dp) + 2 := (by omega)
            have hz222 : at9 + 3 ≤ at186 ∧ at186 ≤ sz := (by omega)
            have hz223 : sg ≤ sg187 ∧ sg187 ≤ 60 := (by omega)
            have hz224 : ¬ K207.2.1 0 q2 = 22 := (by rw [hf210]; decide)
            have hz225 : NwT (B 7) sz (B 10) f188 K K207 at9 at186 := (NwT.le htk219 (by omega))
            have hO : OKP G h0 a (upd (upd (upd (upd F 2 (nI sz)) 9 (nI at186)) 10 (nI dp)) 11 (nI sg187)) R Z (updA B 10 f188) J K207 w := hO.to rfl
            refine W.widen (k := (2 * (sz - at9) + 20)) (n := (11 * (2 * (sz - at9) + 20))) (by omega) (by omega) ?_
            have hzz1 : H.size ≤ s.heap.size + ((2 * (at186 - at9) - 4)) := (by have z : ((2 * (at2 - at9) - 4) + (2 * (at186 - (at2 + r165)) - 3)) ≤ (2 * (at186 - at9) - 4) := (by omega); omega)
            have hzz2 : hSl H ≤ hSl s.heap + ((11 * (2 * (at186 - at9) - 4))) := (by have z : ((11 * (2 * (at2 - at9) - 4)) + (11 * (2 * (at186 - (at2 + r165)) - 3))) ≤ (11 * (2 * (at186 - at9) - 4)) := (by omega); omega)
            exact W.aret (v := .ref q2) hx hb hr (Or.inl ⟨_, rfl⟩) (Or.inr ⟨_, rfl⟩) (fun t99 ht99 hW99 => ⟨⟨_, (w, (q2, K207, (gset g185 q2 (173 + 3 * (20 - dp)) O k9), at186, sg187, f188, k9)), rfl, ⟨rfl, hz220, hz221, hz222, hz223, hz224, hz225, hO⟩, by rw [ht99]; exact hP, hD, by rw [ht99]; exact hzz1, by rw [ht99]; exact hzz2⟩, hS.F ht99⟩) hS.2.2 dX8_tryStatement_128
      · have n226 : ¬ (sz ≤ i2) := fun h9 => c76 ((nI_leI (a := sz) (b := i2) (by omega) (by omega)).mpr h9)
        refine lv_aload_n hx hb dX8_tryStatement_51 rfl (lv_at hl 3 rfl) ?_
        refine lv_iconst (v := 3) hx hb dX8_tryStatement_52 (by decide) ?_
        have hO : OKW G h0 a (upd (upd (upd (upd (upd (upd F 2 (nI sz)) 9 (nI at2)) 10 (nI dp)) 11 (nI sg2)) 2 (nI sz)) 9 (nI at2)) R Z (updA B 10 f2) J K2.1 (fun q99 x99 => x99 = rep G a K2 q99) w := hO.to rfl
        obtain ⟨_, qr230, hqr231⟩ := hO.2.1 23 _ (sg_23 G h0 a _ _ _ _ _)
        refine pc_V0 (G := G) (As := [.int 3]) (rest := []) hx hb hml hown hq hE hX pX0_al hP hD hS hA hl.1 (P_sees l G h0 a (upd (upd (upd (upd F 2 (nI sz)) 9 (nI at2)) 10 (nI dp)) 11 (nI sg2)) R Z (updA B 10 f2) J K2.1 (fun q99 x99 => x99 = rep G a K2 q99) w 3 at2 sz (by omega) (by omega) hO) (gV pw_803 pw_804 pw_805 pw_796 pw_775) hV_X8_sees qr230 5 hqr231 rfl rfl rfl (Nat.le_of_ble_eq_true rfl) dX8_tryStatement_53 ⟨(by show (2 * (at2 - at9) - 4) + 0 ≤ (2 * (sz - at9) + 20); omega), (by show (11 * (2 * (at2 - at9) - 4)) + 0 ≤ (11 * (2 * (sz - at9) + 20)); omega)⟩ ⟨(by show 3 + 1 ≤ (50 * n + 58); omega), (by show 8 + (2 + 11) + 81 ≤ (1500 * n + 1650); omega)⟩ (fun v229 u227 H locs hw228 hP hD hS => ?_)
        obtain ⟨w, r232⟩ := u227
        obtain ⟨hw228, h233, h234, hO⟩ := hw228
        have h233 : r232 ≤ 1 := h233
        have h234 : SeQ ((B 7)) sz at2 3 r232 := h234
        obtain rfl : v229 = some (.int (nI r232)) := hw228
        have hO : OKP G h0 a (upd (upd (upd (upd F 2 (nI sz)) 9 (nI at2)) 10 (nI dp)) 11 (nI sg2)) R Z (updA B 10 f2) J K2 w := hO.to rfl
        refine W.widen (k := (2 * (at2 - at9) - 4)) (n := (11 * (2 * (at2 - at9) - 4))) (by show (2 * (at2 - at9) - 4) + 0 ≤ (2 * (at2 - at9) - 4); omega) (by show (11 * (2 * (at2 - at9) - 4)) + 0 ≤ (11 * (2 * (at2 - at9) - 4)); omega) ?_
        refine W.eq (g2 := F0 m 56 ls [.int (nI r232)]) rfl ?_
        refine lv_if_eq (tgt := 93) hx hb dX8_tryStatement_56 (by decide) (fun c235 => ?_) (fun c235 => ?_)
        · have n236 : r232 = 0 := (nI_eq (a := r232) (b := 0) (by omega) (by omega)).mp c235
          rcases la2 with _ | y9
          · have hl : lv_has ls 5 [(3, .int (nI i2)), (2, .null), (1, .ref q2), (0, .ref (a 3))] := hl
            refine lv_aload_nN hx hb dX8_tryStatement_93 rfl (lv_at hl 1 rfl) ?_
            refine lv_ifnonnullN hx hb dX8_tryStatement_94 ?_
            refine lv_aload_n hx hb dX8_tryStatement_97 rfl (lv_at hl 3 rfl) ?_
            refine lv_bipush (v := 9) hx hb dX8_tryStatement_98 (by decide) ?_
            have hO : OKW G h0 a (upd (upd (upd (upd (upd (upd F 2 (nI sz)) 9 (nI at2)) 10 (nI dp)) 11 (nI sg2)) 2 (nI sz)) 9 (nI at2)) R Z (updA B 10 f2) J K2.1 (fun q99 x99 => x99 = rep G a K2 q99) w := hO.to rfl
            obtain ⟨_, qr240, hqr241⟩ := hO.2.1 23 _ (sg_23 G h0 a _ _ _ _ _)
            refine pc_V0 (G := G) (As := [.int 9]) (rest := []) hx hb hml hown hq hE hX pX0_al hP hD hS hA hl.1 (P_sees l G h0 a (upd (upd (upd (upd F 2 (nI sz)) 9 (nI at2)) 10 (nI dp)) 11 (nI sg2)) R Z (updA B 10 f2) J K2.1 (fun q99 x99 => x99 = rep G a K2 q99) w 9 at2 sz (by omega) (by omega) hO) (gV pw_803 pw_804 pw_805 pw_796 pw_775) hV_X8_sees qr240 5 hqr241 rfl rfl rfl (Nat.le_of_ble_eq_true rfl) dX8_tryStatement_100 ⟨(by show (2 * (at2 - at9) - 4) + 0 ≤ (2 * (sz - at9) + 20); omega), (by show (11 * (2 * (at2 - at9) - 4)) + 0 ≤ (11 * (2 * (sz - at9) + 20)); omega)⟩ ⟨(by show 3 + 1 ≤ (50 * n + 58); omega), (by show 8 + (2 + 11) + 81 ≤ (1500 * n + 1650); omega)⟩ (fun v239 u237 H locs hw238 hP hD hS => ?_)
            obtain ⟨w, r242⟩ := u237
            obtain ⟨hw238, h243, h244, hO⟩ := hw238
            have h243 : r242 ≤ 1 := h243
            have h244 : SeQ ((B 7)) sz at2 9 r242 := h244
            obtain rfl : v239 = some (.int (nI r242)) := hw238
            have hO : OKP G h0 a (upd (upd (upd (upd F 2 (nI sz)) 9 (nI at2)) 10 (nI dp)) 11 (nI sg2)) R Z (updA B 10 f2) J K2 w := hO.to rfl
            refine W.widen (k := (2 * (at2 - at9) - 4)) (n := (11 * (2 * (at2 - at9) - 4))) (by show (2 * (at2 - at9) - 4) + 0 ≤ (2 * (at2 - at9) - 4); omega) (by show (11 * (2 * (at2 - at9) - 4)) + 0 ≤ (11 * (2 * (at2 - at9) - 4)); omega) ?_
            refine W.eq (g2 := F0 m 103 ls [.int (nI r242)]) rfl ?_
            refine lv_if_ne (tgt := 110) hx hb dX8_tryStatement_103 (by decide) (fun c245 => ?_) (fun c245 => ?_)
            · have n246 : ¬ (r242 = 0) := fun h9 => c245 ((nI_eq (a := r242) (b := 0) (by omega) (by omega)).mpr h9)
              refine lv_aload_n hx hb dX8_tryStatement_110 rfl (lv_at hl 3 rfl) ?_
              refine lv_bipush (v := 9) hx hb dX8_tryStatement_111 (by decide) ?_
              have hO : OKW G h0 a (upd (upd (upd (upd (upd (upd F 2 (nI sz)) 9 (nI at2)) 10 (nI dp)) 11 (nI sg2)) 2 (nI sz)) 9 (nI at2)) R Z (updA B 10 f2) J K2.1 (fun q99 x99 => x99 = rep G a K2 q99) w := hO.to rfl
              obtain ⟨_, qr250, hqr251⟩ := hO.2.1 23 _ (sg_23 G h0 a _ _ _ _ _)
              refine pc_V0 (G := G) (As := [.int 9]) (rest := []) hx hb hml hown hq hE hX pX0_al hP hD hS hA hl.1 (P_takeIf l G h0 a (upd (upd (upd (upd F 2 (nI sz)) 9 (nI at2)) 10 (nI dp)) 11 (nI sg2)) R Z (updA B 10 f2) J K2.1 (fun q99 x99 => x99 = rep G a K2 q99) w 9 at2 sz (by omega) (by omega) (by decide) hO) (gV pw_797 pw_798 pw_799 pw_796 pw_789) hV_X8_takeIf qr250 5 hqr251 rfl rfl rfl (Nat.le_of_ble_eq_true rfl) dX8_tryStatement_113 ⟨(by show (2 * (at2 - at9) - 4) + 0 ≤ (2 * (sz - at9) + 20); omega), (by show (11 * (2 * (at2 - at9) - 4)) + 0 ≤ (11 * (2 * (sz - at9) + 20)); omega)⟩ ⟨(by show 3 + 1 ≤ (50 * n + 58); omega), (by show 8 + (2 + 11) + 81 ≤ (1500 * n + 1650); omega)⟩ (fun v249 u247 H locs hw248 hP hD hS => ?_)
              obtain ⟨w, r252⟩ := u247
              obtain ⟨hw248, h253, h254, h255, hO⟩ := hw248
              have h253 : r252 ≤ 1 := h253
              have h254 : at2 + r252 ≤ sz := h254
              have h255 : SeQ ((B 7)) sz at2 9 r252 := h255
              obtain rfl : v249 = some (.int (nI r252)) := hw248
              have hO : OKP G h0 a (upd (upd (upd (upd F 2 (nI sz)) 9 (nI (at2 + r252))) 10 (nI dp)) 11 (nI sg2)) R Z (updA B 10 f2) J K2 w := hO.to rfl
              refine W.widen (k := (2 * (at2 - at9) - 4)) (n := (11 * (2 * (at2 - at9) - 4))) (by show (2 * (at2 - at9) - 4) + 0 ≤ (2 * (at2 - at9) - 4); omega) (by show (11 * (2 * (at2 - at9) - 4)) + 0 ≤ (11 * (2 * (at2 - at9) - 4)); omega) ?_
              refine W.eq (g2 := F0 m 116 ls [.int (nI r252)]) rfl ?_
              refine lv_if_eq (tgt := 127) hx hb dX8_tryStatement_116 (by decide) (fun c256 => ?_) (fun c256 => ?_)
              · have n257 : r252 = 0 := (nI_eq (a := r252) (b := 0) (by omega) (by omega)).mp c256
                refine lv_aload_n hx hb dX8_tryStatement_127 rfl (lv_at hl 2 rfl) ?_
                refine W_size (fun hz1 hz2 => ?_)
                refine vx_ret ?_
                have hkid : ∀ f9 y9 : Nat, f9 ≤ 3 → ¬ f9 = 1 → K2.2.2.1 f9 q2 = some y9 → K2.1 y9 = 1 ∧ 1 ≤ g2 0 y9 ∧ g2 0 y9 < (173 + 3 * (20 - dp)) := by
                  intro f9 y9 hf9 hf1 hy9
                  rcases (show f9 = 0 ∨ f9 = 2 ∨ f9 = 3 by omega) with rfl | rfl | rfl
                  · rw [hxa] at hy9; cases hy9; exact ⟨hxT, by omega, by omega⟩
                  · rw [hc22] at hy9; cases hy9
                  · rw [hc23] at hy9; cases hy9
                obtain ⟨k9, k9I, hkS, hkE, hkM, hkN, hkX, hkD⟩ := rk_ex (s := at9) (e := (at2 + r252)) (m := (rE ka)) (n := at2) (x := at2) (d := (2 * (20 - dp) + 2)) (by omega)
                have hkch : ∀ f9 y9 : Nat, f9 ≤ 3 → K2.2.2.1 f9 q2 = some y9 → Kch (K2.2.1 0 q2) f9 (K2.2.1 0 y9) k9 (g2 2 y9) := by
                  intro f9 y9 hf9 e9
                  rw [hkd2]
                  rcases (show f9 = 1 ∨ f9 = 0 ∨ f9 = 2 ∨ f9 = 3 by omega) with rfl | rfl | rfl | rfl
                  · exact ⟨(fun _ z => absurd rfl z), (fun z => absurd z (by decide)), (fun z => absurd z (by decide)), (fun z => absurd z (by decide)), (fun z => absurd z (by decide)), (fun z => absurd z (by decide)), (fun z => absurd z (by decide)), (fun z => absurd z (by decide)), (fun z => absurd z (by decide)), (fun z => absurd z (by decide)), (fun z => absurd z (by decide)), (fun z => absurd z (by decide)), (fun z => absurd z (by decide)), (fun z => absurd z (by decide)), (fun z => absurd z (by decide)), (fun z => absurd z (by decide)), (fun z => absurd z (by decide)), (fun z => absurd z (by decide)), (fun z => absurd z (by decide)), (fun z => absurd z (by decide)), (fun z => absurd z (by decide)), (fun _ z => absurd z (by decide)), (fun _ z => absurd z (by decide)), (fun z => absurd z (by decide))⟩
                  · rw [hxa] at e9; cases e9; rw [hxr]; exact ⟨(fun _ _ => hxk), (fun z => absurd z (by decide)), (fun z => absurd z (by decide)), (fun z => absurd z (by decide)), (fun z => absurd z (by decide)), (fun z => absurd z (by decide)), (fun z => absurd z (by decide)), (fun z => absurd z (by decide)), (fun z => absurd z (by decide)), (fun z => absurd z (by decide)), (fun z => absurd z (by decide)), (fun z => absurd z (by decide)), (fun z => absurd z (by decide)), (fun z => absurd z (by decide)), (fun z => absurd z (by decide)), (fun z => absurd z (by decide)), (fun z => absurd z (by decide)), (fun z => absurd z (by decide)), (fun z => absurd z (by decide)), (fun z => absurd z (by decide)), (fun z => absurd z (by decide)), (fun _ _ => ⟨hxk, (by omega)⟩), (fun _ z => absurd z (by decide)), (fun z => absurd z (by decide))⟩
                  · rw [hc22] at e9; cases e9
                  · rw [hc23] at e9; cases e9
                have hdn := LsN.done (L := (173 + 3 * (20 - dp))) (O := O) (k := k9) hls2 (by omega) (fun x9 => Owi.k32 hkd2 (by omega)) ⟨k9I, (by rw [hkd2]; exact ⟨(fun z => absurd z (by decide)), (fun z => absurd z (by decide)), (fun z => absurd z (by decide))⟩)⟩ (Shp.k32 hkd2 (by show ¬ K2.2.2.1 0 q2 = none; rw [hxa]; intro z; cases z)) (fun f9 => Lsf.k32 hkd2) hkid hc24 hkch how
                have hz258 : NwR K K2 g (gset g2 q2 (173 + 3 * (20 - dp)) O k9) q2 O k9 ((173 + 3 * (20 - dp))) := hdn
                have hz259 : rS k9 = at9 ∧ rE k9 ≤ (at2 + r252) ∧ rS k9 ≤ rE k9 ∧ rD k9 ≤ 2 * (20 - dp) + 2 := (by omega)
                have hz260 : at9 + 3 ≤ (at2 + r252) ∧ (at2 + r252) ≤ sz := (by omega)
                have hz261 : sg ≤ sg2 ∧ sg2 ≤ 60 := (by omega)
                have hz262 : ¬ K2.2.1 0 q2 = 22 := (by rw [hkd2]; decide)
                have hz263 : NwT (B 7) sz (B 10) f2 K K2 at9 (at2 + r252) := (NwT.le htki (by omega))
                have hO : OKP G h0 a (upd (upd (upd (upd F 2 (nI sz)) 9 (nI (at2 + r252))) 10 (nI dp)) 11 (nI sg2)) R Z (updA B 10 f2) J K2 w := hO.to rfl
                refine W.widen (k := (2 * (sz - at9) + 20)) (n := (11 * (2 * (sz - at9) + 20))) (by omega) (by omega) ?_
                have hzz1 : H.size ≤ s.heap.size + ((2 * ((at2 + r252) - at9) - 4)) := (by have z : (2 * (at2 - at9) - 4) ≤ (2 * ((at2 + r252) - at9) - 4) := (by omega); omega)
                have hzz2 : hSl H ≤ hSl s.heap + ((11 * (2 * ((at2 + r252) - at9) - 4))) := (by have z : (11 * (2 * (at2 - at9) - 4)) ≤ (11 * (2 * ((at2 + r252) - at9) - 4)) := (by omega); omega)
                exact W.aret (v := .ref q2) hx hb hr (Or.inl ⟨_, rfl⟩) (Or.inr ⟨_, rfl⟩) (fun t99 ht99 hW99 => ⟨⟨_, (w, (q2, K2, (gset g2 q2 (173 + 3 * (20 - dp)) O k9), (at2 + r252), sg2, f2, k9)), rfl, ⟨rfl, hz258, hz259, hz260, hz261, hz262, hz263, hO⟩, by rw [ht99]; exact hP, hD, by rw [ht99]; exact hzz1, by rw [ht99]; exact hzz2⟩, hS.F ht99⟩) hS.2.2 dX8_tryStatement_128
              · have n264 : ¬ (r252 = 0) := fun h9 => c256 ((nI_eq (a := r252) (b := 0) (by omega) (by omega)).mpr h9)
                refine lv_aload_n hx hb dX8_tryStatement_119 rfl (lv_at hl 2 rfl) ?_
                refine lv_aload_n hx hb dX8_tryStatement_120 rfl (lv_at hl 3 rfl) ?_
                have hO : OKP G h0 a (upd (upd (upd (upd (upd (upd (upd (upd (upd (upd F 2 (nI sz)) 9 (nI at9)) 10 (nI dp)) 11 (nI sg)) 9 (nI (at2 + r252))) 11 (nI sg2)) 2 (nI sz)) 9 (nI (at2 + r252))) 10 (nI dp)) 11 (nI sg2)) R Z (updA B 10 f2) J K2 w := hO.to rfl
                obtain ⟨_, qr268, hqr269⟩ := hO.2.1 23 _ (sg_23 G h0 a _ _ _ _ _)
                refine pn_V0 (G := G) (As := []) (rest := [.ref q2]) hx hb hml hown hq hE hX pX0_al hP hD hS hA hl.1 (P_block l G h0 a (upd (upd (upd (upd (upd (upd F 2 (nI sz)) 9 (nI at9)) 10 (nI dp)) 11 (nI sg)) 9 (nI (at2 + r252))) 11 (nI sg2)) R Z (updA B 10 f2) J K2 w n (at2 + r252) sz dp sg2 0 g2 (by omega) (by omega) hdp (by omega) hls2.1.1 (fun o9 h9 => absurd h9 (by omega)) ist hO hl0) (gV pw_1007 pw_1008 pw_1009 pw_796 pw_1056) hV_X8_block qr268 5 hqr269 rfl rfl rfl (Nat.le_of_ble_eq_true rfl) dX8_tryStatement_121 ⟨(by show (2 * (at2 - at9) - 4) + (2 * (sz - (at2 + r252)) + 20) ≤ (2 * (sz - at9) + 20); omega), (by show (11 * (2 * (at2 - at9) - 4)) + (11 * (2 * (sz - (at2 + r252)) + 20)) ≤ (11 * (2 * (sz - at9) + 20)); omega)⟩ ⟨(by show (50 * n + 54) + 1 ≤ (50 * n + 58); omega), (by show 8 + (5 + 11) + (1500 * n + 1560) ≤ (1500 * n + 1650); omega)⟩ (fun v267 u265 H locs hw266 hP hD hS => ?_) (fun ux ce9 q9 H9 locs9 hux hP9 hD9 hS9 hce hcv hcl => pb_out ux (ThQ.up (Thx.same (Thx.same (Thx.same (Thx.same (Thx.b (Thx.f (Thx.f Thx.rfl (by omega)) (by omega)) (by omega) (by decide)) rfl) rfl) rfl) rfl) RhX.rfl hux) hnt hlocks hce hcv hcl hP9 hD9 hS9 (by show (2 * (at2 - at9) - 4) + (2 * (sz - (at2 + r252)) + 20) ≤ (2 * (sz - at9) + 20); omega) (by show (11 * (2 * (at2 - at9) - 4)) + (11 * (2 * (sz - (at2 + r252)) + 20)) ≤ (11 * (2 * (sz - at9) + 20)); omega))
                obtain ⟨w, r270, K271, g272, at273, sg274, f275, k276⟩ := u265
                obtain ⟨hw266, h277, h278, h279, h280, h281, h282, h283, hO⟩ := hw266
                have h277 : NwR K2 K271 g2 g272 r270 0 k276 ((171 + 3 * (20 - dp))) := h277
                have h278 : rS k276 = (at2 + r252) ∧ rE k276 ≤ at273 ∧ rS k276 ≤ rE k276 ∧ rD k276 ≤ 2 * (20 - dp) := h278
                have h279 : (at2 + r252) + 2 ≤ at273 ∧ at273 ≤ sz := h279
                have h280 : sg2 ≤ sg274 ∧ sg274 ≤ 60 := h280
                have h281 : K271.2.1 0 r270 = 21 := h281
                have h282 : rS k276 + 2 ≤ rE k276 := h282
                have h283 : NwT ((B 7)) sz (f2) f275 K2 K271 (at2 + r252) at273 := h283
                obtain rfl : v267 = some (.ref r270) := hw266
                have hf284 : K271.1 q2 = 1 := (((h277).2.1.1 q2 (by rw [hq2]; decide)).1).trans hq2
                have hf285 : K271.2.1 0 q2 = 32 := (((h277).2.1.1 q2 (by rw [hq2]; decide)).2.1 0).trans hkd2
                have hf286 : K271.2.2.1 2 q2 = none := (((h277).2.1.1 q2 (by rw [hq2]; decide)).2.2.1 2).trans hc22
                have hf287 : K271.2.2.1 3 q2 = none := (((h277).2.1.1 q2 (by rw [hq2]; decide)).2.2.1 3).trans hc23
                have hf288 : K271.2.2.1 4 q2 = none := (((h277).2.1.1 q2 (by rw [hq2]; decide)).2.2.1 4).trans hc24
                have hf289 : K271.2.2.1 0 q2 = some xa := (((h277).2.1.1 q2 (by rw [hq2]; decide)).2.2.1 0).trans hxa
                have hf290 : K271.1 xa = 1 := (((h277).2.1.1 xa (by rw [hxT]; decide)).1).trans hxT
                have hf291 : K271.2.1 0 xa = 21 := (((h277).2.1.1 xa (by rw [hxT]; decide)).2.1 0).trans hxk
                have hO : OKP G h0 a (upd (upd (upd (upd F 2 (nI sz)) 9 (nI at273)) 10 (nI dp)) 11 (nI sg274)) R Z (updA B 10 f275) J K271 w := hO.to rfl
                refine W.widen (k := ((2 * (at2 - at9) - 4) + (2 * (at273 - (at2 + r252)) - 3))) (n := ((11 * (2 * (at2 - at9) - 4)) + (11 * (2 * (at273 - (at2 + r252)) - 3)))) (by show (2 * (at2 - at9) - 4) + (2 * (at273 - (at2 + r252)) - 3) ≤ ((2 * (at2 - at9) - 4) + (2 * (at273 - (at2 + r252)) - 3)); omega) (by show (11 * (2 * (at2 - at9) - 4)) + (11 * (2 * (at273 - (at2 + r252)) - 3)) ≤ ((11 * (2 * (at2 - at9) - 4)) + (11 * (2 * (at273 - (at2 + r252)) - 3))); omega) ?_
                refine W.eq (g2 := F0 m 124 ls [.ref r270, .ref q2]) rfl ?_
                have htk292 : NwT (B 7) sz (B 10) f275 K K271 at9 at273 := (NwT.call htki h283 (by omega))
                have har5 := LsN.call0 hls2 h277
                have hbr := h277.2.2.1
                have hbr1 := hbr.2.2.1
                have hbr2 := hbr.2.2.2.1
                have hf293 : K271.1 r270 = 1 := hbr.2.1
                have hxz : g272 0 xa = g2 0 xa := h277.2.1.2 xa (by rw [hxT]; decide) 0
                have hxr9 : g272 2 xa = ka := (h277.2.1.2 xa (by rw [hxT]; decide) 2).trans hxr
                have hbr9 : g272 2 r270 = k276 := hbr.2.2.2.2.2.1
                refine p_put (v := .ref r270) (ty := (.object "JinjaTongue$Node")) (C := RX7) (Tc := TX7) (N := 11) (ci := 13) (K' := (kC K271 2 q2 (some r270))) hx hb hq pin_wsX70 tyX7 tyX7_ok nmX7 hown hE hP hD hS hO (by rw [hf284]; decide) (rep_1 hf284) rfl 8 (by decide) (hq _ pw_943) (fun _ h9 => h9) rfl (by decide +kernel) rfl rfl (Nat.le_of_ble_eq_true rfl) rfl (by rw [rep_1 (show (kC K271 2 q2 (some r270)).1 q2 = 1 from hf284), pc_2] <;> rfl) (fun p9 hp9 => rep_kC hp9) dX8_tryStatement_124 (fun H locs w hP hD hS hO => ?_)
                obtain ⟨K294, hK295⟩ : ∃ z : PK, z = (kC K271 2 q2 (some r270)) := ⟨_, rfl⟩
                rw [← hK295] at hO
                have hf296 : K294.1 q2 = 1 := (by rw [hK295]; exact hf284)
                have hf297 : K294.2.1 0 q2 = 32 := (by rw [hK295]; exact hf285)
                have hf298 : K294.2.2.1 3 q2 = none := (by rw [hK295]; exact (kC_of (by decide)).trans hf287)
                have hf299 : K294.2.2.1 4 q2 = none := (by rw [hK295]; exact (kC_of (by decide)).trans hf288)
                have hf300 : K294.2.2.1 0 q2 = some xa := (by rw [hK295]; exact (kC_of (by decide)).trans hf289)
                have hf301 : K294.1 xa = 1 := (by rw [hK295]; exact hf290)
                have hf302 : K294.2.1 0 xa = 21 := (by rw [hK295]; exact hf291)
                have hf303 : K294.1 r270 = 1 := (by rw [hK295]; exact hf293)
                have hf304 : K294.2.1 0 r270 = 21 := (by rw [hK295]; exact h281)
                have hf305 : K294.2.2.1 2 q2 = some r270 := by rw [hK295]; exact kC_eq
                have htk306 : NwT (B 7) sz (B 10) f275 K K294 at9 at273 := by rw [hK295]; exact NwT.put htk292
                refine lv_aload_n hx hb dX8_tryStatement_127 rfl (lv_at hl 2 rfl) ?_
                refine W_size (fun hz1 hz2 => ?_)
                refine vx_ret ?_
                have har6 : LsN K K294 g g272 q2 1 (172 + 3 * (20 - dp)) (rE ka) at2 (2 * (20 - dp)) := by rw [hK295]; exact LsN.put har5 (by decide)
                have hkid : ∀ f9 y9 : Nat, f9 ≤ 3 → ¬ f9 = 1 → K294.2.2.1 f9 q2 = some y9 → K294.1 y9 = 1 ∧ 1 ≤ g272 0 y9 ∧ g272 0 y9 < (173 + 3 * (20 - dp)) := by
                  intro f9 y9 hf9 hf1 hy9
                  rcases (show f9 = 0 ∨ f9 = 2 ∨ f9 = 3 by omega) with rfl | rfl | rfl
                  · rw [hf300] at hy9; cases hy9; exact ⟨hf301, by omega, by omega⟩
                  · rw [hf305] at hy9; cases hy9; exact ⟨hf303, by omega, by omega⟩
                  · rw [hf298] at hy9; cases hy9
                obtain ⟨k9, k9I, hkS, hkE, hkM, hkN, hkX, hkD⟩ := rk_ex (s := at9) (e := at273) (m := (rE ka)) (n := at2) (x := at2) (d := (2 * (20 - dp) + 2)) (by omega)
                have hkch : ∀ f9 y9 : Nat, f9 ≤ 3 → K294.2.2.1 f9 q2 = some y9 → Kch (K294.2.1 0 q2) f9 (K294.2.1 0 y9) k9 (g272 2 y9) := by
                  intro f9 y9 hf9 e9
                  rw [hf297]
                  rcases (show f9 = 1 ∨ f9 = 0 ∨ f9 = 2 ∨ f9 = 3 by omega) with rfl | rfl | rfl | rfl
                  · exact ⟨(fun _ z => absurd rfl z), (fun z => absurd z (by decide)), (fun z => absurd z (by decide)), (fun z => absurd z (by decide)), (fun z => absurd z (by decide)), (fun z => absurd z (by decide)), (fun z => absurd z (by decide)), (fun z => absurd z (by decide)), (fun z => absurd z (by decide)), (fun z => absurd z (by decide)), (fun z => absurd z (by decide)), (fun z => absurd z (by decide)), (fun z => absurd z (by decide)), (fun z => absurd z (by decide)), (fun z => absurd z (by decide)), (fun z => absurd z (by decide)), (fun z => absurd z (by decide)), (fun z => absurd z (by decide)), (fun z => absurd z (by decide)), (fun z => absurd z (by decide)), (fun z => absurd z (by decide)), (fun _ z => absurd z (by decide)), (fun _ z => absurd z (by decide)), (fun z => absurd z (by decide))⟩
                  · rw [hf300] at e9; cases e9; rw [hxr9]; exact ⟨(fun _ _ => hf302), (fun z => absurd z (by decide)), (fun z => absurd z (by decide)), (fun z => absurd z (by decide)), (fun z => absurd z (by decide)), (fun z => absurd z (by decide)), (fun z => absurd z (by decide)), (fun z => absurd z (by decide)), (fun z => absurd z (by decide)), (fun z => absurd z (by decide)), (fun z => absurd z (by decide)), (fun z => absurd z (by decide)), (fun z => absurd z (by decide)), (fun z => absurd z (by decide)), (fun z => absurd z (by decide)), (fun z => absurd z (by decide)), (fun z => absurd z (by decide)), (fun z => absurd z (by decide)), (fun z => absurd z (by decide)), (fun z => absurd z (by decide)), (fun z => absurd z (by decide)), (fun _ _ => ⟨hf302, (by omega)⟩), (fun _ z => absurd z (by decide)), (fun z => absurd z (by decide))⟩
                  · rw [hf305] at e9; cases e9; rw [hbr9]; exact ⟨(fun _ _ => hf304), (fun z => absurd z (by decide)), (fun z => absurd z (by decide)), (fun z => absurd z (by decide)), (fun z => absurd z (by decide)), (fun z => absurd z (by decide)), (fun z => absurd z (by decide)), (fun z => absurd z (by decide)), (fun z => absurd z (by decide)), (fun z => absurd z (by decide)), (fun z => absurd z (by decide)), (fun z => absurd z (by decide)), (fun z => absurd z (by decide)), (fun z => absurd z (by decide)), (fun z => absurd z (by decide)), (fun z => absurd z (by decide)), (fun z => absurd z (by decide)), (fun z => absurd z (by decide)), (fun z => absurd z (by decide)), (fun z => absurd z (by decide)), (fun z => absurd z (by decide)), (fun _ z => absurd z (by decide)), (fun _ _ => ⟨hf304, (by omega)⟩), (fun z => absurd z (by decide))⟩
                  · rw [hf298] at e9; cases e9
                have hdn := LsN.done (L := (173 + 3 * (20 - dp))) (O := O) (k := k9) har6 (by omega) (fun x9 => Owi.k32 hf297 (by omega)) ⟨k9I, (by rw [hf297]; exact ⟨(fun z => absurd z (by decide)), (fun z => absurd z (by decide)), (fun z => absurd z (by decide))⟩)⟩ (Shp.k32 hf297 (by show ¬ K294.2.2.1 0 q2 = none; rw [hf300]; intro z; cases z)) (fun f9 => Lsf.k32 hf297) hkid hf299 hkch how
                have hz307 : NwR K K294 g (gset g272 q2 (173 + 3 * (20 - dp)) O k9) q2 O k9 ((173 + 3 * (20 - dp))) := hdn
                have hz308 : rS k9 = at9 ∧ rE k9 ≤ at273 ∧ rS k9 ≤ rE k9 ∧ rD k9 ≤ 2 * (20 - dp) + 2 := (by omega)
                have hz309 : at9 + 3 ≤ at273 ∧ at273 ≤ sz := (by omega)
                have hz310 : sg ≤ sg274 ∧ sg274 ≤ 60 := (by omega)
                have hz311 : ¬ K294.2.1 0 q2 = 22 := (by rw [hf297]; decide)
                have hz312 : NwT (B 7) sz (B 10) f275 K K294 at9 at273 := (NwT.le htk306 (by omega))
                have hO : OKP G h0 a (upd (upd (upd (upd F 2 (nI sz)) 9 (nI at273)) 10 (nI dp)) 11 (nI sg274)) R Z (updA B 10 f275) J K294 w := hO.to rfl
                refine W.widen (k := (2 * (sz - at9) + 20)) (n := (11 * (2 * (sz - at9) + 20))) (by omega) (by omega) ?_
                have hzz1 : H.size ≤ s.heap.size + ((2 * (at273 - at9) - 4)) := (by have z : ((2 * (at2 - at9) - 4) + (2 * (at273 - (at2 + r252)) - 3)) ≤ (2 * (at273 - at9) - 4) := (by omega); omega)
                have hzz2 : hSl H ≤ hSl s.heap + ((11 * (2 * (at273 - at9) - 4))) := (by have z : ((11 * (2 * (at2 - at9) - 4)) + (11 * (2 * (at273 - (at2 + r252)) - 3))) ≤ (11 * (2 * (at273 - at9) - 4)) := (by omega); omega)
                exact W.aret (v := .ref q2) hx hb hr (Or.inl ⟨_, rfl⟩) (Or.inr ⟨_, rfl⟩) (fun t99 ht99 hW99 => ⟨⟨_, (w, (q2, K294, (gset g272 q2 (173 + 3 * (20 - dp)) O k9), at273, sg274, f275, k9)), rfl, ⟨rfl, hz307, hz308, hz309, hz310, hz311, hz312, hO⟩, by rw [ht99]; exact hP, hD, by rw [ht99]; exact hzz1, by rw [ht99]; exact hzz2⟩, hS.F ht99⟩) hS.2.2 dX8_tryStatement_128
            · have n313 : r242 = 0 := (nI_eq (a := r242) (b := 0) (by omega) (by omega)).mp c245
              refine lv_aload_n hx hb dX8_tryStatement_106 rfl (lv_at hl 3 rfl) ?_
              have hO : OKW G h0 a (upd (upd (upd (upd (upd (upd (upd (upd F 2 (nI sz)) 9 (nI at9)) 10 (nI dp)) 11 (nI sg)) 9 (nI at2)) 11 (nI sg2)) 2 (nI sz)) 9 (nI at2)) R Z (updA B 10 f2) J K2.1 (fun q99 x99 => x99 = rep G a K2 q99) w := hO.to rfl
              obtain ⟨_, qr317, hqr318⟩ := hO.2.1 23 _ (sg_23 G h0 a _ _ _ _ _)
              refine pn_V0 (G := G) (As := []) (rest := []) hx hb hml hown hq hE hX pX0_al hP hD hS hA hl.1 (P_refuse l G h0 a (upd (upd (upd (upd (upd (upd F 2 (nI sz)) 9 (nI at9)) 10 (nI dp)) 11 (nI sg)) 9 (nI at2)) 11 (nI sg2)) R Z (updA B 10 f2) J K2.1 (fun q99 x99 => x99 = rep G a K2 q99) w at2 sz (by omega) (by omega) hO hl0) (gV pw_806 pw_807 pw_808 pw_796 pw_778) hV_X8_refuse qr317 5 hqr318 rfl rfl rfl (Nat.le_of_ble_eq_true rfl) dX8_tryStatement_107 ⟨(by show (2 * (at2 - at9) - 4) + 1 ≤ (2 * (sz - at9) + 20); omega), (by show (11 * (2 * (at2 - at9) - 4)) + 6 ≤ (11 * (2 * (sz - at9) + 20)); omega)⟩ ⟨(by show 7 + 1 ≤ (50 * n + 58); omega), (by show 8 + (1 + 11) + 122 ≤ (1500 * n + 1650); omega)⟩ (fun v316 u314 H locs hw315 hP hD hS => hw315.elim) (fun ux ce9 q9 H9 locs9 hux hP9 hD9 hS9 hce hcv hcl => pb_out ux (ThQ.up (Thx.same (Thx.same (Thx.b (Thx.f (Thx.f Thx.rfl (by omega)) (by omega)) (by omega) (by decide)) rfl) rfl) RhX.rfl hux) hnt hlocks hce hcv hcl hP9 hD9 hS9 (by show (2 * (at2 - at9) - 4) + 1 ≤ (2 * (sz - at9) + 20); omega) (by show (11 * (2 * (at2 - at9) - 4)) + 6 ≤ (11 * (2 * (sz - at9) + 20)); omega))
          · have hl : lv_has ls 5 [(3, .int (nI i2)), (2, .ref y9), (1, .ref q2), (0, .ref (a 3))] := hl
            refine lv_aload_n hx hb dX8_tryStatement_93 rfl (lv_at hl 1 rfl) ?_
            refine lv_ifnonnull (tgt := 110) hx hb dX8_tryStatement_94 (by decide) ?_
            refine lv_aload_n hx hb dX8_tryStatement_110 rfl (lv_at hl 3 rfl) ?_
            refine lv_bipush (v := 9) hx hb dX8_tryStatement_111 (by decide) ?_
            have hO : OKW G h0 a (upd (upd (upd (upd (upd (upd F 2 (nI sz)) 9 (nI at2)) 10 (nI dp)) 11 (nI sg2)) 2 (nI sz)) 9 (nI at2)) R Z (updA B 10 f2) J K2.1 (fun q99 x99 => x99 = rep G a K2 q99) w := hO.to rfl
            obtain ⟨_, qr322, hqr323⟩ := hO.2.1 23 _ (sg_23 G h0 a _ _ _ _ _)
            refine pc_V0 (G := G) (As := [.int 9]) (rest := []) hx hb hml hown hq hE hX pX0_al hP hD hS hA hl.1 (P_takeIf l G h0 a (upd (upd (upd (upd F 2 (nI sz)) 9 (nI at2)) 10 (nI dp)) 11 (nI sg2)) R Z (updA B 10 f2) J K2.1 (fun q99 x99 => x99 = rep G a K2 q99) w 9 at2 sz (by omega) (by omega) (by decide) hO) (gV pw_797 pw_798 pw_799 pw_796 pw_789) hV_X8_takeIf qr322 5 hqr323 rfl rfl rfl (Nat.le_of_ble_eq_true rfl) dX8_tryStatement_113 ⟨(by show (2 * (at2 - at9) - 4) + 0 ≤ (2 * (sz - at9) + 20); omega), (by show (11 * (2 * (at2 - at9) - 4)) + 0 ≤ (11 * (2 * (sz - at9) + 20)); omega)⟩ ⟨(by show 3 + 1 ≤ (50 * n + 58); omega), (by show 8 + (2 + 11) + 81 ≤ (1500 * n + 1650); omega)⟩ (fun v321 u319 H locs hw320 hP hD hS => ?_)
            obtain ⟨w, r324⟩ := u319
            obtain ⟨hw320, h325, h326, h327, hO⟩ := hw320
            have h325 : r324 ≤ 1 := h325
            have h326 : at2 + r324 ≤ sz := h326
            have h327 : SeQ ((B 7)) sz at2 9 r324 := h327
            obtain rfl : v321 = some (.int (nI r324)) := hw320
            have hO : OKP G h0 a (upd (upd (upd (upd F 2 (nI sz)) 9 (nI (at2 + r324))) 10 (nI dp)) 11 (nI sg2)) R Z (updA B 10 f2) J K2 w := hO.to rfl
            refine W.widen (k := (2 * (at2 - at9) - 4)) (n := (11 * (2 * (at2 - at9) - 4))) (by show (2 * (at2 - at9) - 4) + 0 ≤ (2 * (at2 - at9) - 4); omega) (by show (11 * (2 * (at2 - at9) - 4)) + 0 ≤ (11 * (2 * (at2 - at9) - 4)); omega) ?_
            refine W.eq (g2 := F0 m 116 ls [.int (nI r324)]) rfl ?_
            refine lv_if_eq (tgt := 127) hx hb dX8_tryStatement_116 (by decide) (fun c328 => ?_) (fun c328 => ?_)
            · have n329 : r324 = 0 := (nI_eq (a := r324) (b := 0) (by omega) (by omega)).mp c328
              refine lv_aload_n hx hb dX8_tryStatement_127 rfl (lv_at hl 2 rfl) ?_
              refine W_size (fun hz1 hz2 => ?_)
              refine vx_ret ?_
              have hkid : ∀ f9 y9 : Nat, f9 ≤ 3 → ¬ f9 = 1 → K2.2.2.1 f9 q2 = some y9 → K2.1 y9 = 1 ∧ 1 ≤ g2 0 y9 ∧ g2 0 y9 < (173 + 3 * (20 - dp)) := by
                intro f9 y9 hf9 hf1 hy9
                rcases (show f9 = 0 ∨ f9 = 2 ∨ f9 = 3 by omega) with rfl | rfl | rfl
                · rw [hxa] at hy9; cases hy9; exact ⟨hxT, by omega, by omega⟩
                · rw [hc22] at hy9; cases hy9
                · rw [hc23] at hy9; cases hy9
              obtain ⟨k9, k9I, hkS, hkE, hkM, hkN, hkX, hkD⟩ := rk_ex (s := at9) (e := (at2 + r324)) (m := (rE ka)) (n := at2) (x := at2) (d := (2 * (20 - dp) + 2)) (by omega)
              have hkch : ∀ f9 y9 : Nat, f9 ≤ 3 → K2.2.2.1 f9 q2 = some y9 → Kch (K2.2.1 0 q2) f9 (K2.2.1 0 y9) k9 (g2 2 y9) := by
                intro f9 y9 hf9 e9
                rw [hkd2]
                rcases (show f9 = 1 ∨ f9 = 0 ∨ f9 = 2 ∨ f9 = 3 by omega) with rfl | rfl | rfl | rfl
                · exact ⟨(fun _ z => absurd rfl z), (fun z => absurd z (by decide)), (fun z => absurd z (by decide)), (fun z => absurd z (by decide)), (fun z => absurd z (by decide)), (fun z => absurd z (by decide)), (fun z => absurd z (by decide)), (fun z => absurd z (by decide)), (fun z => absurd z (by decide)), (fun z => absurd z (by decide)), (fun z => absurd z (by decide)), (fun z => absurd z (by decide)), (fun z => absurd z (by decide)), (fun z => absurd z (by decide)), (fun z => absurd z (by decide)), (fun z => absurd z (by decide)), (fun z => absurd z (by decide)), (fun z => absurd z (by decide)), (fun z => absurd z (by decide)), (fun z => absurd z (by decide)), (fun z => absurd z (by decide)), (fun _ z => absurd z (by decide)), (fun _ z => absurd z (by decide)), (fun z => absurd z (by decide))⟩
                · rw [hxa] at e9; cases e9; rw [hxr]; exact ⟨(fun _ _ => hxk), (fun z => absurd z (by decide)), (fun z => absurd z (by decide)), (fun z => absurd z (by decide)), (fun z => absurd z (by decide)), (fun z => absurd z (by decide)), (fun z => absurd z (by decide)), (fun z => absurd z (by decide)), (fun z => absurd z (by decide)), (fun z => absurd z (by decide)), (fun z => absurd z (by decide)), (fun z => absurd z (by decide)), (fun z => absurd z (by decide)), (fun z => absurd z (by decide)), (fun z => absurd z (by decide)), (fun z => absurd z (by decide)), (fun z => absurd z (by decide)), (fun z => absurd z (by decide)), (fun z => absurd z (by decide)), (fun z => absurd z (by decide)), (fun z => absurd z (by decide)), (fun _ _ => ⟨hxk, (by omega)⟩), (fun _ z => absurd z (by decide)), (fun z => absurd z (by decide))⟩
                · rw [hc22] at e9; cases e9
                · rw [hc23] at e9; cases e9
              have hdn := LsN.done (L := (173 + 3 * (20 - dp))) (O := O) (k := k9) hls2 (by omega) (fun x9 => Owi.k32 hkd2 (by omega)) ⟨k9I, (by rw [hkd2]; exact ⟨(fun z => absurd z (by decide)), (fun z => absurd z (by decide)), (fun z => absurd z (by decide))⟩)⟩ (Shp.k32 hkd2 (by show ¬ K2.2.2.1 0 q2 = none; rw [hxa]; intro z; cases z)) (fun f9 => Lsf.k32 hkd2) hkid hc24 hkch how
              have hz330 : NwR K K2 g (gset g2 q2 (173 + 3 * (20 - dp)) O k9) q2 O k9 ((173 + 3 * (20 - dp))) := hdn
              have hz331 : rS k9 = at9 ∧ rE k9 ≤ (at2 + r324) ∧ rS k9 ≤ rE k9 ∧ rD k9 ≤ 2 * (20 - dp) + 2 := (by omega)
              have hz332 : at9 + 3 ≤ (at2 + r324) ∧ (at2 + r324) ≤ sz := (by omega)
              have hz333 : sg ≤ sg2 ∧ sg2 ≤ 60 := (by omega)
              have hz334 : ¬ K2.2.1 0 q2 = 22 := (by rw [hkd2]; decide)
              have hz335 : NwT (B 7) sz (B 10) f2 K K2 at9 (at2 + r324) := (NwT.le htki (by omega))
              have hO : OKP G h0 a (upd (upd (upd (upd F 2 (nI sz)) 9 (nI (at2 + r324))) 10 (nI dp)) 11 (nI sg2)) R Z (updA B 10 f2) J K2 w := hO.to rfl
              refine W.widen (k := (2 * (sz - at9) + 20)) (n := (11 * (2 * (sz - at9) + 20))) (by omega) (by omega) ?_
              have hzz1 : H.size ≤ s.heap.size + ((2 * ((at2 + r324) - at9) - 4)) := (by have z : (2 * (at2 - at9) - 4) ≤ (2 * ((at2 + r324) - at9) - 4) := (by omega); omega)
              have hzz2 : hSl H ≤ hSl s.heap + ((11 * (2 * ((at2 + r324) - at9) - 4))) := (by have z : (11 * (2 * (at2 - at9) - 4)) ≤ (11 * (2 * ((at2 + r324) - at9) - 4)) := (by omega); omega)
              exact W.aret (v := .ref q2) hx hb hr (Or.inl ⟨_, rfl⟩) (Or.inr ⟨_, rfl⟩) (fun t99 ht99 hW99 => ⟨⟨_, (w, (q2, K2, (gset g2 q2 (173 + 3 * (20 - dp)) O k9), (at2 + r324), sg2, f2, k9)), rfl, ⟨rfl, hz330, hz331, hz332, hz333, hz334, hz335, hO⟩, by rw [ht99]; exact hP, hD, by rw [ht99]; exact hzz1, by rw [ht99]; exact hzz2⟩, hS.F ht99⟩) hS.2.2 dX8_tryStatement_128
            · have n336 : ¬ (r324 = 0) := fun h9 => c328 ((nI_eq (a := r324) (b := 0) (by omega) (by omega)).mpr h9)
              refine lv_aload_n hx hb dX8_tryStatement_119 rfl (lv_at hl 2 rfl) ?_
              refine lv_aload_n hx hb dX8_tryStatement_120 rfl (lv_at hl 3 rfl) ?_
              have hO : OKP G h0 a (upd (upd (upd (upd (upd (upd (upd (upd (upd (upd F 2 (nI sz)) 9 (nI at9)) 10 (nI dp)) 11 (nI sg)) 9 (nI (at2 + r324))) 11 (nI sg2)) 2 (nI sz)) 9 (nI (at2 + r324))) 10 (nI dp)) 11 (nI sg2)) R Z (updA B 10 f2) J K2 w := hO.to rfl
              obtain ⟨_, qr340, hqr341⟩ := hO.2.1 23 _ (sg_23 G h0 a _ _ _ _ _)
              refine pn_V0 (G := G) (As := []) (rest := [.ref q2]) hx hb hml hown hq hE hX pX0_al hP hD hS hA hl.1 (P_block l G h0 a (upd (upd (upd (upd (upd (upd F 2 (nI sz)) 9 (nI at9)) 10 (nI dp)) 11 (nI sg)) 9 (nI (at2 + r324))) 11 (nI sg2)) R Z (updA B 10 f2) J K2 w n (at2 + r324) sz dp sg2 0 g2 (by omega) (by omega) hdp (by omega) hls2.1.1 (fun o9 h9 => absurd h9 (by omega)) ist hO hl0) (gV pw_1007 pw_1008 pw_1009 pw_796 pw_1056) hV_X8_block qr340 5 hqr341 rfl rfl rfl (Nat.le_of_ble_eq_true rfl) dX8_tryStatement_121 ⟨(by show (2 * (at2 - at9) - 4) + (2 * (sz - (at2 + r324)) + 20) ≤ (2 * (sz - at9) + 20); omega), (by show (11 * (2 * (at2 - at9) - 4)) + (11 * (2 * (sz - (at2 + r324)) + 20)) ≤ (11 * (2 * (sz - at9) + 20)); omega)⟩ ⟨(by show (50 * n + 54) + 1 ≤ (50 * n + 58); omega), (by show 8 + (5 + 11) + (1500 * n + 1560) ≤ (1500 * n + 1650); omega)⟩ (fun v339 u337 H locs hw338 hP hD hS => ?_) (fun ux ce9 q9 H9 locs9 hux hP9 hD9 hS9 hce hcv hcl => pb_out ux (ThQ.up (Thx.same (Thx.same (Thx.same (Thx.same (Thx.b (Thx.f (Thx.f Thx.rfl (by omega)) (by omega)) (by omega) (by decide)) rfl) rfl) rfl) rfl) RhX.rfl hux) hnt hlocks hce hcv hcl hP9 hD9 hS9 (by show (2 * (at2 - at9) - 4) + (2 * (sz - (at2 + r324)) + 20) ≤ (2 * (sz - at9) + 20); omega) (by show (11 * (2 * (at2 - at9) - 4)) + (11 * (2 * (sz - (at2 + r324)) + 20)) ≤ (11 * (2 * (sz - at9) + 20)); omega))
              obtain ⟨w, r342, K343, g344, at345, sg346, f347, k348⟩ := u337
              obtain ⟨hw338, h349, h350, h351, h352, h353, h354, h355, hO⟩ := hw338
              have h349 : NwR K2 K343 g2 g344 r342 0 k348 ((171 + 3 * (20 - dp))) := h349
              have h350 : rS k348 = (at2 + r324) ∧ rE k348 ≤ at345 ∧ rS k348 ≤ rE k348 ∧ rD k348 ≤ 2 * (20 - dp) := h350
              have h351 : (at2 + r324) + 2 ≤ at345 ∧ at345 ≤ sz := h351
              have h352 : sg2 ≤ sg346 ∧ sg346 ≤ 60 := h352
              have h353 : K343.2.1 0 r342 = 21 := h353
              have h354 : rS k348 + 2 ≤ rE k348 := h354
              have h355 : NwT ((B 7)) sz (f2) f347 K2 K343 (at2 + r324) at345 := h355
              obtain rfl : v339 = some (.ref r342) := hw338
              have hf356 : K343.1 q2 = 1 := (((h349).2.1.1 q2 (by rw [hq2]; decide)).1).trans hq2
              have hf357 : K343.2.1 0 q2 = 32 := (((h349).2.1.1 q2 (by rw [hq2]; decide)).2.1 0).trans hkd2
              have hf358 : K343.2.2.1 2 q2 = none := (((h349).2.1.1 q2 (by rw [hq2]; decide)).2.2.1 2).trans hc22
              have hf359 : K343.2.2.1 3 q2 = none := (((h349).2.1.1 q2 (by rw [hq2]; decide)).2.2.1 3).trans hc23
              have hf360 : K343.2.2.1 4 q2 = none := (((h349).2.1.1 q2 (by rw [hq2]; decide)).2.2.1 4).trans hc24
              have hf361 : K343.2.2.1 0 q2 = some xa := (((h349).2.1.1 q2 (by rw [hq2]; decide)).2.2.1 0).trans hxa
              have hf362 : K343.1 xa = 1 := (((h349).2.1.1 xa (by rw [hxT]; decide)).1).trans hxT
              have hf363 : K343.2.1 0 xa = 21 := (((h349).2.1.1 xa (by rw [hxT]; decide)).2.1 0).trans hxk
              have hO : OKP G h0 a (upd (upd (upd (upd F 2 (nI sz)) 9 (nI at345)) 10 (nI dp)) 11 (nI sg346)) R Z (updA B 10 f347) J K343 w := hO.to rfl
              refine W.widen (k := ((2 * (at2 - at9) - 4) + (2 * (at345 - (at2 + r324)) - 3))) (n := ((11 * (2 * (at2 - at9) - 4)) + (11 * (2 * (at345 - (at2 + r324)) - 3)))) (by show (2 * (at2 - at9) - 4) + (2 * (at345 - (at2 + r324)) - 3) ≤ ((2 * (at2 - at9) - 4) + (2 * (at345 - (at2 + r324)) - 3)); omega) (by show (11 * (2 * (at2 - at9) - 4)) + (11 * (2 * (at345 - (at2 + r324)) - 3)) ≤ ((11 * (2 * (at2 - at9) - 4)) + (11 * (2 * (at345 - (at2 + r324)) - 3))); omega) ?_
              refine W.eq (g2 := F0 m 124 ls [.ref r342, .ref q2]) rfl ?_
              have htk364 : NwT (B 7) sz (B 10) f347 K K343 at9 at345 := (NwT.call htki h355 (by omega))
              have har5 := LsN.call0 hls2 h349
              have hbr := h349.2.2.1
              have hbr1 := hbr.2.2.1
              have hbr2 := hbr.2.2.2.1
              have hf365 : K343.1 r342 = 1 := hbr.2.1
              have hxz : g344 0 xa = g2 0 xa := h349.2.1.2 xa (by rw [hxT]; decide) 0
              have hxr9 : g344 2 xa = ka := (h349.2.1.2 xa (by rw [hxT]; decide) 2).trans hxr
              have hbr9 : g344 2 r342 = k348 := hbr.2.2.2.2.2.1
              refine p_put (v := .ref r342) (ty := (.object "JinjaTongue$Node")) (C := RX7) (Tc := TX7) (N := 11) (ci := 13) (K' := (kC K343 2 q2 (some r342))) hx hb hq pin_wsX70 tyX7 tyX7_ok nmX7 hown hE hP hD hS hO (by rw [hf356]; decide) (rep_1 hf356) rfl 8 (by decide) (hq _ pw_943) (fun _ h9 => h9) rfl (by decide +kernel) rfl rfl (Nat.le_of_ble_eq_true rfl) rfl (by rw [rep_1 (show (kC K343 2 q2 (some r342)).1 q2 = 1 from hf356), pc_2] <;> rfl) (fun p9 hp9 => rep_kC hp9) dX8_tryStatement_124 (fun H locs w hP hD hS hO => ?_)
              obtain ⟨K366, hK367⟩ : ∃ z : PK, z = (kC K343 2 q2 (some r342)) := ⟨_, rfl⟩
              rw [← hK367] at hO
              have hf368 : K366.1 q2 = 1 := (by rw [hK367]; exact hf356)
              have hf369 : K366.2.1 0 q2 = 32 := (by rw [hK367]; exact hf357)
              have hf370 : K366.2.2.1 3 q2 = none := (by rw [hK367]; exact (kC_of (by decide)).trans hf359)
              have hf371 : K366.2.2.1 4 q2 = none := (by rw [hK367]; exact (kC_of (by decide)).trans hf360)
              have hf372 : K366.2.2.1 0 q2 = some xa := (by rw [hK367]; exact (kC_of (by decide)).trans hf361)
              have hf373 : K366.1 xa = 1 := (by rw [hK367]; exact hf362)
              have hf374 : K366.2.1 0 xa = 21 := (by rw [hK367]; exact hf363)
              have hf375 : K366.1 r342 = 1 := (by rw [hK367]; exact hf365)
              have hf376 : K366.2.1 0 r342 = 21 := (by rw [hK367]; exact h353)
              have hf377 : K366.2.2.1 2 q2 = some r342 := by rw [hK367]; exact kC_eq
              have htk378 : NwT (B 7) sz (B 10) f347 K K366 at9 at345 := by rw [hK367]; exact NwT.put htk364
              refine lv_aload_n hx hb dX8_tryStatement_127 rfl (lv_at hl 2 rfl) ?_
              refine W_size (fun hz1 hz2 => ?_)
              refine vx_ret ?_
              have har6 : LsN K K366 g g344 q2 1 (172 + 3 * (20 - dp)) (rE ka) at2 (2 * (20 - dp)) := by rw [hK367]; exact LsN.put har5 (by decide)
              have hkid : ∀ f9 y9 : Nat, f9 ≤ 3 → ¬ f9 = 1 → K366.2.2.1 f9 q2 = some y9 → K366.1 y9 = 1 ∧ 1 ≤ g344 0 y9 ∧ g344 0 y9 < (173 + 3 * (20 - dp)) := by
                intro f9 y9 hf9 hf1 hy9
                rcases (show f9 = 0 ∨ f9 = 2 ∨ f9 = 3 by omega) with rfl | rfl | rfl
                · rw [hf372] at hy9; cases hy9; exact ⟨hf373, by omega, by omega⟩
                · rw [hf377] at hy9; cases hy9; exact ⟨hf375, by omega, by omega⟩
                · rw [hf370] at hy9; cases hy9
              obtain ⟨k9, k9I, hkS, hkE, hkM, hkN, hkX, hkD⟩ := rk_ex (s := at9) (e := at345) (m := (rE ka)) (n := at2) (x := at2) (d := (2 * (20 - dp) + 2)) (by omega)
              have hkch : ∀ f9 y9 : Nat, f9 ≤ 3 → K366.2.2.1 f9 q2 = some y9 → Kch (K366.2.1 0 q2) f9 (K366.2.1 0 y9) k9 (g344 2 y9) := by
                intro f9 y9 hf9 e9
                rw [hf369]
                rcases (show f9 = 1 ∨ f9 = 0 ∨ f9 = 2 ∨ f9 = 3 by omega) with rfl | rfl | rfl | rfl
                · exact ⟨(fun _ z => absurd rfl z), (fun z => absurd z (by decide)), (fun z => absurd z (by decide)), (fun z => absurd z (by decide)), (fun z => absurd z (by decide)), (fun z => absurd z (by decide)), (fun z => absurd z (by decide)), (fun z => absurd z (by decide)), (fun z => absurd z (by decide)), (fun z => absurd z (by decide)), (fun z => absurd z (by decide)), (fun z => absurd z (by decide)), (fun z => absurd z (by decide)), (fun z => absurd z (by decide)), (fun z => absurd z (by decide)), (fun z => absurd z (by decide)), (fun z => absurd z (by decide)), (fun z => absurd z (by decide)), (fun z => absurd z (by decide)), (fun z => absurd z (by decide)), (fun z => absurd z (by decide)), (fun _ z => absurd z (by decide)), (fun _ z => absurd z (by decide)), (fun z => absurd z (by decide))⟩
                · rw [hf372] at e9; cases e9; rw [hxr9]; exact ⟨(fun _ _ => hf374), (fun z => absurd z (by decide)), (fun z => absurd z (by decide)), (fun z => absurd z (by decide)), (fun z => absurd z (by decide)), (fun z => absurd z (by decide)), (fun z => absurd z (by decide)), (fun z => absurd z (by decide)), (fun z => absurd z (by decide)), (fun z => absurd z (by decide)), (fun z => absurd z (by decide)), (fun z => absurd z (by decide)), (fun z => absurd z (by decide)), (fun z => absurd z (by decide)), (fun z => absurd z (by decide)), (fun z => absurd z (by decide)), (fun z => absurd z (by decide)), (fun z => absurd z (by decide)), (fun z => absurd z (by decide)), (fun z => absurd z (by decide)), (fun z => absurd z (by decide)), (fun _ _ => ⟨hf374, (by omega)⟩), (fun _ z => absurd z (by decide)), (fun z => absurd z (by decide))⟩
                · rw [hf377] at e9; cases e9; rw [hbr9]; exact ⟨(fun _ _ => hf376), (fun z => absurd z (by decide)), (fun z => absurd z (by decide)), (fun z => absurd z (by decide)), (fun z => absurd z (by decide)), (fun z => absurd z (by decide)), (fun z => absurd z (by decide)), (fun z => absurd z (by decide)), (fun z => absurd z (by decide)), (fun z => absurd z (by decide)), (fun z => absurd z (by decide)), (fun z => absurd z (by decide)), (fun z => absurd z (by decide)), (fun z => absurd z (by decide)), (fun z => absurd z (by decide)), (fun z => absurd z (by decide)), (fun z => absurd z (by decide)), (fun z => absurd z (by decide)), (fun z => absurd z (by decide)), (fun z => absurd z (by decide)), (fun z => absurd z (by decide)), (fun _ z => absurd z (by decide)), (fun _ _ => ⟨hf376, (by omega)⟩), (fun z => absurd z (by decide))⟩
                · rw [hf370] at e9; cases e9
              have hdn := LsN.done (L := (173 + 3 * (20 - dp))) (O := O) (k := k9) har6 (by omega) (fun x9 => Owi.k32 hf369 (by omega)) ⟨k9I, (by rw [hf369]; exact ⟨(fun z => absurd z (by decide)), (fun z => absurd z (by decide)), (fun z => absurd z (by decide))⟩)⟩ (Shp.k32 hf369 (by show ¬ K366.2.2.1 0 q2 = none; rw [hf372]; intro z; cases z)) (fun f9 => Lsf.k32 hf369) hkid hf371 hkch how
              have hz379 : NwR K K366 g (gset g344 q2 (173 + 3 * (20 - dp)) O k9) q2 O k9 ((173 + 3 * (20 - dp))) := hdn
              have hz380 : rS k9 = at9 ∧ rE k9 ≤ at345 ∧ rS k9 ≤ rE k9 ∧ rD k9 ≤ 2 * (20 - dp) + 2 := (by omega)
              have hz381 : at9 + 3 ≤ at345 ∧ at345 ≤ sz := (by omega)
              have hz382 : sg ≤ sg346 ∧ sg346 ≤ 60 := (by omega)
              have hz383 : ¬ K366.2.1 0 q2 = 22 := (by rw [hf369]; decide)
              have hz384 : NwT (B 7) sz (B 10) f347 K K366 at9 at345 := (NwT.le htk378 (by omega))
              have hO : OKP G h0 a (upd (upd (upd (upd F 2 (nI sz)) 9 (nI at345)) 10 (nI dp)) 11 (nI sg346)) R Z (updA B 10 f347) J K366 w := hO.to rfl
              refine W.widen (k := (2 * (sz - at9) + 20)) (n := (11 * (2 * (sz - at9) + 20))) (by omega) (by omega) ?_
              have hzz1 : H.size ≤ s.heap.size + ((2 * (at345 - at9) - 4)) := (by have z : ((2 * (at2 - at9) - 4) + (2 * (at345 - (at2 + r324)) - 3)) ≤ (2 * (at345 - at9) - 4) := (by omega); omega)
              have hzz2 : hSl H ≤ hSl s.heap + ((11 * (2 * (at345 - at9) - 4))) := (by have z : ((11 * (2 * (at2 - at9) - 4)) + (11 * (2 * (at345 - (at2 + r324)) - 3))) ≤ (11 * (2 * (at345 - at9) - 4)) := (by omega); omega)
              exact W.aret (v := .ref q2) hx hb hr (Or.inl ⟨_, rfl⟩) (Or.inr ⟨_, rfl⟩) (fun t99 ht99 hW99 => ⟨⟨_, (w, (q2, K366, (gset g344 q2 (173 + 3 * (20 - dp)) O k9), at345, sg346, f347, k9)), rfl, ⟨rfl, hz379, hz380, hz381, hz382, hz383, hz384, hO⟩, by rw [ht99]; exact hP, hD, by rw [ht99]; exact hzz1, by rw [ht99]; exact hzz2⟩, hS.F ht99⟩) hS.2.2 dX8_tryStatement_128
        · have n385 : ¬ (r232 = 0) := fun h9 => c235 ((nI_eq (a := r232) (b := 0) (by omega) (by omega)).mpr h9)
          refine lv_aload_n hx hb dX8_tryStatement_59 rfl (lv_at hl 3 rfl) ?_
          have hO : OKP G h0 a (upd (upd (upd (upd (upd (upd (upd (upd (upd (upd F 2 (nI sz)) 9 (nI at9)) 10 (nI dp)) 11 (nI sg)) 9 (nI at2)) 11 (nI sg2)) 2 (nI sz)) 9 (nI at2)) 10 (nI dp)) 11 (nI sg2)) R Z (updA B 10 f2) J K2 w := hO.to rfl
          obtain ⟨_, qr389, hqr390⟩ := hO.2.1 23 _ (sg_23 G h0 a _ _ _ _ _)
          refine pn_V0 (G := G) (As := []) (rest := []) hx hb hml hown hq hE hX pX0_al hP hD hS hA hl.1 (P_catch l G h0 a (upd (upd (upd (upd (upd (upd F 2 (nI sz)) 9 (nI at9)) 10 (nI dp)) 11 (nI sg)) 9 (nI at2)) 11 (nI sg2)) R Z (updA B 10 f2) J K2 w n at2 sz dp sg2 (q2 + 1) g2 (by omega) (by omega) hdp (by omega) hls2.1.1 (fun o9 h9 => by have z : o9 = q2 := (by omega); rw [z]; exact ⟨hq2, hls2.2.2.2.1⟩) ist hO hl0) (gV pw_1052 pw_1053 pw_1054 pw_796 pw_1006) hV_X8_catchBlock qr389 5 hqr390 rfl rfl rfl (Nat.le_of_ble_eq_true rfl) dX8_tryStatement_60 ⟨(by show (2 * (at2 - at9) - 4) + (2 * (sz - at2) + 20) ≤ (2 * (sz - at9) + 20); omega), (by show (11 * (2 * (at2 - at9) - 4)) + (11 * (2 * (sz - at2) + 20)) ≤ (11 * (2 * (sz - at9) + 20)); omega)⟩ ⟨(by show (50 * n + 56) + 1 ≤ (50 * n + 58); omega), (by show 8 + (3 + 11) + (1500 * n + 1600) ≤ (1500 * n + 1650); omega)⟩ (fun v388 u386 H locs hw387 hP hD hS => ?_) (fun ux ce9 q9 H9 locs9 hux hP9 hD9 hS9 hce hcv hcl => pb_out ux (ThQ.up (Thx.same (Thx.same (Thx.same (Thx.same (Thx.b (Thx.f (Thx.f Thx.rfl (by omega)) (by omega)) (by omega) (by decide)) rfl) rfl) rfl) rfl) RhX.rfl hux) hnt hlocks hce hcv hcl hP9 hD9 hS9 (by show (2 * (at2 - at9) - 4) + (2 * (sz - at2) + 20) ≤ (2 * (sz - at9) + 20); omega) (by show (11 * (2 * (at2 - at9) - 4)) + (11 * (2 * (sz - at2) + 20)) ≤ (11 * (2 * (sz - at9) + 20)); omega))
          obtain ⟨w, r391, K392, g393, at394, sg395, f396, k397⟩ := u386
          obtain ⟨hw387, h398, h399, h400, h401, h402, h403, hO⟩ := hw387
          have h398 : NwR K2 K392 g2 g393 r391 (q2 + 1) k397 ((172 + 3 * (20 - dp))) := h398
          have h399 : rS k397 = at2 ∧ rE k397 ≤ at394 ∧ rS k397 ≤ rE k397 ∧ rD k397 ≤ 2 * (20 - dp) := h399
          have h400 : at2 + 7 ≤ at394 ∧ at394 ≤ sz := h400
          have h401 : sg2 ≤ sg395 ∧ sg395 ≤ 60 := h401
          have h402 : ¬ K392.2.1 0 r391 = 22 := h402
          have h403 : NwT ((B 7)) sz (f2) f396 K2 K392 at2 at394 := h403
          obtain rfl : v388 = some (.ref r391) := hw387
          have hf404 : K392.1 q2 = 1 := (((h398).2.1.1 q2 (by rw [hq2]; decide)).1).trans hq2
          have hf405 : K392.2.1 0 q2 = 32 := (((h398).2.1.1 q2 (by rw [hq2]; decide)).2.1 0).trans hkd2
          have hf406 : K392.2.2.1 2 q2 = none := (((h398).2.1.1 q2 (by rw [hq2]; decide)).2.2.1 2).trans hc22
          have hf407 : K392.2.2.1 3 q2 = none := (((h398).2.1.1 q2 (by rw [hq2]; decide)).2.2.1 3).trans hc23
          have hf408 : K392.2.2.1 4 q2 = none := (((h398).2.1.1 q2 (by rw [hq2]; decide)).2.2.1 4).trans hc24
          have hf409 : K392.2.2.1 0 q2 = some xa := (((h398).2.1.1 q2 (by rw [hq2]; decide)).2.2.1 0).trans hxa
          have hf410 : K392.1 xa = 1 := (((h398).2.1.1 xa (by rw [hxT]; decide)).1).trans hxT
          have hf411 : K392.2.1 0 xa = 21 := (((h398).2.1.1 xa (by rw [hxT]; decide)).2.1 0).trans hxk
          have hO : OKP G h0 a (upd (upd (upd (upd F 2 (nI sz)) 9 (nI at394)) 10 (nI dp)) 11 (nI sg395)) R Z (updA B 10 f396) J K392 w := hO.to rfl
          refine W.widen (k := ((2 * (at2 - at9) - 4) + (2 * (at394 - at2) - 6))) (n := ((11 * (2 * (at2 - at9) - 4)) + (11 * (2 * (at394 - at2) - 6)))) (by show (2 * (at2 - at9) - 4) + (2 * (at394 - at2) - 6) ≤ ((2 * (at2 - at9) - 4) + (2 * (at394 - at2) - 6)); omega) (by show (11 * (2 * (at2 - at9) - 4)) + (11 * (2 * (at394 - at2) - 6)) ≤ ((11 * (2 * (at2 - at9) - 4)) + (11 * (2 * (at394 - at2) - 6))); omega) ?_
          refine W.eq (g2 := F0 m 63 ls [.ref r391]) rfl ?_
          have htk412 : NwT (B 7) sz (B 10) f396 K K392 at9 at394 := (NwT.call htki h403 (by omega))
          have har3 := LsN.call (B2 := (172 + 3 * (20 - dp))) (hi2 := at394) hls2 h398 (by omega)
          have hr3 := h398.2.2.1
          have hr4 : K392.1 r391 = 1 ∧ 1 ≤ g393 0 r391 ∧ g393 1 r391 = q2 + 1 := ⟨hr3.2.1, hr3.2.2.1, hr3.2.2.2.2.1⟩
          have hr5 : K.1 r391 = 0 := old_T hls2.1.2.1 hr3.1
          have hr6 := hr3.2.2.2.2.2.1
          have hr8 : rS (g393 2 r391) = at2 ∧ rE (g393 2 r391) ≤ at394 ∧ rS (g393 2 r391) ≤ rE (g393 2 r391) := by rw [hr6]; exact ⟨h399.1, h399.2.1, h399.2.2.1⟩
          have hf413 : K392.1 r391 = 1 := hr3.2.1
          have hrq : ¬ r391 = q2 := fun z => by have z2 := hr3.1; rw [z, hq2] at z2; exact absurd z2 (by decide)
          refine lv_astore (lv' := [(4, .ref r391), (3, .int (nI i2)), (2, va_rf la2), (1, .ref q2), (0, .ref (a 3))]) hx hb dX8_tryStatement_63 hl (by decide) rfl (fun ls hl => ?_)
          rcases la2 with _ | y9
          · have hl : lv_has ls 5 [(4, .ref r391), (3, .int (nI i2)), (2, .null), (1, .ref q2), (0, .ref (a 3))] := hl
            refine lv_aload_nN hx hb dX8_tryStatement_65 rfl (lv_at hl 2 rfl) ?_
            refine lv_ifnonnullN hx hb dX8_tryStatement_66 ?_
            refine lv_aload_n hx hb dX8_tryStatement_69 rfl (lv_at hl 3 rfl) ?_
            refine lv_aload hx hb dX8_tryStatement_70 (lv_at hl 0 rfl) ?_
            refine p_put (v := .ref r391) (ty := (.object "JinjaTongue$Node")) (C := RX7) (Tc := TX7) (N := 11) (ci := 13) (K' := (kC K392 1 q2 (some r391))) hx hb hq pin_wsX70 tyX7 tyX7_ok nmX7 hown hE hP hD hS hO (by rw [hf404]; decide) (rep_1 hf404) rfl 7 (by decide) (hq _ pw_910) (fun _ h9 => h9) rfl (by decide +kernel) rfl rfl (Nat.le_of_ble_eq_true rfl) rfl (by rw [rep_1 (show (kC K392 1 q2 (some r391)).1 q2 = 1 from hf404), pc_1] <;> rfl) (fun p9 hp9 => rep_kC hp9) dX8_tryStatement_72 (fun H locs w hP hD hS hO => ?_)
            obtain ⟨K414, hK415⟩ : ∃ z : PK, z = (kC K392 1 q2 (some r391)) := ⟨_, rfl⟩
            rw [← hK415] at hO
            have hf416 : K414.1 q2 = 1 := (by rw [hK415]; exact hf404)
            have hf417 : K414.2.1 0 q2 = 32 := (by rw [hK415]; exact hf405)
            have hf418 : K414.2.2.1 2 q2 = none := (by rw [hK415]; exact (kC_of (by decide)).trans hf406)
            have hf419 : K414.2.2.1 3 q2 = none := (by rw [hK415]; exact (kC_of (by decide)).trans hf407)
            have hf420 : K414.2.2.1 4 q2 = none := (by rw [hK415]; exact (kC_of (by decide)).trans hf408)
            have hf421 : K414.2.2.1 0 q2 = some xa := (by rw [hK415]; exact (kC_of (by decide)).trans hf409)
            have hf422 : K414.1 xa = 1 := (by rw [hK415]; exact hf410)
            have hf423 : K414.2.1 0 xa = 21 := (by rw [hK415]; exact hf411)
            have hf424 : K414.1 r391 = 1 := (by rw [hK415]; exact hf413)
            have hf425 : K414.2.2.1 1 q2 = some r391 := by rw [hK415]; exact kC_eq
            have htk426 : NwT (B 7) sz (B 10) f396 K K414 at9 at394 := by rw [hK415]; exact NwT.put htk412
            refine lv_goto (tgt := 84) hx hb dX8_tryStatement_75 (by decide) ?_
            have har4 : LsN K K414 g g393 q2 1 (172 + 3 * (20 - dp)) (rE ka) at394 (2 * (20 - dp)) := by rw [hK415]; exact LsN.first har3 hr4
            have hr7 : (K.1 r391 = 0 ∧ K414.1 r391 = 1 ∧ 1 ≤ g393 0 r391 ∧ g393 1 r391 = q2 + 1) := ⟨hr5, by rw [hK415]; exact hr4.1, hr4.2.1, hr4.2.2⟩
            refine lv_aload hx hb dX8_tryStatement_84 (lv_at hl 0 rfl) ?_
            refine lv_astore_n (lv' := [(2, .ref r391), (4, .ref r391), (3, .int (nI i2)), (1, .ref q2), (0, .ref (a 3))]) hx hb dX8_tryStatement_86 rfl hl (by decide) rfl (fun ls hl => ?_)
            refine lv_iinc (v := (nI (i2 + 1))) (lv' := [(3, .int (nI (i2 + 1))), (2, .ref r391), (4, .ref r391), (1, .ref q2), (0, .ref (a 3))]) hx hb dX8_tryStatement_87 hl (k := 2) rfl (nI_1 i2) (by decide) rfl (fun ls hl => ?_)
            refine lv_goto (tgt := 40) hx hb dX8_tryStatement_90 (by decide) ?_
            have hxz : g393 0 xa = g2 0 xa := h398.2.1.2 xa (by rw [hxT]; decide) 0
            refine W.widen (k := (2 * (at394 - at9) - 4)) (n := (11 * (2 * (at394 - at9) - 4))) (by show ((2 * (at2 - at9) - 4) + (2 * (at394 - at2) - 6)) ≤ _; omega) (by show ((11 * (2 * (at2 - at9) - 4)) + (11 * (2 * (at394 - at2) - 6))) ≤ _; omega) ?_
            have hO : OKP G h0 a (upd (upd (upd (upd F 2 (nI sz)) 9 (nI at394)) 10 (nI dp)) 11 (nI sg395)) R Z (updA B 10 f396) J K414 w := hO.to rfl
            exact ih_i (i2 + 1) at394 sg395 f396 (some r391) K414 g393 q2 xa ka _ _ _ _ (by omega) (by omega) (by omega) (by omega) har4 hf417 hf418 hf419 hf420 hf421 hf422 hf423 (by omega) ((h398.2.1.2 xa (by rw [hxT]; decide) 2).trans hxr) (by omega) (fun y h => by cases h; exact ⟨hr7, by omega⟩) (NwT.le htk426 (by omega)) hP hD hS hO (lv_sub hl [0, 1, 3, 4] rfl)
          · have hl : lv_has ls 5 [(4, .ref r391), (3, .int (nI i2)), (2, .ref y9), (1, .ref q2), (0, .ref (a 3))] := hl
            obtain ⟨hy1, hy2⟩ := hla2 y9 rfl
            have hy0 : ¬ K2.1 y9 = 0 := by rw [hy1.2.1]; decide
            have hy3 : K392.1 y9 = 1 := ((h398.2.1.1 y9 hy0).1).trans hy1.2.1
            have hy4 := fun i => h398.2.1.2 y9 hy0 i
            have hyq : ¬ q2 = y9 := fun z => by have z2 := hy1.1; rw [← z, hls2.2.1] at z2; have z3 := hy1.2.2.1; rw [← z, hls2.2.2.2.1] at z3; omega
            refine lv_aload_n hx hb dX8_tryStatement_65 rfl (lv_at hl 2 rfl) ?_
            refine lv_ifnonnull (tgt := 78) hx hb dX8_tryStatement_66 (by decide) ?_
            refine lv_aload_n hx hb dX8_tryStatement_78 rfl (lv_at hl 2 rfl) ?_
            refine lv_aload hx hb dX8_tryStatement_79 (lv_at hl 0 rfl) ?_
            refine p_put (v := .ref r391) (ty := (.object "JinjaTongue$Node")) (C := RX7) (Tc := TX7) (N := 11) (ci := 13) (K' := (kC K392 4 y9 (some r391))) hx hb hq pin_wsX70 tyX7 tyX7_ok nmX7 hown hE hP hD hS hO (by rw [hy3]; decide) (rep_1 hy3) rfl 10 (by decide) (hq _ pw_911) (fun _ h9 => h9) rfl (by decide +kernel) rfl rfl (Nat.le_of_ble_eq_true rfl) rfl (by rw [rep_1 (show (kC K392 4 y9 (some r391)).1 y9 = 1 from hy3), pc_4] <;> rfl) (fun p9 hp9 => rep_kC hp9) dX8_tryStatement_81 (fun H locs w hP hD hS hO => ?_)
            obtain ⟨K427, hK428⟩ : ∃ z : PK, z = (kC K392 4 y9 (some r391)) := ⟨_, rfl⟩
            rw [← hK428] at hO
            have hf429 : K427.1 q2 = 1 := (by rw [hK428]; exact hf404)
            have hf430 : K427.2.1 0 q2 = 32 := (by rw [hK428]; exact hf405)
            have hf431 : K427.2.2.1 2 q2 = none := (by rw [hK428]; exact (kC_of (by decide)).trans hf406)
            have hf432 : K427.2.2.1 3 q2 = none := (by rw [hK428]; exact (kC_of (by decide)).trans hf407)
            have hf433 : K427.2.2.1 4 q2 = none := (by rw [hK428]; exact (kC_ne hyq).trans hf408)
            have hf434 : K427.2.2.1 0 q2 = some xa := (by rw [hK428]; exact (kC_of (by decide)).trans hf409)
            have hf435 : K427.1 xa = 1 := (by rw [hK428]; exact hf410)
            have hf436 : K427.2.1 0 xa = 21 := (by rw [hK428]; exact hf411)
            have hf437 : K427.1 r391 = 1 := (by rw [hK428]; exact hf413)
            have hf438 : K427.1 y9 = 1 := (by rw [hK428]; exact hy3)
            have hf439 : K427.2.2.1 4 y9 = some r391 := by rw [hK428]; exact kC_eq
            have htk440 : NwT (B 7) sz (B 10) f396 K K427 at9 at394 := by rw [hK428]; exact NwT.put htk412
            have hy5 := hy4 2
            have har4 : LsN K K427 g g393 q2 1 (172 + 3 * (20 - dp)) (rE ka) at394 (2 * (20 - dp)) := by rw [hK428]; exact LsN.next har3 (by decide) ⟨hy1.1, hy3, by rw [hy4 0]; exact hy1.2.2.1, by rw [hy4 1]; exact hy1.2.2.2⟩ hr4 (rS_lt (by rw [hy5]; omega)) (by rw [hy5]; omega)
            have hr7 : (K.1 r391 = 0 ∧ K427.1 r391 = 1 ∧ 1 ≤ g393 0 r391 ∧ g393 1 r391 = q2 + 1) := ⟨hr5, by rw [hK428]; exact hr4.1, hr4.2.1, hr4.2.2⟩
            refine lv_aload hx hb dX8_tryStatement_84 (lv_at hl 0 rfl) ?_
            refine lv_astore_n (lv' := [(2, .ref r391), (4, .ref r391), (3, .int (nI i2)), (1, .ref q2), (0, .ref (a 3))]) hx hb dX8_tryStatement_86 rfl hl (by decide) rfl (fun ls hl => ?_)
            refine lv_iinc (v := (nI (i2 + 1))) (lv' := [(3, .int (nI (i2 + 1))), (2, .ref r391), (4, .ref r391), (1, .ref q2), (0, .ref (a 3))]) hx hb dX8_tryStatement_87 hl (k := 2) rfl (nI_1 i2) (by decide) rfl (fun ls hl => ?_)
            refine lv_goto (tgt := 40) hx hb dX8_tryStatement_90 (by decide) ?_
            have hxz : g393 0 xa = g2 0 xa := h398.2.1.2 xa (by rw [hxT]; decide) 0
            refine W.widen (k := (2 * (at394 - at9) - 4)) (n := (11 * (2 * (at394 - at9) - 4))) (by show ((2 * (at2 - at9) - 4) + (2 * (at394 - at2) - 6)) ≤ _; omega) (by show ((11 * (2 * (at2 - at9) - 4)) + (11 * (2 * (at394 - at2) - 6))) ≤ _; omega) ?_
            have hO : OKP G h0 a (upd (upd (upd (upd F 2 (nI sz)) 9 (nI at394)) 10 (nI dp)) 11 (nI sg395)) R Z (updA B 10 f396) J K427 w := hO.to rfl
            exact ih_i (i2 + 1) at394 sg395 f396 (some r391) K427 g393 q2 xa ka _ _ _ _ (by omega) (by omega) (by omega) (by omega) har4 hf430 hf431 hf432 hf433 hf434 hf435 hf436 (by omega) ((h398.2.1.2 xa (by rw [hxT]; decide) 2).trans hxr) (by omega) (fun y h => by cases h; exact ⟨hr7, by omega⟩) (NwT.le htk440 (by omega)) hP hD hS hO (lv_sub hl [0, 1, 3, 4] rfl)
  refine W.widen (k := (2 * (at35 - at9) - 4)) (n := (11 * (2 * (at35 - at9) - 4))) (by show (1 + (2 * (at35 - (at9 + 1)) - 3)) ≤ _; omega) (by show (11 + (11 * (2 * (at35 - (at9 + 1)) - 3))) ≤ _; omega) ?_
  have hO : OKP G h0 a (upd (upd (upd (upd F 2 (nI sz)) 9 (nI at35)) 10 (nI dp)) 11 (nI sg36)) R Z (updA B 10 f37) J K61 w := hO.to rfl
  exact loop_i (sz + 1) 0 at35 sg36 f37 none K61 g34 q1 r32 k38 _ _ _ _ (by omega) (by omega) (by omega) (by omega) (LsN.of hns74 hq22 hf63 hg58 hno75 hf66) hf64 hf67 hf68 hf69 hf72 hf70 hf71 (by omega) hrk56 (by omega) (fun y h => by cases h) (NwT.le htk73 (by omega)) hP hD hS hO (lv_sub hl [0, 1, 2, 3] rfl)
