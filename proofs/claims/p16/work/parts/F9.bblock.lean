def PSt (l : Launch) (G : pT) (n : Nat) : Prop := ∀ (h0 : Nat) (a : Nat → Nat) (F : Nat → Int32) (R : Nat → Value) (Z : Int64) (B : Nat → Nat → Int32) (J : Nat → Nat → Int64) (K : PK) (w : va_W) (x : Nat) (at9 : Nat) (sz : Nat) (dp : Nat) (sg : Nat) (O : Nat) (g : Nat → Nat → Nat), (sz ≤ 5000) → (at9 ≤ sz) → (dp + n = 20) → (sg ≤ 60) → (WN K g) → (∀ o : Nat, O = o + 1 → K.1 o = 1 ∧ g 0 o = 0 ∧ ¬ K.2.1 0 o = 32) → (x ≤ 1) → (OKP G h0 a (upd (upd (upd (upd F 2 (nI sz)) 9 (nI at9)) 10 (nI dp)) 11 (nI sg)) R Z B J K w) → (l.stackTraces = false) → PBn l G pX0 yX8_statement cX8_statement 5 (some (.object "JinjaTongue$Node")) ({ frames := (50 * n + 50), cells := (2 * (sz - at9) + 20), slots := (11 * (2 * (sz - at9) + 20)), locals := (1500 * n + 1500) }) [.ref (a 3), .int (nI x)] w (fun (v : Option Value) (u : va_W × (Nat × PK × (Nat → Nat → Nat) × Nat × Nat × (Nat → Int32) × Nat)) => v = some (.ref u.2.1) ∧ (NwR K u.2.2.1 g u.2.2.2.1 u.2.1 O u.2.2.2.2.2.2.2 ((170 + 3 * (20 - dp)))) ∧ (rS u.2.2.2.2.2.2.2 = at9 ∧ rE u.2.2.2.2.2.2.2 ≤ u.2.2.2.2.1 ∧ rS u.2.2.2.2.2.2.2 ≤ rE u.2.2.2.2.2.2.2 ∧ rD u.2.2.2.2.2.2.2 ≤ 2 * (20 - dp)) ∧ (at9 + 1 ≤ u.2.2.2.2.1 ∧ u.2.2.2.2.1 ≤ sz) ∧ (sg ≤ u.2.2.2.2.2.1 ∧ u.2.2.2.2.2.1 ≤ 60) ∧ (x = 0 → ¬ u.2.2.1.2.1 0 u.2.1 = 22) ∧ (NwT (B 7) sz (B 10) u.2.2.2.2.2.2.1 K u.2.2.1 at9 u.2.2.2.2.1) ∧ (OKP G h0 a (upd (upd (upd (upd F 2 (nI sz)) 9 (nI u.2.2.2.2.1)) 10 (nI dp)) 11 (nI u.2.2.2.2.2.1)) R Z (updA B 10 u.2.2.2.2.2.2.1) J u.2.2.1 u.1)) (fun u => u.1) (fun (u : va_W × (Nat × PK × (Nat → Nat → Nat) × Nat × Nat × (Nat → Int32) × Nat)) => (2 * (u.2.2.2.2.1 - at9) - 1)) (fun (u : va_W × (Nat × PK × (Nat → Nat → Nat) × Nat × Nat × (Nat → Int32) × Nat)) => (11 * (2 * (u.2.2.2.2.1 - at9) - 1))) (fun (u : va_W × (Nat → Int32) × (Nat → Value) × (Nat → Nat → Int32)) => ThQ G h0 a (upd (upd (upd (upd F 2 (nI sz)) 9 (nI at9)) 10 (nI dp)) 11 (nI sg)) R Z B J u) (fun u => u.1)
def LaS (K K2 : PK) (g2 : Nat → Nat → Nat) (q at2 : Nat) (la : Option Nat) : Prop := ∀ y : Nat, la = some y → (K.1 y = 0 ∧ K2.1 y = 1 ∧ 1 ≤ g2 0 y ∧ g2 1 y = q + 1) ∧ rS (g2 2 y) < at2 ∧ rE (g2 2 y) ≤ at2
theorem dX8_block_0 : decode cX8_block 0 = .ok (.new 143, 3) := by decide +kernel
theorem dX8_block_3 : decode cX8_block 3 = .ok (.dup, 1) := by decide +kernel
theorem dX8_block_4 : decode cX8_block 4 = .ok (.bipush 21, 2) := by decide +kernel
theorem dX8_block_6 : decode cX8_block 6 = .ok (.aload_n 0, 1) := by decide +kernel
theorem dX8_block_7 : decode cX8_block 7 = .ok (.getfield 17, 3) := by decide +kernel
theorem dX8_block_10 : decode cX8_block 10 = .ok (.aload_n 0, 1) := by decide +kernel
theorem dX8_block_11 : decode cX8_block 11 = .ok (.getfield 17, 3) := by decide +kernel
theorem dX8_block_14 : decode cX8_block 14 = .ok (.invokespecial 145, 3) := by decide +kernel
theorem dX8_block_17 : decode cX8_block 17 = .ok (.astore_n 1, 1) := by decide +kernel
theorem dX8_block_18 : decode cX8_block 18 = .ok (.aload_n 0, 1) := by decide +kernel
theorem dX8_block_19 : decode cX8_block 19 = .ok (.bipush 32, 2) := by decide +kernel
theorem dX8_block_21 : decode cX8_block 21 = .ok (.invokevirtual 53, 3) := by decide +kernel
theorem dX8_block_24 : decode cX8_block 24 = .ok (.pop, 1) := by decide +kernel
theorem dX8_block_25 : decode cX8_block 25 = .ok (.aconst_null, 1) := by decide +kernel
theorem dX8_block_26 : decode cX8_block 26 = .ok (.astore_n 2, 1) := by decide +kernel
theorem dX8_block_27 : decode cX8_block 27 = .ok (.iconst 0, 1) := by decide +kernel
theorem dX8_block_28 : decode cX8_block 28 = .ok (.istore_n 3, 1) := by decide +kernel
theorem dX8_block_29 : decode cX8_block 29 = .ok (.iload_n 3, 1) := by decide +kernel
theorem dX8_block_30 : decode cX8_block 30 = .ok (.aload_n 0, 1) := by decide +kernel
theorem dX8_block_31 : decode cX8_block 31 = .ok (.getfield 7, 3) := by decide +kernel
theorem dX8_block_34 : decode cX8_block 34 = .ok (.getfield 27, 3) := by decide +kernel
theorem dX8_block_37 : decode cX8_block 37 = .ok (.if_icmp .ge 47, 3) := by decide +kernel
theorem dX8_block_84 : decode cX8_block 84 = .ok (.aload_n 1, 1) := by decide +kernel
theorem dX8_block_85 : decode cX8_block 85 = .ok (.aload_n 0, 1) := by decide +kernel
theorem dX8_block_86 : decode cX8_block 86 = .ok (.bipush 33, 2) := by decide +kernel
theorem dX8_block_88 : decode cX8_block 88 = .ok (.invokevirtual 53, 3) := by decide +kernel
theorem dX8_block_91 : decode cX8_block 91 = .ok (.putfield 171, 3) := by decide +kernel
theorem dX8_block_94 : decode cX8_block 94 = .ok (.aload_n 1, 1) := by decide +kernel
theorem dX8_block_95 : decode cX8_block 95 = .ok (.areturn, 1) := by decide +kernel
theorem dX8_block_40 : decode cX8_block 40 = .ok (.aload_n 0, 1) := by decide +kernel
theorem dX8_block_41 : decode cX8_block 41 = .ok (.bipush 33, 2) := by decide +kernel
theorem dX8_block_43 : decode cX8_block 43 = .ok (.invokevirtual 36, 3) := by decide +kernel
theorem dX8_block_46 : decode cX8_block 46 = .ok (.ifCond .ne 38, 3) := by decide +kernel
theorem dX8_block_49 : decode cX8_block 49 = .ok (.aload_n 0, 1) := by decide +kernel
theorem dX8_block_50 : decode cX8_block 50 = .ok (.iconst 1, 1) := by decide +kernel
theorem dX8_block_51 : decode cX8_block 51 = .ok (.invokevirtual 161, 3) := by decide +kernel
theorem dX8_block_54 : decode cX8_block 54 = .ok (.astore 4, 2) := by decide +kernel
theorem dX8_block_56 : decode cX8_block 56 = .ok (.aload_n 2, 1) := by decide +kernel
theorem dX8_block_57 : decode cX8_block 57 = .ok (.ifnonnull 12, 3) := by decide +kernel
theorem dX8_block_60 : decode cX8_block 60 = .ok (.aload_n 1, 1) := by decide +kernel
theorem dX8_block_61 : decode cX8_block 61 = .ok (.aload 4, 2) := by decide +kernel
theorem dX8_block_63 : decode cX8_block 63 = .ok (.putfield 165, 3) := by decide +kernel
theorem dX8_block_66 : decode cX8_block 66 = .ok (.goto 9, 3) := by decide +kernel
theorem dX8_block_75 : decode cX8_block 75 = .ok (.aload 4, 2) := by decide +kernel
theorem dX8_block_77 : decode cX8_block 77 = .ok (.astore_n 2, 1) := by decide +kernel
theorem dX8_block_78 : decode cX8_block 78 = .ok (.iinc 3 1, 3) := by decide +kernel
theorem dX8_block_81 : decode cX8_block 81 = .ok (.goto (-52), 3) := by decide +kernel
theorem dX8_block_69 : decode cX8_block 69 = .ok (.aload_n 2, 1) := by decide +kernel
theorem dX8_block_70 : decode cX8_block 70 = .ok (.aload 4, 2) := by decide +kernel
theorem dX8_block_72 : decode cX8_block 72 = .ok (.putfield 168, 3) := by decide +kernel
theorem hV_X8_statement : yX8_statement.cls = RX8 ∧ yX8_statement.cls ≠ "java/lang/invoke/MethodHandle" ∧ yX8_statement.cls ≠ "java/lang/invoke/VarHandle" ∧ (parseMethodDescriptor yX8_statement.desc).map (fun d => d.parameters.length) = some 1 := by decide +kernel
set_option maxHeartbeats 40000000 in
set_option maxRecDepth 100000 in
theorem P_block (l : Launch) (G : pT) (h0 : Nat) (a : Nat → Nat) (F : Nat → Int32) (R : Nat → Value) (Z : Int64) (B : Nat → Nat → Int32) (J : Nat → Nat → Int64) (K : PK) (w : va_W) (n : Nat) (at9 : Nat) (sz : Nat) (dp : Nat) (sg : Nat) (O : Nat) (g : Nat → Nat → Nat) (hsz : sz ≤ 5000) (hat : at9 ≤ sz) (hdp : dp + n = 20) (hsg : sg ≤ 60) (hwn : WN K g) (how : ∀ o : Nat, O = o + 1 → K.1 o = 1 ∧ g 0 o = 0 ∧ ¬ K.2.1 0 o = 32) (ist : PSt l G n) (hO : OKP G h0 a (upd (upd (upd (upd F 2 (nI sz)) 9 (nI at9)) 10 (nI dp)) 11 (nI sg)) R Z B J K w) (hl0 : l.stackTraces = false) : PBn l G pX0 yX8_block cX8_block 5 (some (.object "JinjaTongue$Node")) ({ frames := (50 * n + 54), cells := (2 * (sz - at9) + 20), slots := (11 * (2 * (sz - at9) + 20)), locals := (1500 * n + 1560) }) [.ref (a 3)] w (fun (v : Option Value) (u : va_W × (Nat × PK × (Nat → Nat → Nat) × Nat × Nat × (Nat → Int32) × Nat)) => v = some (.ref u.2.1) ∧ (NwR K u.2.2.1 g u.2.2.2.1 u.2.1 O u.2.2.2.2.2.2.2 ((171 + 3 * (20 - dp)))) ∧ (rS u.2.2.2.2.2.2.2 = at9 ∧ rE u.2.2.2.2.2.2.2 ≤ u.2.2.2.2.1 ∧ rS u.2.2.2.2.2.2.2 ≤ rE u.2.2.2.2.2.2.2 ∧ rD u.2.2.2.2.2.2.2 ≤ 2 * (20 - dp)) ∧ (at9 + 2 ≤ u.2.2.2.2.1 ∧ u.2.2.2.2.1 ≤ sz) ∧ (sg ≤ u.2.2.2.2.2.1 ∧ u.2.2.2.2.2.1 ≤ 60) ∧ (u.2.2.1.2.1 0 u.2.1 = 21) ∧ (rS u.2.2.2.2.2.2.2 + 2 ≤ rE u.2.2.2.2.2.2.2) ∧ (NwT (B 7) sz (B 10) u.2.2.2.2.2.2.1 K u.2.2.1 at9 u.2.2.2.2.1) ∧ (OKP G h0 a (upd (upd (upd (upd F 2 (nI sz)) 9 (nI u.2.2.2.2.1)) 10 (nI dp)) 11 (nI u.2.2.2.2.2.1)) R Z (updA B 10 u.2.2.2.2.2.2.1) J u.2.2.1 u.1)) (fun u => u.1) (fun (u : va_W × (Nat × PK × (Nat → Nat → Nat) × Nat × Nat × (Nat → Int32) × Nat)) => (2 * (u.2.2.2.2.1 - at9) - 3)) (fun (u : va_W × (Nat × PK × (Nat → Nat → Nat) × Nat × Nat × (Nat → Int32) × Nat)) => (11 * (2 * (u.2.2.2.2.1 - at9) - 3))) (fun (u : va_W × (Nat → Int32) × (Nat → Value) × (Nat → Nat → Int32)) => ThQ G h0 a (upd (upd (upd (upd F 2 (nI sz)) 9 (nI at9)) 10 (nI dp)) 11 (nI sg)) R Z B J u) (fun u => u.1) := by
  intro sz
  refine vx_ofW (cc := cX8_block) (maxL := 5) (ret := (some (.object "JinjaTongue$Node"))) (by decide) rfl ?_
  intro p e s m args below meth c s₁ B9 hml hnt hv
  obtain ⟨rfl, hsz, hP, hD0, hE, hX⟩ := hv
  have hx := B9.exec
  have hb := B9.bytes
  have hr := B9.returns
  have hts := atoms_spec (ws := Cond.code yX8_block cX8_block 5 (some (.object "JinjaTongue$Node")) :: pw) B9.pre
  have hq : ∀ w ∈ pw, w.before _ s = true := fun w h => hts w (List.mem_cons_of_mem _ h)
  have hown : s.vm.findClass RX8 = some m.cls := findClass_of_methodNamed B9.named
  have hlocks := B9.notSynchronized
  subst hsz
  have hD := hD0.self (sz := s.heap.size)
  have hA : ∀ q : Nat, s.heap.size ≤ q → va_A w s.heap.size q := fun q h => Or.inr h
  generalize va_A w s.heap.size = A at hD hE hA ⊢
  have hS : va_S A s.heap s.heap [] := va_S.rf
  have hl := lv_entry ([.ref (a 3)]) (n := 5) (Nat.le_of_ble_eq_true rfl)
  rw [lg_entry_eq]
  generalize (lg_sl ([.ref (a 3)]) ++ List.replicate (5 - (lg_sl ([.ref (a 3)])).length) Slot.unset).toArray = ls at hl ⊢
  have hl : lv_has ls 5 [(0, .ref (a 3))] := hl
  have htk0 : NwT (B 7) sz (B 10) (B 10) K K at9 at9 := NwT.nil
  have hns0 : NwS K K g g := NwS.nil hwn
  refine p_new (s9 := 1) (C := RX7) (T := TX7) (N := 11) (ci := 13) (fs := [.int 0, .int 0, .int 0, .int 0, .int 0, .int 0, .null, .null, .null, .null, .null]) hx hb hq pin_wsX70 tyX7 tyX7_ok hown (hq _ pw_870) (hq _ pw_871) (hq _ pw_872) hE hP hD hS hA hO rfl nw_X7 (by decide) (fun q => by rw [rep_1 (show (kN K q 1 0).1 q = 1 from if_pos rfl)]; unfold fsNode kN; simp only [if_true]; rfl) (by show 0 + 1 ≤ (2 * (sz - at9) + 20); omega) (by show 0 + 11 ≤ (11 * (2 * (sz - at9) + 20)); omega) dX8_block_0 (fun q1 H w hq2 hP hD hS hO => ?_)
  have hf3 : (kN K q1 1 0).1 q1 = 1 := if_pos rfl
  refine W.widen (k := 1) (n := 11) (by show 0 + 1 ≤ 1; omega) (by show 0 + 11 ≤ 11; omega) ?_
  refine lv_dup hx hb dX8_block_3 rfl ?_
  refine lv_bipush (v := 21) hx hb dX8_block_4 (by decide) ?_
  refine lv_aload_n hx hb dX8_block_6 rfl (lv_at hl 0 rfl) ?_
  refine c_get (v := .int (nI at9)) (C := RX8) (Tc := TX8) (N := 5) (ci := 5) hx hb hq pin_wsX80 hown hE hP hO 23 (sg_23 G h0 a _ _ _ _ _) rfl 2 (by decide) (hq _ pw_776) (fun _ h9 => h9) rfl dX8_block_7 ?_
  refine lv_aload_n hx hb dX8_block_10 rfl (lv_at hl 0 rfl) ?_
  refine c_get (v := .int (nI at9)) (C := RX8) (Tc := TX8) (N := 5) (ci := 5) hx hb hq pin_wsX80 hown hE hP hO 23 (sg_23 G h0 a _ _ _ _ _) rfl 2 (by decide) (hq _ pw_776) (fun _ h9 => h9) rfl dX8_block_11 ?_
  have hO : OKP G h0 a (upd (upd (upd (upd F 2 (nI sz)) 9 (nI at9)) 10 (nI dp)) 11 (nI sg)) R Z B J (kN K q1 1 0) w := hO.to rfl
  obtain ⟨qr7, hqr8⟩ := p_recv hO (by rw [hf3]; decide) (rep_1 hf3)
  refine pc_I0 (G := G) (As := [.int 21, .int (nI at9), .int (nI at9)]) (rest := [.ref q1]) hx hb hml hown hq hE hX pX0_al hP hD hS hA hl.1 (N_init l G h0 a (upd (upd (upd (upd F 2 (nI sz)) 9 (nI at9)) 10 (nI dp)) 11 (nI sg)) R Z B J (kN K q1 1 0) w q1 21 (nI at9) (nI at9) (by omega) hO) pw_874 pw_875 pw_872 pw_765 rfl hS_X7_init rfl (Nat.le_of_ble_eq_true rfl) dX8_block_14 ⟨(by show 1 + 0 ≤ (2 * (sz - at9) + 20); omega), (by show 11 + 0 ≤ (11 * (2 * (sz - at9) + 20)); omega)⟩ ⟨(by show 2 + 1 ≤ (50 * n + 54); omega), (by show 8 + (4 + 11) + 60 ≤ (1500 * n + 1560); omega)⟩ (fun v6 u4 H locs hw5 hP hD hS => ?_)
  obtain ⟨w, _⟩ := u4
  obtain ⟨hw5, hO⟩ := hw5
  obtain rfl : v6 = none := hw5
  have hf9 : (kI (kI (kI (kN K q1 1 0) 0 q1 21) 1 q1 (nI at9)) 2 q1 (nI at9)).1 q1 = 1 := hf3
  have hO : OKP G h0 a (upd (upd (upd (upd F 2 (nI sz)) 9 (nI at9)) 10 (nI dp)) 11 (nI sg)) R Z B J (kI (kI (kI (kN K q1 1 0) 0 q1 21) 1 q1 (nI at9)) 2 q1 (nI at9)) w := hO.to rfl
  refine W.widen (k := 1) (n := 11) (by show 1 + 0 ≤ 1; omega) (by show 11 + 0 ≤ 11; omega) ?_
  refine W.eq (g2 := F0 m 17 ls [.ref q1]) rfl ?_
  change OKP G h0 a (upd (upd (upd (upd F 2 (nI sz)) 9 (nI at9)) 10 (nI dp)) 11 (nI sg)) R Z B J (mkN K q1 21 (nI at9) (nI at9)) w at hO
  obtain ⟨K10, hK11⟩ : ∃ z : PK, z = (mkN K q1 21 (nI at9) (nI at9)) := ⟨_, rfl⟩
  rw [← hK11] at hO
  have htk12 : NwT (B 7) sz (B 10) (B 10) K K10 at9 at9 := by rw [hK11]; exact NwT.new (NwT.le htk0 (show _ ≤ at9 by omega)) hq2 (TkP.no (by decide))
  have hf13 : K10.1 q1 = 1 := by rw [hK11]; exact mkN_T
  have hf14 : K10.2.1 0 q1 = 21 := by rw [hK11]; exact mkN_0
  have hf15 : K10.2.1 2 q1 = (nI at9) := by rw [hK11]; exact mkN_2
  have hf16 : K10.2.2.1 0 q1 = none := by rw [hK11]; exact mkN_C
  have hf17 : K10.2.2.1 1 q1 = none := by rw [hK11]; exact mkN_C
  have hf18 : K10.2.2.1 2 q1 = none := by rw [hK11]; exact mkN_C
  have hf19 : K10.2.2.1 3 q1 = none := by rw [hK11]; exact mkN_C
  have hf20 : K10.2.2.1 4 q1 = none := by rw [hK11]; exact mkN_C
  have hns21 : NwS K K10 g (gset g q1 0 0 0) := by rw [hK11]; exact NwS.node hns0 hq2
  have hq22 : K.1 q1 = 0 := old_T hns0.2.1 hq2
  have hg23 : (gset g q1 0 0 0) 0 q1 = 0 := gset_0
  have hno24 : NoO K10 (gset g q1 0 0 0) q1 := by rw [hK11]; exact NoO.new hns0.1 hq2
  refine lv_astore_n (lv' := [(1, .ref q1), (0, .ref (a 3))]) hx hb dX8_block_17 rfl hl (by decide) rfl (fun ls hl => ?_)
  refine lv_aload_n hx hb dX8_block_18 rfl (lv_at hl 1 rfl) ?_
  refine lv_bipush (v := 32) hx hb dX8_block_19 (by decide) ?_
  have hO : OKW G h0 a (upd (upd (upd (upd (upd (upd F 2 (nI sz)) 9 (nI at9)) 10 (nI dp)) 11 (nI sg)) 2 (nI sz)) 9 (nI at9)) R Z B J K10.1 (fun q99 x99 => x99 = rep G a K10 q99) w := hO.to rfl
  obtain ⟨_, qr28, hqr29⟩ := hO.2.1 23 _ (sg_23 G h0 a _ _ _ _ _)
  refine pn_V0 (G := G) (As := [.int 32]) (rest := []) hx hb hml hown hq hE hX pX0_al hP hD hS hA hl.1 (P_take l G h0 a (upd (upd (upd (upd F 2 (nI sz)) 9 (nI at9)) 10 (nI dp)) 11 (nI sg)) R Z B J K10.1 (fun q99 x99 => x99 = rep G a K10 q99) w 32 at9 sz (by omega) (by omega) (by decide) hO hl0) (gV pw_793 pw_794 pw_795 pw_796 pw_781) hV_X8_take qr28 5 hqr29 rfl rfl rfl (Nat.le_of_ble_eq_true rfl) dX8_block_21 ⟨(by show 1 + 1 ≤ (2 * (sz - at9) + 20); omega), (by show 11 + 6 ≤ (11 * (2 * (sz - at9) + 20)); omega)⟩ ⟨(by show 7 + 1 ≤ (50 * n + 54); omega), (by show 8 + (2 + 11) + 122 ≤ (1500 * n + 1560); omega)⟩ (fun v27 u25 H locs hw26 hP hD hS => ?_) (fun ux ce9 q9 H9 locs9 hux hP9 hD9 hS9 hce hcv hcl => pb_out ux (ThQ.up (Thx.same (Thx.same Thx.rfl rfl) rfl) RhX.rfl hux) hnt hlocks hce hcv hcl hP9 hD9 hS9 (by show 1 + 1 ≤ (2 * (sz - at9) + 20); omega) (by show 11 + 6 ≤ (11 * (2 * (sz - at9) + 20)); omega))
  obtain ⟨w, _⟩ := u25
  obtain ⟨hw26, h30, h31, hO⟩ := hw26
  have h30 : at9 + 1 ≤ sz := h30
  have h31 : tkN ((B 7)) sz 67 (nI at9) = 32 := h31
  obtain rfl : v27 = some (.int (nI at9)) := hw26
  have hO : OKP G h0 a (upd (upd (upd (upd F 2 (nI sz)) 9 (nI (at9 + 1))) 10 (nI dp)) 11 (nI sg)) R Z B J K10 w := hO.to rfl
  refine W.widen (k := 1) (n := 11) (by show 1 + 0 ≤ 1; omega) (by show 11 + 0 ≤ 11; omega) ?_
  refine W.eq (g2 := F0 m 24 ls [.int (nI at9)]) rfl ?_
  refine lv_pop hx hb dX8_block_24 rfl ?_
  refine lv_null hx hb dX8_block_25 ?_
  refine lv_astore_nN (lv' := [(2, .null), (1, .ref q1), (0, .ref (a 3))]) hx hb dX8_block_26 rfl hl (by decide) rfl (fun ls hl => ?_)
  refine lv_iconst (v := 0) hx hb dX8_block_27 (by decide) ?_
  refine lv_istore_n (lv' := [(3, .int 0), (2, .null), (1, .ref q1), (0, .ref (a 3))]) hx hb dX8_block_28 rfl hl (by decide) rfl (fun ls hl => ?_)
  have loop_i : ∀ (n_i : Nat) (i2 : Nat) (at2 : Nat) (sg2 : Nat) (f2 : Nat → Int32) (la2 : Option Nat) (K2 : PK) (g2 : Nat → Nat → Nat) (q2 : Nat) (H : Heap) (locs : List Loc) (ls : Array Slot) (w : va_W), i2 ≤ sz → sz + 1 ≤ i2 + n_i → (at9 + 1 ≤ at2 ∧ at2 ≤ sz) → (sg ≤ sg2 ∧ sg2 ≤ 60) → (LsN K K2 g g2 q2 0 (170 + 3 * (20 - dp)) (at9 + 1) at2 (2 * (20 - dp))) → (K2.2.1 0 q2 = 21) → (K2.2.2.1 1 q2 = none) → (K2.2.2.1 2 q2 = none) → (K2.2.2.1 3 q2 = none) → (K2.2.2.1 4 q2 = none) → (LaS K K2 g2 q2 at2 la2) → (NwT (B 7) sz (B 10) f2 K K2 at9 at2) → va_P G.1 pCl w H → va_D A w → va_S A s.heap H locs → OKP G h0 a (upd (upd (upd (upd F 2 (nI sz)) 9 (nI at2)) 10 (nI dp)) 11 (nI sg2)) R Z (updA B 10 f2) J K2 w → lv_has ls 5 [(3, .int (nI i2)), (2, va_rf la2), (1, .ref q2), (0, .ref (a 3))] → W p l e (headSpec (Cond.code yX8_block cX8_block 5 (some (.object "JinjaTongue$Node")) :: pw) ({ frames := (50 * n + 54), cells := (2 * (sz - at9) + 20), slots := (11 * (2 * (sz - at9) + 20)), locals := (1500 * n + 1560) } : Room)).room s m ([.ref (a 3)] : List Value).toArray below meth c H locs (2 * (at2 - at9) - 1) (11 * (2 * (at2 - at9) - 1)) (vx_MQ below (pQn G A (fun (v : Option Value) (u : va_W × (Nat × PK × (Nat → Nat → Nat) × Nat × Nat × (Nat → Int32) × Nat)) => v = some (.ref u.2.1) ∧ (NwR K u.2.2.1 g u.2.2.2.1 u.2.1 O u.2.2.2.2.2.2.2 ((171 + 3 * (20 - dp)))) ∧ (rS u.2.2.2.2.2.2.2 = at9 ∧ rE u.2.2.2.2.2.2.2 ≤ u.2.2.2.2.1 ∧ rS u.2.2.2.2.2.2.2 ≤ rE u.2.2.2.2.2.2.2 ∧ rD u.2.2.2.2.2.2.2 ≤ 2 * (20 - dp)) ∧ (at9 + 2 ≤ u.2.2.2.2.1 ∧ u.2.2.2.2.1 ≤ sz) ∧ (sg ≤ u.2.2.2.2.2.1 ∧ u.2.2.2.2.2.1 ≤ 60) ∧ (u.2.2.1.2.1 0 u.2.1 = 21) ∧ (rS u.2.2.2.2.2.2.2 + 2 ≤ rE u.2.2.2.2.2.2.2) ∧ (NwT (B 7) sz (B 10) u.2.2.2.2.2.2.1 K u.2.2.1 at9 u.2.2.2.2.1) ∧ (OKP G h0 a (upd (upd (upd (upd F 2 (nI sz)) 9 (nI u.2.2.2.2.1)) 10 (nI dp)) 11 (nI u.2.2.2.2.2.1)) R Z (updA B 10 u.2.2.2.2.2.2.1) J u.2.2.1 u.1)) (fun u => u.1) (fun (u : va_W × (Nat × PK × (Nat → Nat → Nat) × Nat × Nat × (Nat → Int32) × Nat)) => (2 * (u.2.2.2.2.1 - at9) - 3)) (fun (u : va_W × (Nat × PK × (Nat → Nat → Nat) × Nat × Nat × (Nat → Int32) × Nat)) => (11 * (2 * (u.2.2.2.2.1 - at9) - 3)))) (pXX G A (fun (u : va_W × (Nat → Int32) × (Nat → Value) × (Nat → Nat → Int32)) => ThQ G h0 a (upd (upd (upd (upd F 2 (nI sz)) 9 (nI at9)) 10 (nI dp)) 11 (nI sg)) R Z B J u) (fun u => u.1)) ([.ref (a 3)] : List Value).toArray s ({ frames := (50 * n + 54), cells := (2 * (sz - at9) + 20), slots := (11 * (2 * (sz - at9) + 20)), locals := (1500 * n + 1560) } : Room).cells ({ frames := (50 * n + 54), cells := (2 * (sz - at9) + 20), slots := (11 * (2 * (sz - at9) + 20)), locals := (1500 * n + 1560) } : Room).slots A) (F0 m 29 ls []) := by
    intro n_i
    induction n_i with
    | zero => intro i2 at2 sg2 f2 la2 K2 g2 q2 H locs ls w hk_i hn_i; omega
    | succ n_i ih_i =>
      intro i2 at2 sg2 f2 la2 K2 g2 q2 H locs ls w hk_i hn_i hat2 hsg2 hls2 hkd2 hc21 hc22 hc23 hc24 hla2 htki hP hD hS hO hl
      have hq2 := hls2.2.2.1
      refine lv_iload_n hx hb dX8_block_29 rfl (lv_at hl 0 rfl) ?_
      refine lv_aload_n hx hb dX8_block_30 rfl (lv_at hl 3 rfl) ?_
      refine c_get (v := .ref (a 1)) (C := RX8) (Tc := TX8) (N := 5) (ci := 5) hx hb hq pin_wsX80 hown hE hP hO 23 (sg_23 G h0 a _ _ _ _ _) rfl 0 (by decide) (hq _ pw_774) (fun _ h9 => h9) rfl dX8_block_31 ?_
      refine c_get (v := .int (nI sz)) (C := RX10) (Tc := TX10) (N := 15) (ci := 7) hx hb hq pin_wsX100 hown hE hP hO 2 (sg_2 G h0 a _ _ _ _ _) rfl 8 (by decide) (hq _ pw_792) (fun _ h9 => h9) rfl dX8_block_34 ?_
      refine lv_icmp_ge (tgt := 84) hx hb dX8_block_37 (by decide) (fun c32 => ?_) (fun c32 => ?_)
      · have n33 : sz ≤ i2 := (nI_leI (a := sz) (b := i2) (by omega) (by omega)).mp c32
        refine lv_aload_n hx hb dX8_block_84 rfl (lv_at hl 2 rfl) ?_
        refine lv_aload_n hx hb dX8_block_85 rfl (lv_at hl 3 rfl) ?_
        refine lv_bipush (v := 33) hx hb dX8_block_86 (by decide) ?_
        have hO : OKW G h0 a (upd (upd (upd (upd (upd (upd (upd (upd F 2 (nI sz)) 9 (nI at9)) 10 (nI dp)) 11 (nI sg)) 9 (nI at2)) 11 (nI sg2)) 2 (nI sz)) 9 (nI at2)) R Z (updA B 10 f2) J K2.1 (fun q99 x99 => x99 = rep G a K2 q99) w := hO.to rfl
        obtain ⟨_, qr37, hqr38⟩ := hO.2.1 23 _ (sg_23 G h0 a _ _ _ _ _)
        refine pn_V0 (G := G) (As := [.int 33]) (rest := [.ref q2]) hx hb hml hown hq hE hX pX0_al hP hD hS hA hl.1 (P_take l G h0 a (upd (upd (upd (upd (upd (upd F 2 (nI sz)) 9 (nI at9)) 10 (nI dp)) 11 (nI sg)) 9 (nI at2)) 11 (nI sg2)) R Z (updA B 10 f2) J K2.1 (fun q99 x99 => x99 = rep G a K2 q99) w 33 at2 sz (by omega) (by omega) (by decide) hO hl0) (gV pw_793 pw_794 pw_795 pw_796 pw_781) hV_X8_take qr37 5 hqr38 rfl rfl rfl (Nat.le_of_ble_eq_true rfl) dX8_block_88 ⟨(by show (2 * (at2 - at9) - 1) + 1 ≤ (2 * (sz - at9) + 20); omega), (by show (11 * (2 * (at2 - at9) - 1)) + 6 ≤ (11 * (2 * (sz - at9) + 20)); omega)⟩ ⟨(by show 7 + 1 ≤ (50 * n + 54); omega), (by show 8 + (2 + 11) + 122 ≤ (1500 * n + 1560); omega)⟩ (fun v36 u34 H locs hw35 hP hD hS => ?_) (fun ux ce9 q9 H9 locs9 hux hP9 hD9 hS9 hce hcv hcl => pb_out ux (ThQ.up (Thx.same (Thx.same (Thx.b (Thx.f (Thx.f Thx.rfl (by omega)) (by omega)) (by omega) (by decide)) rfl) rfl) RhX.rfl hux) hnt hlocks hce hcv hcl hP9 hD9 hS9 (by show (2 * (at2 - at9) - 1) + 1 ≤ (2 * (sz - at9) + 20); omega) (by show (11 * (2 * (at2 - at9) - 1)) + 6 ≤ (11 * (2 * (sz - at9) + 20)); omega))
        obtain ⟨w, _⟩ := u34
        obtain ⟨hw35, h39, h40, hO⟩ := hw35
        have h39 : at2 + 1 ≤ sz := h39
        have h40 : tkN ((B 7)) sz 67 (nI at2) = 33 := h40
        obtain rfl : v36 = some (.int (nI at2)) := hw35
        have hO : OKP G h0 a (upd (upd (upd (upd F 2 (nI sz)) 9 (nI (at2 + 1))) 10 (nI dp)) 11 (nI sg2)) R Z (updA B 10 f2) J K2 w := hO.to rfl
        refine W.widen (k := (2 * (at2 - at9) - 1)) (n := (11 * (2 * (at2 - at9) - 1))) (by show (2 * (at2 - at9) - 1) + 0 ≤ (2 * (at2 - at9) - 1); omega) (by show (11 * (2 * (at2 - at9) - 1)) + 0 ≤ (11 * (2 * (at2 - at9) - 1)); omega) ?_
        refine W.eq (g2 := F0 m 91 ls [.int (nI at2), .ref q2]) rfl ?_
        refine p_put (v := .int (nI at2)) (ty := .int) (C := RX7) (Tc := TX7) (N := 11) (ci := 13) (K' := (kI K2 4 q2 (nI at2))) hx hb hq pin_wsX70 tyX7 tyX7_ok nmX7 hown hE hP hD hS hO (by rw [hq2]; decide) (rep_1 hq2) rfl 4 (by decide) (hq _ pw_912) (fun _ h9 => h9) rfl (by decide +kernel) rfl rfl (Nat.le_of_ble_eq_true rfl) rfl (by rw [rep_1 (show (kI K2 4 q2 (nI at2)).1 q2 = 1 from hq2), pi_4] <;> rfl) (fun p9 hp9 => rep_kI hp9) dX8_block_91 (fun H locs w hP hD hS hO => ?_)
        obtain ⟨K41, hK42⟩ : ∃ z : PK, z = (kI K2 4 q2 (nI at2)) := ⟨_, rfl⟩
        rw [← hK42] at hO
        have hf43 : K41.1 q2 = 1 := (by rw [hK42]; exact hq2)
        have hf44 : K41.2.1 0 q2 = 21 := (by rw [hK42]; exact (kI_of (by decide)).trans hkd2)
        have hf45 : K41.2.2.1 1 q2 = none := (by rw [hK42]; exact hc21)
        have hf46 : K41.2.2.1 2 q2 = none := (by rw [hK42]; exact hc22)
        have hf47 : K41.2.2.1 3 q2 = none := (by rw [hK42]; exact hc23)
        have hf48 : K41.2.2.1 4 q2 = none := (by rw [hK42]; exact hc24)
        have hf49 : K41.2.1 4 q2 = (nI at2) := by rw [hK42]; exact kI_eq
        have htk50 : NwT (B 7) sz (B 10) f2 K K41 at9 at2 := by rw [hK42]; exact NwT.puti htki (by decide)
        refine lv_aload_n hx hb dX8_block_94 rfl (lv_at hl 2 rfl) ?_
        refine W_size (fun hz1 hz2 => ?_)
        refine vx_ret ?_
        have har9 : LsN K K41 g g2 q2 0 (170 + 3 * (20 - dp)) (at9 + 1) at2 (2 * (20 - dp)) := by rw [hK42]; exact LsN.puti hls2 (by decide)
        obtain ⟨k9, k9I, hkS, hkE, hkM, hkN, hkX, hkD⟩ := rk_ex (s := at9) (e := (at2 + 1)) (m := at9) (n := at9) (x := at9) (d := (2 * (20 - dp))) (by omega)
        have hdn := LsN.done (L := (171 + 3 * (20 - dp))) (O := O) (k := k9) har9 (by omega) (fun x9 => Owi.k21 hf44 (by omega)) ⟨k9I, (by rw [hf44]; exact ⟨(fun z => absurd z (by decide)), (fun _ => (by omega)), (fun z => absurd z (by decide))⟩)⟩ (Shp.k21 hf44) (fun f9 => Lsf.k21 hf44) (fun f9 x9 h1 h2 h3 => by rcases (show f9 = 1 ∨ f9 = 2 ∨ f9 = 3 by omega) with rfl | rfl | rfl; (· rw [hf45] at h3; cases h3); (· rw [hf46] at h3; cases h3); (· rw [hf47] at h3; cases h3)) hf48 (fun f9 x9 _ _ => by rw [hf44]; exact ⟨(fun z => absurd z (by decide)), (fun z => absurd z (by decide)), (fun z => absurd z (by decide)), (fun z => absurd z (by decide)), (fun z => absurd z (by decide)), (fun z => absurd z (by decide)), (fun z => absurd z (by decide)), (fun z => absurd z (by decide)), (fun z => absurd z (by decide)), (fun z => absurd z (by decide)), (fun z => absurd z (by decide)), (fun z => absurd z (by decide)), (fun z => absurd z (by decide)), (fun z => absurd z (by decide)), (fun z => absurd z (by decide)), (fun z => absurd z (by decide)), (fun z => absurd z (by decide)), (fun z => absurd z (by decide)), (fun z => absurd z (by decide)), (fun z => absurd z (by decide)), (fun z => absurd z (by decide)), (fun z => absurd z (by decide)), (fun z => absurd z (by decide)), (fun z => absurd z (by decide))⟩) how
        have hz51 : NwR K K41 g (gset g2 q2 (171 + 3 * (20 - dp)) O k9) q2 O k9 ((171 + 3 * (20 - dp))) := hdn
        have hz52 : rS k9 = at9 ∧ rE k9 ≤ (at2 + 1) ∧ rS k9 ≤ rE k9 ∧ rD k9 ≤ 2 * (20 - dp) := (by omega)
        have hz53 : at9 + 2 ≤ (at2 + 1) ∧ (at2 + 1) ≤ sz := (by omega)
        have hz54 : sg ≤ sg2 ∧ sg2 ≤ 60 := (by omega)
        have hz55 : K41.2.1 0 q2 = 21 := hf44
        have hz56 : rS k9 + 2 ≤ rE k9 := (by omega)
        have hz57 : NwT (B 7) sz (B 10) f2 K K41 at9 (at2 + 1) := (NwT.le htk50 (by omega))
        have hO : OKP G h0 a (upd (upd (upd (upd F 2 (nI sz)) 9 (nI (at2 + 1))) 10 (nI dp)) 11 (nI sg2)) R Z (updA B 10 f2) J K41 w := hO.to rfl
        refine W.widen (k := (2 * (sz - at9) + 20)) (n := (11 * (2 * (sz - at9) + 20))) (by omega) (by omega) ?_
        have hzz1 : H.size ≤ s.heap.size + ((2 * ((at2 + 1) - at9) - 3)) := (by have z : (2 * (at2 - at9) - 1) ≤ (2 * ((at2 + 1) - at9) - 3) := (by omega); omega)
        have hzz2 : hSl H ≤ hSl s.heap + ((11 * (2 * ((at2 + 1) - at9) - 3))) := (by have z : (11 * (2 * (at2 - at9) - 1)) ≤ (11 * (2 * ((at2 + 1) - at9) - 3)) := (by omega); omega)
        exact W.aret (v := .ref q2) hx hb hr (Or.inl ⟨_, rfl⟩) (Or.inr ⟨_, rfl⟩) (fun t99 ht99 hW99 => ⟨⟨_, (w, (q2, K41, (gset g2 q2 (171 + 3 * (20 - dp)) O k9), (at2 + 1), sg2, f2, k9)), rfl, ⟨rfl, hz51, hz52, hz53, hz54, hz55, hz56, hz57, hO⟩, by rw [ht99]; exact hP, hD, by rw [ht99]; exact hzz1, by rw [ht99]; exact hzz2⟩, hS.F ht99⟩) hS.2.2 dX8_block_95
      · have n58 : ¬ (sz ≤ i2) := fun h9 => c32 ((nI_leI (a := sz) (b := i2) (by omega) (by omega)).mpr h9)
        refine lv_aload_n hx hb dX8_block_40 rfl (lv_at hl 3 rfl) ?_
        refine lv_bipush (v := 33) hx hb dX8_block_41 (by decide) ?_
        have hO : OKW G h0 a (upd (upd (upd (upd (upd (upd F 2 (nI sz)) 9 (nI at2)) 10 (nI dp)) 11 (nI sg2)) 2 (nI sz)) 9 (nI at2)) R Z (updA B 10 f2) J K2.1 (fun q99 x99 => x99 = rep G a K2 q99) w := hO.to rfl
        obtain ⟨_, qr62, hqr63⟩ := hO.2.1 23 _ (sg_23 G h0 a _ _ _ _ _)
        refine pc_V0 (G := G) (As := [.int 33]) (rest := []) hx hb hml hown hq hE hX pX0_al hP hD hS hA hl.1 (P_sees l G h0 a (upd (upd (upd (upd F 2 (nI sz)) 9 (nI at2)) 10 (nI dp)) 11 (nI sg2)) R Z (updA B 10 f2) J K2.1 (fun q99 x99 => x99 = rep G a K2 q99) w 33 at2 sz (by omega) (by omega) hO) (gV pw_803 pw_804 pw_805 pw_796 pw_775) hV_X8_sees qr62 5 hqr63 rfl rfl rfl (Nat.le_of_ble_eq_true rfl) dX8_block_43 ⟨(by show (2 * (at2 - at9) - 1) + 0 ≤ (2 * (sz - at9) + 20); omega), (by show (11 * (2 * (at2 - at9) - 1)) + 0 ≤ (11 * (2 * (sz - at9) + 20)); omega)⟩ ⟨(by show 3 + 1 ≤ (50 * n + 54); omega), (by show 8 + (2 + 11) + 81 ≤ (1500 * n + 1560); omega)⟩ (fun v61 u59 H locs hw60 hP hD hS => ?_)
        obtain ⟨w, r64⟩ := u59
        obtain ⟨hw60, h65, h66, hO⟩ := hw60
        have h65 : r64 ≤ 1 := h65
        have h66 : SeQ ((B 7)) sz at2 33 r64 := h66
        obtain rfl : v61 = some (.int (nI r64)) := hw60
        have hO : OKP G h0 a (upd (upd (upd (upd F 2 (nI sz)) 9 (nI at2)) 10 (nI dp)) 11 (nI sg2)) R Z (updA B 10 f2) J K2 w := hO.to rfl
        refine W.widen (k := (2 * (at2 - at9) - 1)) (n := (11 * (2 * (at2 - at9) - 1))) (by show (2 * (at2 - at9) - 1) + 0 ≤ (2 * (at2 - at9) - 1); omega) (by show (11 * (2 * (at2 - at9) - 1)) + 0 ≤ (11 * (2 * (at2 - at9) - 1)); omega) ?_
        refine W.eq (g2 := F0 m 46 ls [.int (nI r64)]) rfl ?_
        refine lv_if_ne (tgt := 84) hx hb dX8_block_46 (by decide) (fun c67 => ?_) (fun c67 => ?_)
        · have n68 : ¬ (r64 = 0) := fun h9 => c67 ((nI_eq (a := r64) (b := 0) (by omega) (by omega)).mpr h9)
          refine lv_aload_n hx hb dX8_block_84 rfl (lv_at hl 2 rfl) ?_
          refine lv_aload_n hx hb dX8_block_85 rfl (lv_at hl 3 rfl) ?_
          refine lv_bipush (v := 33) hx hb dX8_block_86 (by decide) ?_
          have hO : OKW G h0 a (upd (upd (upd (upd (upd (upd (upd (upd F 2 (nI sz)) 9 (nI at9)) 10 (nI dp)) 11 (nI sg)) 9 (nI at2)) 11 (nI sg2)) 2 (nI sz)) 9 (nI at2)) R Z (updA B 10 f2) J K2.1 (fun q99 x99 => x99 = rep G a K2 q99) w := hO.to rfl
          obtain ⟨_, qr72, hqr73⟩ := hO.2.1 23 _ (sg_23 G h0 a _ _ _ _ _)
          refine pn_V0 (G := G) (As := [.int 33]) (rest := [.ref q2]) hx hb hml hown hq hE hX pX0_al hP hD hS hA hl.1 (P_take l G h0 a (upd (upd (upd (upd (upd (upd F 2 (nI sz)) 9 (nI at9)) 10 (nI dp)) 11 (nI sg)) 9 (nI at2)) 11 (nI sg2)) R Z (updA B 10 f2) J K2.1 (fun q99 x99 => x99 = rep G a K2 q99) w 33 at2 sz (by omega) (by omega) (by decide) hO hl0) (gV pw_793 pw_794 pw_795 pw_796 pw_781) hV_X8_take qr72 5 hqr73 rfl rfl rfl (Nat.le_of_ble_eq_true rfl) dX8_block_88 ⟨(by show (2 * (at2 - at9) - 1) + 1 ≤ (2 * (sz - at9) + 20); omega), (by show (11 * (2 * (at2 - at9) - 1)) + 6 ≤ (11 * (2 * (sz - at9) + 20)); omega)⟩ ⟨(by show 7 + 1 ≤ (50 * n + 54); omega), (by show 8 + (2 + 11) + 122 ≤ (1500 * n + 1560); omega)⟩ (fun v71 u69 H locs hw70 hP hD hS => ?_) (fun ux ce9 q9 H9 locs9 hux hP9 hD9 hS9 hce hcv hcl => pb_out ux (ThQ.up (Thx.same (Thx.same (Thx.b (Thx.f (Thx.f Thx.rfl (by omega)) (by omega)) (by omega) (by decide)) rfl) rfl) RhX.rfl hux) hnt hlocks hce hcv hcl hP9 hD9 hS9 (by show (2 * (at2 - at9) - 1) + 1 ≤ (2 * (sz - at9) + 20); omega) (by show (11 * (2 * (at2 - at9) - 1)) + 6 ≤ (11 * (2 * (sz - at9) + 20)); omega))
          obtain ⟨w, _⟩ := u69
          obtain ⟨hw70, h74, h75, hO⟩ := hw70
          have h74 : at2 + 1 ≤ sz := h74
          have h75 : tkN ((B 7)) sz 67 (nI at2) = 33 := h75
          obtain rfl : v71 = some (.int (nI at2)) := hw70
          have hO : OKP G h0 a (upd (upd (upd (upd F 2 (nI sz)) 9 (nI (at2 + 1))) 10 (nI dp)) 11 (nI sg2)) R Z (updA B 10 f2) J K2 w := hO.to rfl
          refine W.widen (k := (2 * (at2 - at9) - 1)) (n := (11 * (2 * (at2 - at9) - 1))) (by show (2 * (at2 - at9) - 1) + 0 ≤ (2 * (at2 - at9) - 1); omega) (by show (11 * (2 * (at2 - at9) - 1)) + 0 ≤ (11 * (2 * (at2 - at9) - 1)); omega) ?_
          refine W.eq (g2 := F0 m 91 ls [.int (nI at2), .ref q2]) rfl ?_
          refine p_put (v := .int (nI at2)) (ty := .int) (C := RX7) (Tc := TX7) (N := 11) (ci := 13) (K' := (kI K2 4 q2 (nI at2))) hx hb hq pin_wsX70 tyX7 tyX7_ok nmX7 hown hE hP hD hS hO (by rw [hq2]; decide) (rep_1 hq2) rfl 4 (by decide) (hq _ pw_912) (fun _ h9 => h9) rfl (by decide +kernel) rfl rfl (Nat.le_of_ble_eq_true rfl) rfl (by rw [rep_1 (show (kI K2 4 q2 (nI at2)).1 q2 = 1 from hq2), pi_4] <;> rfl) (fun p9 hp9 => rep_kI hp9) dX8_block_91 (fun H locs w hP hD hS hO => ?_)
          obtain ⟨K76, hK77⟩ : ∃ z : PK, z = (kI K2 4 q2 (nI at2)) := ⟨_, rfl⟩
          rw [← hK77] at hO
          have hf78 : K76.1 q2 = 1 := (by rw [hK77]; exact hq2)
          have hf79 : K76.2.1 0 q2 = 21 := (by rw [hK77]; exact (kI_of (by decide)).trans hkd2)
          have hf80 : K76.2.2.1 1 q2 = none := (by rw [hK77]; exact hc21)
          have hf81 : K76.2.2.1 2 q2 = none := (by rw [hK77]; exact hc22)
          have hf82 : K76.2.2.1 3 q2 = none := (by rw [hK77]; exact hc23)
          have hf83 : K76.2.2.1 4 q2 = none := (by rw [hK77]; exact hc24)
          have hf84 : K76.2.1 4 q2 = (nI at2) := by rw [hK77]; exact kI_eq
          have htk85 : NwT (B 7) sz (B 10) f2 K K76 at9 at2 := by rw [hK77]; exact NwT.puti htki (by decide)
          refine lv_aload_n hx hb dX8_block_94 rfl (lv_at hl 2 rfl) ?_
          refine W_size (fun hz1 hz2 => ?_)
          refine vx_ret ?_
          have har9 : LsN K K76 g g2 q2 0 (170 + 3 * (20 - dp)) (at9 + 1) at2 (2 * (20 - dp)) := by rw [hK77]; exact LsN.puti hls2 (by decide)
          obtain ⟨k9, k9I, hkS, hkE, hkM, hkN, hkX, hkD⟩ := rk_ex (s := at9) (e := (at2 + 1)) (m := at9) (n := at9) (x := at9) (d := (2 * (20 - dp))) (by omega)
          have hdn := LsN.done (L := (171 + 3 * (20 - dp))) (O := O) (k := k9) har9 (by omega) (fun x9 => Owi.k21 hf79 (by omega)) ⟨k9I, (by rw [hf79]; exact ⟨(fun z => absurd z (by decide)), (fun _ => (by omega)), (fun z => absurd z (by decide))⟩)⟩ (Shp.k21 hf79) (fun f9 => Lsf.k21 hf79) (fun f9 x9 h1 h2 h3 => by rcases (show f9 = 1 ∨ f9 = 2 ∨ f9 = 3 by omega) with rfl | rfl | rfl; (· rw [hf80] at h3; cases h3); (· rw [hf81] at h3; cases h3); (· rw [hf82] at h3; cases h3)) hf83 (fun f9 x9 _ _ => by rw [hf79]; exact ⟨(fun z => absurd z (by decide)), (fun z => absurd z (by decide)), (fun z => absurd z (by decide)), (fun z => absurd z (by decide)), (fun z => absurd z (by decide)), (fun z => absurd z (by decide)), (fun z => absurd z (by decide)), (fun z => absurd z (by decide)), (fun z => absurd z (by decide)), (fun z => absurd z (by decide)), (fun z => absurd z (by decide)), (fun z => absurd z (by decide)), (fun z => absurd z (by decide)), (fun z => absurd z (by decide)), (fun z => absurd z (by decide)), (fun z => absurd z (by decide)), (fun z => absurd z (by decide)), (fun z => absurd z (by decide)), (fun z => absurd z (by decide)), (fun z => absurd z (by decide)), (fun z => absurd z (by decide)), (fun z => absurd z (by decide)), (fun z => absurd z (by decide)), (fun z => absurd z (by decide))⟩) how
          have hz86 : NwR K K76 g (gset g2 q2 (171 + 3 * (20 - dp)) O k9) q2 O k9 ((171 + 3 * (20 - dp))) := hdn
          have hz87 : rS k9 = at9 ∧ rE k9 ≤ (at2 + 1) ∧ rS k9 ≤ rE k9 ∧ rD k9 ≤ 2 * (20 - dp) := (by omega)
          have hz88 : at9 + 2 ≤ (at2 + 1) ∧ (at2 + 1) ≤ sz := (by omega)
          have hz89 : sg ≤ sg2 ∧ sg2 ≤ 60 := (by omega)
          have hz90 : K76.2.1 0 q2 = 21 := hf79
          have hz91 : rS k9 + 2 ≤ rE k9 := (by omega)
          have hz92 : NwT (B 7) sz (B 10) f2 K K76 at9 (at2 + 1) := (NwT.le htk85 (by omega))
          have hO : OKP G h0 a (upd (upd (upd (upd F 2 (nI sz)) 9 (nI (at2 + 1))) 10 (nI dp)) 11 (nI sg2)) R Z (updA B 10 f2) J K76 w := hO.to rfl
          refine W.widen (k := (2 * (sz - at9) + 20)) (n := (11 * (2 * (sz - at9) + 20))) (by omega) (by omega) ?_
          have hzz1 : H.size ≤ s.heap.size + ((2 * ((at2 + 1) - at9) - 3)) := (by have z : (2 * (at2 - at9) - 1) ≤ (2 * ((at2 + 1) - at9) - 3) := (by omega); omega)
          have hzz2 : hSl H ≤ hSl s.heap + ((11 * (2 * ((at2 + 1) - at9) - 3))) := (by have z : (11 * (2 * (at2 - at9) - 1)) ≤ (11 * (2 * ((at2 + 1) - at9) - 3)) := (by omega); omega)
          exact W.aret (v := .ref q2) hx hb hr (Or.inl ⟨_, rfl⟩) (Or.inr ⟨_, rfl⟩) (fun t99 ht99 hW99 => ⟨⟨_, (w, (q2, K76, (gset g2 q2 (171 + 3 * (20 - dp)) O k9), (at2 + 1), sg2, f2, k9)), rfl, ⟨rfl, hz86, hz87, hz88, hz89, hz90, hz91, hz92, hO⟩, by rw [ht99]; exact hP, hD, by rw [ht99]; exact hzz1, by rw [ht99]; exact hzz2⟩, hS.F ht99⟩) hS.2.2 dX8_block_95
        · have n93 : r64 = 0 := (nI_eq (a := r64) (b := 0) (by omega) (by omega)).mp c67
          refine lv_aload_n hx hb dX8_block_49 rfl (lv_at hl 3 rfl) ?_
          refine lv_iconst (v := 1) hx hb dX8_block_50 (by decide) ?_
          have hO : OKP G h0 a (upd (upd (upd (upd (upd (upd (upd (upd (upd (upd F 2 (nI sz)) 9 (nI at9)) 10 (nI dp)) 11 (nI sg)) 9 (nI at2)) 11 (nI sg2)) 2 (nI sz)) 9 (nI at2)) 10 (nI dp)) 11 (nI sg2)) R Z (updA B 10 f2) J K2 w := hO.to rfl
          obtain ⟨_, qr97, hqr98⟩ := hO.2.1 23 _ (sg_23 G h0 a _ _ _ _ _)
          refine pn_V0 (G := G) (As := [.int (nI 1)]) (rest := []) hx hb hml hown hq hE hX pX0_al hP hD hS hA hl.1 (ist h0 a (upd (upd (upd (upd (upd (upd F 2 (nI sz)) 9 (nI at9)) 10 (nI dp)) 11 (nI sg)) 9 (nI at2)) 11 (nI sg2)) R Z (updA B 10 f2) J K2 w 1 at2 sz dp sg2 (q2 + 1) g2 (by omega) (by omega) hdp (by omega) hls2.1.1 (fun o9 h9 => by have z : o9 = q2 := (by omega); rw [z]; exact ⟨hq2, hls2.2.2.2.1, by rw [hkd2]; decide⟩) (by omega) hO hl0) (gV pw_1003 pw_1004 pw_1005 pw_796 pw_1025) hV_X8_statement qr97 5 hqr98 rfl rfl rfl (Nat.le_of_ble_eq_true rfl) dX8_block_51 ⟨(by show (2 * (at2 - at9) - 1) + (2 * (sz - at2) + 20) ≤ (2 * (sz - at9) + 20); omega), (by show (11 * (2 * (at2 - at9) - 1)) + (11 * (2 * (sz - at2) + 20)) ≤ (11 * (2 * (sz - at9) + 20)); omega)⟩ ⟨(by show (50 * n + 50) + 1 ≤ (50 * n + 54); omega), (by show 8 + (5 + 11) + (1500 * n + 1500) ≤ (1500 * n + 1560); omega)⟩ (fun v96 u94 H locs hw95 hP hD hS => ?_) (fun ux ce9 q9 H9 locs9 hux hP9 hD9 hS9 hce hcv hcl => pb_out ux (ThQ.up (Thx.same (Thx.same (Thx.same (Thx.same (Thx.b (Thx.f (Thx.f Thx.rfl (by omega)) (by omega)) (by omega) (by decide)) rfl) rfl) rfl) rfl) RhX.rfl hux) hnt hlocks hce hcv hcl hP9 hD9 hS9 (by show (2 * (at2 - at9) - 1) + (2 * (sz - at2) + 20) ≤ (2 * (sz - at9) + 20); omega) (by show (11 * (2 * (at2 - at9) - 1)) + (11 * (2 * (sz - at2) + 20)) ≤ (11 * (2 * (sz - at9) + 20)); omega))
          obtain ⟨w, r99, K100, g101, at102, sg103, f104, k105⟩ := u94
          obtain ⟨hw95, h106, h107, h108, h109, h110, h111, hO⟩ := hw95
          have h106 : NwR K2 K100 g2 g101 r99 (q2 + 1) k105 ((170 + 3 * (20 - dp))) := h106
          have h107 : rS k105 = at2 ∧ rE k105 ≤ at102 ∧ rS k105 ≤ rE k105 ∧ rD k105 ≤ 2 * (20 - dp) := h107
          have h108 : at2 + 1 ≤ at102 ∧ at102 ≤ sz := h108
          have h109 : sg2 ≤ sg103 ∧ sg103 ≤ 60 := h109
          have h110 : 1 = 0 → ¬ K100.2.1 0 r99 = 22 := h110
          have h111 : NwT ((B 7)) sz (f2) f104 K2 K100 at2 at102 := h111
          obtain rfl : v96 = some (.ref r99) := hw95
          have hf112 : K100.1 q2 = 1 := (((h106).2.1.1 q2 (by rw [hq2]; decide)).1).trans hq2
          have hf113 : K100.2.1 0 q2 = 21 := (((h106).2.1.1 q2 (by rw [hq2]; decide)).2.1 0).trans hkd2
          have hf114 : K100.2.2.1 1 q2 = none := (((h106).2.1.1 q2 (by rw [hq2]; decide)).2.2.1 1).trans hc21
          have hf115 : K100.2.2.1 2 q2 = none := (((h106).2.1.1 q2 (by rw [hq2]; decide)).2.2.1 2).trans hc22
          have hf116 : K100.2.2.1 3 q2 = none := (((h106).2.1.1 q2 (by rw [hq2]; decide)).2.2.1 3).trans hc23
          have hf117 : K100.2.2.1 4 q2 = none := (((h106).2.1.1 q2 (by rw [hq2]; decide)).2.2.1 4).trans hc24
          have hO : OKP G h0 a (upd (upd (upd (upd F 2 (nI sz)) 9 (nI at102)) 10 (nI dp)) 11 (nI sg103)) R Z (updA B 10 f104) J K100 w := hO.to rfl
          refine W.widen (k := ((2 * (at2 - at9) - 1) + (2 * (at102 - at2) - 1))) (n := ((11 * (2 * (at2 - at9) - 1)) + (11 * (2 * (at102 - at2) - 1)))) (by show (2 * (at2 - at9) - 1) + (2 * (at102 - at2) - 1) ≤ ((2 * (at2 - at9) - 1) + (2 * (at102 - at2) - 1)); omega) (by show (11 * (2 * (at2 - at9) - 1)) + (11 * (2 * (at102 - at2) - 1)) ≤ ((11 * (2 * (at2 - at9) - 1)) + (11 * (2 * (at102 - at2) - 1))); omega) ?_
          refine W.eq (g2 := F0 m 54 ls [.ref r99]) rfl ?_
          have htk118 : NwT (B 7) sz (B 10) f104 K K100 at9 at102 := (NwT.call htki h111 (by omega))
          have har3 := LsN.call (B2 := (170 + 3 * (20 - dp))) (hi2 := at102) hls2 h106 (by omega)
          have hr3 := h106.2.2.1
          have hr4 : K100.1 r99 = 1 ∧ 1 ≤ g101 0 r99 ∧ g101 1 r99 = q2 + 1 := ⟨hr3.2.1, hr3.2.2.1, hr3.2.2.2.2.1⟩
          have hr5 : K.1 r99 = 0 := old_T hls2.1.2.1 hr3.1
          have hr6 := hr3.2.2.2.2.2.1
          have hr8 : rS (g101 2 r99) = at2 ∧ rE (g101 2 r99) ≤ at102 ∧ rS (g101 2 r99) ≤ rE (g101 2 r99) := by rw [hr6]; exact ⟨h107.1, h107.2.1, h107.2.2.1⟩
          have hf119 : K100.1 r99 = 1 := hr3.2.1
          have hrq : ¬ r99 = q2 := fun z => by have z2 := hr3.1; rw [z, hq2] at z2; exact absurd z2 (by decide)
          refine lv_astore (lv' := [(4, .ref r99), (3, .int (nI i2)), (2, va_rf la2), (1, .ref q2), (0, .ref (a 3))]) hx hb dX8_block_54 hl (by decide) rfl (fun ls hl => ?_)
          rcases la2 with _ | y9
          · have hl : lv_has ls 5 [(4, .ref r99), (3, .int (nI i2)), (2, .null), (1, .ref q2), (0, .ref (a 3))] := hl
            refine lv_aload_nN hx hb dX8_block_56 rfl (lv_at hl 2 rfl) ?_
            refine lv_ifnonnullN hx hb dX8_block_57 ?_
            refine lv_aload_n hx hb dX8_block_60 rfl (lv_at hl 3 rfl) ?_
            refine lv_aload hx hb dX8_block_61 (lv_at hl 0 rfl) ?_
            refine p_put (v := .ref r99) (ty := (.object "JinjaTongue$Node")) (C := RX7) (Tc := TX7) (N := 11) (ci := 13) (K' := (kC K100 0 q2 (some r99))) hx hb hq pin_wsX70 tyX7 tyX7_ok nmX7 hown hE hP hD hS hO (by rw [hf112]; decide) (rep_1 hf112) rfl 6 (by decide) (hq _ pw_938) (fun _ h9 => h9) rfl (by decide +kernel) rfl rfl (Nat.le_of_ble_eq_true rfl) rfl (by rw [rep_1 (show (kC K100 0 q2 (some r99)).1 q2 = 1 from hf112), pc_0] <;> rfl) (fun p9 hp9 => rep_kC hp9) dX8_block_63 (fun H locs w hP hD hS hO => ?_)
            obtain ⟨K120, hK121⟩ : ∃ z : PK, z = (kC K100 0 q2 (some r99)) := ⟨_, rfl⟩
            rw [← hK121] at hO
            have hf122 : K120.1 q2 = 1 := (by rw [hK121]; exact hf112)
            have hf123 : K120.2.1 0 q2 = 21 := (by rw [hK121]; exact hf113)
            have hf124 : K120.2.2.1 1 q2 = none := (by rw [hK121]; exact (kC_of (by decide)).trans hf114)
            have hf125 : K120.2.2.1 2 q2 = none := (by rw [hK121]; exact (kC_of (by decide)).trans hf115)
            have hf126 : K120.2.2.1 3 q2 = none := (by rw [hK121]; exact (kC_of (by decide)).trans hf116)
            have hf127 : K120.2.2.1 4 q2 = none := (by rw [hK121]; exact (kC_of (by decide)).trans hf117)
            have hf128 : K120.1 r99 = 1 := (by rw [hK121]; exact hf119)
            have hf129 : K120.2.2.1 0 q2 = some r99 := by rw [hK121]; exact kC_eq
            have htk130 : NwT (B 7) sz (B 10) f104 K K120 at9 at102 := by rw [hK121]; exact NwT.put htk118
            refine lv_goto (tgt := 75) hx hb dX8_block_66 (by decide) ?_
            have har4 : LsN K K120 g g101 q2 0 (170 + 3 * (20 - dp)) (at9 + 1) at102 (2 * (20 - dp)) := by rw [hK121]; exact LsN.first har3 hr4
            have hr7 : (K.1 r99 = 0 ∧ K120.1 r99 = 1 ∧ 1 ≤ g101 0 r99 ∧ g101 1 r99 = q2 + 1) := ⟨hr5, by rw [hK121]; exact hr4.1, hr4.2.1, hr4.2.2⟩
            refine lv_aload hx hb dX8_block_75 (lv_at hl 0 rfl) ?_
            refine lv_astore_n (lv' := [(2, .ref r99), (4, .ref r99), (3, .int (nI i2)), (1, .ref q2), (0, .ref (a 3))]) hx hb dX8_block_77 rfl hl (by decide) rfl (fun ls hl => ?_)
            refine lv_iinc (v := (nI (i2 + 1))) (lv' := [(3, .int (nI (i2 + 1))), (2, .ref r99), (4, .ref r99), (1, .ref q2), (0, .ref (a 3))]) hx hb dX8_block_78 hl (k := 2) rfl (nI_1 i2) (by decide) rfl (fun ls hl => ?_)
            refine lv_goto (tgt := 29) hx hb dX8_block_81 (by decide) ?_
            refine W.widen (k := (2 * (at102 - at9) - 1)) (n := (11 * (2 * (at102 - at9) - 1))) (by show ((2 * (at2 - at9) - 1) + (2 * (at102 - at2) - 1)) ≤ _; omega) (by show ((11 * (2 * (at2 - at9) - 1)) + (11 * (2 * (at102 - at2) - 1))) ≤ _; omega) ?_
            have hO : OKP G h0 a (upd (upd (upd (upd F 2 (nI sz)) 9 (nI at102)) 10 (nI dp)) 11 (nI sg103)) R Z (updA B 10 f104) J K120 w := hO.to rfl
            exact ih_i (i2 + 1) at102 sg103 f104 (some r99) K120 g101 q2 _ _ _ _ (by omega) (by omega) (by omega) (by omega) har4 hf123 hf124 hf125 hf126 hf127 (fun y h => by cases h; exact ⟨hr7, by omega⟩) (NwT.le htk130 (by omega)) hP hD hS hO (lv_sub hl [0, 1, 3, 4] rfl)
          · have hl : lv_has ls 5 [(4, .ref r99), (3, .int (nI i2)), (2, .ref y9), (1, .ref q2), (0, .ref (a 3))] := hl
            obtain ⟨hy1, hy2⟩ := hla2 y9 rfl
            have hy0 : ¬ K2.1 y9 = 0 := by rw [hy1.2.1]; decide
            have hy3 : K100.1 y9 = 1 := ((h106.2.1.1 y9 hy0).1).trans hy1.2.1
            have hy4 := fun i => h106.2.1.2 y9 hy0 i
            have hyq : ¬ q2 = y9 := fun z => by have z2 := hy1.1; rw [← z, hls2.2.1] at z2; have z3 := hy1.2.2.1; rw [← z, hls2.2.2.2.1] at z3; omega
            refine lv_aload_n hx hb dX8_block_56 rfl (lv_at hl 2 rfl) ?_
            refine lv_ifnonnull (tgt := 69) hx hb dX8_block_57 (by decide) ?_
            refine lv_aload_n hx hb dX8_block_69 rfl (lv_at hl 2 rfl) ?_
            refine lv_aload hx hb dX8_block_70 (lv_at hl 0 rfl) ?_
            refine p_put (v := .ref r99) (ty := (.object "JinjaTongue$Node")) (C := RX7) (Tc := TX7) (N := 11) (ci := 13) (K' := (kC K100 4 y9 (some r99))) hx hb hq pin_wsX70 tyX7 tyX7_ok nmX7 hown hE hP hD hS hO (by rw [hy3]; decide) (rep_1 hy3) rfl 10 (by decide) (hq _ pw_911) (fun _ h9 => h9) rfl (by decide +kernel) rfl rfl (Nat.le_of_ble_eq_true rfl) rfl (by rw [rep_1 (show (kC K100 4 y9 (some r99)).1 y9 = 1 from hy3), pc_4] <;> rfl) (fun p9 hp9 => rep_kC hp9) dX8_block_72 (fun H locs w hP hD hS hO => ?_)
            obtain ⟨K131, hK132⟩ : ∃ z : PK, z = (kC K100 4 y9 (some r99)) := ⟨_, rfl⟩
            rw [← hK132] at hO
            have hf133 : K131.1 q2 = 1 := (by rw [hK132]; exact hf112)
            have hf134 : K131.2.1 0 q2 = 21 := (by rw [hK132]; exact hf113)
            have hf135 : K131.2.2.1 1 q2 = none := (by rw [hK132]; exact (kC_of (by decide)).trans hf114)
            have hf136 : K131.2.2.1 2 q2 = none := (by rw [hK132]; exact (kC_of (by decide)).trans hf115)
            have hf137 : K131.2.2.1 3 q2 = none := (by rw [hK132]; exact (kC_of (by decide)).trans hf116)
            have hf138 : K131.2.2.1 4 q2 = none := (by rw [hK132]; exact (kC_ne hyq).trans hf117)
            have hf139 : K131.1 r99 = 1 := (by rw [hK132]; exact hf119)
            have hf140 : K131.1 y9 = 1 := (by rw [hK132]; exact hy3)
            have hf141 : K131.2.2.1 4 y9 = some r99 := by rw [hK132]; exact kC_eq
            have htk142 : NwT (B 7) sz (B 10) f104 K K131 at9 at102 := by rw [hK132]; exact NwT.put htk118
            have hy5 := hy4 2
            have har4 : LsN K K131 g g101 q2 0 (170 + 3 * (20 - dp)) (at9 + 1) at102 (2 * (20 - dp)) := by rw [hK132]; exact LsN.next har3 (by decide) ⟨hy1.1, hy3, by rw [hy4 0]; exact hy1.2.2.1, by rw [hy4 1]; exact hy1.2.2.2⟩ hr4 (rS_lt (by rw [hy5]; omega)) (by rw [hy5]; omega)
            have hr7 : (K.1 r99 = 0 ∧ K131.1 r99 = 1 ∧ 1 ≤ g101 0 r99 ∧ g101 1 r99 = q2 + 1) := ⟨hr5, by rw [hK132]; exact hr4.1, hr4.2.1, hr4.2.2⟩
            refine lv_aload hx hb dX8_block_75 (lv_at hl 0 rfl) ?_
            refine lv_astore_n (lv' := [(2, .ref r99), (4, .ref r99), (3, .int (nI i2)), (1, .ref q2), (0, .ref (a 3))]) hx hb dX8_block_77 rfl hl (by decide) rfl (fun ls hl => ?_)
            refine lv_iinc (v := (nI (i2 + 1))) (lv' := [(3, .int (nI (i2 + 1))), (2, .ref r99), (4, .ref r99), (1, .ref q2), (0, .ref (a 3))]) hx hb dX8_block_78 hl (k := 2) rfl (nI_1 i2) (by decide) rfl (fun ls hl => ?_)
            refine lv_goto (tgt := 29) hx hb dX8_block_81 (by decide) ?_
            refine W.widen (k := (2 * (at102 - at9) - 1)) (n := (11 * (2 * (at102 - at9) - 1))) (by show ((2 * (at2 - at9) - 1) + (2 * (at102 - at2) - 1)) ≤ _; omega) (by show ((11 * (2 * (at2 - at9) - 1)) + (11 * (2 * (at102 - at2) - 1))) ≤ _; omega) ?_
            have hO : OKP G h0 a (upd (upd (upd (upd F 2 (nI sz)) 9 (nI at102)) 10 (nI dp)) 11 (nI sg103)) R Z (updA B 10 f104) J K131 w := hO.to rfl
            exact ih_i (i2 + 1) at102 sg103 f104 (some r99) K131 g101 q2 _ _ _ _ (by omega) (by omega) (by omega) (by omega) har4 hf134 hf135 hf136 hf137 hf138 (fun y h => by cases h; exact ⟨hr7, by omega⟩) (NwT.le htk142 (by omega)) hP hD hS hO (lv_sub hl [0, 1, 3, 4] rfl)
  refine W.widen (k := (2 * ((at9 + 1) - at9) - 1)) (n := (11 * (2 * ((at9 + 1) - at9) - 1))) (by show 1 ≤ _; omega) (by show 11 ≤ _; omega) ?_
  have hO : OKP G h0 a (upd (upd (upd (upd F 2 (nI sz)) 9 (nI (at9 + 1))) 10 (nI dp)) 11 (nI sg)) R Z (updA B 10 (B 10)) J K10 w := hO.to rfl
  exact loop_i (sz + 1) 0 (at9 + 1) sg (B 10) none K10 (gset g q1 0 0 0) q1 _ _ _ _ (by omega) (by omega) (by omega) (by omega) (LsN.of hns21 hq22 hf13 hg23 hno24 hf16) hf14 hf17 hf18 hf19 hf20 (fun y h => by cases h) (NwT.le htk12 (by omega)) hP hD hS hO (lv_sub hl [0, 1, 2, 3] rfl)
