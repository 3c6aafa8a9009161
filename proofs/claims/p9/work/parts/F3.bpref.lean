def PPf (l : Launch) (G : pT) (n : Nat) : Prop := ∀ (h0 : Nat) (a : Nat → Nat) (F : Nat → Int32) (R : Nat → Value) (Z : Int64) (B : Nat → Nat → Int32) (J : Nat → Nat → Int64) (K : PK) (w : va_W) (at9 : Nat) (sz : Nat) (dp : Nat) (sg : Nat) (O : Nat) (g : Nat → Nat → Nat), (sz ≤ 5000) → (at9 ≤ sz) → (dp + n = 20) → (sg ≤ 60) → (WN K g) → (∀ o : Nat, O = o + 1 → K.1 o = 1 ∧ g 0 o = 0 ∧ ¬ K.2.1 0 o = 32) → (OKP G h0 a (upd (upd (upd (upd F 2 (nI sz)) 9 (nI at9)) 10 (nI dp)) 11 (nI sg)) R Z B J K w) → (l.stackTraces = false) → PBn l G pX0 yX8_prefixed cX8_prefixed 2 (some (.object "JinjaTongue$Node")) ({ frames := (40 * n + 22), cells := (2 * (sz - at9) + 19), slots := (11 * (2 * (sz - at9) + 19)), locals := (1300 * n + 560) }) [.ref (a 3)] w (fun (v : Option Value) (u : va_W × (Nat × PK × (Nat → Nat → Nat) × Nat × Nat × (Nat → Int32))) => v = some (.ref u.2.1) ∧ (NwR K u.2.2.1 g u.2.2.2.1 u.2.1 O at9 ((5 * (20 - dp) + 4 + (u.2.2.2.2.2.1 - sg)))) ∧ (at9 + 1 ≤ u.2.2.2.2.1 ∧ u.2.2.2.2.1 ≤ sz) ∧ (sg ≤ u.2.2.2.2.2.1 ∧ u.2.2.2.2.2.1 ≤ 60) ∧ (OKP G h0 a (upd (upd (upd (upd F 2 (nI sz)) 9 (nI u.2.2.2.2.1)) 10 (nI dp)) 11 (nI u.2.2.2.2.2.1)) R Z (updA B 10 u.2.2.2.2.2.2) J u.2.2.1 u.1)) (fun u => u.1) (fun (u : va_W × (Nat × PK × (Nat → Nat → Nat) × Nat × Nat × (Nat → Int32))) => (2 * (u.2.2.2.2.1 - at9) - 1)) (fun (u : va_W × (Nat × PK × (Nat → Nat → Nat) × Nat × Nat × (Nat → Int32))) => (11 * (2 * (u.2.2.2.2.1 - at9) - 1))) (fun (u : va_W × (Nat → Int32) × (Nat → Value) × (Nat → Nat → Int32)) => ThQ G h0 a (upd (upd (upd (upd F 2 (nI sz)) 9 (nI at9)) 10 (nI dp)) 11 (nI sg)) R Z B J u) (fun u => u.1)
def IhP (l : Launch) (G : pT) (n : Nat) : Prop := 1 ≤ n → PPf l G (n - 1)
set_option maxHeartbeats 2000000 in
set_option maxRecDepth 100000 in
theorem P_seesT (l : Launch) (G : pT) (h0 : Nat) (a : Nat → Nat) (F : Nat → Int32) (R : Nat → Value) (Z : Int64) (B : Nat → Nat → Int32) (J : Nat → Nat → Int64) (T : Nat → Nat) (Pi : Nat → va_E → Prop) (w : va_W) (x : Int32) (at9 : Nat) (sz : Nat) (hsz : sz ≤ 5000) (hat : at9 ≤ sz) (hx9 : ¬ x = 67) (hO : OKW G h0 a (upd (upd F 2 (nI sz)) 9 (nI at9)) R Z B J T Pi w) : PM l G pX0 yX8_sees cX8_sees 2 (some .boolean) ({ frames := 3, cells := 0, slots := 0, locals := 81 }) [.ref (a 3), .int x] w (fun (v : Option Value) (u : va_W × (Nat)) => v = some (.int (nI u.2)) ∧ (u.2 ≤ 1) ∧ (at9 + u.2 ≤ sz) ∧ (OKW G h0 a (upd (upd F 2 (nI sz)) 9 (nI at9)) R Z B J T Pi u.1)) (fun u => u.1) := by
  intro sz
  refine Met.ofW (cc := cX8_sees) (maxL := 2) (ret := (some .boolean)) (by decide) rfl ?_
  intro p e s m args below meth c s₁ B9 hml hv
  obtain ⟨rfl, hsz, hP, hD0, hE, hX⟩ := hv
  have hx := B9.exec
  have hb := B9.bytes
  have hr := B9.returns
  have hts := atoms_spec (ws := Cond.code yX8_sees cX8_sees 2 (some .boolean) :: pw) B9.pre
  have hq : ∀ w ∈ pw, w.before _ s = true := fun w h => hts w (List.mem_cons_of_mem _ h)
  have hown : s.vm.findClass RX8 = some m.cls := findClass_of_methodNamed B9.named
  have hlocks := B9.notSynchronized
  subst hsz
  have hD := hD0.self (sz := s.heap.size)
  have hA : ∀ q : Nat, s.heap.size ≤ q → va_A w s.heap.size q := fun q h => Or.inr h
  generalize va_A w s.heap.size = A at hD hE hA ⊢
  have hS : va_S A s.heap s.heap [] := va_S.rf
  have hl := lv_entry ([.ref (a 3), .int x]) (n := 2) (Nat.le_of_ble_eq_true rfl)
  rw [lg_entry_eq]
  generalize (lg_sl ([.ref (a 3), .int x]) ++ List.replicate (2 - (lg_sl ([.ref (a 3), .int x])).length) Slot.unset).toArray = ls at hl ⊢
  have hl : lv_has ls 2 [(0, .ref (a 3)), (1, .int x)] := hl
  refine lv_aload_n hx hb dX8_sees_0 rfl (lv_at hl 0 rfl) ?_
  refine c_get (v := .ref (a 1)) (C := RX8) (Tc := TX8) (N := 5) (ci := 5) hx hb hq pin_wsX80 hown hE hP hO 23 (sg_23 G h0 a _ _ _ _ _) rfl 0 (by decide) (hq _ pw_774) (fun _ h9 => h9) rfl dX8_sees_1 ?_
  refine lv_aload_n hx hb dX8_sees_4 rfl (lv_at hl 0 rfl) ?_
  refine c_get (v := .int (nI at9)) (C := RX8) (Tc := TX8) (N := 5) (ci := 5) hx hb hq pin_wsX80 hown hE hP hO 23 (sg_23 G h0 a _ _ _ _ _) rfl 2 (by decide) (hq _ pw_776) (fun _ h9 => h9) rfl dX8_sees_5 ?_
  have hO : OKW G h0 a (upd (upd (upd F 2 (nI sz)) 9 (nI at9)) 2 (nI sz)) R Z B J T Pi w := hO.to rfl
  obtain ⟨_, qr4, hqr5⟩ := hO.2.1 2 _ (sg_2 G h0 a _ _ _ _ _)
  refine pc_V0 (G := G) (As := [.int (nI at9)]) (rest := []) hx hb hml hown hq hE hX pX0_al hP hD hS hA hl.1 (K_kindAt l G h0 a (upd (upd F 2 (nI sz)) 9 (nI at9)) R Z B J T Pi w (nI at9) sz (by omega) hO) (gV pw_777 pw_193 pw_194 pw_59 pw_126) hV_X10_kindAt qr4 7 hqr5 rfl rfl rfl (Nat.le_of_ble_eq_true rfl) dX8_sees_8 ⟨Nat.le_of_ble_eq_true rfl, Nat.le_of_ble_eq_true rfl⟩ ⟨Nat.le_of_ble_eq_true rfl, Nat.le_of_ble_eq_true rfl⟩ (fun v3 u1 H locs hw2 hP hD hS => ?_)
  obtain ⟨w, r6⟩ := u1
  obtain ⟨hw2, h7, hO⟩ := hw2
  have h7 : r6 = 67 ∨ ∃ t : Nat, (nI at9) = nI t ∧ t < sz := h7
  obtain rfl : v3 = some (.int r6) := hw2
  have hO : OKW G h0 a (upd (upd F 2 (nI sz)) 9 (nI at9)) R Z B J T Pi w := hO.to rfl
  refine W.widen (k := 0) (n := 0) (Nat.le_of_ble_eq_true rfl) (Nat.le_of_ble_eq_true rfl) ?_
  refine W.eq (g2 := F0 m 11 ls [.int r6]) rfl ?_
  refine lv_iload_n hx hb dX8_sees_11 rfl (lv_at hl 1 rfl) ?_
  refine lv_icmp_ne (tgt := 19) hx hb dX8_sees_12 (by decide) (fun c8 => ?_) (fun c8 => ?_)
  · refine lv_iconst (v := 0) hx hb dX8_sees_19 (by decide) ?_
    have hz9 : 0 ≤ 1 := (by omega)
    have hz10 : at9 + 0 ≤ sz := (by omega)
    have hO : OKW G h0 a (upd (upd F 2 (nI sz)) 9 (nI at9)) R Z B J T Pi w := hO.to rfl
    exact W.zret (v := 0) hx hb hr rfl (fun t99 ht99 hW99 => ⟨⟨_, (w, 0), rfl, ⟨rfl, hz9, hz10, hO⟩, by rw [ht99]; exact hP, hD⟩, hS.F ht99⟩) hS.2.2 dX8_sees_20
  · have htk := tok_in h7 c8 hx9 (by omega) hsz
    refine lv_iconst (v := 1) hx hb dX8_sees_15 (by decide) ?_
    refine lv_goto (tgt := 20) hx hb dX8_sees_16 (by decide) ?_
    have hz11 : 1 ≤ 1 := (by omega)
    have hz12 : at9 + 1 ≤ sz := (by omega)
    have hO : OKW G h0 a (upd (upd F 2 (nI sz)) 9 (nI at9)) R Z B J T Pi w := hO.to rfl
    exact W.zret (v := 1) hx hb hr rfl (fun t99 ht99 hW99 => ⟨⟨_, (w, 1), rfl, ⟨rfl, hz11, hz12, hO⟩, by rw [ht99]; exact hP, hD⟩, hS.F ht99⟩) hS.2.2 dX8_sees_20
theorem dX8_prefixed_0 : decode cX8_prefixed 0 = .ok (.aload_n 0, 1) := by decide +kernel
theorem dX8_prefixed_1 : decode cX8_prefixed 1 = .ok (.bipush 45, 2) := by decide +kernel
theorem dX8_prefixed_3 : decode cX8_prefixed 3 = .ok (.invokevirtual 36, 3) := by decide +kernel
theorem dX8_prefixed_6 : decode cX8_prefixed 6 = .ok (.ifCond .ne 26, 3) := by decide +kernel
theorem dX8_prefixed_32 : decode cX8_prefixed 32 = .ok (.aload_n 0, 1) := by decide +kernel
theorem dX8_prefixed_33 : decode cX8_prefixed 33 = .ok (.invokevirtual 180, 3) := by decide +kernel
theorem dX8_prefixed_36 : decode cX8_prefixed 36 = .ok (.new 143, 3) := by decide +kernel
theorem dX8_prefixed_39 : decode cX8_prefixed 39 = .ok (.dup, 1) := by decide +kernel
theorem dX8_prefixed_40 : decode cX8_prefixed 40 = .ok (.aload_n 0, 1) := by decide +kernel
theorem dX8_prefixed_41 : decode cX8_prefixed 41 = .ok (.bipush 53, 2) := by decide +kernel
theorem dX8_prefixed_43 : decode cX8_prefixed 43 = .ok (.invokevirtual 36, 3) := by decide +kernel
theorem dX8_prefixed_46 : decode cX8_prefixed 46 = .ok (.ifCond .eq 8, 3) := by decide +kernel
theorem dX8_prefixed_54 : decode cX8_prefixed 54 = .ok (.bipush 15, 2) := by decide +kernel
theorem dX8_prefixed_56 : decode cX8_prefixed 56 = .ok (.aload_n 0, 1) := by decide +kernel
theorem dX8_prefixed_57 : decode cX8_prefixed 57 = .ok (.getfield 17, 3) := by decide +kernel
theorem dX8_prefixed_60 : decode cX8_prefixed 60 = .ok (.aload_n 0, 1) := by decide +kernel
theorem dX8_prefixed_61 : decode cX8_prefixed 61 = .ok (.getfield 17, 3) := by decide +kernel
theorem dX8_prefixed_64 : decode cX8_prefixed 64 = .ok (.invokespecial 145, 3) := by decide +kernel
theorem dX8_prefixed_67 : decode cX8_prefixed 67 = .ok (.astore_n 1, 1) := by decide +kernel
theorem dX8_prefixed_68 : decode cX8_prefixed 68 = .ok (.aload_n 0, 1) := by decide +kernel
theorem dX8_prefixed_69 : decode cX8_prefixed 69 = .ok (.dup, 1) := by decide +kernel
theorem dX8_prefixed_70 : decode cX8_prefixed 70 = .ok (.getfield 17, 3) := by decide +kernel
theorem dX8_prefixed_73 : decode cX8_prefixed 73 = .ok (.iconst 1, 1) := by decide +kernel
theorem dX8_prefixed_74 : decode cX8_prefixed 74 = .ok (.iadd, 1) := by decide +kernel
theorem dX8_prefixed_75 : decode cX8_prefixed 75 = .ok (.putfield 17, 3) := by decide +kernel
theorem dX8_prefixed_78 : decode cX8_prefixed 78 = .ok (.aload_n 1, 1) := by decide +kernel
theorem dX8_prefixed_79 : decode cX8_prefixed 79 = .ok (.aload_n 0, 1) := by decide +kernel
theorem dX8_prefixed_80 : decode cX8_prefixed 80 = .ok (.invokevirtual 251, 3) := by decide +kernel
theorem dX8_prefixed_83 : decode cX8_prefixed 83 = .ok (.putfield 165, 3) := by decide +kernel
theorem dX8_prefixed_86 : decode cX8_prefixed 86 = .ok (.aload_n 0, 1) := by decide +kernel
theorem dX8_prefixed_87 : decode cX8_prefixed 87 = .ok (.invokevirtual 190, 3) := by decide +kernel
theorem dX8_prefixed_90 : decode cX8_prefixed 90 = .ok (.aload_n 1, 1) := by decide +kernel
theorem dX8_prefixed_91 : decode cX8_prefixed 91 = .ok (.areturn, 1) := by decide +kernel
theorem dX8_prefixed_49 : decode cX8_prefixed 49 = .ok (.bipush 16, 2) := by decide +kernel
theorem dX8_prefixed_51 : decode cX8_prefixed 51 = .ok (.goto 5, 3) := by decide +kernel
theorem dX8_prefixed_9 : decode cX8_prefixed 9 = .ok (.aload_n 0, 1) := by decide +kernel
theorem dX8_prefixed_10 : decode cX8_prefixed 10 = .ok (.bipush 52, 2) := by decide +kernel
theorem dX8_prefixed_12 : decode cX8_prefixed 12 = .ok (.invokevirtual 36, 3) := by decide +kernel
theorem dX8_prefixed_15 : decode cX8_prefixed 15 = .ok (.ifCond .ne 17, 3) := by decide +kernel
theorem dX8_prefixed_18 : decode cX8_prefixed 18 = .ok (.aload_n 0, 1) := by decide +kernel
theorem dX8_prefixed_19 : decode cX8_prefixed 19 = .ok (.bipush 53, 2) := by decide +kernel
theorem dX8_prefixed_21 : decode cX8_prefixed 21 = .ok (.invokevirtual 36, 3) := by decide +kernel
theorem dX8_prefixed_24 : decode cX8_prefixed 24 = .ok (.ifCond .ne 8, 3) := by decide +kernel
theorem dX8_prefixed_27 : decode cX8_prefixed 27 = .ok (.aload_n 0, 1) := by decide +kernel
theorem dX8_prefixed_28 : decode cX8_prefixed 28 = .ok (.invokevirtual 221, 3) := by decide +kernel
theorem dX8_prefixed_31 : decode cX8_prefixed 31 = .ok (.areturn, 1) := by decide +kernel
theorem hV_X8_enter : yX8_enter.cls = RX8 ∧ yX8_enter.cls ≠ "java/lang/invoke/MethodHandle" ∧ yX8_enter.cls ≠ "java/lang/invoke/VarHandle" ∧ (parseMethodDescriptor yX8_enter.desc).map (fun d => d.parameters.length) = some 0 := by decide +kernel
theorem hV_X8_prefixed : yX8_prefixed.cls = RX8 ∧ yX8_prefixed.cls ≠ "java/lang/invoke/MethodHandle" ∧ yX8_prefixed.cls ≠ "java/lang/invoke/VarHandle" ∧ (parseMethodDescriptor yX8_prefixed.desc).map (fun d => d.parameters.length) = some 0 := by decide +kernel
theorem hV_X8_leave : yX8_leave.cls = RX8 ∧ yX8_leave.cls ≠ "java/lang/invoke/MethodHandle" ∧ yX8_leave.cls ≠ "java/lang/invoke/VarHandle" ∧ (parseMethodDescriptor yX8_leave.desc).map (fun d => d.parameters.length) = some 0 := by decide +kernel
theorem hV_X8_chain : yX8_chain.cls = RX8 ∧ yX8_chain.cls ≠ "java/lang/invoke/MethodHandle" ∧ yX8_chain.cls ≠ "java/lang/invoke/VarHandle" ∧ (parseMethodDescriptor yX8_chain.desc).map (fun d => d.parameters.length) = some 0 := by decide +kernel
set_option maxHeartbeats 16000000 in
set_option maxRecDepth 100000 in
theorem P_prefixed (l : Launch) (G : pT) (h0 : Nat) (a : Nat → Nat) (F : Nat → Int32) (R : Nat → Value) (Z : Int64) (B : Nat → Nat → Int32) (J : Nat → Nat → Int64) (K : PK) (w : va_W) (n : Nat) (at9 : Nat) (sz : Nat) (dp : Nat) (sg : Nat) (O : Nat) (g : Nat → Nat → Nat) (hsz : sz ≤ 5000) (hat : at9 ≤ sz) (hdp : dp + n = 20) (hsg : sg ≤ 60) (hwn : WN K g) (how : ∀ o : Nat, O = o + 1 → K.1 o = 1 ∧ g 0 o = 0 ∧ ¬ K.2.1 0 o = 32) (ihe : IhE l G n) (ihp : IhP l G n) (hO : OKP G h0 a (upd (upd (upd (upd F 2 (nI sz)) 9 (nI at9)) 10 (nI dp)) 11 (nI sg)) R Z B J K w) (hl0 : l.stackTraces = false) : PBn l G pX0 yX8_prefixed cX8_prefixed 2 (some (.object "JinjaTongue$Node")) ({ frames := (40 * n + 22), cells := (2 * (sz - at9) + 19), slots := (11 * (2 * (sz - at9) + 19)), locals := (1300 * n + 560) }) [.ref (a 3)] w (fun (v : Option Value) (u : va_W × (Nat × PK × (Nat → Nat → Nat) × Nat × Nat × (Nat → Int32))) => v = some (.ref u.2.1) ∧ (NwR K u.2.2.1 g u.2.2.2.1 u.2.1 O at9 ((5 * (20 - dp) + 4 + (u.2.2.2.2.2.1 - sg)))) ∧ (at9 + 1 ≤ u.2.2.2.2.1 ∧ u.2.2.2.2.1 ≤ sz) ∧ (sg ≤ u.2.2.2.2.2.1 ∧ u.2.2.2.2.2.1 ≤ 60) ∧ (OKP G h0 a (upd (upd (upd (upd F 2 (nI sz)) 9 (nI u.2.2.2.2.1)) 10 (nI dp)) 11 (nI u.2.2.2.2.2.1)) R Z (updA B 10 u.2.2.2.2.2.2) J u.2.2.1 u.1)) (fun u => u.1) (fun (u : va_W × (Nat × PK × (Nat → Nat → Nat) × Nat × Nat × (Nat → Int32))) => (2 * (u.2.2.2.2.1 - at9) - 1)) (fun (u : va_W × (Nat × PK × (Nat → Nat → Nat) × Nat × Nat × (Nat → Int32))) => (11 * (2 * (u.2.2.2.2.1 - at9) - 1))) (fun (u : va_W × (Nat → Int32) × (Nat → Value) × (Nat → Nat → Int32)) => ThQ G h0 a (upd (upd (upd (upd F 2 (nI sz)) 9 (nI at9)) 10 (nI dp)) 11 (nI sg)) R Z B J u) (fun u => u.1) := by
  intro sz
  refine vx_ofW (cc := cX8_prefixed) (maxL := 2) (ret := (some (.object "JinjaTongue$Node"))) (by decide) rfl ?_
  intro p e s m args below meth c s₁ B9 hml hnt hv
  obtain ⟨rfl, hsz, hP, hD0, hE, hX⟩ := hv
  have hx := B9.exec
  have hb := B9.bytes
  have hr := B9.returns
  have hts := atoms_spec (ws := Cond.code yX8_prefixed cX8_prefixed 2 (some (.object "JinjaTongue$Node")) :: pw) B9.pre
  have hq : ∀ w ∈ pw, w.before _ s = true := fun w h => hts w (List.mem_cons_of_mem _ h)
  have hown : s.vm.findClass RX8 = some m.cls := findClass_of_methodNamed B9.named
  have hlocks := B9.notSynchronized
  subst hsz
  have hD := hD0.self (sz := s.heap.size)
  have hA : ∀ q : Nat, s.heap.size ≤ q → va_A w s.heap.size q := fun q h => Or.inr h
  generalize va_A w s.heap.size = A at hD hE hA ⊢
  have hS : va_S A s.heap s.heap [] := va_S.rf
  have hl := lv_entry ([.ref (a 3)]) (n := 2) (Nat.le_of_ble_eq_true rfl)
  rw [lg_entry_eq]
  generalize (lg_sl ([.ref (a 3)]) ++ List.replicate (2 - (lg_sl ([.ref (a 3)])).length) Slot.unset).toArray = ls at hl ⊢
  have hl : lv_has ls 2 [(0, .ref (a 3))] := hl
  have hns0 : NwS K K g g := NwS.nil hwn
  refine lv_aload_n hx hb dX8_prefixed_0 rfl (lv_at hl 0 rfl) ?_
  refine lv_bipush (v := 45) hx hb dX8_prefixed_1 (by decide) ?_
  have hO : OKW G h0 a (upd (upd (upd (upd (upd (upd F 2 (nI sz)) 9 (nI at9)) 10 (nI dp)) 11 (nI sg)) 2 (nI sz)) 9 (nI at9)) R Z B J K.1 (fun q99 x99 => x99 = rep G a K q99) w := hO.to rfl
  obtain ⟨_, qr4, hqr5⟩ := hO.2.1 23 _ (sg_23 G h0 a _ _ _ _ _)
  refine pc_V0 (G := G) (As := [.int 45]) (rest := []) hx hb hml hown hq hE hX pX0_al hP hD hS hA hl.1 (P_seesT l G h0 a (upd (upd (upd (upd F 2 (nI sz)) 9 (nI at9)) 10 (nI dp)) 11 (nI sg)) R Z B J K.1 (fun q99 x99 => x99 = rep G a K q99) w 45 at9 sz (by omega) (by omega) (by decide) hO) (gV pw_803 pw_804 pw_805 pw_796 pw_775) hV_X8_sees qr4 5 hqr5 rfl rfl rfl (Nat.le_of_ble_eq_true rfl) dX8_prefixed_3 ⟨(by show 0 + 0 ≤ (2 * (sz - at9) + 19); omega), (by show 0 + 0 ≤ (11 * (2 * (sz - at9) + 19)); omega)⟩ ⟨(by show 3 + 1 ≤ (40 * n + 22); omega), (by show 8 + (2 + 11) + 81 ≤ (1300 * n + 560); omega)⟩ (fun v3 u1 H locs hw2 hP hD hS => ?_)
  obtain ⟨w, r6⟩ := u1
  obtain ⟨hw2, h7, h8, hO⟩ := hw2
  have h7 : r6 ≤ 1 := h7
  have h8 : at9 + r6 ≤ sz := h8
  obtain rfl : v3 = some (.int (nI r6)) := hw2
  have hO : OKP G h0 a (upd (upd (upd (upd F 2 (nI sz)) 9 (nI at9)) 10 (nI dp)) 11 (nI sg)) R Z B J K w := hO.to rfl
  refine W.widen (k := 0) (n := 0) (Nat.le_of_ble_eq_true rfl) (Nat.le_of_ble_eq_true rfl) ?_
  refine W.eq (g2 := F0 m 6 ls [.int (nI r6)]) rfl ?_
  refine lv_if_ne (tgt := 32) hx hb dX8_prefixed_6 (by decide) (fun c9 => ?_) (fun c9 => ?_)
  · have n10 : ¬ (r6 = 0) := fun h9 => c9 ((nI_eq (a := r6) (b := 0) (by omega) (by omega)).mpr h9)
    refine lv_aload_n hx hb dX8_prefixed_32 rfl (lv_at hl 0 rfl) ?_
    have hO : OKW G h0 a (upd (upd (upd (upd (upd (upd (upd F 2 (nI sz)) 9 (nI at9)) 10 (nI dp)) 11 (nI sg)) 2 (nI sz)) 9 (nI at9)) 10 (nI dp)) R Z B J K.1 (fun q99 x99 => x99 = rep G a K q99) w := hO.to rfl
    obtain ⟨_, qr14, hqr15⟩ := hO.2.1 23 _ (sg_23 G h0 a _ _ _ _ _)
    refine pn_V0 (G := G) (As := []) (rest := []) hx hb hml hown hq hE hX pX0_al hP hD hS hA hl.1 (P_enter l G h0 a (upd (upd (upd (upd F 2 (nI sz)) 9 (nI at9)) 10 (nI dp)) 11 (nI sg)) R Z B J K.1 (fun q99 x99 => x99 = rep G a K q99) w dp at9 sz (by omega) (by omega) (by omega) hO hl0) (gV pw_947 pw_948 pw_949 pw_796 pw_905) hV_X8_enter qr14 5 hqr15 rfl rfl rfl (Nat.le_of_ble_eq_true rfl) dX8_prefixed_33 ⟨(by show 0 + 1 ≤ (2 * (sz - at9) + 19); omega), (by show 0 + 6 ≤ (11 * (2 * (sz - at9) + 19)); omega)⟩ ⟨(by show 7 + 1 ≤ (40 * n + 22); omega), (by show 8 + (1 + 11) + 122 ≤ (1300 * n + 560); omega)⟩ (fun v13 u11 H locs hw12 hP hD hS => ?_) (fun ux ce9 q9 H9 locs9 hux hP9 hD9 hS9 hce hcv hcl => pb_out ux (ThQ.up (Thx.same (Thx.same (Thx.same Thx.rfl rfl) rfl) rfl) RhX.rfl hux) hnt hlocks hce hcv hcl hP9 hD9 hS9 (by show 0 + 1 ≤ (2 * (sz - at9) + 19); omega) (by show 0 + 6 ≤ (11 * (2 * (sz - at9) + 19)); omega))
    obtain ⟨w, _⟩ := u11
    obtain ⟨hw12, h16, hO⟩ := hw12
    have h16 : dp + 1 ≤ 20 := h16
    obtain rfl : v13 = none := hw12
    have hO : OKP G h0 a (upd (upd (upd (upd F 2 (nI sz)) 9 (nI at9)) 10 (nI (dp + 1))) 11 (nI sg)) R Z B J K w := hO.to rfl
    refine W.widen (k := 0) (n := 0) (by show 0 + 0 ≤ 0; omega) (by show 0 + 0 ≤ 0; omega) ?_
    refine W.eq (g2 := F0 m 36 ls []) rfl ?_
    refine p_new (s9 := 1) (C := RX7) (T := TX7) (N := 11) (ci := 13) (fs := [.int 0, .int 0, .int 0, .int 0, .int 0, .int 0, .null, .null, .null, .null, .null]) hx hb hq pin_wsX70 tyX7 tyX7_ok hown (hq _ pw_870) (hq _ pw_871) (hq _ pw_872) hE hP hD hS hA hO rfl nw_X7 (by decide) (fun q => by rw [rep_1 (show (kN K q 1 0).1 q = 1 from if_pos rfl)]; unfold fsNode kN; simp only [if_true]; rfl) (by show 0 + 1 ≤ (2 * (sz - at9) + 19); omega) (by show 0 + 11 ≤ (11 * (2 * (sz - at9) + 19)); omega) dX8_prefixed_36 (fun q17 H w hq18 hP hD hS hO => ?_)
    have hf19 : (kN K q17 1 0).1 q17 = 1 := if_pos rfl
    refine W.widen (k := 1) (n := 11) (by show 0 + 1 ≤ 1; omega) (by show 0 + 11 ≤ 11; omega) ?_
    refine lv_dup hx hb dX8_prefixed_39 rfl ?_
    refine lv_aload_n hx hb dX8_prefixed_40 rfl (lv_at hl 0 rfl) ?_
    refine lv_bipush (v := 53) hx hb dX8_prefixed_41 (by decide) ?_
    have hO : OKW G h0 a (upd (upd (upd (upd (upd (upd F 2 (nI sz)) 9 (nI at9)) 10 (nI (dp + 1))) 11 (nI sg)) 2 (nI sz)) 9 (nI at9)) R Z B J ((kN K q17 1 0).1) (fun q99 x99 => x99 = rep G a (kN K q17 1 0) q99) w := hO.to rfl
    obtain ⟨_, qr23, hqr24⟩ := hO.2.1 23 _ (sg_23 G h0 a _ _ _ _ _)
    refine pc_V0 (G := G) (As := [.int 53]) (rest := [.ref q17, .ref q17]) hx hb hml hown hq hE hX pX0_al hP hD hS hA hl.1 (P_sees l G h0 a (upd (upd (upd (upd F 2 (nI sz)) 9 (nI at9)) 10 (nI (dp + 1))) 11 (nI sg)) R Z B J ((kN K q17 1 0).1) (fun q99 x99 => x99 = rep G a (kN K q17 1 0) q99) w 53 at9 sz (by omega) (by omega) hO) (gV pw_803 pw_804 pw_805 pw_796 pw_775) hV_X8_sees qr23 5 hqr24 rfl rfl rfl (Nat.le_of_ble_eq_true rfl) dX8_prefixed_43 ⟨(by show 1 + 0 ≤ (2 * (sz - at9) + 19); omega), (by show 11 + 0 ≤ (11 * (2 * (sz - at9) + 19)); omega)⟩ ⟨(by show 3 + 1 ≤ (40 * n + 22); omega), (by show 8 + (2 + 11) + 81 ≤ (1300 * n + 560); omega)⟩ (fun v22 u20 H locs hw21 hP hD hS => ?_)
    obtain ⟨w, r25⟩ := u20
    obtain ⟨hw21, h26, hO⟩ := hw21
    have h26 : r25 ≤ 1 := h26
    obtain rfl : v22 = some (.int (nI r25)) := hw21
    have hO : OKP G h0 a (upd (upd (upd (upd F 2 (nI sz)) 9 (nI at9)) 10 (nI (dp + 1))) 11 (nI sg)) R Z B J (kN K q17 1 0) w := hO.to rfl
    refine W.widen (k := 1) (n := 11) (by show 1 + 0 ≤ 1; omega) (by show 11 + 0 ≤ 11; omega) ?_
    refine W.eq (g2 := F0 m 46 ls [.int (nI r25), .ref q17, .ref q17]) rfl ?_
    refine lv_if_eq (tgt := 54) hx hb dX8_prefixed_46 (by decide) (fun c27 => ?_) (fun c27 => ?_)
    · have n28 : r25 = 0 := (nI_eq (a := r25) (b := 0) (by omega) (by omega)).mp c27
      refine lv_bipush (v := 15) hx hb dX8_prefixed_54 (by decide) ?_
      refine lv_aload_n hx hb dX8_prefixed_56 rfl (lv_at hl 0 rfl) ?_
      refine c_get (v := .int (nI at9)) (C := RX8) (Tc := TX8) (N := 5) (ci := 5) hx hb hq pin_wsX80 hown hE hP hO 23 (sg_23 G h0 a _ _ _ _ _) rfl 2 (by decide) (hq _ pw_776) (fun _ h9 => h9) rfl dX8_prefixed_57 ?_
      refine lv_aload_n hx hb dX8_prefixed_60 rfl (lv_at hl 0 rfl) ?_
      refine c_get (v := .int (nI at9)) (C := RX8) (Tc := TX8) (N := 5) (ci := 5) hx hb hq pin_wsX80 hown hE hP hO 23 (sg_23 G h0 a _ _ _ _ _) rfl 2 (by decide) (hq _ pw_776) (fun _ h9 => h9) rfl dX8_prefixed_61 ?_
      have hO : OKP G h0 a (upd (upd (upd (upd F 2 (nI sz)) 9 (nI at9)) 10 (nI (dp + 1))) 11 (nI sg)) R Z B J (kN K q17 1 0) w := hO.to rfl
      obtain ⟨qr32, hqr33⟩ := p_recv hO (by rw [hf19]; decide) (rep_1 hf19)
      refine pc_I0 (G := G) (As := [.int 15, .int (nI at9), .int (nI at9)]) (rest := [.ref q17]) hx hb hml hown hq hE hX pX0_al hP hD hS hA hl.1 (N_init l G h0 a (upd (upd (upd (upd F 2 (nI sz)) 9 (nI at9)) 10 (nI (dp + 1))) 11 (nI sg)) R Z B J (kN K q17 1 0) w q17 15 (nI at9) (nI at9) (by omega) hO) pw_874 pw_875 pw_872 pw_765 rfl hS_X7_init rfl (Nat.le_of_ble_eq_true rfl) dX8_prefixed_64 ⟨(by show 1 + 0 ≤ (2 * (sz - at9) + 19); omega), (by show 11 + 0 ≤ (11 * (2 * (sz - at9) + 19)); omega)⟩ ⟨(by show 2 + 1 ≤ (40 * n + 22); omega), (by show 8 + (4 + 11) + 60 ≤ (1300 * n + 560); omega)⟩ (fun v31 u29 H locs hw30 hP hD hS => ?_)
      obtain ⟨w, _⟩ := u29
      obtain ⟨hw30, hO⟩ := hw30
      obtain rfl : v31 = none := hw30
      have hf34 : (kI (kI (kI (kN K q17 1 0) 0 q17 15) 1 q17 (nI at9)) 2 q17 (nI at9)).1 q17 = 1 := hf19
      have hO : OKP G h0 a (upd (upd (upd (upd F 2 (nI sz)) 9 (nI at9)) 10 (nI (dp + 1))) 11 (nI sg)) R Z B J (kI (kI (kI (kN K q17 1 0) 0 q17 15) 1 q17 (nI at9)) 2 q17 (nI at9)) w := hO.to rfl
      refine W.widen (k := 1) (n := 11) (by show 1 + 0 ≤ 1; omega) (by show 11 + 0 ≤ 11; omega) ?_
      refine W.eq (g2 := F0 m 67 ls [.ref q17]) rfl ?_
      change OKP G h0 a (upd (upd (upd (upd F 2 (nI sz)) 9 (nI at9)) 10 (nI (dp + 1))) 11 (nI sg)) R Z B J (mkN K q17 15 (nI at9) (nI at9)) w at hO
      obtain ⟨K35, hK36⟩ : ∃ z : PK, z = (mkN K q17 15 (nI at9) (nI at9)) := ⟨_, rfl⟩
      rw [← hK36] at hO
      have hf37 : K35.1 q17 = 1 := by rw [hK36]; exact mkN_T
      have hf38 : K35.2.1 0 q17 = 15 := by rw [hK36]; exact mkN_0
      have hf39 : K35.2.1 2 q17 = (nI at9) := by rw [hK36]; exact mkN_2
      have hf40 : K35.2.2.1 0 q17 = none := by rw [hK36]; exact mkN_C
      have hf41 : K35.2.2.1 1 q17 = none := by rw [hK36]; exact mkN_C
      have hf42 : K35.2.2.1 2 q17 = none := by rw [hK36]; exact mkN_C
      have hf43 : K35.2.2.1 3 q17 = none := by rw [hK36]; exact mkN_C
      have hf44 : K35.2.2.1 4 q17 = none := by rw [hK36]; exact mkN_C
      have hns45 : NwS K K35 g (gset g q17 0 0 0) := by rw [hK36]; exact NwS.node hns0 hq18
      have hq46 : K.1 q17 = 0 := old_T hns0.2.1 hq18
      have hg47 : (gset g q17 0 0 0) 0 q17 = 0 := gset_0
      have hno48 : NoO K35 (gset g q17 0 0 0) q17 := by rw [hK36]; exact NoO.new hns0.1 hq18
      refine lv_astore_n (lv' := [(1, .ref q17), (0, .ref (a 3))]) hx hb dX8_prefixed_67 rfl hl (by decide) rfl (fun ls hl => ?_)
      refine lv_aload_n hx hb dX8_prefixed_68 rfl (lv_at hl 1 rfl) ?_
      refine lv_dup hx hb dX8_prefixed_69 rfl ?_
      refine c_get (v := .int (nI at9)) (C := RX8) (Tc := TX8) (N := 5) (ci := 5) hx hb hq pin_wsX80 hown hE hP hO 23 (sg_23 G h0 a _ _ _ _ _) rfl 2 (by decide) (hq _ pw_776) (fun _ h9 => h9) rfl dX8_prefixed_70 ?_
      refine lv_iconst (v := 1) hx hb dX8_prefixed_73 (by decide) ?_
      refine lv_iadd hx hb dX8_prefixed_74 ?_
      refine lv_topi (fun x49 e50 => ?_)
      obtain rfl : x49 = nI (at9 + 1) := e50.trans (nI_add (at9) (1))
      refine c_put (v := .int (nI (at9 + 1))) (ty := .int) (C := RX8) (Tc := TX8) (N := 5) (ci := 5) hx hb hq pin_wsX80 tyX8 tyX8_ok nmX8 hown hE hP hD hS hO 23 (sg_23 G h0 a _ _ _ _ _) rfl 2 (by decide) (hq _ pw_776) (fun _ h9 => h9) rfl (by decide +kernel) rfl rfl (Nat.le_of_ble_eq_true rfl) (sf_9 G h0 a _ _ _ _ _ (nI (at9 + 1))) dX8_prefixed_75 (fun H locs w hP hD hS hO => ?_)
      refine lv_aload_n hx hb dX8_prefixed_78 rfl (lv_at hl 0 rfl) ?_
      refine lv_aload_n hx hb dX8_prefixed_79 rfl (lv_at hl 1 rfl) ?_
      have hO : OKP G h0 a (upd (upd (upd (upd (upd (upd (upd (upd (upd (upd F 2 (nI sz)) 9 (nI at9)) 10 (nI dp)) 11 (nI sg)) 9 (nI (at9 + 1))) 10 (nI (dp + 1))) 2 (nI sz)) 9 (nI (at9 + 1))) 10 (nI (dp + 1))) 11 (nI sg)) R Z B J K35 w := hO.to rfl
      obtain ⟨_, qr54, hqr55⟩ := hO.2.1 23 _ (sg_23 G h0 a _ _ _ _ _)
      refine pn_V0 (G := G) (As := []) (rest := [.ref q17]) hx hb hml hown hq hE hX pX0_al hP hD hS hA hl.1 ((ihp (by omega)) h0 a (upd (upd (upd (upd (upd (upd F 2 (nI sz)) 9 (nI at9)) 10 (nI dp)) 11 (nI sg)) 9 (nI (at9 + 1))) 10 (nI (dp + 1))) R Z B J K35 w (at9 + 1) sz (dp + 1) sg 0 (gset g q17 0 0 0) (by omega) (by omega) (by omega) (by omega) hns45.1 (fun o9 h9 => absurd h9 (by omega)) hO hl0) (gV pw_976 pw_977 pw_978 pw_796 pw_972) hV_X8_prefixed qr54 5 hqr55 rfl rfl rfl (Nat.le_of_ble_eq_true rfl) dX8_prefixed_80 ⟨(by show 1 + (2 * (sz - (at9 + 1)) + 19) ≤ (2 * (sz - at9) + 19); omega), (by show 11 + (11 * (2 * (sz - (at9 + 1)) + 19)) ≤ (11 * (2 * (sz - at9) + 19)); omega)⟩ ⟨(by show (40 * (n - 1) + 22) + 1 ≤ (40 * n + 22); omega), (by show 8 + (2 + 11) + (1300 * (n - 1) + 560) ≤ (1300 * n + 560); omega)⟩ (fun v53 u51 H locs hw52 hP hD hS => ?_) (fun ux ce9 q9 H9 locs9 hux hP9 hD9 hS9 hce hcv hcl => pb_out ux (ThQ.up (Thx.same (Thx.same (Thx.same (Thx.same (Thx.f (Thx.f Thx.rfl (by omega)) (by omega)) rfl) rfl) rfl) rfl) RhX.rfl hux) hnt hlocks hce hcv hcl hP9 hD9 hS9 (by show 1 + (2 * (sz - (at9 + 1)) + 19) ≤ (2 * (sz - at9) + 19); omega) (by show 11 + (11 * (2 * (sz - (at9 + 1)) + 19)) ≤ (11 * (2 * (sz - at9) + 19)); omega))
      obtain ⟨w, r56, K57, g58, at59, sg60, f61⟩ := u51
      obtain ⟨hw52, h62, h63, h64, hO⟩ := hw52
      have h62 : NwR K35 K57 (gset g q17 0 0 0) g58 r56 0 (at9 + 1) ((5 * (20 - (dp + 1)) + 4 + (sg60 - sg))) := h62
      have h63 : (at9 + 1) + 1 ≤ at59 ∧ at59 ≤ sz := h63
      have h64 : sg ≤ sg60 ∧ sg60 ≤ 60 := h64
      obtain rfl : v53 = some (.ref r56) := hw52
      have hf65 : K57.1 q17 = 1 := (((h62).2.1.1 q17 (by rw [hf37]; decide)).1).trans hf37
      have hf66 : K57.2.1 0 q17 = 15 := (((h62).2.1.1 q17 (by rw [hf37]; decide)).2.1 0).trans hf38
      have hf67 : K57.2.1 2 q17 = (nI at9) := (((h62).2.1.1 q17 (by rw [hf37]; decide)).2.1 2).trans hf39
      have hf68 : K57.2.2.1 0 q17 = none := (((h62).2.1.1 q17 (by rw [hf37]; decide)).2.2.1 0).trans hf40
      have hf69 : K57.2.2.1 1 q17 = none := (((h62).2.1.1 q17 (by rw [hf37]; decide)).2.2.1 1).trans hf41
      have hf70 : K57.2.2.1 2 q17 = none := (((h62).2.1.1 q17 (by rw [hf37]; decide)).2.2.1 2).trans hf42
      have hf71 : K57.2.2.1 3 q17 = none := (((h62).2.1.1 q17 (by rw [hf37]; decide)).2.2.1 3).trans hf43
      have hf72 : K57.2.2.1 4 q17 = none := (((h62).2.1.1 q17 (by rw [hf37]; decide)).2.2.1 4).trans hf44
      have hO : OKP G h0 a (upd (upd (upd (upd F 2 (nI sz)) 9 (nI at59)) 10 (nI (dp + 1))) 11 (nI sg60)) R Z (updA B 10 f61) J K57 w := hO.to rfl
      refine W.widen (k := (1 + (2 * (at59 - (at9 + 1)) - 1))) (n := (11 + (11 * (2 * (at59 - (at9 + 1)) - 1)))) (by show 1 + (2 * (at59 - (at9 + 1)) - 1) ≤ (1 + (2 * (at59 - (at9 + 1)) - 1)); omega) (by show 11 + (11 * (2 * (at59 - (at9 + 1)) - 1)) ≤ (11 + (11 * (2 * (at59 - (at9 + 1)) - 1))); omega) ?_
      refine W.eq (g2 := F0 m 83 ls [.ref r56, .ref q17]) rfl ?_
      have hns73 : NwS K K57 g g58 := NwS.call hns45 h62 (fun o9 h9 => absurd h9 (by omega))
      have hf74 : K57.1 r56 = 1 := h62.2.2.1.2.1
      have hg75 : g58 0 q17 = 0 := (h62.2.1.2 q17 (by rw [hf37]; decide) 0).trans hg47
      have hno76 : NoO K57 g58 q17 := NoO.call hno48 h62 hf37 (by omega)
      refine p_put (v := .ref r56) (ty := (.object "JinjaTongue$Node")) (C := RX7) (Tc := TX7) (N := 11) (ci := 13) (K' := (kC K57 0 q17 (some r56))) hx hb hq pin_wsX70 tyX7 tyX7_ok nmX7 hown hE hP hD hS hO (by rw [hf65]; decide) (rep_1 hf65) rfl 6 (by decide) (hq _ pw_938) (fun _ h9 => h9) rfl (by decide +kernel) rfl rfl (Nat.le_of_ble_eq_true rfl) rfl (by rw [rep_1 (show (kC K57 0 q17 (some r56)).1 q17 = 1 from hf65), pc_0] <;> rfl) (fun p9 hp9 => rep_kC hp9) dX8_prefixed_83 (fun H locs w hP hD hS hO => ?_)
      obtain ⟨K77, hK78⟩ : ∃ z : PK, z = (kC K57 0 q17 (some r56)) := ⟨_, rfl⟩
      rw [← hK78] at hO
      have hf79 : K77.1 q17 = 1 := (by rw [hK78]; exact hf65)
      have hf80 : K77.2.1 0 q17 = 15 := (by rw [hK78]; exact hf66)
      have hf81 : K77.2.1 2 q17 = (nI at9) := (by rw [hK78]; exact hf67)
      have hf82 : K77.2.2.1 1 q17 = none := (by rw [hK78]; exact (kC_of (by decide)).trans hf69)
      have hf83 : K77.2.2.1 2 q17 = none := (by rw [hK78]; exact (kC_of (by decide)).trans hf70)
      have hf84 : K77.2.2.1 3 q17 = none := (by rw [hK78]; exact (kC_of (by decide)).trans hf71)
      have hf85 : K77.2.2.1 4 q17 = none := (by rw [hK78]; exact (kC_of (by decide)).trans hf72)
      have hf86 : K77.1 r56 = 1 := (by rw [hK78]; exact hf74)
      have hf87 : K77.2.2.1 0 q17 = some r56 := by rw [hK78]; exact kC_eq
      have hns88 : NwS K K77 g g58 := by rw [hK78]; exact NwS.put hns73 hq46 hg75
      have hno89 : NoO K77 g58 q17 := by rw [hK78]; exact hno76
      refine lv_aload_n hx hb dX8_prefixed_86 rfl (lv_at hl 1 rfl) ?_
      have hO : OKW G h0 a (upd (upd (upd (upd (upd F 2 (nI sz)) 9 (nI at59)) 10 (nI (dp + 1))) 11 (nI sg60)) 10 (nI (dp + 1))) R Z (updA B 10 f61) J K77.1 (fun q99 x99 => x99 = rep G a K77 q99) w := hO.to rfl
      obtain ⟨_, qr93, hqr94⟩ := hO.2.1 23 _ (sg_23 G h0 a _ _ _ _ _)
      refine pc_V0 (G := G) (As := []) (rest := []) hx hb hml hown hq hE hX pX0_al hP hD hS hA hl.1 (P_leave l G h0 a (upd (upd (upd (upd F 2 (nI sz)) 9 (nI at59)) 10 (nI (dp + 1))) 11 (nI sg60)) R Z (updA B 10 f61) J K77.1 (fun q99 x99 => x99 = rep G a K77 q99) w (dp + 1) (by omega) hO) (gV pw_950 pw_951 pw_952 pw_796 pw_906) hV_X8_leave qr93 5 hqr94 rfl rfl rfl (Nat.le_of_ble_eq_true rfl) dX8_prefixed_87 ⟨(by show (1 + (2 * (at59 - (at9 + 1)) - 1)) + 0 ≤ (2 * (sz - at9) + 19); omega), (by show (11 + (11 * (2 * (at59 - (at9 + 1)) - 1))) + 0 ≤ (11 * (2 * (sz - at9) + 19)); omega)⟩ ⟨(by show 2 + 1 ≤ (40 * n + 22); omega), (by show 8 + (1 + 11) + 60 ≤ (1300 * n + 560); omega)⟩ (fun v92 u90 H locs hw91 hP hD hS => ?_)
      obtain ⟨w, _⟩ := u90
      obtain ⟨hw91, hO⟩ := hw91
      obtain rfl : v92 = none := hw91
      have hO : OKP G h0 a (upd (upd (upd (upd F 2 (nI sz)) 9 (nI at59)) 10 (nI ((dp + 1) - 1))) 11 (nI sg60)) R Z (updA B 10 f61) J K77 w := hO.to rfl
      refine W.widen (k := (1 + (2 * (at59 - (at9 + 1)) - 1))) (n := (11 + (11 * (2 * (at59 - (at9 + 1)) - 1)))) (by show (1 + (2 * (at59 - (at9 + 1)) - 1)) + 0 ≤ (1 + (2 * (at59 - (at9 + 1)) - 1)); omega) (by show (11 + (11 * (2 * (at59 - (at9 + 1)) - 1))) + 0 ≤ (11 + (11 * (2 * (at59 - (at9 + 1)) - 1))); omega) ?_
      refine W.eq (g2 := F0 m 90 ls []) rfl ?_
      refine lv_aload_n hx hb dX8_prefixed_90 rfl (lv_at hl 0 rfl) ?_
      refine W_size (fun hz1 hz2 => ?_)
      refine vx_ret ?_
      have hlr := h62.2.2.1
      have hlr1 := hlr.2.2.1
      have hlr2 := hlr.2.2.2.1
      have hkid : ∀ f9 y9 : Nat, f9 ≤ 3 → K77.2.2.1 f9 q17 = some y9 → K77.1 y9 = 1 ∧ 1 ≤ g58 0 y9 ∧ g58 0 y9 < (5 * (20 - dp) + 4 + (sg60 - sg)) := by
        intro f9 y9 hf9 hy9
        rcases (show f9 = 0 ∨ f9 = 1 ∨ f9 = 2 ∨ f9 = 3 by omega) with rfl | rfl | rfl | rfl
        · rw [hf87] at hy9; cases hy9; exact ⟨hf86, hlr1, by omega⟩
        · rw [hf82] at hy9; cases hy9
        · rw [hf83] at hy9; cases hy9
        · rw [hf84] at hy9; cases hy9
      have hdn := NwS.done1 (q := q17) (L := (5 * (20 - dp) + 4 + (sg60 - sg))) (O := O) (k := at9) hns88 hq46 hf79 hg75 (by omega) (by omega) (by rw [hf80]; exact ⟨fun _ => (by show ¬ K77.2.2.1 0 q17 = none; rw [hf87]; intro z; cases z), fun z => absurd z (by decide), fun z => absurd z (by decide), fun z => absurd z (by decide), fun z => absurd z (by decide)⟩) (fun f9 z => by rw [hf80] at z; rcases z with ⟨z, _⟩ | ⟨z | z | z, _⟩ <;> exact absurd z (by decide)) hkid hf85 hno89 (fun f9 x9 _ _ => Kch.no (by rw [hf80]; decide)) how
      have hz95 : NwR K K77 g (gset g58 q17 (5 * (20 - dp) + 4 + (sg60 - sg)) O at9) q17 O at9 ((5 * (20 - dp) + 4 + (sg60 - sg))) := hdn
      have hz96 : at9 + 1 ≤ at59 ∧ at59 ≤ sz := (by omega)
      have hz97 : sg ≤ sg60 ∧ sg60 ≤ 60 := (by omega)
      have hO : OKP G h0 a (upd (upd (upd (upd F 2 (nI sz)) 9 (nI at59)) 10 (nI dp)) 11 (nI sg60)) R Z (updA B 10 f61) J K77 w := hO.to rfl
      refine W.widen (k := (2 * (sz - at9) + 19)) (n := (11 * (2 * (sz - at9) + 19))) (by omega) (by omega) ?_
      have hzz1 : H.size ≤ s.heap.size + ((2 * (at59 - at9) - 1)) := (by have z : (1 + (2 * (at59 - (at9 + 1)) - 1)) ≤ (2 * (at59 - at9) - 1) := (by omega); omega)
      have hzz2 : hSl H ≤ hSl s.heap + ((11 * (2 * (at59 - at9) - 1))) := (by have z : (11 + (11 * (2 * (at59 - (at9 + 1)) - 1))) ≤ (11 * (2 * (at59 - at9) - 1)) := (by omega); omega)
      exact W.aret (v := .ref q17) hx hb hr (Or.inl ⟨_, rfl⟩) (Or.inr ⟨_, rfl⟩) (fun t99 ht99 hW99 => ⟨⟨_, (w, (q17, K77, (gset g58 q17 (5 * (20 - dp) + 4 + (sg60 - sg)) O at9), at59, sg60, f61)), rfl, ⟨rfl, hz95, hz96, hz97, hO⟩, by rw [ht99]; exact hP, hD, by rw [ht99]; exact hzz1, by rw [ht99]; exact hzz2⟩, hS.F ht99⟩) hS.2.2 dX8_prefixed_91
    · have n98 : ¬ (r25 = 0) := fun h9 => c27 ((nI_eq (a := r25) (b := 0) (by omega) (by omega)).mpr h9)
      refine lv_bipush (v := 16) hx hb dX8_prefixed_49 (by decide) ?_
      refine lv_goto (tgt := 56) hx hb dX8_prefixed_51 (by decide) ?_
      refine lv_aload_n hx hb dX8_prefixed_56 rfl (lv_at hl 0 rfl) ?_
      refine c_get (v := .int (nI at9)) (C := RX8) (Tc := TX8) (N := 5) (ci := 5) hx hb hq pin_wsX80 hown hE hP hO 23 (sg_23 G h0 a _ _ _ _ _) rfl 2 (by decide) (hq _ pw_776) (fun _ h9 => h9) rfl dX8_prefixed_57 ?_
      refine lv_aload_n hx hb dX8_prefixed_60 rfl (lv_at hl 0 rfl) ?_
      refine c_get (v := .int (nI at9)) (C := RX8) (Tc := TX8) (N := 5) (ci := 5) hx hb hq pin_wsX80 hown hE hP hO 23 (sg_23 G h0 a _ _ _ _ _) rfl 2 (by decide) (hq _ pw_776) (fun _ h9 => h9) rfl dX8_prefixed_61 ?_
      have hO : OKP G h0 a (upd (upd (upd (upd F 2 (nI sz)) 9 (nI at9)) 10 (nI (dp + 1))) 11 (nI sg)) R Z B J (kN K q17 1 0) w := hO.to rfl
      obtain ⟨qr102, hqr103⟩ := p_recv hO (by rw [hf19]; decide) (rep_1 hf19)
      refine pc_I0 (G := G) (As := [.int 16, .int (nI at9), .int (nI at9)]) (rest := [.ref q17]) hx hb hml hown hq hE hX pX0_al hP hD hS hA hl.1 (N_init l G h0 a (upd (upd (upd (upd F 2 (nI sz)) 9 (nI at9)) 10 (nI (dp + 1))) 11 (nI sg)) R Z B J (kN K q17 1 0) w q17 16 (nI at9) (nI at9) (by omega) hO) pw_874 pw_875 pw_872 pw_765 rfl hS_X7_init rfl (Nat.le_of_ble_eq_true rfl) dX8_prefixed_64 ⟨(by show 1 + 0 ≤ (2 * (sz - at9) + 19); omega), (by show 11 + 0 ≤ (11 * (2 * (sz - at9) + 19)); omega)⟩ ⟨(by show 2 + 1 ≤ (40 * n + 22); omega), (by show 8 + (4 + 11) + 60 ≤ (1300 * n + 560); omega)⟩ (fun v101 u99 H locs hw100 hP hD hS => ?_)
      obtain ⟨w, _⟩ := u99
      obtain ⟨hw100, hO⟩ := hw100
      obtain rfl : v101 = none := hw100
      have hf104 : (kI (kI (kI (kN K q17 1 0) 0 q17 16) 1 q17 (nI at9)) 2 q17 (nI at9)).1 q17 = 1 := hf19
      have hO : OKP G h0 a (upd (upd (upd (upd F 2 (nI sz)) 9 (nI at9)) 10 (nI (dp + 1))) 11 (nI sg)) R Z B J (kI (kI (kI (kN K q17 1 0) 0 q17 16) 1 q17 (nI at9)) 2 q17 (nI at9)) w := hO.to rfl
      refine W.widen (k := 1) (n := 11) (by show 1 + 0 ≤ 1; omega) (by show 11 + 0 ≤ 11; omega) ?_
      refine W.eq (g2 := F0 m 67 ls [.ref q17]) rfl ?_
      change OKP G h0 a (upd (upd (upd (upd F 2 (nI sz)) 9 (nI at9)) 10 (nI (dp + 1))) 11 (nI sg)) R Z B J (mkN K q17 16 (nI at9) (nI at9)) w at hO
      obtain ⟨K105, hK106⟩ : ∃ z : PK, z = (mkN K q17 16 (nI at9) (nI at9)) := ⟨_, rfl⟩
      rw [← hK106] at hO
      have hf107 : K105.1 q17 = 1 := by rw [hK106]; exact mkN_T
      have hf108 : K105.2.1 0 q17 = 16 := by rw [hK106]; exact mkN_0
      have hf109 : K105.2.1 2 q17 = (nI at9) := by rw [hK106]; exact mkN_2
      have hf110 : K105.2.2.1 0 q17 = none := by rw [hK106]; exact mkN_C
      have hf111 : K105.2.2.1 1 q17 = none := by rw [hK106]; exact mkN_C
      have hf112 : K105.2.2.1 2 q17 = none := by rw [hK106]; exact mkN_C
      have hf113 : K105.2.2.1 3 q17 = none := by rw [hK106]; exact mkN_C
      have hf114 : K105.2.2.1 4 q17 = none := by rw [hK106]; exact mkN_C
      have hns115 : NwS K K105 g (gset g q17 0 0 0) := by rw [hK106]; exact NwS.node hns0 hq18
      have hq116 : K.1 q17 = 0 := old_T hns0.2.1 hq18
      have hg117 : (gset g q17 0 0 0) 0 q17 = 0 := gset_0
      have hno118 : NoO K105 (gset g q17 0 0 0) q17 := by rw [hK106]; exact NoO.new hns0.1 hq18
      refine lv_astore_n (lv' := [(1, .ref q17), (0, .ref (a 3))]) hx hb dX8_prefixed_67 rfl hl (by decide) rfl (fun ls hl => ?_)
      refine lv_aload_n hx hb dX8_prefixed_68 rfl (lv_at hl 1 rfl) ?_
      refine lv_dup hx hb dX8_prefixed_69 rfl ?_
      refine c_get (v := .int (nI at9)) (C := RX8) (Tc := TX8) (N := 5) (ci := 5) hx hb hq pin_wsX80 hown hE hP hO 23 (sg_23 G h0 a _ _ _ _ _) rfl 2 (by decide) (hq _ pw_776) (fun _ h9 => h9) rfl dX8_prefixed_70 ?_
      refine lv_iconst (v := 1) hx hb dX8_prefixed_73 (by decide) ?_
      refine lv_iadd hx hb dX8_prefixed_74 ?_
      refine lv_topi (fun x119 e120 => ?_)
      obtain rfl : x119 = nI (at9 + 1) := e120.trans (nI_add (at9) (1))
      refine c_put (v := .int (nI (at9 + 1))) (ty := .int) (C := RX8) (Tc := TX8) (N := 5) (ci := 5) hx hb hq pin_wsX80 tyX8 tyX8_ok nmX8 hown hE hP hD hS hO 23 (sg_23 G h0 a _ _ _ _ _) rfl 2 (by decide) (hq _ pw_776) (fun _ h9 => h9) rfl (by decide +kernel) rfl rfl (Nat.le_of_ble_eq_true rfl) (sf_9 G h0 a _ _ _ _ _ (nI (at9 + 1))) dX8_prefixed_75 (fun H locs w hP hD hS hO => ?_)
      refine lv_aload_n hx hb dX8_prefixed_78 rfl (lv_at hl 0 rfl) ?_
      refine lv_aload_n hx hb dX8_prefixed_79 rfl (lv_at hl 1 rfl) ?_
      have hO : OKP G h0 a (upd (upd (upd (upd (upd (upd (upd (upd (upd (upd F 2 (nI sz)) 9 (nI at9)) 10 (nI dp)) 11 (nI sg)) 9 (nI (at9 + 1))) 10 (nI (dp + 1))) 2 (nI sz)) 9 (nI (at9 + 1))) 10 (nI (dp + 1))) 11 (nI sg)) R Z B J K105 w := hO.to rfl
      obtain ⟨_, qr124, hqr125⟩ := hO.2.1 23 _ (sg_23 G h0 a _ _ _ _ _)
      refine pn_V0 (G := G) (As := []) (rest := [.ref q17]) hx hb hml hown hq hE hX pX0_al hP hD hS hA hl.1 ((ihp (by omega)) h0 a (upd (upd (upd (upd (upd (upd F 2 (nI sz)) 9 (nI at9)) 10 (nI dp)) 11 (nI sg)) 9 (nI (at9 + 1))) 10 (nI (dp + 1))) R Z B J K105 w (at9 + 1) sz (dp + 1) sg 0 (gset g q17 0 0 0) (by omega) (by omega) (by omega) (by omega) hns115.1 (fun o9 h9 => absurd h9 (by omega)) hO hl0) (gV pw_976 pw_977 pw_978 pw_796 pw_972) hV_X8_prefixed qr124 5 hqr125 rfl rfl rfl (Nat.le_of_ble_eq_true rfl) dX8_prefixed_80 ⟨(by show 1 + (2 * (sz - (at9 + 1)) + 19) ≤ (2 * (sz - at9) + 19); omega), (by show 11 + (11 * (2 * (sz - (at9 + 1)) + 19)) ≤ (11 * (2 * (sz - at9) + 19)); omega)⟩ ⟨(by show (40 * (n - 1) + 22) + 1 ≤ (40 * n + 22); omega), (by show 8 + (2 + 11) + (1300 * (n - 1) + 560) ≤ (1300 * n + 560); omega)⟩ (fun v123 u121 H locs hw122 hP hD hS => ?_) (fun ux ce9 q9 H9 locs9 hux hP9 hD9 hS9 hce hcv hcl => pb_out ux (ThQ.up (Thx.same (Thx.same (Thx.same (Thx.same (Thx.f (Thx.f Thx.rfl (by omega)) (by omega)) rfl) rfl) rfl) rfl) RhX.rfl hux) hnt hlocks hce hcv hcl hP9 hD9 hS9 (by show 1 + (2 * (sz - (at9 + 1)) + 19) ≤ (2 * (sz - at9) + 19); omega) (by show 11 + (11 * (2 * (sz - (at9 + 1)) + 19)) ≤ (11 * (2 * (sz - at9) + 19)); omega))
      obtain ⟨w, r126, K127, g128, at129, sg130, f131⟩ := u121
      obtain ⟨hw122, h132, h133, h134, hO⟩ := hw122
      have h132 : NwR K105 K127 (gset g q17 0 0 0) g128 r126 0 (at9 + 1) ((5 * (20 - (dp + 1)) + 4 + (sg130 - sg))) := h132
      have h133 : (at9 + 1) + 1 ≤ at129 ∧ at129 ≤ sz := h133
      have h134 : sg ≤ sg130 ∧ sg130 ≤ 60 := h134
      obtain rfl : v123 = some (.ref r126) := hw122
      have hf135 : K127.1 q17 = 1 := (((h132).2.1.1 q17 (by rw [hf107]; decide)).1).trans hf107
      have hf136 : K127.2.1 0 q17 = 16 := (((h132).2.1.1 q17 (by rw [hf107]; decide)).2.1 0).trans hf108
      have hf137 : K127.2.1 2 q17 = (nI at9) := (((h132).2.1.1 q17 (by rw [hf107]; decide)).2.1 2).trans hf109
      have hf138 : K127.2.2.1 0 q17 = none := (((h132).2.1.1 q17 (by rw [hf107]; decide)).2.2.1 0).trans hf110
      have hf139 : K127.2.2.1 1 q17 = none := (((h132).2.1.1 q17 (by rw [hf107]; decide)).2.2.1 1).trans hf111
      have hf140 : K127.2.2.1 2 q17 = none := (((h132).2.1.1 q17 (by rw [hf107]; decide)).2.2.1 2).trans hf112
      have hf141 : K127.2.2.1 3 q17 = none := (((h132).2.1.1 q17 (by rw [hf107]; decide)).2.2.1 3).trans hf113
      have hf142 : K127.2.2.1 4 q17 = none := (((h132).2.1.1 q17 (by rw [hf107]; decide)).2.2.1 4).trans hf114
      have hO : OKP G h0 a (upd (upd (upd (upd F 2 (nI sz)) 9 (nI at129)) 10 (nI (dp + 1))) 11 (nI sg130)) R Z (updA B 10 f131) J K127 w := hO.to rfl
      refine W.widen (k := (1 + (2 * (at129 - (at9 + 1)) - 1))) (n := (11 + (11 * (2 * (at129 - (at9 + 1)) - 1)))) (by show 1 + (2 * (at129 - (at9 + 1)) - 1) ≤ (1 + (2 * (at129 - (at9 + 1)) - 1)); omega) (by show 11 + (11 * (2 * (at129 - (at9 + 1)) - 1)) ≤ (11 + (11 * (2 * (at129 - (at9 + 1)) - 1))); omega) ?_
      refine W.eq (g2 := F0 m 83 ls [.ref r126, .ref q17]) rfl ?_
      have hns143 : NwS K K127 g g128 := NwS.call hns115 h132 (fun o9 h9 => absurd h9 (by omega))
      have hf144 : K127.1 r126 = 1 := h132.2.2.1.2.1
      have hg145 : g128 0 q17 = 0 := (h132.2.1.2 q17 (by rw [hf107]; decide) 0).trans hg117
      have hno146 : NoO K127 g128 q17 := NoO.call hno118 h132 hf107 (by omega)
      refine p_put (v := .ref r126) (ty := (.object "JinjaTongue$Node")) (C := RX7) (Tc := TX7) (N := 11) (ci := 13) (K' := (kC K127 0 q17 (some r126))) hx hb hq pin_wsX70 tyX7 tyX7_ok nmX7 hown hE hP hD hS hO (by rw [hf135]; decide) (rep_1 hf135) rfl 6 (by decide) (hq _ pw_938) (fun _ h9 => h9) rfl (by decide +kernel) rfl rfl (Nat.le_of_ble_eq_true rfl) rfl (by rw [rep_1 (show (kC K127 0 q17 (some r126)).1 q17 = 1 from hf135), pc_0] <;> rfl) (fun p9 hp9 => rep_kC hp9) dX8_prefixed_83 (fun H locs w hP hD hS hO => ?_)
      obtain ⟨K147, hK148⟩ : ∃ z : PK, z = (kC K127 0 q17 (some r126)) := ⟨_, rfl⟩
      rw [← hK148] at hO
      have hf149 : K147.1 q17 = 1 := (by rw [hK148]; exact hf135)
      have hf150 : K147.2.1 0 q17 = 16 := (by rw [hK148]; exact hf136)
      have hf151 : K147.2.1 2 q17 = (nI at9) := (by rw [hK148]; exact hf137)
      have hf152 : K147.2.2.1 1 q17 = none := (by rw [hK148]; exact (kC_of (by decide)).trans hf139)
      have hf153 : K147.2.2.1 2 q17 = none := (by rw [hK148]; exact (kC_of (by decide)).trans hf140)
      have hf154 : K147.2.2.1 3 q17 = none := (by rw [hK148]; exact (kC_of (by decide)).trans hf141)
      have hf155 : K147.2.2.1 4 q17 = none := (by rw [hK148]; exact (kC_of (by decide)).trans hf142)
      have hf156 : K147.1 r126 = 1 := (by rw [hK148]; exact hf144)
      have hf157 : K147.2.2.1 0 q17 = some r126 := by rw [hK148]; exact kC_eq
      have hns158 : NwS K K147 g g128 := by rw [hK148]; exact NwS.put hns143 hq116 hg145
      have hno159 : NoO K147 g128 q17 := by rw [hK148]; exact hno146
      refine lv_aload_n hx hb dX8_prefixed_86 rfl (lv_at hl 1 rfl) ?_
      have hO : OKW G h0 a (upd (upd (upd (upd (upd F 2 (nI sz)) 9 (nI at129)) 10 (nI (dp + 1))) 11 (nI sg130)) 10 (nI (dp + 1))) R Z (updA B 10 f131) J K147.1 (fun q99 x99 => x99 = rep G a K147 q99) w := hO.to rfl
      obtain ⟨_, qr163, hqr164⟩ := hO.2.1 23 _ (sg_23 G h0 a _ _ _ _ _)
      refine pc_V0 (G := G) (As := []) (rest := []) hx hb hml hown hq hE hX pX0_al hP hD hS hA hl.1 (P_leave l G h0 a (upd (upd (upd (upd F 2 (nI sz)) 9 (nI at129)) 10 (nI (dp + 1))) 11 (nI sg130)) R Z (updA B 10 f131) J K147.1 (fun q99 x99 => x99 = rep G a K147 q99) w (dp + 1) (by omega) hO) (gV pw_950 pw_951 pw_952 pw_796 pw_906) hV_X8_leave qr163 5 hqr164 rfl rfl rfl (Nat.le_of_ble_eq_true rfl) dX8_prefixed_87 ⟨(by show (1 + (2 * (at129 - (at9 + 1)) - 1)) + 0 ≤ (2 * (sz - at9) + 19); omega), (by show (11 + (11 * (2 * (at129 - (at9 + 1)) - 1))) + 0 ≤ (11 * (2 * (sz - at9) + 19)); omega)⟩ ⟨(by show 2 + 1 ≤ (40 * n + 22); omega), (by show 8 + (1 + 11) + 60 ≤ (1300 * n + 560); omega)⟩ (fun v162 u160 H locs hw161 hP hD hS => ?_)
      obtain ⟨w, _⟩ := u160
      obtain ⟨hw161, hO⟩ := hw161
      obtain rfl : v162 = none := hw161
      have hO : OKP G h0 a (upd (upd (upd (upd F 2 (nI sz)) 9 (nI at129)) 10 (nI ((dp + 1) - 1))) 11 (nI sg130)) R Z (updA B 10 f131) J K147 w := hO.to rfl
      refine W.widen (k := (1 + (2 * (at129 - (at9 + 1)) - 1))) (n := (11 + (11 * (2 * (at129 - (at9 + 1)) - 1)))) (by show (1 + (2 * (at129 - (at9 + 1)) - 1)) + 0 ≤ (1 + (2 * (at129 - (at9 + 1)) - 1)); omega) (by show (11 + (11 * (2 * (at129 - (at9 + 1)) - 1))) + 0 ≤ (11 + (11 * (2 * (at129 - (at9 + 1)) - 1))); omega) ?_
      refine W.eq (g2 := F0 m 90 ls []) rfl ?_
      refine lv_aload_n hx hb dX8_prefixed_90 rfl (lv_at hl 0 rfl) ?_
      refine W_size (fun hz1 hz2 => ?_)
      refine vx_ret ?_
      have hlr := h132.2.2.1
      have hlr1 := hlr.2.2.1
      have hlr2 := hlr.2.2.2.1
      have hkid : ∀ f9 y9 : Nat, f9 ≤ 3 → K147.2.2.1 f9 q17 = some y9 → K147.1 y9 = 1 ∧ 1 ≤ g128 0 y9 ∧ g128 0 y9 < (5 * (20 - dp) + 4 + (sg130 - sg)) := by
        intro f9 y9 hf9 hy9
        rcases (show f9 = 0 ∨ f9 = 1 ∨ f9 = 2 ∨ f9 = 3 by omega) with rfl | rfl | rfl | rfl
        · rw [hf157] at hy9; cases hy9; exact ⟨hf156, hlr1, by omega⟩
        · rw [hf152] at hy9; cases hy9
        · rw [hf153] at hy9; cases hy9
        · rw [hf154] at hy9; cases hy9
      have hdn := NwS.done1 (q := q17) (L := (5 * (20 - dp) + 4 + (sg130 - sg))) (O := O) (k := at9) hns158 hq116 hf149 hg145 (by omega) (by omega) (by rw [hf150]; exact ⟨fun _ => (by show ¬ K147.2.2.1 0 q17 = none; rw [hf157]; intro z; cases z), fun z => absurd z (by decide), fun z => absurd z (by decide), fun z => absurd z (by decide), fun z => absurd z (by decide)⟩) (fun f9 z => by rw [hf150] at z; rcases z with ⟨z, _⟩ | ⟨z | z | z, _⟩ <;> exact absurd z (by decide)) hkid hf155 hno159 (fun f9 x9 _ _ => Kch.no (by rw [hf150]; decide)) how
      have hz165 : NwR K K147 g (gset g128 q17 (5 * (20 - dp) + 4 + (sg130 - sg)) O at9) q17 O at9 ((5 * (20 - dp) + 4 + (sg130 - sg))) := hdn
      have hz166 : at9 + 1 ≤ at129 ∧ at129 ≤ sz := (by omega)
      have hz167 : sg ≤ sg130 ∧ sg130 ≤ 60 := (by omega)
      have hO : OKP G h0 a (upd (upd (upd (upd F 2 (nI sz)) 9 (nI at129)) 10 (nI dp)) 11 (nI sg130)) R Z (updA B 10 f131) J K147 w := hO.to rfl
      refine W.widen (k := (2 * (sz - at9) + 19)) (n := (11 * (2 * (sz - at9) + 19))) (by omega) (by omega) ?_
      have hzz1 : H.size ≤ s.heap.size + ((2 * (at129 - at9) - 1)) := (by have z : (1 + (2 * (at129 - (at9 + 1)) - 1)) ≤ (2 * (at129 - at9) - 1) := (by omega); omega)
      have hzz2 : hSl H ≤ hSl s.heap + ((11 * (2 * (at129 - at9) - 1))) := (by have z : (11 + (11 * (2 * (at129 - (at9 + 1)) - 1))) ≤ (11 * (2 * (at129 - at9) - 1)) := (by omega); omega)
      exact W.aret (v := .ref q17) hx hb hr (Or.inl ⟨_, rfl⟩) (Or.inr ⟨_, rfl⟩) (fun t99 ht99 hW99 => ⟨⟨_, (w, (q17, K147, (gset g128 q17 (5 * (20 - dp) + 4 + (sg130 - sg)) O at9), at129, sg130, f131)), rfl, ⟨rfl, hz165, hz166, hz167, hO⟩, by rw [ht99]; exact hP, hD, by rw [ht99]; exact hzz1, by rw [ht99]; exact hzz2⟩, hS.F ht99⟩) hS.2.2 dX8_prefixed_91
  · have n168 : r6 = 0 := (nI_eq (a := r6) (b := 0) (by omega) (by omega)).mp c9
    refine lv_aload_n hx hb dX8_prefixed_9 rfl (lv_at hl 0 rfl) ?_
    refine lv_bipush (v := 52) hx hb dX8_prefixed_10 (by decide) ?_
    have hO : OKW G h0 a (upd (upd (upd (upd (upd (upd F 2 (nI sz)) 9 (nI at9)) 10 (nI dp)) 11 (nI sg)) 2 (nI sz)) 9 (nI at9)) R Z B J K.1 (fun q99 x99 => x99 = rep G a K q99) w := hO.to rfl
    obtain ⟨_, qr172, hqr173⟩ := hO.2.1 23 _ (sg_23 G h0 a _ _ _ _ _)
    refine pc_V0 (G := G) (As := [.int 52]) (rest := []) hx hb hml hown hq hE hX pX0_al hP hD hS hA hl.1 (P_seesT l G h0 a (upd (upd (upd (upd F 2 (nI sz)) 9 (nI at9)) 10 (nI dp)) 11 (nI sg)) R Z B J K.1 (fun q99 x99 => x99 = rep G a K q99) w 52 at9 sz (by omega) (by omega) (by decide) hO) (gV pw_803 pw_804 pw_805 pw_796 pw_775) hV_X8_sees qr172 5 hqr173 rfl rfl rfl (Nat.le_of_ble_eq_true rfl) dX8_prefixed_12 ⟨(by show 0 + 0 ≤ (2 * (sz - at9) + 19); omega), (by show 0 + 0 ≤ (11 * (2 * (sz - at9) + 19)); omega)⟩ ⟨(by show 3 + 1 ≤ (40 * n + 22); omega), (by show 8 + (2 + 11) + 81 ≤ (1300 * n + 560); omega)⟩ (fun v171 u169 H locs hw170 hP hD hS => ?_)
    obtain ⟨w, r174⟩ := u169
    obtain ⟨hw170, h175, h176, hO⟩ := hw170
    have h175 : r174 ≤ 1 := h175
    have h176 : at9 + r174 ≤ sz := h176
    obtain rfl : v171 = some (.int (nI r174)) := hw170
    have hO : OKP G h0 a (upd (upd (upd (upd F 2 (nI sz)) 9 (nI at9)) 10 (nI dp)) 11 (nI sg)) R Z B J K w := hO.to rfl
    refine W.widen (k := 0) (n := 0) (Nat.le_of_ble_eq_true rfl) (Nat.le_of_ble_eq_true rfl) ?_
    refine W.eq (g2 := F0 m 15 ls [.int (nI r174)]) rfl ?_
    refine lv_if_ne (tgt := 32) hx hb dX8_prefixed_15 (by decide) (fun c177 => ?_) (fun c177 => ?_)
    · have n178 : ¬ (r174 = 0) := fun h9 => c177 ((nI_eq (a := r174) (b := 0) (by omega) (by omega)).mpr h9)
      refine lv_aload_n hx hb dX8_prefixed_32 rfl (lv_at hl 0 rfl) ?_
      have hO : OKW G h0 a (upd (upd (upd (upd (upd (upd (upd F 2 (nI sz)) 9 (nI at9)) 10 (nI dp)) 11 (nI sg)) 2 (nI sz)) 9 (nI at9)) 10 (nI dp)) R Z B J K.1 (fun q99 x99 => x99 = rep G a K q99) w := hO.to rfl
      obtain ⟨_, qr182, hqr183⟩ := hO.2.1 23 _ (sg_23 G h0 a _ _ _ _ _)
      refine pn_V0 (G := G) (As := []) (rest := []) hx hb hml hown hq hE hX pX0_al hP hD hS hA hl.1 (P_enter l G h0 a (upd (upd (upd (upd F 2 (nI sz)) 9 (nI at9)) 10 (nI dp)) 11 (nI sg)) R Z B J K.1 (fun q99 x99 => x99 = rep G a K q99) w dp at9 sz (by omega) (by omega) (by omega) hO hl0) (gV pw_947 pw_948 pw_949 pw_796 pw_905) hV_X8_enter qr182 5 hqr183 rfl rfl rfl (Nat.le_of_ble_eq_true rfl) dX8_prefixed_33 ⟨(by show 0 + 1 ≤ (2 * (sz - at9) + 19); omega), (by show 0 + 6 ≤ (11 * (2 * (sz - at9) + 19)); omega)⟩ ⟨(by show 7 + 1 ≤ (40 * n + 22); omega), (by show 8 + (1 + 11) + 122 ≤ (1300 * n + 560); omega)⟩ (fun v181 u179 H locs hw180 hP hD hS => ?_) (fun ux ce9 q9 H9 locs9 hux hP9 hD9 hS9 hce hcv hcl => pb_out ux (ThQ.up (Thx.same (Thx.same (Thx.same Thx.rfl rfl) rfl) rfl) RhX.rfl hux) hnt hlocks hce hcv hcl hP9 hD9 hS9 (by show 0 + 1 ≤ (2 * (sz - at9) + 19); omega) (by show 0 + 6 ≤ (11 * (2 * (sz - at9) + 19)); omega))
      obtain ⟨w, _⟩ := u179
      obtain ⟨hw180, h184, hO⟩ := hw180
      have h184 : dp + 1 ≤ 20 := h184
      obtain rfl : v181 = none := hw180
      have hO : OKP G h0 a (upd (upd (upd (upd F 2 (nI sz)) 9 (nI at9)) 10 (nI (dp + 1))) 11 (nI sg)) R Z B J K w := hO.to rfl
      refine W.widen (k := 0) (n := 0) (by show 0 + 0 ≤ 0; omega) (by show 0 + 0 ≤ 0; omega) ?_
      refine W.eq (g2 := F0 m 36 ls []) rfl ?_
      refine p_new (s9 := 1) (C := RX7) (T := TX7) (N := 11) (ci := 13) (fs := [.int 0, .int 0, .int 0, .int 0, .int 0, .int 0, .null, .null, .null, .null, .null]) hx hb hq pin_wsX70 tyX7 tyX7_ok hown (hq _ pw_870) (hq _ pw_871) (hq _ pw_872) hE hP hD hS hA hO rfl nw_X7 (by decide) (fun q => by rw [rep_1 (show (kN K q 1 0).1 q = 1 from if_pos rfl)]; unfold fsNode kN; simp only [if_true]; rfl) (by show 0 + 1 ≤ (2 * (sz - at9) + 19); omega) (by show 0 + 11 ≤ (11 * (2 * (sz - at9) + 19)); omega) dX8_prefixed_36 (fun q185 H w hq186 hP hD hS hO => ?_)
      have hf187 : (kN K q185 1 0).1 q185 = 1 := if_pos rfl
      refine W.widen (k := 1) (n := 11) (by show 0 + 1 ≤ 1; omega) (by show 0 + 11 ≤ 11; omega) ?_
      refine lv_dup hx hb dX8_prefixed_39 rfl ?_
      refine lv_aload_n hx hb dX8_prefixed_40 rfl (lv_at hl 0 rfl) ?_
      refine lv_bipush (v := 53) hx hb dX8_prefixed_41 (by decide) ?_
      have hO : OKW G h0 a (upd (upd (upd (upd (upd (upd F 2 (nI sz)) 9 (nI at9)) 10 (nI (dp + 1))) 11 (nI sg)) 2 (nI sz)) 9 (nI at9)) R Z B J ((kN K q185 1 0).1) (fun q99 x99 => x99 = rep G a (kN K q185 1 0) q99) w := hO.to rfl
      obtain ⟨_, qr191, hqr192⟩ := hO.2.1 23 _ (sg_23 G h0 a _ _ _ _ _)
      refine pc_V0 (G := G) (As := [.int 53]) (rest := [.ref q185, .ref q185]) hx hb hml hown hq hE hX pX0_al hP hD hS hA hl.1 (P_sees l G h0 a (upd (upd (upd (upd F 2 (nI sz)) 9 (nI at9)) 10 (nI (dp + 1))) 11 (nI sg)) R Z B J ((kN K q185 1 0).1) (fun q99 x99 => x99 = rep G a (kN K q185 1 0) q99) w 53 at9 sz (by omega) (by omega) hO) (gV pw_803 pw_804 pw_805 pw_796 pw_775) hV_X8_sees qr191 5 hqr192 rfl rfl rfl (Nat.le_of_ble_eq_true rfl) dX8_prefixed_43 ⟨(by show 1 + 0 ≤ (2 * (sz - at9) + 19); omega), (by show 11 + 0 ≤ (11 * (2 * (sz - at9) + 19)); omega)⟩ ⟨(by show 3 + 1 ≤ (40 * n + 22); omega), (by show 8 + (2 + 11) + 81 ≤ (1300 * n + 560); omega)⟩ (fun v190 u188 H locs hw189 hP hD hS => ?_)
      obtain ⟨w, r193⟩ := u188
      obtain ⟨hw189, h194, hO⟩ := hw189
      have h194 : r193 ≤ 1 := h194
      obtain rfl : v190 = some (.int (nI r193)) := hw189
      have hO : OKP G h0 a (upd (upd (upd (upd F 2 (nI sz)) 9 (nI at9)) 10 (nI (dp + 1))) 11 (nI sg)) R Z B J (kN K q185 1 0) w := hO.to rfl
      refine W.widen (k := 1) (n := 11) (by show 1 + 0 ≤ 1; omega) (by show 11 + 0 ≤ 11; omega) ?_
      refine W.eq (g2 := F0 m 46 ls [.int (nI r193), .ref q185, .ref q185]) rfl ?_
      refine lv_if_eq (tgt := 54) hx hb dX8_prefixed_46 (by decide) (fun c195 => ?_) (fun c195 => ?_)
      · have n196 : r193 = 0 := (nI_eq (a := r193) (b := 0) (by omega) (by omega)).mp c195
        refine lv_bipush (v := 15) hx hb dX8_prefixed_54 (by decide) ?_
        refine lv_aload_n hx hb dX8_prefixed_56 rfl (lv_at hl 0 rfl) ?_
        refine c_get (v := .int (nI at9)) (C := RX8) (Tc := TX8) (N := 5) (ci := 5) hx hb hq pin_wsX80 hown hE hP hO 23 (sg_23 G h0 a _ _ _ _ _) rfl 2 (by decide) (hq _ pw_776) (fun _ h9 => h9) rfl dX8_prefixed_57 ?_
        refine lv_aload_n hx hb dX8_prefixed_60 rfl (lv_at hl 0 rfl) ?_
        refine c_get (v := .int (nI at9)) (C := RX8) (Tc := TX8) (N := 5) (ci := 5) hx hb hq pin_wsX80 hown hE hP hO 23 (sg_23 G h0 a _ _ _ _ _) rfl 2 (by decide) (hq _ pw_776) (fun _ h9 => h9) rfl dX8_prefixed_61 ?_
        have hO : OKP G h0 a (upd (upd (upd (upd F 2 (nI sz)) 9 (nI at9)) 10 (nI (dp + 1))) 11 (nI sg)) R Z B J (kN K q185 1 0) w := hO.to rfl
        obtain ⟨qr200, hqr201⟩ := p_recv hO (by rw [hf187]; decide) (rep_1 hf187)
        refine pc_I0 (G := G) (As := [.int 15, .int (nI at9), .int (nI at9)]) (rest := [.ref q185]) hx hb hml hown hq hE hX pX0_al hP hD hS hA hl.1 (N_init l G h0 a (upd (upd (upd (upd F 2 (nI sz)) 9 (nI at9)) 10 (nI (dp + 1))) 11 (nI sg)) R Z B J (kN K q185 1 0) w q185 15 (nI at9) (nI at9) (by omega) hO) pw_874 pw_875 pw_872 pw_765 rfl hS_X7_init rfl (Nat.le_of_ble_eq_true rfl) dX8_prefixed_64 ⟨(by show 1 + 0 ≤ (2 * (sz - at9) + 19); omega), (by show 11 + 0 ≤ (11 * (2 * (sz - at9) + 19)); omega)⟩ ⟨(by show 2 + 1 ≤ (40 * n + 22); omega), (by show 8 + (4 + 11) + 60 ≤ (1300 * n + 560); omega)⟩ (fun v199 u197 H locs hw198 hP hD hS => ?_)
        obtain ⟨w, _⟩ := u197
        obtain ⟨hw198, hO⟩ := hw198
        obtain rfl : v199 = none := hw198
        have hf202 : (kI (kI (kI (kN K q185 1 0) 0 q185 15) 1 q185 (nI at9)) 2 q185 (nI at9)).1 q185 = 1 := hf187
        have hO : OKP G h0 a (upd (upd (upd (upd F 2 (nI sz)) 9 (nI at9)) 10 (nI (dp + 1))) 11 (nI sg)) R Z B J (kI (kI (kI (kN K q185 1 0) 0 q185 15) 1 q185 (nI at9)) 2 q185 (nI at9)) w := hO.to rfl
        refine W.widen (k := 1) (n := 11) (by show 1 + 0 ≤ 1; omega) (by show 11 + 0 ≤ 11; omega) ?_
        refine W.eq (g2 := F0 m 67 ls [.ref q185]) rfl ?_
        change OKP G h0 a (upd (upd (upd (upd F 2 (nI sz)) 9 (nI at9)) 10 (nI (dp + 1))) 11 (nI sg)) R Z B J (mkN K q185 15 (nI at9) (nI at9)) w at hO
        obtain ⟨K203, hK204⟩ : ∃ z : PK, z = (mkN K q185 15 (nI at9) (nI at9)) := ⟨_, rfl⟩
        rw [← hK204] at hO
        have hf205 : K203.1 q185 = 1 := by rw [hK204]; exact mkN_T
        have hf206 : K203.2.1 0 q185 = 15 := by rw [hK204]; exact mkN_0
        have hf207 : K203.2.1 2 q185 = (nI at9) := by rw [hK204]; exact mkN_2
        have hf208 : K203.2.2.1 0 q185 = none := by rw [hK204]; exact mkN_C
        have hf209 : K203.2.2.1 1 q185 = none := by rw [hK204]; exact mkN_C
        have hf210 : K203.2.2.1 2 q185 = none := by rw [hK204]; exact mkN_C
        have hf211 : K203.2.2.1 3 q185 = none := by rw [hK204]; exact mkN_C
        have hf212 : K203.2.2.1 4 q185 = none := by rw [hK204]; exact mkN_C
        have hns213 : NwS K K203 g (gset g q185 0 0 0) := by rw [hK204]; exact NwS.node hns0 hq186
        have hq214 : K.1 q185 = 0 := old_T hns0.2.1 hq186
        have hg215 : (gset g q185 0 0 0) 0 q185 = 0 := gset_0
        have hno216 : NoO K203 (gset g q185 0 0 0) q185 := by rw [hK204]; exact NoO.new hns0.1 hq186
        refine lv_astore_n (lv' := [(1, .ref q185), (0, .ref (a 3))]) hx hb dX8_prefixed_67 rfl hl (by decide) rfl (fun ls hl => ?_)
        refine lv_aload_n hx hb dX8_prefixed_68 rfl (lv_at hl 1 rfl) ?_
        refine lv_dup hx hb dX8_prefixed_69 rfl ?_
        refine c_get (v := .int (nI at9)) (C := RX8) (Tc := TX8) (N := 5) (ci := 5) hx hb hq pin_wsX80 hown hE hP hO 23 (sg_23 G h0 a _ _ _ _ _) rfl 2 (by decide) (hq _ pw_776) (fun _ h9 => h9) rfl dX8_prefixed_70 ?_
        refine lv_iconst (v := 1) hx hb dX8_prefixed_73 (by decide) ?_
        refine lv_iadd hx hb dX8_prefixed_74 ?_
        refine lv_topi (fun x217 e218 => ?_)
        obtain rfl : x217 = nI (at9 + 1) := e218.trans (nI_add (at9) (1))
        refine c_put (v := .int (nI (at9 + 1))) (ty := .int) (C := RX8) (Tc := TX8) (N := 5) (ci := 5) hx hb hq pin_wsX80 tyX8 tyX8_ok nmX8 hown hE hP hD hS hO 23 (sg_23 G h0 a _ _ _ _ _) rfl 2 (by decide) (hq _ pw_776) (fun _ h9 => h9) rfl (by decide +kernel) rfl rfl (Nat.le_of_ble_eq_true rfl) (sf_9 G h0 a _ _ _ _ _ (nI (at9 + 1))) dX8_prefixed_75 (fun H locs w hP hD hS hO => ?_)
        refine lv_aload_n hx hb dX8_prefixed_78 rfl (lv_at hl 0 rfl) ?_
        refine lv_aload_n hx hb dX8_prefixed_79 rfl (lv_at hl 1 rfl) ?_
        have hO : OKP G h0 a (upd (upd (upd (upd (upd (upd (upd (upd (upd (upd F 2 (nI sz)) 9 (nI at9)) 10 (nI dp)) 11 (nI sg)) 9 (nI (at9 + 1))) 10 (nI (dp + 1))) 2 (nI sz)) 9 (nI (at9 + 1))) 10 (nI (dp + 1))) 11 (nI sg)) R Z B J K203 w := hO.to rfl
        obtain ⟨_, qr222, hqr223⟩ := hO.2.1 23 _ (sg_23 G h0 a _ _ _ _ _)
        refine pn_V0 (G := G) (As := []) (rest := [.ref q185]) hx hb hml hown hq hE hX pX0_al hP hD hS hA hl.1 ((ihp (by omega)) h0 a (upd (upd (upd (upd (upd (upd F 2 (nI sz)) 9 (nI at9)) 10 (nI dp)) 11 (nI sg)) 9 (nI (at9 + 1))) 10 (nI (dp + 1))) R Z B J K203 w (at9 + 1) sz (dp + 1) sg 0 (gset g q185 0 0 0) (by omega) (by omega) (by omega) (by omega) hns213.1 (fun o9 h9 => absurd h9 (by omega)) hO hl0) (gV pw_976 pw_977 pw_978 pw_796 pw_972) hV_X8_prefixed qr222 5 hqr223 rfl rfl rfl (Nat.le_of_ble_eq_true rfl) dX8_prefixed_80 ⟨(by show 1 + (2 * (sz - (at9 + 1)) + 19) ≤ (2 * (sz - at9) + 19); omega), (by show 11 + (11 * (2 * (sz - (at9 + 1)) + 19)) ≤ (11 * (2 * (sz - at9) + 19)); omega)⟩ ⟨(by show (40 * (n - 1) + 22) + 1 ≤ (40 * n + 22); omega), (by show 8 + (2 + 11) + (1300 * (n - 1) + 560) ≤ (1300 * n + 560); omega)⟩ (fun v221 u219 H locs hw220 hP hD hS => ?_) (fun ux ce9 q9 H9 locs9 hux hP9 hD9 hS9 hce hcv hcl => pb_out ux (ThQ.up (Thx.same (Thx.same (Thx.same (Thx.same (Thx.f (Thx.f Thx.rfl (by omega)) (by omega)) rfl) rfl) rfl) rfl) RhX.rfl hux) hnt hlocks hce hcv hcl hP9 hD9 hS9 (by show 1 + (2 * (sz - (at9 + 1)) + 19) ≤ (2 * (sz - at9) + 19); omega) (by show 11 + (11 * (2 * (sz - (at9 + 1)) + 19)) ≤ (11 * (2 * (sz - at9) + 19)); omega))
        obtain ⟨w, r224, K225, g226, at227, sg228, f229⟩ := u219
        obtain ⟨hw220, h230, h231, h232, hO⟩ := hw220
        have h230 : NwR K203 K225 (gset g q185 0 0 0) g226 r224 0 (at9 + 1) ((5 * (20 - (dp + 1)) + 4 + (sg228 - sg))) := h230
        have h231 : (at9 + 1) + 1 ≤ at227 ∧ at227 ≤ sz := h231
        have h232 : sg ≤ sg228 ∧ sg228 ≤ 60 := h232
        obtain rfl : v221 = some (.ref r224) := hw220
        have hf233 : K225.1 q185 = 1 := (((h230).2.1.1 q185 (by rw [hf205]; decide)).1).trans hf205
        have hf234 : K225.2.1 0 q185 = 15 := (((h230).2.1.1 q185 (by rw [hf205]; decide)).2.1 0).trans hf206
        have hf235 : K225.2.1 2 q185 = (nI at9) := (((h230).2.1.1 q185 (by rw [hf205]; decide)).2.1 2).trans hf207
        have hf236 : K225.2.2.1 0 q185 = none := (((h230).2.1.1 q185 (by rw [hf205]; decide)).2.2.1 0).trans hf208
        have hf237 : K225.2.2.1 1 q185 = none := (((h230).2.1.1 q185 (by rw [hf205]; decide)).2.2.1 1).trans hf209
        have hf238 : K225.2.2.1 2 q185 = none := (((h230).2.1.1 q185 (by rw [hf205]; decide)).2.2.1 2).trans hf210
        have hf239 : K225.2.2.1 3 q185 = none := (((h230).2.1.1 q185 (by rw [hf205]; decide)).2.2.1 3).trans hf211
        have hf240 : K225.2.2.1 4 q185 = none := (((h230).2.1.1 q185 (by rw [hf205]; decide)).2.2.1 4).trans hf212
        have hO : OKP G h0 a (upd (upd (upd (upd F 2 (nI sz)) 9 (nI at227)) 10 (nI (dp + 1))) 11 (nI sg228)) R Z (updA B 10 f229) J K225 w := hO.to rfl
        refine W.widen (k := (1 + (2 * (at227 - (at9 + 1)) - 1))) (n := (11 + (11 * (2 * (at227 - (at9 + 1)) - 1)))) (by show 1 + (2 * (at227 - (at9 + 1)) - 1) ≤ (1 + (2 * (at227 - (at9 + 1)) - 1)); omega) (by show 11 + (11 * (2 * (at227 - (at9 + 1)) - 1)) ≤ (11 + (11 * (2 * (at227 - (at9 + 1)) - 1))); omega) ?_
        refine W.eq (g2 := F0 m 83 ls [.ref r224, .ref q185]) rfl ?_
        have hns241 : NwS K K225 g g226 := NwS.call hns213 h230 (fun o9 h9 => absurd h9 (by omega))
        have hf242 : K225.1 r224 = 1 := h230.2.2.1.2.1
        have hg243 : g226 0 q185 = 0 := (h230.2.1.2 q185 (by rw [hf205]; decide) 0).trans hg215
        have hno244 : NoO K225 g226 q185 := NoO.call hno216 h230 hf205 (by omega)
        refine p_put (v := .ref r224) (ty := (.object "JinjaTongue$Node")) (C := RX7) (Tc := TX7) (N := 11) (ci := 13) (K' := (kC K225 0 q185 (some r224))) hx hb hq pin_wsX70 tyX7 tyX7_ok nmX7 hown hE hP hD hS hO (by rw [hf233]; decide) (rep_1 hf233) rfl 6 (by decide) (hq _ pw_938) (fun _ h9 => h9) rfl (by decide +kernel) rfl rfl (Nat.le_of_ble_eq_true rfl) rfl (by rw [rep_1 (show (kC K225 0 q185 (some r224)).1 q185 = 1 from hf233), pc_0] <;> rfl) (fun p9 hp9 => rep_kC hp9) dX8_prefixed_83 (fun H locs w hP hD hS hO => ?_)
        obtain ⟨K245, hK246⟩ : ∃ z : PK, z = (kC K225 0 q185 (some r224)) := ⟨_, rfl⟩
        rw [← hK246] at hO
        have hf247 : K245.1 q185 = 1 := (by rw [hK246]; exact hf233)
        have hf248 : K245.2.1 0 q185 = 15 := (by rw [hK246]; exact hf234)
        have hf249 : K245.2.1 2 q185 = (nI at9) := (by rw [hK246]; exact hf235)
        have hf250 : K245.2.2.1 1 q185 = none := (by rw [hK246]; exact (kC_of (by decide)).trans hf237)
        have hf251 : K245.2.2.1 2 q185 = none := (by rw [hK246]; exact (kC_of (by decide)).trans hf238)
        have hf252 : K245.2.2.1 3 q185 = none := (by rw [hK246]; exact (kC_of (by decide)).trans hf239)
        have hf253 : K245.2.2.1 4 q185 = none := (by rw [hK246]; exact (kC_of (by decide)).trans hf240)
        have hf254 : K245.1 r224 = 1 := (by rw [hK246]; exact hf242)
        have hf255 : K245.2.2.1 0 q185 = some r224 := by rw [hK246]; exact kC_eq
        have hns256 : NwS K K245 g g226 := by rw [hK246]; exact NwS.put hns241 hq214 hg243
        have hno257 : NoO K245 g226 q185 := by rw [hK246]; exact hno244
        refine lv_aload_n hx hb dX8_prefixed_86 rfl (lv_at hl 1 rfl) ?_
        have hO : OKW G h0 a (upd (upd (upd (upd (upd F 2 (nI sz)) 9 (nI at227)) 10 (nI (dp + 1))) 11 (nI sg228)) 10 (nI (dp + 1))) R Z (updA B 10 f229) J K245.1 (fun q99 x99 => x99 = rep G a K245 q99) w := hO.to rfl
        obtain ⟨_, qr261, hqr262⟩ := hO.2.1 23 _ (sg_23 G h0 a _ _ _ _ _)
        refine pc_V0 (G := G) (As := []) (rest := []) hx hb hml hown hq hE hX pX0_al hP hD hS hA hl.1 (P_leave l G h0 a (upd (upd (upd (upd F 2 (nI sz)) 9 (nI at227)) 10 (nI (dp + 1))) 11 (nI sg228)) R Z (updA B 10 f229) J K245.1 (fun q99 x99 => x99 = rep G a K245 q99) w (dp + 1) (by omega) hO) (gV pw_950 pw_951 pw_952 pw_796 pw_906) hV_X8_leave qr261 5 hqr262 rfl rfl rfl (Nat.le_of_ble_eq_true rfl) dX8_prefixed_87 ⟨(by show (1 + (2 * (at227 - (at9 + 1)) - 1)) + 0 ≤ (2 * (sz - at9) + 19); omega), (by show (11 + (11 * (2 * (at227 - (at9 + 1)) - 1))) + 0 ≤ (11 * (2 * (sz - at9) + 19)); omega)⟩ ⟨(by show 2 + 1 ≤ (40 * n + 22); omega), (by show 8 + (1 + 11) + 60 ≤ (1300 * n + 560); omega)⟩ (fun v260 u258 H locs hw259 hP hD hS => ?_)
        obtain ⟨w, _⟩ := u258
        obtain ⟨hw259, hO⟩ := hw259
        obtain rfl : v260 = none := hw259
        have hO : OKP G h0 a (upd (upd (upd (upd F 2 (nI sz)) 9 (nI at227)) 10 (nI ((dp + 1) - 1))) 11 (nI sg228)) R Z (updA B 10 f229) J K245 w := hO.to rfl
        refine W.widen (k := (1 + (2 * (at227 - (at9 + 1)) - 1))) (n := (11 + (11 * (2 * (at227 - (at9 + 1)) - 1)))) (by show (1 + (2 * (at227 - (at9 + 1)) - 1)) + 0 ≤ (1 + (2 * (at227 - (at9 + 1)) - 1)); omega) (by show (11 + (11 * (2 * (at227 - (at9 + 1)) - 1))) + 0 ≤ (11 + (11 * (2 * (at227 - (at9 + 1)) - 1))); omega) ?_
        refine W.eq (g2 := F0 m 90 ls []) rfl ?_
        refine lv_aload_n hx hb dX8_prefixed_90 rfl (lv_at hl 0 rfl) ?_
        refine W_size (fun hz1 hz2 => ?_)
        refine vx_ret ?_
        have hlr := h230.2.2.1
        have hlr1 := hlr.2.2.1
        have hlr2 := hlr.2.2.2.1
        have hkid : ∀ f9 y9 : Nat, f9 ≤ 3 → K245.2.2.1 f9 q185 = some y9 → K245.1 y9 = 1 ∧ 1 ≤ g226 0 y9 ∧ g226 0 y9 < (5 * (20 - dp) + 4 + (sg228 - sg)) := by
          intro f9 y9 hf9 hy9
          rcases (show f9 = 0 ∨ f9 = 1 ∨ f9 = 2 ∨ f9 = 3 by omega) with rfl | rfl | rfl | rfl
          · rw [hf255] at hy9; cases hy9; exact ⟨hf254, hlr1, by omega⟩
          · rw [hf250] at hy9; cases hy9
          · rw [hf251] at hy9; cases hy9
          · rw [hf252] at hy9; cases hy9
        have hdn := NwS.done1 (q := q185) (L := (5 * (20 - dp) + 4 + (sg228 - sg))) (O := O) (k := at9) hns256 hq214 hf247 hg243 (by omega) (by omega) (by rw [hf248]; exact ⟨fun _ => (by show ¬ K245.2.2.1 0 q185 = none; rw [hf255]; intro z; cases z), fun z => absurd z (by decide), fun z => absurd z (by decide), fun z => absurd z (by decide), fun z => absurd z (by decide)⟩) (fun f9 z => by rw [hf248] at z; rcases z with ⟨z, _⟩ | ⟨z | z | z, _⟩ <;> exact absurd z (by decide)) hkid hf253 hno257 (fun f9 x9 _ _ => Kch.no (by rw [hf248]; decide)) how
        have hz263 : NwR K K245 g (gset g226 q185 (5 * (20 - dp) + 4 + (sg228 - sg)) O at9) q185 O at9 ((5 * (20 - dp) + 4 + (sg228 - sg))) := hdn
        have hz264 : at9 + 1 ≤ at227 ∧ at227 ≤ sz := (by omega)
        have hz265 : sg ≤ sg228 ∧ sg228 ≤ 60 := (by omega)
        have hO : OKP G h0 a (upd (upd (upd (upd F 2 (nI sz)) 9 (nI at227)) 10 (nI dp)) 11 (nI sg228)) R Z (updA B 10 f229) J K245 w := hO.to rfl
        refine W.widen (k := (2 * (sz - at9) + 19)) (n := (11 * (2 * (sz - at9) + 19))) (by omega) (by omega) ?_
        have hzz1 : H.size ≤ s.heap.size + ((2 * (at227 - at9) - 1)) := (by have z : (1 + (2 * (at227 - (at9 + 1)) - 1)) ≤ (2 * (at227 - at9) - 1) := (by omega); omega)
        have hzz2 : hSl H ≤ hSl s.heap + ((11 * (2 * (at227 - at9) - 1))) := (by have z : (11 + (11 * (2 * (at227 - (at9 + 1)) - 1))) ≤ (11 * (2 * (at227 - at9) - 1)) := (by omega); omega)
        exact W.aret (v := .ref q185) hx hb hr (Or.inl ⟨_, rfl⟩) (Or.inr ⟨_, rfl⟩) (fun t99 ht99 hW99 => ⟨⟨_, (w, (q185, K245, (gset g226 q185 (5 * (20 - dp) + 4 + (sg228 - sg)) O at9), at227, sg228, f229)), rfl, ⟨rfl, hz263, hz264, hz265, hO⟩, by rw [ht99]; exact hP, hD, by rw [ht99]; exact hzz1, by rw [ht99]; exact hzz2⟩, hS.F ht99⟩) hS.2.2 dX8_prefixed_91
      · have n266 : ¬ (r193 = 0) := fun h9 => c195 ((nI_eq (a := r193) (b := 0) (by omega) (by omega)).mpr h9)
        refine lv_bipush (v := 16) hx hb dX8_prefixed_49 (by decide) ?_
        refine lv_goto (tgt := 56) hx hb dX8_prefixed_51 (by decide) ?_
        refine lv_aload_n hx hb dX8_prefixed_56 rfl (lv_at hl 0 rfl) ?_
        refine c_get (v := .int (nI at9)) (C := RX8) (Tc := TX8) (N := 5) (ci := 5) hx hb hq pin_wsX80 hown hE hP hO 23 (sg_23 G h0 a _ _ _ _ _) rfl 2 (by decide) (hq _ pw_776) (fun _ h9 => h9) rfl dX8_prefixed_57 ?_
        refine lv_aload_n hx hb dX8_prefixed_60 rfl (lv_at hl 0 rfl) ?_
        refine c_get (v := .int (nI at9)) (C := RX8) (Tc := TX8) (N := 5) (ci := 5) hx hb hq pin_wsX80 hown hE hP hO 23 (sg_23 G h0 a _ _ _ _ _) rfl 2 (by decide) (hq _ pw_776) (fun _ h9 => h9) rfl dX8_prefixed_61 ?_
        have hO : OKP G h0 a (upd (upd (upd (upd F 2 (nI sz)) 9 (nI at9)) 10 (nI (dp + 1))) 11 (nI sg)) R Z B J (kN K q185 1 0) w := hO.to rfl
        obtain ⟨qr270, hqr271⟩ := p_recv hO (by rw [hf187]; decide) (rep_1 hf187)
        refine pc_I0 (G := G) (As := [.int 16, .int (nI at9), .int (nI at9)]) (rest := [.ref q185]) hx hb hml hown hq hE hX pX0_al hP hD hS hA hl.1 (N_init l G h0 a (upd (upd (upd (upd F 2 (nI sz)) 9 (nI at9)) 10 (nI (dp + 1))) 11 (nI sg)) R Z B J (kN K q185 1 0) w q185 16 (nI at9) (nI at9) (by omega) hO) pw_874 pw_875 pw_872 pw_765 rfl hS_X7_init rfl (Nat.le_of_ble_eq_true rfl) dX8_prefixed_64 ⟨(by show 1 + 0 ≤ (2 * (sz - at9) + 19); omega), (by show 11 + 0 ≤ (11 * (2 * (sz - at9) + 19)); omega)⟩ ⟨(by show 2 + 1 ≤ (40 * n + 22); omega), (by show 8 + (4 + 11) + 60 ≤ (1300 * n + 560); omega)⟩ (fun v269 u267 H locs hw268 hP hD hS => ?_)
        obtain ⟨w, _⟩ := u267
        obtain ⟨hw268, hO⟩ := hw268
        obtain rfl : v269 = none := hw268
        have hf272 : (kI (kI (kI (kN K q185 1 0) 0 q185 16) 1 q185 (nI at9)) 2 q185 (nI at9)).1 q185 = 1 := hf187
        have hO : OKP G h0 a (upd (upd (upd (upd F 2 (nI sz)) 9 (nI at9)) 10 (nI (dp + 1))) 11 (nI sg)) R Z B J (kI (kI (kI (kN K q185 1 0) 0 q185 16) 1 q185 (nI at9)) 2 q185 (nI at9)) w := hO.to rfl
        refine W.widen (k := 1) (n := 11) (by show 1 + 0 ≤ 1; omega) (by show 11 + 0 ≤ 11; omega) ?_
        refine W.eq (g2 := F0 m 67 ls [.ref q185]) rfl ?_
        change OKP G h0 a (upd (upd (upd (upd F 2 (nI sz)) 9 (nI at9)) 10 (nI (dp + 1))) 11 (nI sg)) R Z B J (mkN K q185 16 (nI at9) (nI at9)) w at hO
        obtain ⟨K273, hK274⟩ : ∃ z : PK, z = (mkN K q185 16 (nI at9) (nI at9)) := ⟨_, rfl⟩
        rw [← hK274] at hO
        have hf275 : K273.1 q185 = 1 := by rw [hK274]; exact mkN_T
        have hf276 : K273.2.1 0 q185 = 16 := by rw [hK274]; exact mkN_0
        have hf277 : K273.2.1 2 q185 = (nI at9) := by rw [hK274]; exact mkN_2
        have hf278 : K273.2.2.1 0 q185 = none := by rw [hK274]; exact mkN_C
        have hf279 : K273.2.2.1 1 q185 = none := by rw [hK274]; exact mkN_C
        have hf280 : K273.2.2.1 2 q185 = none := by rw [hK274]; exact mkN_C
        have hf281 : K273.2.2.1 3 q185 = none := by rw [hK274]; exact mkN_C
        have hf282 : K273.2.2.1 4 q185 = none := by rw [hK274]; exact mkN_C
        have hns283 : NwS K K273 g (gset g q185 0 0 0) := by rw [hK274]; exact NwS.node hns0 hq186
        have hq284 : K.1 q185 = 0 := old_T hns0.2.1 hq186
        have hg285 : (gset g q185 0 0 0) 0 q185 = 0 := gset_0
        have hno286 : NoO K273 (gset g q185 0 0 0) q185 := by rw [hK274]; exact NoO.new hns0.1 hq186
        refine lv_astore_n (lv' := [(1, .ref q185), (0, .ref (a 3))]) hx hb dX8_prefixed_67 rfl hl (by decide) rfl (fun ls hl => ?_)
        refine lv_aload_n hx hb dX8_prefixed_68 rfl (lv_at hl 1 rfl) ?_
        refine lv_dup hx hb dX8_prefixed_69 rfl ?_
        refine c_get (v := .int (nI at9)) (C := RX8) (Tc := TX8) (N := 5) (ci := 5) hx hb hq pin_wsX80 hown hE hP hO 23 (sg_23 G h0 a _ _ _ _ _) rfl 2 (by decide) (hq _ pw_776) (fun _ h9 => h9) rfl dX8_prefixed_70 ?_
        refine lv_iconst (v := 1) hx hb dX8_prefixed_73 (by decide) ?_
        refine lv_iadd hx hb dX8_prefixed_74 ?_
        refine lv_topi (fun x287 e288 => ?_)
        obtain rfl : x287 = nI (at9 + 1) := e288.trans (nI_add (at9) (1))
        refine c_put (v := .int (nI (at9 + 1))) (ty := .int) (C := RX8) (Tc := TX8) (N := 5) (ci := 5) hx hb hq pin_wsX80 tyX8 tyX8_ok nmX8 hown hE hP hD hS hO 23 (sg_23 G h0 a _ _ _ _ _) rfl 2 (by decide) (hq _ pw_776) (fun _ h9 => h9) rfl (by decide +kernel) rfl rfl (Nat.le_of_ble_eq_true rfl) (sf_9 G h0 a _ _ _ _ _ (nI (at9 + 1))) dX8_prefixed_75 (fun H locs w hP hD hS hO => ?_)
        refine lv_aload_n hx hb dX8_prefixed_78 rfl (lv_at hl 0 rfl) ?_
        refine lv_aload_n hx hb dX8_prefixed_79 rfl (lv_at hl 1 rfl) ?_
        have hO : OKP G h0 a (upd (upd (upd (upd (upd (upd (upd (upd (upd (upd F 2 (nI sz)) 9 (nI at9)) 10 (nI dp)) 11 (nI sg)) 9 (nI (at9 + 1))) 10 (nI (dp + 1))) 2 (nI sz)) 9 (nI (at9 + 1))) 10 (nI (dp + 1))) 11 (nI sg)) R Z B J K273 w := hO.to rfl
        obtain ⟨_, qr292, hqr293⟩ := hO.2.1 23 _ (sg_23 G h0 a _ _ _ _ _)
        refine pn_V0 (G := G) (As := []) (rest := [.ref q185]) hx hb hml hown hq hE hX pX0_al hP hD hS hA hl.1 ((ihp (by omega)) h0 a (upd (upd (upd (upd (upd (upd F 2 (nI sz)) 9 (nI at9)) 10 (nI dp)) 11 (nI sg)) 9 (nI (at9 + 1))) 10 (nI (dp + 1))) R Z B J K273 w (at9 + 1) sz (dp + 1) sg 0 (gset g q185 0 0 0) (by omega) (by omega) (by omega) (by omega) hns283.1 (fun o9 h9 => absurd h9 (by omega)) hO hl0) (gV pw_976 pw_977 pw_978 pw_796 pw_972) hV_X8_prefixed qr292 5 hqr293 rfl rfl rfl (Nat.le_of_ble_eq_true rfl) dX8_prefixed_80 ⟨(by show 1 + (2 * (sz - (at9 + 1)) + 19) ≤ (2 * (sz - at9) + 19); omega), (by show 11 + (11 * (2 * (sz - (at9 + 1)) + 19)) ≤ (11 * (2 * (sz - at9) + 19)); omega)⟩ ⟨(by show (40 * (n - 1) + 22) + 1 ≤ (40 * n + 22); omega), (by show 8 + (2 + 11) + (1300 * (n - 1) + 560) ≤ (1300 * n + 560); omega)⟩ (fun v291 u289 H locs hw290 hP hD hS => ?_) (fun ux ce9 q9 H9 locs9 hux hP9 hD9 hS9 hce hcv hcl => pb_out ux (ThQ.up (Thx.same (Thx.same (Thx.same (Thx.same (Thx.f (Thx.f Thx.rfl (by omega)) (by omega)) rfl) rfl) rfl) rfl) RhX.rfl hux) hnt hlocks hce hcv hcl hP9 hD9 hS9 (by show 1 + (2 * (sz - (at9 + 1)) + 19) ≤ (2 * (sz - at9) + 19); omega) (by show 11 + (11 * (2 * (sz - (at9 + 1)) + 19)) ≤ (11 * (2 * (sz - at9) + 19)); omega))
        obtain ⟨w, r294, K295, g296, at297, sg298, f299⟩ := u289
        obtain ⟨hw290, h300, h301, h302, hO⟩ := hw290
        have h300 : NwR K273 K295 (gset g q185 0 0 0) g296 r294 0 (at9 + 1) ((5 * (20 - (dp + 1)) + 4 + (sg298 - sg))) := h300
        have h301 : (at9 + 1) + 1 ≤ at297 ∧ at297 ≤ sz := h301
        have h302 : sg ≤ sg298 ∧ sg298 ≤ 60 := h302
        obtain rfl : v291 = some (.ref r294) := hw290
        have hf303 : K295.1 q185 = 1 := (((h300).2.1.1 q185 (by rw [hf275]; decide)).1).trans hf275
        have hf304 : K295.2.1 0 q185 = 16 := (((h300).2.1.1 q185 (by rw [hf275]; decide)).2.1 0).trans hf276
        have hf305 : K295.2.1 2 q185 = (nI at9) := (((h300).2.1.1 q185 (by rw [hf275]; decide)).2.1 2).trans hf277
        have hf306 : K295.2.2.1 0 q185 = none := (((h300).2.1.1 q185 (by rw [hf275]; decide)).2.2.1 0).trans hf278
        have hf307 : K295.2.2.1 1 q185 = none := (((h300).2.1.1 q185 (by rw [hf275]; decide)).2.2.1 1).trans hf279
        have hf308 : K295.2.2.1 2 q185 = none := (((h300).2.1.1 q185 (by rw [hf275]; decide)).2.2.1 2).trans hf280
        have hf309 : K295.2.2.1 3 q185 = none := (((h300).2.1.1 q185 (by rw [hf275]; decide)).2.2.1 3).trans hf281
        have hf310 : K295.2.2.1 4 q185 = none := (((h300).2.1.1 q185 (by rw [hf275]; decide)).2.2.1 4).trans hf282
        have hO : OKP G h0 a (upd (upd (upd (upd F 2 (nI sz)) 9 (nI at297)) 10 (nI (dp + 1))) 11 (nI sg298)) R Z (updA B 10 f299) J K295 w := hO.to rfl
        refine W.widen (k := (1 + (2 * (at297 - (at9 + 1)) - 1))) (n := (11 + (11 * (2 * (at297 - (at9 + 1)) - 1)))) (by show 1 + (2 * (at297 - (at9 + 1)) - 1) ≤ (1 + (2 * (at297 - (at9 + 1)) - 1)); omega) (by show 11 + (11 * (2 * (at297 - (at9 + 1)) - 1)) ≤ (11 + (11 * (2 * (at297 - (at9 + 1)) - 1))); omega) ?_
        refine W.eq (g2 := F0 m 83 ls [.ref r294, .ref q185]) rfl ?_
        have hns311 : NwS K K295 g g296 := NwS.call hns283 h300 (fun o9 h9 => absurd h9 (by omega))
        have hf312 : K295.1 r294 = 1 := h300.2.2.1.2.1
        have hg313 : g296 0 q185 = 0 := (h300.2.1.2 q185 (by rw [hf275]; decide) 0).trans hg285
        have hno314 : NoO K295 g296 q185 := NoO.call hno286 h300 hf275 (by omega)
        refine p_put (v := .ref r294) (ty := (.object "JinjaTongue$Node")) (C := RX7) (Tc := TX7) (N := 11) (ci := 13) (K' := (kC K295 0 q185 (some r294))) hx hb hq pin_wsX70 tyX7 tyX7_ok nmX7 hown hE hP hD hS hO (by rw [hf303]; decide) (rep_1 hf303) rfl 6 (by decide) (hq _ pw_938) (fun _ h9 => h9) rfl (by decide +kernel) rfl rfl (Nat.le_of_ble_eq_true rfl) rfl (by rw [rep_1 (show (kC K295 0 q185 (some r294)).1 q185 = 1 from hf303), pc_0] <;> rfl) (fun p9 hp9 => rep_kC hp9) dX8_prefixed_83 (fun H locs w hP hD hS hO => ?_)
        obtain ⟨K315, hK316⟩ : ∃ z : PK, z = (kC K295 0 q185 (some r294)) := ⟨_, rfl⟩
        rw [← hK316] at hO
        have hf317 : K315.1 q185 = 1 := (by rw [hK316]; exact hf303)
        have hf318 : K315.2.1 0 q185 = 16 := (by rw [hK316]; exact hf304)
        have hf319 : K315.2.1 2 q185 = (nI at9) := (by rw [hK316]; exact hf305)
        have hf320 : K315.2.2.1 1 q185 = none := (by rw [hK316]; exact (kC_of (by decide)).trans hf307)
        have hf321 : K315.2.2.1 2 q185 = none := (by rw [hK316]; exact (kC_of (by decide)).trans hf308)
        have hf322 : K315.2.2.1 3 q185 = none := (by rw [hK316]; exact (kC_of (by decide)).trans hf309)
        have hf323 : K315.2.2.1 4 q185 = none := (by rw [hK316]; exact (kC_of (by decide)).trans hf310)
        have hf324 : K315.1 r294 = 1 := (by rw [hK316]; exact hf312)
        have hf325 : K315.2.2.1 0 q185 = some r294 := by rw [hK316]; exact kC_eq
        have hns326 : NwS K K315 g g296 := by rw [hK316]; exact NwS.put hns311 hq284 hg313
        have hno327 : NoO K315 g296 q185 := by rw [hK316]; exact hno314
        refine lv_aload_n hx hb dX8_prefixed_86 rfl (lv_at hl 1 rfl) ?_
        have hO : OKW G h0 a (upd (upd (upd (upd (upd F 2 (nI sz)) 9 (nI at297)) 10 (nI (dp + 1))) 11 (nI sg298)) 10 (nI (dp + 1))) R Z (updA B 10 f299) J K315.1 (fun q99 x99 => x99 = rep G a K315 q99) w := hO.to rfl
        obtain ⟨_, qr331, hqr332⟩ := hO.2.1 23 _ (sg_23 G h0 a _ _ _ _ _)
        refine pc_V0 (G := G) (As := []) (rest := []) hx hb hml hown hq hE hX pX0_al hP hD hS hA hl.1 (P_leave l G h0 a (upd (upd (upd (upd F 2 (nI sz)) 9 (nI at297)) 10 (nI (dp + 1))) 11 (nI sg298)) R Z (updA B 10 f299) J K315.1 (fun q99 x99 => x99 = rep G a K315 q99) w (dp + 1) (by omega) hO) (gV pw_950 pw_951 pw_952 pw_796 pw_906) hV_X8_leave qr331 5 hqr332 rfl rfl rfl (Nat.le_of_ble_eq_true rfl) dX8_prefixed_87 ⟨(by show (1 + (2 * (at297 - (at9 + 1)) - 1)) + 0 ≤ (2 * (sz - at9) + 19); omega), (by show (11 + (11 * (2 * (at297 - (at9 + 1)) - 1))) + 0 ≤ (11 * (2 * (sz - at9) + 19)); omega)⟩ ⟨(by show 2 + 1 ≤ (40 * n + 22); omega), (by show 8 + (1 + 11) + 60 ≤ (1300 * n + 560); omega)⟩ (fun v330 u328 H locs hw329 hP hD hS => ?_)
        obtain ⟨w, _⟩ := u328
        obtain ⟨hw329, hO⟩ := hw329
        obtain rfl : v330 = none := hw329
        have hO : OKP G h0 a (upd (upd (upd (upd F 2 (nI sz)) 9 (nI at297)) 10 (nI ((dp + 1) - 1))) 11 (nI sg298)) R Z (updA B 10 f299) J K315 w := hO.to rfl
        refine W.widen (k := (1 + (2 * (at297 - (at9 + 1)) - 1))) (n := (11 + (11 * (2 * (at297 - (at9 + 1)) - 1)))) (by show (1 + (2 * (at297 - (at9 + 1)) - 1)) + 0 ≤ (1 + (2 * (at297 - (at9 + 1)) - 1)); omega) (by show (11 + (11 * (2 * (at297 - (at9 + 1)) - 1))) + 0 ≤ (11 + (11 * (2 * (at297 - (at9 + 1)) - 1))); omega) ?_
        refine W.eq (g2 := F0 m 90 ls []) rfl ?_
        refine lv_aload_n hx hb dX8_prefixed_90 rfl (lv_at hl 0 rfl) ?_
        refine W_size (fun hz1 hz2 => ?_)
        refine vx_ret ?_
        have hlr := h300.2.2.1
        have hlr1 := hlr.2.2.1
        have hlr2 := hlr.2.2.2.1
        have hkid : ∀ f9 y9 : Nat, f9 ≤ 3 → K315.2.2.1 f9 q185 = some y9 → K315.1 y9 = 1 ∧ 1 ≤ g296 0 y9 ∧ g296 0 y9 < (5 * (20 - dp) + 4 + (sg298 - sg)) := by
          intro f9 y9 hf9 hy9
          rcases (show f9 = 0 ∨ f9 = 1 ∨ f9 = 2 ∨ f9 = 3 by omega) with rfl | rfl | rfl | rfl
          · rw [hf325] at hy9; cases hy9; exact ⟨hf324, hlr1, by omega⟩
          · rw [hf320] at hy9; cases hy9
          · rw [hf321] at hy9; cases hy9
          · rw [hf322] at hy9; cases hy9
        have hdn := NwS.done1 (q := q185) (L := (5 * (20 - dp) + 4 + (sg298 - sg))) (O := O) (k := at9) hns326 hq284 hf317 hg313 (by omega) (by omega) (by rw [hf318]; exact ⟨fun _ => (by show ¬ K315.2.2.1 0 q185 = none; rw [hf325]; intro z; cases z), fun z => absurd z (by decide), fun z => absurd z (by decide), fun z => absurd z (by decide), fun z => absurd z (by decide)⟩) (fun f9 z => by rw [hf318] at z; rcases z with ⟨z, _⟩ | ⟨z | z | z, _⟩ <;> exact absurd z (by decide)) hkid hf323 hno327 (fun f9 x9 _ _ => Kch.no (by rw [hf318]; decide)) how
        have hz333 : NwR K K315 g (gset g296 q185 (5 * (20 - dp) + 4 + (sg298 - sg)) O at9) q185 O at9 ((5 * (20 - dp) + 4 + (sg298 - sg))) := hdn
        have hz334 : at9 + 1 ≤ at297 ∧ at297 ≤ sz := (by omega)
        have hz335 : sg ≤ sg298 ∧ sg298 ≤ 60 := (by omega)
        have hO : OKP G h0 a (upd (upd (upd (upd F 2 (nI sz)) 9 (nI at297)) 10 (nI dp)) 11 (nI sg298)) R Z (updA B 10 f299) J K315 w := hO.to rfl
        refine W.widen (k := (2 * (sz - at9) + 19)) (n := (11 * (2 * (sz - at9) + 19))) (by omega) (by omega) ?_
        have hzz1 : H.size ≤ s.heap.size + ((2 * (at297 - at9) - 1)) := (by have z : (1 + (2 * (at297 - (at9 + 1)) - 1)) ≤ (2 * (at297 - at9) - 1) := (by omega); omega)
        have hzz2 : hSl H ≤ hSl s.heap + ((11 * (2 * (at297 - at9) - 1))) := (by have z : (11 + (11 * (2 * (at297 - (at9 + 1)) - 1))) ≤ (11 * (2 * (at297 - at9) - 1)) := (by omega); omega)
        exact W.aret (v := .ref q185) hx hb hr (Or.inl ⟨_, rfl⟩) (Or.inr ⟨_, rfl⟩) (fun t99 ht99 hW99 => ⟨⟨_, (w, (q185, K315, (gset g296 q185 (5 * (20 - dp) + 4 + (sg298 - sg)) O at9), at297, sg298, f299)), rfl, ⟨rfl, hz333, hz334, hz335, hO⟩, by rw [ht99]; exact hP, hD, by rw [ht99]; exact hzz1, by rw [ht99]; exact hzz2⟩, hS.F ht99⟩) hS.2.2 dX8_prefixed_91
    · have n336 : r174 = 0 := (nI_eq (a := r174) (b := 0) (by omega) (by omega)).mp c177
      refine lv_aload_n hx hb dX8_prefixed_18 rfl (lv_at hl 0 rfl) ?_
      refine lv_bipush (v := 53) hx hb dX8_prefixed_19 (by decide) ?_
      have hO : OKW G h0 a (upd (upd (upd (upd (upd (upd F 2 (nI sz)) 9 (nI at9)) 10 (nI dp)) 11 (nI sg)) 2 (nI sz)) 9 (nI at9)) R Z B J K.1 (fun q99 x99 => x99 = rep G a K q99) w := hO.to rfl
      obtain ⟨_, qr340, hqr341⟩ := hO.2.1 23 _ (sg_23 G h0 a _ _ _ _ _)
      refine pc_V0 (G := G) (As := [.int 53]) (rest := []) hx hb hml hown hq hE hX pX0_al hP hD hS hA hl.1 (P_seesT l G h0 a (upd (upd (upd (upd F 2 (nI sz)) 9 (nI at9)) 10 (nI dp)) 11 (nI sg)) R Z B J K.1 (fun q99 x99 => x99 = rep G a K q99) w 53 at9 sz (by omega) (by omega) (by decide) hO) (gV pw_803 pw_804 pw_805 pw_796 pw_775) hV_X8_sees qr340 5 hqr341 rfl rfl rfl (Nat.le_of_ble_eq_true rfl) dX8_prefixed_21 ⟨(by show 0 + 0 ≤ (2 * (sz - at9) + 19); omega), (by show 0 + 0 ≤ (11 * (2 * (sz - at9) + 19)); omega)⟩ ⟨(by show 3 + 1 ≤ (40 * n + 22); omega), (by show 8 + (2 + 11) + 81 ≤ (1300 * n + 560); omega)⟩ (fun v339 u337 H locs hw338 hP hD hS => ?_)
      obtain ⟨w, r342⟩ := u337
      obtain ⟨hw338, h343, h344, hO⟩ := hw338
      have h343 : r342 ≤ 1 := h343
      have h344 : at9 + r342 ≤ sz := h344
      obtain rfl : v339 = some (.int (nI r342)) := hw338
      have hO : OKP G h0 a (upd (upd (upd (upd F 2 (nI sz)) 9 (nI at9)) 10 (nI dp)) 11 (nI sg)) R Z B J K w := hO.to rfl
      refine W.widen (k := 0) (n := 0) (Nat.le_of_ble_eq_true rfl) (Nat.le_of_ble_eq_true rfl) ?_
      refine W.eq (g2 := F0 m 24 ls [.int (nI r342)]) rfl ?_
      refine lv_if_ne (tgt := 32) hx hb dX8_prefixed_24 (by decide) (fun c345 => ?_) (fun c345 => ?_)
      · have n346 : ¬ (r342 = 0) := fun h9 => c345 ((nI_eq (a := r342) (b := 0) (by omega) (by omega)).mpr h9)
        refine lv_aload_n hx hb dX8_prefixed_32 rfl (lv_at hl 0 rfl) ?_
        have hO : OKW G h0 a (upd (upd (upd (upd (upd (upd (upd F 2 (nI sz)) 9 (nI at9)) 10 (nI dp)) 11 (nI sg)) 2 (nI sz)) 9 (nI at9)) 10 (nI dp)) R Z B J K.1 (fun q99 x99 => x99 = rep G a K q99) w := hO.to rfl
        obtain ⟨_, qr350, hqr351⟩ := hO.2.1 23 _ (sg_23 G h0 a _ _ _ _ _)
        refine pn_V0 (G := G) (As := []) (rest := []) hx hb hml hown hq hE hX pX0_al hP hD hS hA hl.1 (P_enter l G h0 a (upd (upd (upd (upd F 2 (nI sz)) 9 (nI at9)) 10 (nI dp)) 11 (nI sg)) R Z B J K.1 (fun q99 x99 => x99 = rep G a K q99) w dp at9 sz (by omega) (by omega) (by omega) hO hl0) (gV pw_947 pw_948 pw_949 pw_796 pw_905) hV_X8_enter qr350 5 hqr351 rfl rfl rfl (Nat.le_of_ble_eq_true rfl) dX8_prefixed_33 ⟨(by show 0 + 1 ≤ (2 * (sz - at9) + 19); omega), (by show 0 + 6 ≤ (11 * (2 * (sz - at9) + 19)); omega)⟩ ⟨(by show 7 + 1 ≤ (40 * n + 22); omega), (by show 8 + (1 + 11) + 122 ≤ (1300 * n + 560); omega)⟩ (fun v349 u347 H locs hw348 hP hD hS => ?_) (fun ux ce9 q9 H9 locs9 hux hP9 hD9 hS9 hce hcv hcl => pb_out ux (ThQ.up (Thx.same (Thx.same (Thx.same Thx.rfl rfl) rfl) rfl) RhX.rfl hux) hnt hlocks hce hcv hcl hP9 hD9 hS9 (by show 0 + 1 ≤ (2 * (sz - at9) + 19); omega) (by show 0 + 6 ≤ (11 * (2 * (sz - at9) + 19)); omega))
        obtain ⟨w, _⟩ := u347
        obtain ⟨hw348, h352, hO⟩ := hw348
        have h352 : dp + 1 ≤ 20 := h352
        obtain rfl : v349 = none := hw348
        have hO : OKP G h0 a (upd (upd (upd (upd F 2 (nI sz)) 9 (nI at9)) 10 (nI (dp + 1))) 11 (nI sg)) R Z B J K w := hO.to rfl
        refine W.widen (k := 0) (n := 0) (by show 0 + 0 ≤ 0; omega) (by show 0 + 0 ≤ 0; omega) ?_
        refine W.eq (g2 := F0 m 36 ls []) rfl ?_
        refine p_new (s9 := 1) (C := RX7) (T := TX7) (N := 11) (ci := 13) (fs := [.int 0, .int 0, .int 0, .int 0, .int 0, .int 0, .null, .null, .null, .null, .null]) hx hb hq pin_wsX70 tyX7 tyX7_ok hown (hq _ pw_870) (hq _ pw_871) (hq _ pw_872) hE hP hD hS hA hO rfl nw_X7 (by decide) (fun q => by rw [rep_1 (show (kN K q 1 0).1 q = 1 from if_pos rfl)]; unfold fsNode kN; simp only [if_true]; rfl) (by show 0 + 1 ≤ (2 * (sz - at9) + 19); omega) (by show 0 + 11 ≤ (11 * (2 * (sz - at9) + 19)); omega) dX8_prefixed_36 (fun q353 H w hq354 hP hD hS hO => ?_)
        have hf355 : (kN K q353 1 0).1 q353 = 1 := if_pos rfl
        refine W.widen (k := 1) (n := 11) (by show 0 + 1 ≤ 1; omega) (by show 0 + 11 ≤ 11; omega) ?_
        refine lv_dup hx hb dX8_prefixed_39 rfl ?_
        refine lv_aload_n hx hb dX8_prefixed_40 rfl (lv_at hl 0 rfl) ?_
        refine lv_bipush (v := 53) hx hb dX8_prefixed_41 (by decide) ?_
        have hO : OKW G h0 a (upd (upd (upd (upd (upd (upd F 2 (nI sz)) 9 (nI at9)) 10 (nI (dp + 1))) 11 (nI sg)) 2 (nI sz)) 9 (nI at9)) R Z B J ((kN K q353 1 0).1) (fun q99 x99 => x99 = rep G a (kN K q353 1 0) q99) w := hO.to rfl
        obtain ⟨_, qr359, hqr360⟩ := hO.2.1 23 _ (sg_23 G h0 a _ _ _ _ _)
        refine pc_V0 (G := G) (As := [.int 53]) (rest := [.ref q353, .ref q353]) hx hb hml hown hq hE hX pX0_al hP hD hS hA hl.1 (P_sees l G h0 a (upd (upd (upd (upd F 2 (nI sz)) 9 (nI at9)) 10 (nI (dp + 1))) 11 (nI sg)) R Z B J ((kN K q353 1 0).1) (fun q99 x99 => x99 = rep G a (kN K q353 1 0) q99) w 53 at9 sz (by omega) (by omega) hO) (gV pw_803 pw_804 pw_805 pw_796 pw_775) hV_X8_sees qr359 5 hqr360 rfl rfl rfl (Nat.le_of_ble_eq_true rfl) dX8_prefixed_43 ⟨(by show 1 + 0 ≤ (2 * (sz - at9) + 19); omega), (by show 11 + 0 ≤ (11 * (2 * (sz - at9) + 19)); omega)⟩ ⟨(by show 3 + 1 ≤ (40 * n + 22); omega), (by show 8 + (2 + 11) + 81 ≤ (1300 * n + 560); omega)⟩ (fun v358 u356 H locs hw357 hP hD hS => ?_)
        obtain ⟨w, r361⟩ := u356
        obtain ⟨hw357, h362, hO⟩ := hw357
        have h362 : r361 ≤ 1 := h362
        obtain rfl : v358 = some (.int (nI r361)) := hw357
        have hO : OKP G h0 a (upd (upd (upd (upd F 2 (nI sz)) 9 (nI at9)) 10 (nI (dp + 1))) 11 (nI sg)) R Z B J (kN K q353 1 0) w := hO.to rfl
        refine W.widen (k := 1) (n := 11) (by show 1 + 0 ≤ 1; omega) (by show 11 + 0 ≤ 11; omega) ?_
        refine W.eq (g2 := F0 m 46 ls [.int (nI r361), .ref q353, .ref q353]) rfl ?_
        refine lv_if_eq (tgt := 54) hx hb dX8_prefixed_46 (by decide) (fun c363 => ?_) (fun c363 => ?_)
        · have n364 : r361 = 0 := (nI_eq (a := r361) (b := 0) (by omega) (by omega)).mp c363
          refine lv_bipush (v := 15) hx hb dX8_prefixed_54 (by decide) ?_
          refine lv_aload_n hx hb dX8_prefixed_56 rfl (lv_at hl 0 rfl) ?_
          refine c_get (v := .int (nI at9)) (C := RX8) (Tc := TX8) (N := 5) (ci := 5) hx hb hq pin_wsX80 hown hE hP hO 23 (sg_23 G h0 a _ _ _ _ _) rfl 2 (by decide) (hq _ pw_776) (fun _ h9 => h9) rfl dX8_prefixed_57 ?_
          refine lv_aload_n hx hb dX8_prefixed_60 rfl (lv_at hl 0 rfl) ?_
          refine c_get (v := .int (nI at9)) (C := RX8) (Tc := TX8) (N := 5) (ci := 5) hx hb hq pin_wsX80 hown hE hP hO 23 (sg_23 G h0 a _ _ _ _ _) rfl 2 (by decide) (hq _ pw_776) (fun _ h9 => h9) rfl dX8_prefixed_61 ?_
          have hO : OKP G h0 a (upd (upd (upd (upd F 2 (nI sz)) 9 (nI at9)) 10 (nI (dp + 1))) 11 (nI sg)) R Z B J (kN K q353 1 0) w := hO.to rfl
          obtain ⟨qr368, hqr369⟩ := p_recv hO (by rw [hf355]; decide) (rep_1 hf355)
          refine pc_I0 (G := G) (As := [.int 15, .int (nI at9), .int (nI at9)]) (rest := [.ref q353]) hx hb hml hown hq hE hX pX0_al hP hD hS hA hl.1 (N_init l G h0 a (upd (upd (upd (upd F 2 (nI sz)) 9 (nI at9)) 10 (nI (dp + 1))) 11 (nI sg)) R Z B J (kN K q353 1 0) w q353 15 (nI at9) (nI at9) (by omega) hO) pw_874 pw_875 pw_872 pw_765 rfl hS_X7_init rfl (Nat.le_of_ble_eq_true rfl) dX8_prefixed_64 ⟨(by show 1 + 0 ≤ (2 * (sz - at9) + 19); omega), (by show 11 + 0 ≤ (11 * (2 * (sz - at9) + 19)); omega)⟩ ⟨(by show 2 + 1 ≤ (40 * n + 22); omega), (by show 8 + (4 + 11) + 60 ≤ (1300 * n + 560); omega)⟩ (fun v367 u365 H locs hw366 hP hD hS => ?_)
          obtain ⟨w, _⟩ := u365
          obtain ⟨hw366, hO⟩ := hw366
          obtain rfl : v367 = none := hw366
          have hf370 : (kI (kI (kI (kN K q353 1 0) 0 q353 15) 1 q353 (nI at9)) 2 q353 (nI at9)).1 q353 = 1 := hf355
          have hO : OKP G h0 a (upd (upd (upd (upd F 2 (nI sz)) 9 (nI at9)) 10 (nI (dp + 1))) 11 (nI sg)) R Z B J (kI (kI (kI (kN K q353 1 0) 0 q353 15) 1 q353 (nI at9)) 2 q353 (nI at9)) w := hO.to rfl
          refine W.widen (k := 1) (n := 11) (by show 1 + 0 ≤ 1; omega) (by show 11 + 0 ≤ 11; omega) ?_
          refine W.eq (g2 := F0 m 67 ls [.ref q353]) rfl ?_
          change OKP G h0 a (upd (upd (upd (upd F 2 (nI sz)) 9 (nI at9)) 10 (nI (dp + 1))) 11 (nI sg)) R Z B J (mkN K q353 15 (nI at9) (nI at9)) w at hO
          obtain ⟨K371, hK372⟩ : ∃ z : PK, z = (mkN K q353 15 (nI at9) (nI at9)) := ⟨_, rfl⟩
          rw [← hK372] at hO
          have hf373 : K371.1 q353 = 1 := by rw [hK372]; exact mkN_T
          have hf374 : K371.2.1 0 q353 = 15 := by rw [hK372]; exact mkN_0
          have hf375 : K371.2.1 2 q353 = (nI at9) := by rw [hK372]; exact mkN_2
          have hf376 : K371.2.2.1 0 q353 = none := by rw [hK372]; exact mkN_C
          have hf377 : K371.2.2.1 1 q353 = none := by rw [hK372]; exact mkN_C
          have hf378 : K371.2.2.1 2 q353 = none := by rw [hK372]; exact mkN_C
          have hf379 : K371.2.2.1 3 q353 = none := by rw [hK372]; exact mkN_C
          have hf380 : K371.2.2.1 4 q353 = none := by rw [hK372]; exact mkN_C
          have hns381 : NwS K K371 g (gset g q353 0 0 0) := by rw [hK372]; exact NwS.node hns0 hq354
          have hq382 : K.1 q353 = 0 := old_T hns0.2.1 hq354
          have hg383 : (gset g q353 0 0 0) 0 q353 = 0 := gset_0
          have hno384 : NoO K371 (gset g q353 0 0 0) q353 := by rw [hK372]; exact NoO.new hns0.1 hq354
          refine lv_astore_n (lv' := [(1, .ref q353), (0, .ref (a 3))]) hx hb dX8_prefixed_67 rfl hl (by decide) rfl (fun ls hl => ?_)
          refine lv_aload_n hx hb dX8_prefixed_68 rfl (lv_at hl 1 rfl) ?_
          refine lv_dup hx hb dX8_prefixed_69 rfl ?_
          refine c_get (v := .int (nI at9)) (C := RX8) (Tc := TX8) (N := 5) (ci := 5) hx hb hq pin_wsX80 hown hE hP hO 23 (sg_23 G h0 a _ _ _ _ _) rfl 2 (by decide) (hq _ pw_776) (fun _ h9 => h9) rfl dX8_prefixed_70 ?_
          refine lv_iconst (v := 1) hx hb dX8_prefixed_73 (by decide) ?_
          refine lv_iadd hx hb dX8_prefixed_74 ?_
          refine lv_topi (fun x385 e386 => ?_)
          obtain rfl : x385 = nI (at9 + 1) := e386.trans (nI_add (at9) (1))
          refine c_put (v := .int (nI (at9 + 1))) (ty := .int) (C := RX8) (Tc := TX8) (N := 5) (ci := 5) hx hb hq pin_wsX80 tyX8 tyX8_ok nmX8 hown hE hP hD hS hO 23 (sg_23 G h0 a _ _ _ _ _) rfl 2 (by decide) (hq _ pw_776) (fun _ h9 => h9) rfl (by decide +kernel) rfl rfl (Nat.le_of_ble_eq_true rfl) (sf_9 G h0 a _ _ _ _ _ (nI (at9 + 1))) dX8_prefixed_75 (fun H locs w hP hD hS hO => ?_)
          refine lv_aload_n hx hb dX8_prefixed_78 rfl (lv_at hl 0 rfl) ?_
          refine lv_aload_n hx hb dX8_prefixed_79 rfl (lv_at hl 1 rfl) ?_
          have hO : OKP G h0 a (upd (upd (upd (upd (upd (upd (upd (upd (upd (upd F 2 (nI sz)) 9 (nI at9)) 10 (nI dp)) 11 (nI sg)) 9 (nI (at9 + 1))) 10 (nI (dp + 1))) 2 (nI sz)) 9 (nI (at9 + 1))) 10 (nI (dp + 1))) 11 (nI sg)) R Z B J K371 w := hO.to rfl
          obtain ⟨_, qr390, hqr391⟩ := hO.2.1 23 _ (sg_23 G h0 a _ _ _ _ _)
          refine pn_V0 (G := G) (As := []) (rest := [.ref q353]) hx hb hml hown hq hE hX pX0_al hP hD hS hA hl.1 ((ihp (by omega)) h0 a (upd (upd (upd (upd (upd (upd F 2 (nI sz)) 9 (nI at9)) 10 (nI dp)) 11 (nI sg)) 9 (nI (at9 + 1))) 10 (nI (dp + 1))) R Z B J K371 w (at9 + 1) sz (dp + 1) sg 0 (gset g q353 0 0 0) (by omega) (by omega) (by omega) (by omega) hns381.1 (fun o9 h9 => absurd h9 (by omega)) hO hl0) (gV pw_976 pw_977 pw_978 pw_796 pw_972) hV_X8_prefixed qr390 5 hqr391 rfl rfl rfl (Nat.le_of_ble_eq_true rfl) dX8_prefixed_80 ⟨(by show 1 + (2 * (sz - (at9 + 1)) + 19) ≤ (2 * (sz - at9) + 19); omega), (by show 11 + (11 * (2 * (sz - (at9 + 1)) + 19)) ≤ (11 * (2 * (sz - at9) + 19)); omega)⟩ ⟨(by show (40 * (n - 1) + 22) + 1 ≤ (40 * n + 22); omega), (by show 8 + (2 + 11) + (1300 * (n - 1) + 560) ≤ (1300 * n + 560); omega)⟩ (fun v389 u387 H locs hw388 hP hD hS => ?_) (fun ux ce9 q9 H9 locs9 hux hP9 hD9 hS9 hce hcv hcl => pb_out ux (ThQ.up (Thx.same (Thx.same (Thx.same (Thx.same (Thx.f (Thx.f Thx.rfl (by omega)) (by omega)) rfl) rfl) rfl) rfl) RhX.rfl hux) hnt hlocks hce hcv hcl hP9 hD9 hS9 (by show 1 + (2 * (sz - (at9 + 1)) + 19) ≤ (2 * (sz - at9) + 19); omega) (by show 11 + (11 * (2 * (sz - (at9 + 1)) + 19)) ≤ (11 * (2 * (sz - at9) + 19)); omega))
          obtain ⟨w, r392, K393, g394, at395, sg396, f397⟩ := u387
          obtain ⟨hw388, h398, h399, h400, hO⟩ := hw388
          have h398 : NwR K371 K393 (gset g q353 0 0 0) g394 r392 0 (at9 + 1) ((5 * (20 - (dp + 1)) + 4 + (sg396 - sg))) := h398
          have h399 : (at9 + 1) + 1 ≤ at395 ∧ at395 ≤ sz := h399
          have h400 : sg ≤ sg396 ∧ sg396 ≤ 60 := h400
          obtain rfl : v389 = some (.ref r392) := hw388
          have hf401 : K393.1 q353 = 1 := (((h398).2.1.1 q353 (by rw [hf373]; decide)).1).trans hf373
          have hf402 : K393.2.1 0 q353 = 15 := (((h398).2.1.1 q353 (by rw [hf373]; decide)).2.1 0).trans hf374
          have hf403 : K393.2.1 2 q353 = (nI at9) := (((h398).2.1.1 q353 (by rw [hf373]; decide)).2.1 2).trans hf375
          have hf404 : K393.2.2.1 0 q353 = none := (((h398).2.1.1 q353 (by rw [hf373]; decide)).2.2.1 0).trans hf376
          have hf405 : K393.2.2.1 1 q353 = none := (((h398).2.1.1 q353 (by rw [hf373]; decide)).2.2.1 1).trans hf377
          have hf406 : K393.2.2.1 2 q353 = none := (((h398).2.1.1 q353 (by rw [hf373]; decide)).2.2.1 2).trans hf378
          have hf407 : K393.2.2.1 3 q353 = none := (((h398).2.1.1 q353 (by rw [hf373]; decide)).2.2.1 3).trans hf379
          have hf408 : K393.2.2.1 4 q353 = none := (((h398).2.1.1 q353 (by rw [hf373]; decide)).2.2.1 4).trans hf380
          have hO : OKP G h0 a (upd (upd (upd (upd F 2 (nI sz)) 9 (nI at395)) 10 (nI (dp + 1))) 11 (nI sg396)) R Z (updA B 10 f397) J K393 w := hO.to rfl
          refine W.widen (k := (1 + (2 * (at395 - (at9 + 1)) - 1))) (n := (11 + (11 * (2 * (at395 - (at9 + 1)) - 1)))) (by show 1 + (2 * (at395 - (at9 + 1)) - 1) ≤ (1 + (2 * (at395 - (at9 + 1)) - 1)); omega) (by show 11 + (11 * (2 * (at395 - (at9 + 1)) - 1)) ≤ (11 + (11 * (2 * (at395 - (at9 + 1)) - 1))); omega) ?_
          refine W.eq (g2 := F0 m 83 ls [.ref r392, .ref q353]) rfl ?_
          have hns409 : NwS K K393 g g394 := NwS.call hns381 h398 (fun o9 h9 => absurd h9 (by omega))
          have hf410 : K393.1 r392 = 1 := h398.2.2.1.2.1
          have hg411 : g394 0 q353 = 0 := (h398.2.1.2 q353 (by rw [hf373]; decide) 0).trans hg383
          have hno412 : NoO K393 g394 q353 := NoO.call hno384 h398 hf373 (by omega)
          refine p_put (v := .ref r392) (ty := (.object "JinjaTongue$Node")) (C := RX7) (Tc := TX7) (N := 11) (ci := 13) (K' := (kC K393 0 q353 (some r392))) hx hb hq pin_wsX70 tyX7 tyX7_ok nmX7 hown hE hP hD hS hO (by rw [hf401]; decide) (rep_1 hf401) rfl 6 (by decide) (hq _ pw_938) (fun _ h9 => h9) rfl (by decide +kernel) rfl rfl (Nat.le_of_ble_eq_true rfl) rfl (by rw [rep_1 (show (kC K393 0 q353 (some r392)).1 q353 = 1 from hf401), pc_0] <;> rfl) (fun p9 hp9 => rep_kC hp9) dX8_prefixed_83 (fun H locs w hP hD hS hO => ?_)
          obtain ⟨K413, hK414⟩ : ∃ z : PK, z = (kC K393 0 q353 (some r392)) := ⟨_, rfl⟩
          rw [← hK414] at hO
          have hf415 : K413.1 q353 = 1 := (by rw [hK414]; exact hf401)
          have hf416 : K413.2.1 0 q353 = 15 := (by rw [hK414]; exact hf402)
          have hf417 : K413.2.1 2 q353 = (nI at9) := (by rw [hK414]; exact hf403)
          have hf418 : K413.2.2.1 1 q353 = none := (by rw [hK414]; exact (kC_of (by decide)).trans hf405)
          have hf419 : K413.2.2.1 2 q353 = none := (by rw [hK414]; exact (kC_of (by decide)).trans hf406)
          have hf420 : K413.2.2.1 3 q353 = none := (by rw [hK414]; exact (kC_of (by decide)).trans hf407)
          have hf421 : K413.2.2.1 4 q353 = none := (by rw [hK414]; exact (kC_of (by decide)).trans hf408)
          have hf422 : K413.1 r392 = 1 := (by rw [hK414]; exact hf410)
          have hf423 : K413.2.2.1 0 q353 = some r392 := by rw [hK414]; exact kC_eq
          have hns424 : NwS K K413 g g394 := by rw [hK414]; exact NwS.put hns409 hq382 hg411
          have hno425 : NoO K413 g394 q353 := by rw [hK414]; exact hno412
          refine lv_aload_n hx hb dX8_prefixed_86 rfl (lv_at hl 1 rfl) ?_
          have hO : OKW G h0 a (upd (upd (upd (upd (upd F 2 (nI sz)) 9 (nI at395)) 10 (nI (dp + 1))) 11 (nI sg396)) 10 (nI (dp + 1))) R Z (updA B 10 f397) J K413.1 (fun q99 x99 => x99 = rep G a K413 q99) w := hO.to rfl
          obtain ⟨_, qr429, hqr430⟩ := hO.2.1 23 _ (sg_23 G h0 a _ _ _ _ _)
          refine pc_V0 (G := G) (As := []) (rest := []) hx hb hml hown hq hE hX pX0_al hP hD hS hA hl.1 (P_leave l G h0 a (upd (upd (upd (upd F 2 (nI sz)) 9 (nI at395)) 10 (nI (dp + 1))) 11 (nI sg396)) R Z (updA B 10 f397) J K413.1 (fun q99 x99 => x99 = rep G a K413 q99) w (dp + 1) (by omega) hO) (gV pw_950 pw_951 pw_952 pw_796 pw_906) hV_X8_leave qr429 5 hqr430 rfl rfl rfl (Nat.le_of_ble_eq_true rfl) dX8_prefixed_87 ⟨(by show (1 + (2 * (at395 - (at9 + 1)) - 1)) + 0 ≤ (2 * (sz - at9) + 19); omega), (by show (11 + (11 * (2 * (at395 - (at9 + 1)) - 1))) + 0 ≤ (11 * (2 * (sz - at9) + 19)); omega)⟩ ⟨(by show 2 + 1 ≤ (40 * n + 22); omega), (by show 8 + (1 + 11) + 60 ≤ (1300 * n + 560); omega)⟩ (fun v428 u426 H locs hw427 hP hD hS => ?_)
          obtain ⟨w, _⟩ := u426
          obtain ⟨hw427, hO⟩ := hw427
          obtain rfl : v428 = none := hw427
          have hO : OKP G h0 a (upd (upd (upd (upd F 2 (nI sz)) 9 (nI at395)) 10 (nI ((dp + 1) - 1))) 11 (nI sg396)) R Z (updA B 10 f397) J K413 w := hO.to rfl
          refine W.widen (k := (1 + (2 * (at395 - (at9 + 1)) - 1))) (n := (11 + (11 * (2 * (at395 - (at9 + 1)) - 1)))) (by show (1 + (2 * (at395 - (at9 + 1)) - 1)) + 0 ≤ (1 + (2 * (at395 - (at9 + 1)) - 1)); omega) (by show (11 + (11 * (2 * (at395 - (at9 + 1)) - 1))) + 0 ≤ (11 + (11 * (2 * (at395 - (at9 + 1)) - 1))); omega) ?_
          refine W.eq (g2 := F0 m 90 ls []) rfl ?_
          refine lv_aload_n hx hb dX8_prefixed_90 rfl (lv_at hl 0 rfl) ?_
          refine W_size (fun hz1 hz2 => ?_)
          refine vx_ret ?_
          have hlr := h398.2.2.1
          have hlr1 := hlr.2.2.1
          have hlr2 := hlr.2.2.2.1
          have hkid : ∀ f9 y9 : Nat, f9 ≤ 3 → K413.2.2.1 f9 q353 = some y9 → K413.1 y9 = 1 ∧ 1 ≤ g394 0 y9 ∧ g394 0 y9 < (5 * (20 - dp) + 4 + (sg396 - sg)) := by
            intro f9 y9 hf9 hy9
            rcases (show f9 = 0 ∨ f9 = 1 ∨ f9 = 2 ∨ f9 = 3 by omega) with rfl | rfl | rfl | rfl
            · rw [hf423] at hy9; cases hy9; exact ⟨hf422, hlr1, by omega⟩
            · rw [hf418] at hy9; cases hy9
            · rw [hf419] at hy9; cases hy9
            · rw [hf420] at hy9; cases hy9
          have hdn := NwS.done1 (q := q353) (L := (5 * (20 - dp) + 4 + (sg396 - sg))) (O := O) (k := at9) hns424 hq382 hf415 hg411 (by omega) (by omega) (by rw [hf416]; exact ⟨fun _ => (by show ¬ K413.2.2.1 0 q353 = none; rw [hf423]; intro z; cases z), fun z => absurd z (by decide), fun z => absurd z (by decide), fun z => absurd z (by decide), fun z => absurd z (by decide)⟩) (fun f9 z => by rw [hf416] at z; rcases z with ⟨z, _⟩ | ⟨z | z | z, _⟩ <;> exact absurd z (by decide)) hkid hf421 hno425 (fun f9 x9 _ _ => Kch.no (by rw [hf416]; decide)) how
          have hz431 : NwR K K413 g (gset g394 q353 (5 * (20 - dp) + 4 + (sg396 - sg)) O at9) q353 O at9 ((5 * (20 - dp) + 4 + (sg396 - sg))) := hdn
          have hz432 : at9 + 1 ≤ at395 ∧ at395 ≤ sz := (by omega)
          have hz433 : sg ≤ sg396 ∧ sg396 ≤ 60 := (by omega)
          have hO : OKP G h0 a (upd (upd (upd (upd F 2 (nI sz)) 9 (nI at395)) 10 (nI dp)) 11 (nI sg396)) R Z (updA B 10 f397) J K413 w := hO.to rfl
          refine W.widen (k := (2 * (sz - at9) + 19)) (n := (11 * (2 * (sz - at9) + 19))) (by omega) (by omega) ?_
          have hzz1 : H.size ≤ s.heap.size + ((2 * (at395 - at9) - 1)) := (by have z : (1 + (2 * (at395 - (at9 + 1)) - 1)) ≤ (2 * (at395 - at9) - 1) := (by omega); omega)
          have hzz2 : hSl H ≤ hSl s.heap + ((11 * (2 * (at395 - at9) - 1))) := (by have z : (11 + (11 * (2 * (at395 - (at9 + 1)) - 1))) ≤ (11 * (2 * (at395 - at9) - 1)) := (by omega); omega)
          exact W.aret (v := .ref q353) hx hb hr (Or.inl ⟨_, rfl⟩) (Or.inr ⟨_, rfl⟩) (fun t99 ht99 hW99 => ⟨⟨_, (w, (q353, K413, (gset g394 q353 (5 * (20 - dp) + 4 + (sg396 - sg)) O at9), at395, sg396, f397)), rfl, ⟨rfl, hz431, hz432, hz433, hO⟩, by rw [ht99]; exact hP, hD, by rw [ht99]; exact hzz1, by rw [ht99]; exact hzz2⟩, hS.F ht99⟩) hS.2.2 dX8_prefixed_91
        · have n434 : ¬ (r361 = 0) := fun h9 => c363 ((nI_eq (a := r361) (b := 0) (by omega) (by omega)).mpr h9)
          refine lv_bipush (v := 16) hx hb dX8_prefixed_49 (by decide) ?_
          refine lv_goto (tgt := 56) hx hb dX8_prefixed_51 (by decide) ?_
          refine lv_aload_n hx hb dX8_prefixed_56 rfl (lv_at hl 0 rfl) ?_
          refine c_get (v := .int (nI at9)) (C := RX8) (Tc := TX8) (N := 5) (ci := 5) hx hb hq pin_wsX80 hown hE hP hO 23 (sg_23 G h0 a _ _ _ _ _) rfl 2 (by decide) (hq _ pw_776) (fun _ h9 => h9) rfl dX8_prefixed_57 ?_
          refine lv_aload_n hx hb dX8_prefixed_60 rfl (lv_at hl 0 rfl) ?_
          refine c_get (v := .int (nI at9)) (C := RX8) (Tc := TX8) (N := 5) (ci := 5) hx hb hq pin_wsX80 hown hE hP hO 23 (sg_23 G h0 a _ _ _ _ _) rfl 2 (by decide) (hq _ pw_776) (fun _ h9 => h9) rfl dX8_prefixed_61 ?_
          have hO : OKP G h0 a (upd (upd (upd (upd F 2 (nI sz)) 9 (nI at9)) 10 (nI (dp + 1))) 11 (nI sg)) R Z B J (kN K q353 1 0) w := hO.to rfl
          obtain ⟨qr438, hqr439⟩ := p_recv hO (by rw [hf355]; decide) (rep_1 hf355)
          refine pc_I0 (G := G) (As := [.int 16, .int (nI at9), .int (nI at9)]) (rest := [.ref q353]) hx hb hml hown hq hE hX pX0_al hP hD hS hA hl.1 (N_init l G h0 a (upd (upd (upd (upd F 2 (nI sz)) 9 (nI at9)) 10 (nI (dp + 1))) 11 (nI sg)) R Z B J (kN K q353 1 0) w q353 16 (nI at9) (nI at9) (by omega) hO) pw_874 pw_875 pw_872 pw_765 rfl hS_X7_init rfl (Nat.le_of_ble_eq_true rfl) dX8_prefixed_64 ⟨(by show 1 + 0 ≤ (2 * (sz - at9) + 19); omega), (by show 11 + 0 ≤ (11 * (2 * (sz - at9) + 19)); omega)⟩ ⟨(by show 2 + 1 ≤ (40 * n + 22); omega), (by show 8 + (4 + 11) + 60 ≤ (1300 * n + 560); omega)⟩ (fun v437 u435 H locs hw436 hP hD hS => ?_)
          obtain ⟨w, _⟩ := u435
          obtain ⟨hw436, hO⟩ := hw436
          obtain rfl : v437 = none := hw436
          have hf440 : (kI (kI (kI (kN K q353 1 0) 0 q353 16) 1 q353 (nI at9)) 2 q353 (nI at9)).1 q353 = 1 := hf355
          have hO : OKP G h0 a (upd (upd (upd (upd F 2 (nI sz)) 9 (nI at9)) 10 (nI (dp + 1))) 11 (nI sg)) R Z B J (kI (kI (kI (kN K q353 1 0) 0 q353 16) 1 q353 (nI at9)) 2 q353 (nI at9)) w := hO.to rfl
          refine W.widen (k := 1) (n := 11) (by show 1 + 0 ≤ 1; omega) (by show 11 + 0 ≤ 11; omega) ?_
          refine W.eq (g2 := F0 m 67 ls [.ref q353]) rfl ?_
          change OKP G h0 a (upd (upd (upd (upd F 2 (nI sz)) 9 (nI at9)) 10 (nI (dp + 1))) 11 (nI sg)) R Z B J (mkN K q353 16 (nI at9) (nI at9)) w at hO
          obtain ⟨K441, hK442⟩ : ∃ z : PK, z = (mkN K q353 16 (nI at9) (nI at9)) := ⟨_, rfl⟩
          rw [← hK442] at hO
          have hf443 : K441.1 q353 = 1 := by rw [hK442]; exact mkN_T
          have hf444 : K441.2.1 0 q353 = 16 := by rw [hK442]; exact mkN_0
          have hf445 : K441.2.1 2 q353 = (nI at9) := by rw [hK442]; exact mkN_2
          have hf446 : K441.2.2.1 0 q353 = none := by rw [hK442]; exact mkN_C
          have hf447 : K441.2.2.1 1 q353 = none := by rw [hK442]; exact mkN_C
          have hf448 : K441.2.2.1 2 q353 = none := by rw [hK442]; exact mkN_C
          have hf449 : K441.2.2.1 3 q353 = none := by rw [hK442]; exact mkN_C
          have hf450 : K441.2.2.1 4 q353 = none := by rw [hK442]; exact mkN_C
          have hns451 : NwS K K441 g (gset g q353 0 0 0) := by rw [hK442]; exact NwS.node hns0 hq354
          have hq452 : K.1 q353 = 0 := old_T hns0.2.1 hq354
          have hg453 : (gset g q353 0 0 0) 0 q353 = 0 := gset_0
          have hno454 : NoO K441 (gset g q353 0 0 0) q353 := by rw [hK442]; exact NoO.new hns0.1 hq354
          refine lv_astore_n (lv' := [(1, .ref q353), (0, .ref (a 3))]) hx hb dX8_prefixed_67 rfl hl (by decide) rfl (fun ls hl => ?_)
          refine lv_aload_n hx hb dX8_prefixed_68 rfl (lv_at hl 1 rfl) ?_
          refine lv_dup hx hb dX8_prefixed_69 rfl ?_
          refine c_get (v := .int (nI at9)) (C := RX8) (Tc := TX8) (N := 5) (ci := 5) hx hb hq pin_wsX80 hown hE hP hO 23 (sg_23 G h0 a _ _ _ _ _) rfl 2 (by decide) (hq _ pw_776) (fun _ h9 => h9) rfl dX8_prefixed_70 ?_
          refine lv_iconst (v := 1) hx hb dX8_prefixed_73 (by decide) ?_
          refine lv_iadd hx hb dX8_prefixed_74 ?_
          refine lv_topi (fun x455 e456 => ?_)
          obtain rfl : x455 = nI (at9 + 1) := e456.trans (nI_add (at9) (1))
          refine c_put (v := .int (nI (at9 + 1))) (ty := .int) (C := RX8) (Tc := TX8) (N := 5) (ci := 5) hx hb hq pin_wsX80 tyX8 tyX8_ok nmX8 hown hE hP hD hS hO 23 (sg_23 G h0 a _ _ _ _ _) rfl 2 (by decide) (hq _ pw_776) (fun _ h9 => h9) rfl (by decide +kernel) rfl rfl (Nat.le_of_ble_eq_true rfl) (sf_9 G h0 a _ _ _ _ _ (nI (at9 + 1))) dX8_prefixed_75 (fun H locs w hP hD hS hO => ?_)
          refine lv_aload_n hx hb dX8_prefixed_78 rfl (lv_at hl 0 rfl) ?_
          refine lv_aload_n hx hb dX8_prefixed_79 rfl (lv_at hl 1 rfl) ?_
          have hO : OKP G h0 a (upd (upd (upd (upd (upd (upd (upd (upd (upd (upd F 2 (nI sz)) 9 (nI at9)) 10 (nI dp)) 11 (nI sg)) 9 (nI (at9 + 1))) 10 (nI (dp + 1))) 2 (nI sz)) 9 (nI (at9 + 1))) 10 (nI (dp + 1))) 11 (nI sg)) R Z B J K441 w := hO.to rfl
          obtain ⟨_, qr460, hqr461⟩ := hO.2.1 23 _ (sg_23 G h0 a _ _ _ _ _)
          refine pn_V0 (G := G) (As := []) (rest := [.ref q353]) hx hb hml hown hq hE hX pX0_al hP hD hS hA hl.1 ((ihp (by omega)) h0 a (upd (upd (upd (upd (upd (upd F 2 (nI sz)) 9 (nI at9)) 10 (nI dp)) 11 (nI sg)) 9 (nI (at9 + 1))) 10 (nI (dp + 1))) R Z B J K441 w (at9 + 1) sz (dp + 1) sg 0 (gset g q353 0 0 0) (by omega) (by omega) (by omega) (by omega) hns451.1 (fun o9 h9 => absurd h9 (by omega)) hO hl0) (gV pw_976 pw_977 pw_978 pw_796 pw_972) hV_X8_prefixed qr460 5 hqr461 rfl rfl rfl (Nat.le_of_ble_eq_true rfl) dX8_prefixed_80 ⟨(by show 1 + (2 * (sz - (at9 + 1)) + 19) ≤ (2 * (sz - at9) + 19); omega), (by show 11 + (11 * (2 * (sz - (at9 + 1)) + 19)) ≤ (11 * (2 * (sz - at9) + 19)); omega)⟩ ⟨(by show (40 * (n - 1) + 22) + 1 ≤ (40 * n + 22); omega), (by show 8 + (2 + 11) + (1300 * (n - 1) + 560) ≤ (1300 * n + 560); omega)⟩ (fun v459 u457 H locs hw458 hP hD hS => ?_) (fun ux ce9 q9 H9 locs9 hux hP9 hD9 hS9 hce hcv hcl => pb_out ux (ThQ.up (Thx.same (Thx.same (Thx.same (Thx.same (Thx.f (Thx.f Thx.rfl (by omega)) (by omega)) rfl) rfl) rfl) rfl) RhX.rfl hux) hnt hlocks hce hcv hcl hP9 hD9 hS9 (by show 1 + (2 * (sz - (at9 + 1)) + 19) ≤ (2 * (sz - at9) + 19); omega) (by show 11 + (11 * (2 * (sz - (at9 + 1)) + 19)) ≤ (11 * (2 * (sz - at9) + 19)); omega))
          obtain ⟨w, r462, K463, g464, at465, sg466, f467⟩ := u457
          obtain ⟨hw458, h468, h469, h470, hO⟩ := hw458
          have h468 : NwR K441 K463 (gset g q353 0 0 0) g464 r462 0 (at9 + 1) ((5 * (20 - (dp + 1)) + 4 + (sg466 - sg))) := h468
          have h469 : (at9 + 1) + 1 ≤ at465 ∧ at465 ≤ sz := h469
          have h470 : sg ≤ sg466 ∧ sg466 ≤ 60 := h470
          obtain rfl : v459 = some (.ref r462) := hw458
          have hf471 : K463.1 q353 = 1 := (((h468).2.1.1 q353 (by rw [hf443]; decide)).1).trans hf443
          have hf472 : K463.2.1 0 q353 = 16 := (((h468).2.1.1 q353 (by rw [hf443]; decide)).2.1 0).trans hf444
          have hf473 : K463.2.1 2 q353 = (nI at9) := (((h468).2.1.1 q353 (by rw [hf443]; decide)).2.1 2).trans hf445
          have hf474 : K463.2.2.1 0 q353 = none := (((h468).2.1.1 q353 (by rw [hf443]; decide)).2.2.1 0).trans hf446
          have hf475 : K463.2.2.1 1 q353 = none := (((h468).2.1.1 q353 (by rw [hf443]; decide)).2.2.1 1).trans hf447
          have hf476 : K463.2.2.1 2 q353 = none := (((h468).2.1.1 q353 (by rw [hf443]; decide)).2.2.1 2).trans hf448
          have hf477 : K463.2.2.1 3 q353 = none := (((h468).2.1.1 q353 (by rw [hf443]; decide)).2.2.1 3).trans hf449
          have hf478 : K463.2.2.1 4 q353 = none := (((h468).2.1.1 q353 (by rw [hf443]; decide)).2.2.1 4).trans hf450
          have hO : OKP G h0 a (upd (upd (upd (upd F 2 (nI sz)) 9 (nI at465)) 10 (nI (dp + 1))) 11 (nI sg466)) R Z (updA B 10 f467) J K463 w := hO.to rfl
          refine W.widen (k := (1 + (2 * (at465 - (at9 + 1)) - 1))) (n := (11 + (11 * (2 * (at465 - (at9 + 1)) - 1)))) (by show 1 + (2 * (at465 - (at9 + 1)) - 1) ≤ (1 + (2 * (at465 - (at9 + 1)) - 1)); omega) (by show 11 + (11 * (2 * (at465 - (at9 + 1)) - 1)) ≤ (11 + (11 * (2 * (at465 - (at9 + 1)) - 1))); omega) ?_
          refine W.eq (g2 := F0 m 83 ls [.ref r462, .ref q353]) rfl ?_
          have hns479 : NwS K K463 g g464 := NwS.call hns451 h468 (fun o9 h9 => absurd h9 (by omega))
          have hf480 : K463.1 r462 = 1 := h468.2.2.1.2.1
          have hg481 : g464 0 q353 = 0 := (h468.2.1.2 q353 (by rw [hf443]; decide) 0).trans hg453
          have hno482 : NoO K463 g464 q353 := NoO.call hno454 h468 hf443 (by omega)
          refine p_put (v := .ref r462) (ty := (.object "JinjaTongue$Node")) (C := RX7) (Tc := TX7) (N := 11) (ci := 13) (K' := (kC K463 0 q353 (some r462))) hx hb hq pin_wsX70 tyX7 tyX7_ok nmX7 hown hE hP hD hS hO (by rw [hf471]; decide) (rep_1 hf471) rfl 6 (by decide) (hq _ pw_938) (fun _ h9 => h9) rfl (by decide +kernel) rfl rfl (Nat.le_of_ble_eq_true rfl) rfl (by rw [rep_1 (show (kC K463 0 q353 (some r462)).1 q353 = 1 from hf471), pc_0] <;> rfl) (fun p9 hp9 => rep_kC hp9) dX8_prefixed_83 (fun H locs w hP hD hS hO => ?_)
          obtain ⟨K483, hK484⟩ : ∃ z : PK, z = (kC K463 0 q353 (some r462)) := ⟨_, rfl⟩
          rw [← hK484] at hO
          have hf485 : K483.1 q353 = 1 := (by rw [hK484]; exact hf471)
          have hf486 : K483.2.1 0 q353 = 16 := (by rw [hK484]; exact hf472)
          have hf487 : K483.2.1 2 q353 = (nI at9) := (by rw [hK484]; exact hf473)
          have hf488 : K483.2.2.1 1 q353 = none := (by rw [hK484]; exact (kC_of (by decide)).trans hf475)
          have hf489 : K483.2.2.1 2 q353 = none := (by rw [hK484]; exact (kC_of (by decide)).trans hf476)
          have hf490 : K483.2.2.1 3 q353 = none := (by rw [hK484]; exact (kC_of (by decide)).trans hf477)
          have hf491 : K483.2.2.1 4 q353 = none := (by rw [hK484]; exact (kC_of (by decide)).trans hf478)
          have hf492 : K483.1 r462 = 1 := (by rw [hK484]; exact hf480)
          have hf493 : K483.2.2.1 0 q353 = some r462 := by rw [hK484]; exact kC_eq
          have hns494 : NwS K K483 g g464 := by rw [hK484]; exact NwS.put hns479 hq452 hg481
          have hno495 : NoO K483 g464 q353 := by rw [hK484]; exact hno482
          refine lv_aload_n hx hb dX8_prefixed_86 rfl (lv_at hl 1 rfl) ?_
          have hO : OKW G h0 a (upd (upd (upd (upd (upd F 2 (nI sz)) 9 (nI at465)) 10 (nI (dp + 1))) 11 (nI sg466)) 10 (nI (dp + 1))) R Z (updA B 10 f467) J K483.1 (fun q99 x99 => x99 = rep G a K483 q99) w := hO.to rfl
          obtain ⟨_, qr499, hqr500⟩ := hO.2.1 23 _ (sg_23 G h0 a _ _ _ _ _)
          refine pc_V0 (G := G) (As := []) (rest := []) hx hb hml hown hq hE hX pX0_al hP hD hS hA hl.1 (P_leave l G h0 a (upd (upd (upd (upd F 2 (nI sz)) 9 (nI at465)) 10 (nI (dp + 1))) 11 (nI sg466)) R Z (updA B 10 f467) J K483.1 (fun q99 x99 => x99 = rep G a K483 q99) w (dp + 1) (by omega) hO) (gV pw_950 pw_951 pw_952 pw_796 pw_906) hV_X8_leave qr499 5 hqr500 rfl rfl rfl (Nat.le_of_ble_eq_true rfl) dX8_prefixed_87 ⟨(by show (1 + (2 * (at465 - (at9 + 1)) - 1)) + 0 ≤ (2 * (sz - at9) + 19); omega), (by show (11 + (11 * (2 * (at465 - (at9 + 1)) - 1))) + 0 ≤ (11 * (2 * (sz - at9) + 19)); omega)⟩ ⟨(by show 2 + 1 ≤ (40 * n + 22); omega), (by show 8 + (1 + 11) + 60 ≤ (1300 * n + 560); omega)⟩ (fun v498 u496 H locs hw497 hP hD hS => ?_)
          obtain ⟨w, _⟩ := u496
          obtain ⟨hw497, hO⟩ := hw497
          obtain rfl : v498 = none := hw497
          have hO : OKP G h0 a (upd (upd (upd (upd F 2 (nI sz)) 9 (nI at465)) 10 (nI ((dp + 1) - 1))) 11 (nI sg466)) R Z (updA B 10 f467) J K483 w := hO.to rfl
          refine W.widen (k := (1 + (2 * (at465 - (at9 + 1)) - 1))) (n := (11 + (11 * (2 * (at465 - (at9 + 1)) - 1)))) (by show (1 + (2 * (at465 - (at9 + 1)) - 1)) + 0 ≤ (1 + (2 * (at465 - (at9 + 1)) - 1)); omega) (by show (11 + (11 * (2 * (at465 - (at9 + 1)) - 1))) + 0 ≤ (11 + (11 * (2 * (at465 - (at9 + 1)) - 1))); omega) ?_
          refine W.eq (g2 := F0 m 90 ls []) rfl ?_
          refine lv_aload_n hx hb dX8_prefixed_90 rfl (lv_at hl 0 rfl) ?_
          refine W_size (fun hz1 hz2 => ?_)
          refine vx_ret ?_
          have hlr := h468.2.2.1
          have hlr1 := hlr.2.2.1
          have hlr2 := hlr.2.2.2.1
          have hkid : ∀ f9 y9 : Nat, f9 ≤ 3 → K483.2.2.1 f9 q353 = some y9 → K483.1 y9 = 1 ∧ 1 ≤ g464 0 y9 ∧ g464 0 y9 < (5 * (20 - dp) + 4 + (sg466 - sg)) := by
            intro f9 y9 hf9 hy9
            rcases (show f9 = 0 ∨ f9 = 1 ∨ f9 = 2 ∨ f9 = 3 by omega) with rfl | rfl | rfl | rfl
            · rw [hf493] at hy9; cases hy9; exact ⟨hf492, hlr1, by omega⟩
            · rw [hf488] at hy9; cases hy9
            · rw [hf489] at hy9; cases hy9
            · rw [hf490] at hy9; cases hy9
          have hdn := NwS.done1 (q := q353) (L := (5 * (20 - dp) + 4 + (sg466 - sg))) (O := O) (k := at9) hns494 hq452 hf485 hg481 (by omega) (by omega) (by rw [hf486]; exact ⟨fun _ => (by show ¬ K483.2.2.1 0 q353 = none; rw [hf493]; intro z; cases z), fun z => absurd z (by decide), fun z => absurd z (by decide), fun z => absurd z (by decide), fun z => absurd z (by decide)⟩) (fun f9 z => by rw [hf486] at z; rcases z with ⟨z, _⟩ | ⟨z | z | z, _⟩ <;> exact absurd z (by decide)) hkid hf491 hno495 (fun f9 x9 _ _ => Kch.no (by rw [hf486]; decide)) how
          have hz501 : NwR K K483 g (gset g464 q353 (5 * (20 - dp) + 4 + (sg466 - sg)) O at9) q353 O at9 ((5 * (20 - dp) + 4 + (sg466 - sg))) := hdn
          have hz502 : at9 + 1 ≤ at465 ∧ at465 ≤ sz := (by omega)
          have hz503 : sg ≤ sg466 ∧ sg466 ≤ 60 := (by omega)
          have hO : OKP G h0 a (upd (upd (upd (upd F 2 (nI sz)) 9 (nI at465)) 10 (nI dp)) 11 (nI sg466)) R Z (updA B 10 f467) J K483 w := hO.to rfl
          refine W.widen (k := (2 * (sz - at9) + 19)) (n := (11 * (2 * (sz - at9) + 19))) (by omega) (by omega) ?_
          have hzz1 : H.size ≤ s.heap.size + ((2 * (at465 - at9) - 1)) := (by have z : (1 + (2 * (at465 - (at9 + 1)) - 1)) ≤ (2 * (at465 - at9) - 1) := (by omega); omega)
          have hzz2 : hSl H ≤ hSl s.heap + ((11 * (2 * (at465 - at9) - 1))) := (by have z : (11 + (11 * (2 * (at465 - (at9 + 1)) - 1))) ≤ (11 * (2 * (at465 - at9) - 1)) := (by omega); omega)
          exact W.aret (v := .ref q353) hx hb hr (Or.inl ⟨_, rfl⟩) (Or.inr ⟨_, rfl⟩) (fun t99 ht99 hW99 => ⟨⟨_, (w, (q353, K483, (gset g464 q353 (5 * (20 - dp) + 4 + (sg466 - sg)) O at9), at465, sg466, f467)), rfl, ⟨rfl, hz501, hz502, hz503, hO⟩, by rw [ht99]; exact hP, hD, by rw [ht99]; exact hzz1, by rw [ht99]; exact hzz2⟩, hS.F ht99⟩) hS.2.2 dX8_prefixed_91
      · have n504 : r342 = 0 := (nI_eq (a := r342) (b := 0) (by omega) (by omega)).mp c345
        refine lv_aload_n hx hb dX8_prefixed_27 rfl (lv_at hl 0 rfl) ?_
        have hO : OKP G h0 a (upd (upd (upd (upd (upd (upd (upd (upd F 2 (nI sz)) 9 (nI at9)) 10 (nI dp)) 11 (nI sg)) 2 (nI sz)) 9 (nI at9)) 10 (nI dp)) 11 (nI sg)) R Z B J K w := hO.to rfl
        obtain ⟨_, qr508, hqr509⟩ := hO.2.1 23 _ (sg_23 G h0 a _ _ _ _ _)
        refine pn_V0 (G := G) (As := []) (rest := []) hx hb hml hown hq hE hX pX0_al hP hD hS hA hl.1 (P_chain l G h0 a (upd (upd (upd (upd F 2 (nI sz)) 9 (nI at9)) 10 (nI dp)) 11 (nI sg)) R Z B J K w n at9 sz dp sg O g (by omega) (by omega) (by omega) (by omega) hwn how ihe hO hl0) (gV pw_973 pw_974 pw_975 pw_796 pw_923) hV_X8_chain qr508 5 hqr509 rfl rfl rfl (Nat.le_of_ble_eq_true rfl) dX8_prefixed_28 ⟨(by show 0 + (2 * (sz - at9) + 19) ≤ (2 * (sz - at9) + 19); omega), (by show 0 + (11 * (2 * (sz - at9) + 19)) ≤ (11 * (2 * (sz - at9) + 19)); omega)⟩ ⟨(by show (40 * n + 20) + 1 ≤ (40 * n + 22); omega), (by show 8 + (3 + 11) + (1300 * n + 520) ≤ (1300 * n + 560); omega)⟩ (fun v507 u505 H locs hw506 hP hD hS => ?_) (fun ux ce9 q9 H9 locs9 hux hP9 hD9 hS9 hce hcv hcl => pb_out ux (ThQ.up (Thx.same (Thx.same (Thx.same (Thx.same Thx.rfl rfl) rfl) rfl) rfl) RhX.rfl hux) hnt hlocks hce hcv hcl hP9 hD9 hS9 (by show 0 + (2 * (sz - at9) + 19) ≤ (2 * (sz - at9) + 19); omega) (by show 0 + (11 * (2 * (sz - at9) + 19)) ≤ (11 * (2 * (sz - at9) + 19)); omega))
        obtain ⟨w, r510, K511, g512, at513, sg514, f515⟩ := u505
        obtain ⟨hw506, h516, h517, h518, hO⟩ := hw506
        have h516 : NwR K K511 g g512 r510 O at9 ((5 * (20 - dp) + 3 + (sg514 - sg))) := h516
        have h517 : at9 + 1 ≤ at513 ∧ at513 ≤ sz := h517
        have h518 : sg ≤ sg514 ∧ sg514 ≤ 60 := h518
        obtain rfl : v507 = some (.ref r510) := hw506
        have hO : OKP G h0 a (upd (upd (upd (upd F 2 (nI sz)) 9 (nI at513)) 10 (nI dp)) 11 (nI sg514)) R Z (updA B 10 f515) J K511 w := hO.to rfl
        refine W.widen (k := (2 * (at513 - at9) - 1)) (n := (11 * (2 * (at513 - at9) - 1))) (by show 0 + (2 * (at513 - at9) - 1) ≤ (2 * (at513 - at9) - 1); omega) (by show 0 + (11 * (2 * (at513 - at9) - 1)) ≤ (11 * (2 * (at513 - at9) - 1)); omega) ?_
        refine W.eq (g2 := F0 m 31 ls [.ref r510]) rfl ?_
        refine W_size (fun hz1 hz2 => ?_)
        refine vx_ret ?_
        have hz519 : NwR K K511 g g512 r510 O at9 ((5 * (20 - dp) + 4 + (sg514 - sg))) := (NwR.up h516 (by omega))
        have hz520 : at9 + 1 ≤ at513 ∧ at513 ≤ sz := (by omega)
        have hz521 : sg ≤ sg514 ∧ sg514 ≤ 60 := (by omega)
        have hO : OKP G h0 a (upd (upd (upd (upd F 2 (nI sz)) 9 (nI at513)) 10 (nI dp)) 11 (nI sg514)) R Z (updA B 10 f515) J K511 w := hO.to rfl
        refine W.widen (k := (2 * (sz - at9) + 19)) (n := (11 * (2 * (sz - at9) + 19))) (by omega) (by omega) ?_
        have hzz1 : H.size ≤ s.heap.size + ((2 * (at513 - at9) - 1)) := (by have z : (2 * (at513 - at9) - 1) ≤ (2 * (at513 - at9) - 1) := (by omega); omega)
        have hzz2 : hSl H ≤ hSl s.heap + ((11 * (2 * (at513 - at9) - 1))) := (by have z : (11 * (2 * (at513 - at9) - 1)) ≤ (11 * (2 * (at513 - at9) - 1)) := (by omega); omega)
        exact W.aret (v := .ref r510) hx hb hr (Or.inl ⟨_, rfl⟩) (Or.inr ⟨_, rfl⟩) (fun t99 ht99 hW99 => ⟨⟨_, (w, (r510, K511, g512, at513, sg514, f515)), rfl, ⟨rfl, hz519, hz520, hz521, hO⟩, by rw [ht99]; exact hP, hD, by rw [ht99]; exact hzz1, by rw [ht99]; exact hzz2⟩, hS.F ht99⟩) hS.2.2 dX8_prefixed_31
