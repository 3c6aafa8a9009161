def PPf (l : Launch) (G : pT) (n : Nat) : Prop := ∀ (h0 : Nat) (a : Nat → Nat) (F : Nat → Int32) (R : Nat → Value) (Z : Int64) (B : Nat → Nat → Int32) (J : Nat → Nat → Int64) (K : PK) (w : va_W) (at9 : Nat) (sz : Nat) (dp : Nat) (sg : Nat) (O : Nat) (g : Nat → Nat → Nat), (sz ≤ 5000) → (at9 ≤ sz) → (dp + n = 20) → (sg ≤ 60) → (WN K g) → (∀ o : Nat, O = o + 1 → K.1 o = 1 ∧ g 0 o = 0 ∧ ¬ K.2.1 0 o = 32) → (OKP G h0 a (upd (upd (upd (upd F 2 (nI sz)) 9 (nI at9)) 10 (nI dp)) 11 (nI sg)) R Z B J K w) → (l.stackTraces = false) → PBn l G pX0 yX8_prefixed cX8_prefixed 2 (some (.object "JinjaTongue$Node")) ({ frames := (40 * n + 22), cells := (2 * (sz - at9) + 19), slots := (11 * (2 * (sz - at9) + 19)), locals := (1300 * n + 560) }) [.ref (a 3)] w (fun (v : Option Value) (u : va_W × (Nat × PK × (Nat → Nat → Nat) × Nat × Nat × (Nat → Int32) × Nat)) => v = some (.ref u.2.1) ∧ (NwR K u.2.2.1 g u.2.2.2.1 u.2.1 O u.2.2.2.2.2.2.2 ((5 * (20 - dp) + 4 + (u.2.2.2.2.2.1 - sg)))) ∧ (at9 ≤ rS u.2.2.2.2.2.2.2 ∧ rS u.2.2.2.2.2.2.2 + 1 ≤ rE u.2.2.2.2.2.2.2 ∧ rE u.2.2.2.2.2.2.2 ≤ u.2.2.2.2.1 ∧ 1 ≤ rD u.2.2.2.2.2.2.2 ∧ rD u.2.2.2.2.2.2.2 ≤ 9 * (20 - dp) + (u.2.2.2.2.2.1 - sg) + 1) ∧ (at9 + 1 ≤ u.2.2.2.2.1 ∧ u.2.2.2.2.1 ≤ sz) ∧ (sg ≤ u.2.2.2.2.2.1 ∧ u.2.2.2.2.2.1 ≤ 60) ∧ (¬ tkN (B 7) sz 67 (nI at9) = 37) ∧ (NwT (B 7) sz (B 10) u.2.2.2.2.2.2.1 K u.2.2.1 at9 u.2.2.2.2.1) ∧ (OKP G h0 a (upd (upd (upd (upd F 2 (nI sz)) 9 (nI u.2.2.2.2.1)) 10 (nI dp)) 11 (nI u.2.2.2.2.2.1)) R Z (updA B 10 u.2.2.2.2.2.2.1) J u.2.2.1 u.1)) (fun u => u.1) (fun (u : va_W × (Nat × PK × (Nat → Nat → Nat) × Nat × Nat × (Nat → Int32) × Nat)) => (2 * (u.2.2.2.2.1 - at9) - 1)) (fun (u : va_W × (Nat × PK × (Nat → Nat → Nat) × Nat × Nat × (Nat → Int32) × Nat)) => (11 * (2 * (u.2.2.2.2.1 - at9) - 1))) (fun (u : va_W × (Nat → Int32) × (Nat → Value) × (Nat → Nat → Int32)) => ThQ G h0 a (upd (upd (upd (upd F 2 (nI sz)) 9 (nI at9)) 10 (nI dp)) 11 (nI sg)) R Z B J u) (fun u => u.1)
def IhP (l : Launch) (G : pT) (n : Nat) : Prop := 1 ≤ n → PPf l G (n - 1)
set_option maxHeartbeats 2000000 in
set_option maxRecDepth 100000 in
theorem P_seesT (l : Launch) (G : pT) (h0 : Nat) (a : Nat → Nat) (F : Nat → Int32) (R : Nat → Value) (Z : Int64) (B : Nat → Nat → Int32) (J : Nat → Nat → Int64) (T : Nat → Nat) (Pi : Nat → va_E → Prop) (w : va_W) (x : Int32) (at9 : Nat) (sz : Nat) (hsz : sz ≤ 5000) (hat : at9 ≤ sz) (hx9 : ¬ x = 67) (hO : OKW G h0 a (upd (upd F 2 (nI sz)) 9 (nI at9)) R Z B J T Pi w) : PM l G pX0 yX8_sees cX8_sees 2 (some .boolean) ({ frames := 3, cells := 0, slots := 0, locals := 81 }) [.ref (a 3), .int x] w (fun (v : Option Value) (u : va_W × (Nat)) => v = some (.int (nI u.2)) ∧ (u.2 ≤ 1) ∧ (at9 + u.2 ≤ sz) ∧ (SeQ (B 7) sz at9 x u.2) ∧ (OKW G h0 a (upd (upd F 2 (nI sz)) 9 (nI at9)) R Z B J T Pi u.1)) (fun u => u.1) := by
  intro sz
  refine Met.ofW (cc := cX8_sees) (maxL := 2) (ret := (some .boolean)) (by decide) rfl ?_
  intro p e s m args below meth c s₁ B9 hml hv
  obtain ⟨rfl, hsz, hP, hD0, hE, hX⟩ := hv
  have hx := B9.exec
  have hb := B9.bytes
  have hr := B9.returns
  have hts := atoms_spec (ws := Cond.code yX8_sees cX8_sees 2 (some .boolean) :: pw) B9.pre
  have hq : ∀ w ∈ pw, w.before _ s = true := fun w h => hts w (List.mem_cons_of_mem _ h)
  have hown : s.vm.findClass RX8 = some m.cls := findClass_of_methodNamed B9.named
  have hlocks := B9.notSynchronized
  subst hsz
  have hD := hD0.self (sz := s.heap.size)
  have hA : ∀ q : Nat, s.heap.size ≤ q → va_A w s.heap.size q := fun q h => Or.inr h
  generalize va_A w s.heap.size = A at hD hE hA ⊢
  have hS : va_S A s.heap s.heap [] := va_S.rf
  have hl := lv_entry ([.ref (a 3), .int x]) (n := 2) (Nat.le_of_ble_eq_true rfl)
  rw [lg_entry_eq]
  generalize (lg_sl ([.ref (a 3), .int x]) ++ List.replicate (2 - (lg_sl ([.ref (a 3), .int x])).length) Slot.unset).toArray = ls at hl ⊢
  have hl : lv_has ls 2 [(0, .ref (a 3)), (1, .int x)] := hl
  refine lv_aload_n hx hb dX8_sees_0 rfl (lv_at hl 0 rfl) ?_
  refine c_get (v := .ref (a 1)) (C := RX8) (Tc := TX8) (N := 5) (ci := 5) hx hb hq pin_wsX80 hown hE hP hO 23 (sg_23 G h0 a _ _ _ _ _) rfl 0 (by decide) (hq _ pw_774) (fun _ h9 => h9) rfl dX8_sees_1 ?_
  refine lv_aload_n hx hb dX8_sees_4 rfl (lv_at hl 0 rfl) ?_
  refine c_get (v := .int (nI at9)) (C := RX8) (Tc := TX8) (N := 5) (ci := 5) hx hb hq pin_wsX80 hown hE hP hO 23 (sg_23 G h0 a _ _ _ _ _) rfl 2 (by decide) (hq _ pw_776) (fun _ h9 => h9) rfl dX8_sees_5 ?_
  have hO : OKW G h0 a (upd (upd (upd F 2 (nI sz)) 9 (nI at9)) 2 (nI sz)) R Z B J T Pi w := hO.to rfl
  obtain ⟨_, qr4, hqr5⟩ := hO.2.1 2 _ (sg_2 G h0 a _ _ _ _ _)
  refine pc_V0 (G := G) (As := [.int (nI at9)]) (rest := []) hx hb hml hown hq hE hX pX0_al hP hD hS hA hl.1 (K_kindX l G h0 a (upd (upd F 2 (nI sz)) 9 (nI at9)) R Z B J T Pi w (nI at9) sz (by omega) hO) (gV pw_777 pw_193 pw_194 pw_59 pw_126) hV_X10_kindAt qr4 7 hqr5 rfl rfl rfl (Nat.le_of_ble_eq_true rfl) dX8_sees_8 ⟨Nat.le_of_ble_eq_true rfl, Nat.le_of_ble_eq_true rfl⟩ ⟨Nat.le_of_ble_eq_true rfl, Nat.le_of_ble_eq_true rfl⟩ (fun v3 u1 H locs hw2 hP hD hS => ?_)
  obtain ⟨w, r6⟩ := u1
  obtain ⟨hw2, h7, h8, hO⟩ := hw2
  have h7 : r6 = 67 ∨ ∃ t : Nat, (nI at9) = nI t ∧ t < sz := h7
  have h8 : r6 = tkN ((B 7)) sz 67 (nI at9) := h8
  obtain rfl : v3 = some (.int r6) := hw2
  have hO : OKW G h0 a (upd (upd F 2 (nI sz)) 9 (nI at9)) R Z B J T Pi w := hO.to rfl
  refine W.widen (k := 0) (n := 0) (Nat.le_of_ble_eq_true rfl) (Nat.le_of_ble_eq_true rfl) ?_
  refine W.eq (g2 := F0 m 11 ls [.int r6]) rfl ?_
  refine lv_iload_n hx hb dX8_sees_11 rfl (lv_at hl 1 rfl) ?_
  refine lv_icmp_ne (tgt := 19) hx hb dX8_sees_12 (by decide) (fun c9 => ?_) (fun c9 => ?_)
  · refine lv_iconst (v := 0) hx hb dX8_sees_19 (by decide) ?_
    have hz10 : 0 ≤ 1 := (by omega)
    have hz11 : at9 + 0 ≤ sz := (by omega)
    have hz12 : SeQ (B 7) sz at9 x 0 := ⟨fun z => absurd z (by decide), fun _ => (fun z => c9 (h8.trans z))⟩
    have hO : OKW G h0 a (upd (upd F 2 (nI sz)) 9 (nI at9)) R Z B J T Pi w := hO.to rfl
    exact W.zret (v := 0) hx hb hr rfl (fun t99 ht99 hW99 => ⟨⟨_, (w, 0), rfl, ⟨rfl, hz10, hz11, hz12, hO⟩, by rw [ht99]; exact hP, hD⟩, hS.F ht99⟩) hS.2.2 dX8_sees_20
  · have htk := tok_in h7 c9 hx9 (by omega) hsz
    refine lv_iconst (v := 1) hx hb dX8_sees_15 (by decide) ?_
    refine lv_goto (tgt := 20) hx hb dX8_sees_16 (by decide) ?_
    have hz13 : 1 ≤ 1 := (by omega)
    have hz14 : at9 + 1 ≤ sz := (by omega)
    have hz15 : SeQ (B 7) sz at9 x 1 := ⟨fun _ => (h8.symm.trans c9), fun z => absurd z (by decide)⟩
    have hO : OKW G h0 a (upd (upd F 2 (nI sz)) 9 (nI at9)) R Z B J T Pi w := hO.to rfl
    exact W.zret (v := 1) hx hb hr rfl (fun t99 ht99 hW99 => ⟨⟨_, (w, 1), rfl, ⟨rfl, hz13, hz14, hz15, hO⟩, by rw [ht99]; exact hP, hD⟩, hS.F ht99⟩) hS.2.2 dX8_sees_20
theorem dX8_prefixed_0 : decode cX8_prefixed 0 = .ok (.aload_n 0, 1) := by decide +kernel
theorem dX8_prefixed_1 : decode cX8_prefixed 1 = .ok (.bipush 45, 2) := by decide +kernel
theorem dX8_prefixed_3 : decode cX8_prefixed 3 = .ok (.invokevirtual 36, 3) := by decide +kernel
theorem dX8_prefixed_6 : decode cX8_prefixed 6 = .ok (.ifCond .ne 26, 3) := by decide +kernel
theorem dX8_prefixed_32 : decode cX8_prefixed 32 = .ok (.aload_n 0, 1) := by decide +kernel
theorem dX8_prefixed_33 : decode cX8_prefixed 33 = .ok (.invokevirtual 180, 3) := by decide +kernel
theorem dX8_prefixed_36 : decode cX8_prefixed 36 = .ok (.new 143, 3) := by decide +kernel
theorem dX8_prefixed_39 : decode cX8_prefixed 39 = .ok (.dup, 1) := by decide +kernel
theorem dX8_prefixed_40 : decode cX8_prefixed 40 = .ok (.aload_n 0, 1) := by decide +kernel
theorem dX8_prefixed_41 : decode cX8_prefixed 41 = .ok (.bipush 53, 2) := by decide +kernel
theorem dX8_prefixed_43 : decode cX8_prefixed 43 = .ok (.invokevirtual 36, 3) := by decide +kernel
theorem dX8_prefixed_46 : decode cX8_prefixed 46 = .ok (.ifCond .eq 8, 3) := by decide +kernel
theorem dX8_prefixed_54 : decode cX8_prefixed 54 = .ok (.bipush 15, 2) := by decide +kernel
theorem dX8_prefixed_56 : decode cX8_prefixed 56 = .ok (.aload_n 0, 1) := by decide +kernel
theorem dX8_prefixed_57 : decode cX8_prefixed 57 = .ok (.getfield 17, 3) := by decide +kernel
theorem dX8_prefixed_60 : decode cX8_prefixed 60 = .ok (.aload_n 0, 1) := by decide +kernel
theorem dX8_prefixed_61 : decode cX8_prefixed 61 = .ok (.getfield 17, 3) := by decide +kernel
theorem dX8_prefixed_64 : decode cX8_prefixed 64 = .ok (.invokespecial 145, 3) := by decide +kernel
theorem dX8_prefixed_67 : decode cX8_prefixed 67 = .ok (.astore_n 1, 1) := by decide +kernel
theorem dX8_prefixed_68 : decode cX8_prefixed 68 = .ok (.aload_n 0, 1) := by decide +kernel
theorem dX8_prefixed_69 : decode cX8_prefixed 69 = .ok (.dup, 1) := by decide +kernel
theorem dX8_prefixed_70 : decode cX8_prefixed 70 = .ok (.getfield 17, 3) := by decide +kernel
theorem dX8_prefixed_73 : decode cX8_prefixed 73 = .ok (.iconst 1, 1) := by decide +kernel
theorem dX8_prefixed_74 : decode cX8_prefixed 74 = .ok (.iadd, 1) := by decide +kernel
theorem dX8_prefixed_75 : decode cX8_prefixed 75 = .ok (.putfield 17, 3) := by decide +kernel
theorem dX8_prefixed_78 : decode cX8_prefixed 78 = .ok (.aload_n 1, 1) := by decide +kernel
theorem dX8_prefixed_79 : decode cX8_prefixed 79 = .ok (.aload_n 0, 1) := by decide +kernel
theorem dX8_prefixed_80 : decode cX8_prefixed 80 = .ok (.invokevirtual 251, 3) := by decide +kernel
theorem dX8_prefixed_83 : decode cX8_prefixed 83 = .ok (.putfield 165, 3) := by decide +kernel
theorem dX8_prefixed_86 : decode cX8_prefixed 86 = .ok (.aload_n 0, 1) := by decide +kernel
theorem dX8_prefixed_87 : decode cX8_prefixed 87 = .ok (.invokevirtual 190, 3) := by decide +kernel
theorem dX8_prefixed_90 : decode cX8_prefixed 90 = .ok (.aload_n 1, 1) := by decide +kernel
theorem dX8_prefixed_91 : decode cX8_prefixed 91 = .ok (.areturn, 1) := by decide +kernel
theorem dX8_prefixed_49 : decode cX8_prefixed 49 = .ok (.bipush 16, 2) := by decide +kernel
theorem dX8_prefixed_51 : decode cX8_prefixed 51 = .ok (.goto 5, 3) := by decide +kernel
theorem dX8_prefixed_9 : decode cX8_prefixed 9 = .ok (.aload_n 0, 1) := by decide +kernel
theorem dX8_prefixed_10 : decode cX8_prefixed 10 = .ok (.bipush 52, 2) := by decide +kernel
theorem dX8_prefixed_12 : decode cX8_prefixed 12 = .ok (.invokevirtual 36, 3) := by decide +kernel
theorem dX8_prefixed_15 : decode cX8_prefixed 15 = .ok (.ifCond .ne 17, 3) := by decide +kernel
theorem dX8_prefixed_18 : decode cX8_prefixed 18 = .ok (.aload_n 0, 1) := by decide +kernel
theorem dX8_prefixed_19 : decode cX8_prefixed 19 = .ok (.bipush 53, 2) := by decide +kernel
theorem dX8_prefixed_21 : decode cX8_prefixed 21 = .ok (.invokevirtual 36, 3) := by decide +kernel
theorem dX8_prefixed_24 : decode cX8_prefixed 24 = .ok (.ifCond .ne 8, 3) := by decide +kernel
theorem dX8_prefixed_27 : decode cX8_prefixed 27 = .ok (.aload_n 0, 1) := by decide +kernel
theorem dX8_prefixed_28 : decode cX8_prefixed 28 = .ok (.invokevirtual 221, 3) := by decide +kernel
theorem dX8_prefixed_31 : decode cX8_prefixed 31 = .ok (.areturn, 1) := by decide +kernel
theorem hV_X8_enter : yX8_enter.cls = RX8 ∧ yX8_enter.cls ≠ "java/lang/invoke/MethodHandle" ∧ yX8_enter.cls ≠ "java/lang/invoke/VarHandle" ∧ (parseMethodDescriptor yX8_enter.desc).map (fun d => d.parameters.length) = some 0 := by decide +kernel
theorem hV_X8_prefixed : yX8_prefixed.cls = RX8 ∧ yX8_prefixed.cls ≠ "java/lang/invoke/MethodHandle" ∧ yX8_prefixed.cls ≠ "java/lang/invoke/VarHandle" ∧ (parseMethodDescriptor yX8_prefixed.desc).map (fun d => d.parameters.length) = some 0 := by decide +kernel
theorem hV_X8_leave : yX8_leave.cls = RX8 ∧ yX8_leave.cls ≠ "java/lang/invoke/MethodHandle" ∧ yX8_leave.cls ≠ "java/lang/invoke/VarHandle" ∧ (parseMethodDescriptor yX8_leave.desc).map (fun d => d.parameters.length) = some 0 := by decide +kernel
theorem hV_X8_chain : yX8_chain.cls = RX8 ∧ yX8_chain.cls ≠ "java/lang/invoke/MethodHandle" ∧ yX8_chain.cls ≠ "java/lang/invoke/VarHandle" ∧ (parseMethodDescriptor yX8_chain.desc).map (fun d => d.parameters.length) = some 0 := by decide +kernel
set_option maxHeartbeats 16000000 in
set_option maxRecDepth 100000 in
theorem P_prefixed (l : Launch) (G : pT) (h0 : Nat) (a : Nat → Nat) (F : Nat → Int32) (R : Nat → Value) (Z : Int64) (B : Nat → Nat → Int32) (J : Nat → Nat → Int64) (K : PK) (w : va_W) (n : Nat) (at9 : Nat) (sz : Nat) (dp : Nat) (sg : Nat) (O : Nat) (g : Nat → Nat → Nat) (hsz : sz ≤ 5000) (hat : at9 ≤ sz) (hdp : dp + n = 20) (hsg : sg ≤ 60) (hwn : WN K g) (how : ∀ o : Nat, O = o + 1 → K.1 o = 1 ∧ g 0 o = 0 ∧ ¬ K.2.1 0 o = 32) (ihe : IhE l G n) (ihp : IhP l G n) (hO : OKP G h0 a (upd (upd (upd (upd F 2 (nI sz)) 9 (nI at9)) 10 (nI dp)) 11 (nI sg)) R Z B J K w) (hl0 : l.stackTraces = false) : PBn l G pX0 yX8_prefixed cX8_prefixed 2 (some (.object "JinjaTongue$Node")) ({ frames := (40 * n + 22), cells := (2 * (sz - at9) + 19), slots := (11 * (2 * (sz - at9) + 19)), locals := (1300 * n + 560) }) [.ref (a 3)] w (fun (v : Option Value) (u : va_W × (Nat × PK × (Nat → Nat → Nat) × Nat × Nat × (Nat → Int32) × Nat)) => v = some (.ref u.2.1) ∧ (NwR K u.2.2.1 g u.2.2.2.1 u.2.1 O u.2.2.2.2.2.2.2 ((5 * (20 - dp) + 4 + (u.2.2.2.2.2.1 - sg)))) ∧ (at9 ≤ rS u.2.2.2.2.2.2.2 ∧ rS u.2.2.2.2.2.2.2 + 1 ≤ rE u.2.2.2.2.2.2.2 ∧ rE u.2.2.2.2.2.2.2 ≤ u.2.2.2.2.1 ∧ 1 ≤ rD u.2.2.2.2.2.2.2 ∧ rD u.2.2.2.2.2.2.2 ≤ 9 * (20 - dp) + (u.2.2.2.2.2.1 - sg) + 1) ∧ (at9 + 1 ≤ u.2.2.2.2.1 ∧ u.2.2.2.2.1 ≤ sz) ∧ (sg ≤ u.2.2.2.2.2.1 ∧ u.2.2.2.2.2.1 ≤ 60) ∧ (¬ tkN (B 7) sz 67 (nI at9) = 37) ∧ (NwT (B 7) sz (B 10) u.2.2.2.2.2.2.1 K u.2.2.1 at9 u.2.2.2.2.1) ∧ (OKP G h0 a (upd (upd (upd (upd F 2 (nI sz)) 9 (nI u.2.2.2.2.1)) 10 (nI dp)) 11 (nI u.2.2.2.2.2.1)) R Z (updA B 10 u.2.2.2.2.2.2.1) J u.2.2.1 u.1)) (fun u => u.1) (fun (u : va_W × (Nat × PK × (Nat → Nat → Nat) × Nat × Nat × (Nat → Int32) × Nat)) => (2 * (u.2.2.2.2.1 - at9) - 1)) (fun (u : va_W × (Nat × PK × (Nat → Nat → Nat) × Nat × Nat × (Nat → Int32) × Nat)) => (11 * (2 * (u.2.2.2.2.1 - at9) - 1))) (fun (u : va_W × (Nat → Int32) × (Nat → Value) × (Nat → Nat → Int32)) => ThQ G h0 a (upd (upd (upd (upd F 2 (nI sz)) 9 (nI at9)) 10 (nI dp)) 11 (nI sg)) R Z B J u) (fun u => u.1) := by
  intro sz
  refine vx_ofW (cc := cX8_prefixed) (maxL := 2) (ret := (some (.object "JinjaTongue$Node"))) (by decide) rfl ?_
  intro p e s m args below meth c s₁ B9 hml hnt hv
  obtain ⟨rfl, hsz, hP, hD0, hE, hX⟩ := hv
  have hx := B9.exec
  have hb := B9.bytes
  have hr := B9.returns
  have hts := atoms_spec (ws := Cond.code yX8_prefixed cX8_prefixed 2 (some (.object "JinjaTongue$Node")) :: pw) B9.pre
  have hq : ∀ w ∈ pw, w.before _ s = true := fun w h => hts w (List.mem_cons_of_mem _ h)
  have hown : s.vm.findClass RX8 = some m.cls := findClass_of_methodNamed B9.named
  have hlocks := B9.notSynchronized
  subst hsz
  have hD := hD0.self (sz := s.heap.size)
  have hA : ∀ q : Nat, s.heap.size ≤ q → va_A w s.heap.size q := fun q h => Or.inr h
  generalize va_A w s.heap.size = A at hD hE hA ⊢
  have hS : va_S A s.heap s.heap [] := va_S.rf
  have hl := lv_entry ([.ref (a 3)]) (n := 2) (Nat.le_of_ble_eq_true rfl)
  rw [lg_entry_eq]
  generalize (lg_sl ([.ref (a 3)]) ++ List.replicate (2 - (lg_sl ([.ref (a 3)])).length) Slot.unset).toArray = ls at hl ⊢
  have hl : lv_has ls 2 [(0, .ref (a 3))] := hl
  have htk0 : NwT (B 7) sz (B 10) (B 10) K K at9 at9 := NwT.nil
  have hns0 : NwS K K g g := NwS.nil hwn
  refine lv_aload_n hx hb dX8_prefixed_0 rfl (lv_at hl 0 rfl) ?_
  refine lv_bipush (v := 45) hx hb dX8_prefixed_1 (by decide) ?_
  have hO : OKW G h0 a (upd (upd (upd (upd (upd (upd F 2 (nI sz)) 9 (nI at9)) 10 (nI dp)) 11 (nI sg)) 2 (nI sz)) 9 (nI at9)) R Z B J K.1 (fun q99 x99 => x99 = rep G a K q99) w := hO.to rfl
  obtain ⟨_, qr4, hqr5⟩ := hO.2.1 23 _ (sg_23 G h0 a _ _ _ _ _)
  refine pc_V0 (G := G) (As := [.int 45]) (rest := []) hx hb hml hown hq hE hX pX0_al hP hD hS hA hl.1 (P_seesT l G h0 a (upd (upd (upd (upd F 2 (nI sz)) 9 (nI at9)) 10 (nI dp)) 11 (nI sg)) R Z B J K.1 (fun q99 x99 => x99 = rep G a K q99) w 45 at9 sz (by omega) (by omega) (by decide) hO) (gV pw_803 pw_804 pw_805 pw_796 pw_775) hV_X8_sees qr4 5 hqr5 rfl rfl rfl (Nat.le_of_ble_eq_true rfl) dX8_prefixed_3 ⟨(by show 0 + 0 ≤ (2 * (sz - at9) + 19); omega), (by show 0 + 0 ≤ (11 * (2 * (sz - at9) + 19)); omega)⟩ ⟨(by show 3 + 1 ≤ (40 * n + 22); omega), (by show 8 + (2 + 11) + 81 ≤ (1300 * n + 560); omega)⟩ (fun v3 u1 H locs hw2 hP hD hS => ?_)
  obtain ⟨w, r6⟩ := u1
  obtain ⟨hw2, h7, h8, h9, hO⟩ := hw2
  have h7 : r6 ≤ 1 := h7
  have h8 : at9 + r6 ≤ sz := h8
  have h9 : SeQ ((B 7)) sz at9 45 r6 := h9
  obtain rfl : v3 = some (.int (nI r6)) := hw2
  have hO : OKP G h0 a (upd (upd (upd (upd F 2 (nI sz)) 9 (nI at9)) 10 (nI dp)) 11 (nI sg)) R Z B J K w := hO.to rfl
  refine W.widen (k := 0) (n := 0) (Nat.le_of_ble_eq_true rfl) (Nat.le_of_ble_eq_true rfl) ?_
  refine W.eq (g2 := F0 m 6 ls [.int (nI r6)]) rfl ?_
  refine lv_if_ne (tgt := 32) hx hb dX8_prefixed_6 (by decide) (fun c10 => ?_) (fun c10 => ?_)
  · have n11 : ¬ (r6 = 0) := fun h9 => c10 ((nI_eq (a := r6) (b := 0) (by omega) (by omega)).mpr h9)
    refine lv_aload_n hx hb dX8_prefixed_32 rfl (lv_at hl 0 rfl) ?_
    have hO : OKW G h0 a (upd (upd (upd (upd (upd (upd (upd F 2 (nI sz)) 9 (nI at9)) 10 (nI dp)) 11 (nI sg)) 2 (nI sz)) 9 (nI at9)) 10 (nI dp)) R Z B J K.1 (fun q99 x99 => x99 = rep G a K q99) w := hO.to rfl
    obtain ⟨_, qr15, hqr16⟩ := hO.2.1 23 _ (sg_23 G h0 a _ _ _ _ _)
    refine pn_V0 (G := G) (As := []) (rest := []) hx hb hml hown hq hE hX pX0_al hP hD hS hA hl.1 (P_enter l G h0 a (upd (upd (upd (upd F 2 (nI sz)) 9 (nI at9)) 10 (nI dp)) 11 (nI sg)) R Z B J K.1 (fun q99 x99 => x99 = rep G a K q99) w dp at9 sz (by omega) (by omega) (by omega) hO hl0) (gV pw_947 pw_948 pw_949 pw_796 pw_905) hV_X8_enter qr15 5 hqr16 rfl rfl rfl (Nat.le_of_ble_eq_true rfl) dX8_prefixed_33 ⟨(by show 0 + 1 ≤ (2 * (sz - at9) + 19); omega), (by show 0 + 6 ≤ (11 * (2 * (sz - at9) + 19)); omega)⟩ ⟨(by show 7 + 1 ≤ (40 * n + 22); omega), (by show 8 + (1 + 11) + 122 ≤ (1300 * n + 560); omega)⟩ (fun v14 u12 H locs hw13 hP hD hS => ?_) (fun ux ce9 q9 H9 locs9 hux hP9 hD9 hS9 hce hcv hcl => pb_out ux (ThQ.up (Thx.same (Thx.same (Thx.same Thx.rfl rfl) rfl) rfl) RhX.rfl hux) hnt hlocks hce hcv hcl hP9 hD9 hS9 (by show 0 + 1 ≤ (2 * (sz - at9) + 19); omega) (by show 0 + 6 ≤ (11 * (2 * (sz - at9) + 19)); omega))
    obtain ⟨w, _⟩ := u12
    obtain ⟨hw13, h17, hO⟩ := hw13
    have h17 : dp + 1 ≤ 20 := h17
    obtain rfl : v14 = none := hw13
    have hO : OKP G h0 a (upd (upd (upd (upd F 2 (nI sz)) 9 (nI at9)) 10 (nI (dp + 1))) 11 (nI sg)) R Z B J K w := hO.to rfl
    refine W.widen (k := 0) (n := 0) (by show 0 + 0 ≤ 0; omega) (by show 0 + 0 ≤ 0; omega) ?_
    refine W.eq (g2 := F0 m 36 ls []) rfl ?_
    refine p_new (s9 := 1) (C := RX7) (T := TX7) (N := 11) (ci := 13) (fs := [.int 0, .int 0, .int 0, .int 0, .int 0, .int 0, .null, .null, .null, .null, .null]) hx hb hq pin_wsX70 tyX7 tyX7_ok hown (hq _ pw_870) (hq _ pw_871) (hq _ pw_872) hE hP hD hS hA hO rfl nw_X7 (by decide) (fun q => by rw [rep_1 (show (kN K q 1 0).1 q = 1 from if_pos rfl)]; unfold fsNode kN; simp only [if_true]; rfl) (by show 0 + 1 ≤ (2 * (sz - at9) + 19); omega) (by show 0 + 11 ≤ (11 * (2 * (sz - at9) + 19)); omega) dX8_prefixed_36 (fun q18 H w hq19 hP hD hS hO => ?_)
    have hf20 : (kN K q18 1 0).1 q18 = 1 := if_pos rfl
    refine W.widen (k := 1) (n := 11) (by show 0 + 1 ≤ 1; omega) (by show 0 + 11 ≤ 11; omega) ?_
    refine lv_dup hx hb dX8_prefixed_39 rfl ?_
    refine lv_aload_n hx hb dX8_prefixed_40 rfl (lv_at hl 0 rfl) ?_
    refine lv_bipush (v := 53) hx hb dX8_prefixed_41 (by decide) ?_
    have hO : OKW G h0 a (upd (upd (upd (upd (upd (upd F 2 (nI sz)) 9 (nI at9)) 10 (nI (dp + 1))) 11 (nI sg)) 2 (nI sz)) 9 (nI at9)) R Z B J ((kN K q18 1 0).1) (fun q99 x99 => x99 = rep G a (kN K q18 1 0) q99) w := hO.to rfl
    obtain ⟨_, qr24, hqr25⟩ := hO.2.1 23 _ (sg_23 G h0 a _ _ _ _ _)
    refine pc_V0 (G := G) (As := [.int 53]) (rest := [.ref q18, .ref q18]) hx hb hml hown hq hE hX pX0_al hP hD hS hA hl.1 (P_sees l G h0 a (upd (upd (upd (upd F 2 (nI sz)) 9 (nI at9)) 10 (nI (dp + 1))) 11 (nI sg)) R Z B J ((kN K q18 1 0).1) (fun q99 x99 => x99 = rep G a (kN K q18 1 0) q99) w 53 at9 sz (by omega) (by omega) hO) (gV pw_803 pw_804 pw_805 pw_796 pw_775) hV_X8_sees qr24 5 hqr25 rfl rfl rfl (Nat.le_of_ble_eq_true rfl) dX8_prefixed_43 ⟨(by show 1 + 0 ≤ (2 * (sz - at9) + 19); omega), (by show 11 + 0 ≤ (11 * (2 * (sz - at9) + 19)); omega)⟩ ⟨(by show 3 + 1 ≤ (40 * n + 22); omega), (by show 8 + (2 + 11) + 81 ≤ (1300 * n + 560); omega)⟩ (fun v23 u21 H locs hw22 hP hD hS => ?_)
    obtain ⟨w, r26⟩ := u21
    obtain ⟨hw22, h27, h28, hO⟩ := hw22
    have h27 : r26 ≤ 1 := h27
    have h28 : SeQ ((B 7)) sz at9 53 r26 := h28
    obtain rfl : v23 = some (.int (nI r26)) := hw22
    have hO : OKP G h0 a (upd (upd (upd (upd F 2 (nI sz)) 9 (nI at9)) 10 (nI (dp + 1))) 11 (nI sg)) R Z B J (kN K q18 1 0) w := hO.to rfl
    refine W.widen (k := 1) (n := 11) (by show 1 + 0 ≤ 1; omega) (by show 11 + 0 ≤ 11; omega) ?_
    refine W.eq (g2 := F0 m 46 ls [.int (nI r26), .ref q18, .ref q18]) rfl ?_
    refine lv_if_eq (tgt := 54) hx hb dX8_prefixed_46 (by decide) (fun c29 => ?_) (fun c29 => ?_)
    · have n30 : r26 = 0 := (nI_eq (a := r26) (b := 0) (by omega) (by omega)).mp c29
      refine lv_bipush (v := 15) hx hb dX8_prefixed_54 (by decide) ?_
      refine lv_aload_n hx hb dX8_prefixed_56 rfl (lv_at hl 0 rfl) ?_
      refine c_get (v := .int (nI at9)) (C := RX8) (Tc := TX8) (N := 5) (ci := 5) hx hb hq pin_wsX80 hown hE hP hO 23 (sg_23 G h0 a _ _ _ _ _) rfl 2 (by decide) (hq _ pw_776) (fun _ h9 => h9) rfl dX8_prefixed_57 ?_
      refine lv_aload_n hx hb dX8_prefixed_60 rfl (lv_at hl 0 rfl) ?_
      refine c_get (v := .int (nI at9)) (C := RX8) (Tc := TX8) (N := 5) (ci := 5) hx hb hq pin_wsX80 hown hE hP hO 23 (sg_23 G h0 a _ _ _ _ _) rfl 2 (by decide) (hq _ pw_776) (fun _ h9 => h9) rfl dX8_prefixed_61 ?_
      have hO : OKP G h0 a (upd (upd (upd (upd F 2 (nI sz)) 9 (nI at9)) 10 (nI (dp + 1))) 11 (nI sg)) R Z B J (kN K q18 1 0) w := hO.to rfl
      obtain ⟨qr34, hqr35⟩ := p_recv hO (by rw [hf20]; decide) (rep_1 hf20)
      refine pc_I0 (G := G) (As := [.int 15, .int (nI at9), .int (nI at9)]) (rest := [.ref q18]) hx hb hml hown hq hE hX pX0_al hP hD hS hA hl.1 (N_init l G h0 a (upd (upd (upd (upd F 2 (nI sz)) 9 (nI at9)) 10 (nI (dp + 1))) 11 (nI sg)) R Z B J (kN K q18 1 0) w q18 15 (nI at9) (nI at9) (by omega) hO) pw_874 pw_875 pw_872 pw_765 rfl hS_X7_init rfl (Nat.le_of_ble_eq_true rfl) dX8_prefixed_64 ⟨(by show 1 + 0 ≤ (2 * (sz - at9) + 19); omega), (by show 11 + 0 ≤ (11 * (2 * (sz - at9) + 19)); omega)⟩ ⟨(by show 2 + 1 ≤ (40 * n + 22); omega), (by show 8 + (4 + 11) + 60 ≤ (1300 * n + 560); omega)⟩ (fun v33 u31 H locs hw32 hP hD hS => ?_)
      obtain ⟨w, _⟩ := u31
      obtain ⟨hw32, hO⟩ := hw32
      obtain rfl : v33 = none := hw32
      have hf36 : (kI (kI (kI (kN K q18 1 0) 0 q18 15) 1 q18 (nI at9)) 2 q18 (nI at9)).1 q18 = 1 := hf20
      have hO : OKP G h0 a (upd (upd (upd (upd F 2 (nI sz)) 9 (nI at9)) 10 (nI (dp + 1))) 11 (nI sg)) R Z B J (kI (kI (kI (kN K q18 1 0) 0 q18 15) 1 q18 (nI at9)) 2 q18 (nI at9)) w := hO.to rfl
      refine W.widen (k := 1) (n := 11) (by show 1 + 0 ≤ 1; omega) (by show 11 + 0 ≤ 11; omega) ?_
      refine W.eq (g2 := F0 m 67 ls [.ref q18]) rfl ?_
      change OKP G h0 a (upd (upd (upd (upd F 2 (nI sz)) 9 (nI at9)) 10 (nI (dp + 1))) 11 (nI sg)) R Z B J (mkN K q18 15 (nI at9) (nI at9)) w at hO
      obtain ⟨K37, hK38⟩ : ∃ z : PK, z = (mkN K q18 15 (nI at9) (nI at9)) := ⟨_, rfl⟩
      rw [← hK38] at hO
      have htk39 : NwT (B 7) sz (B 10) (B 10) K K37 at9 at9 := by rw [hK38]; exact NwT.new (NwT.le htk0 (show _ ≤ at9 by omega)) hq19 (TkP.k15 (Or.inl (h9.1 (by omega))))
      have hf40 : K37.1 q18 = 1 := by rw [hK38]; exact mkN_T
      have hf41 : K37.2.1 0 q18 = 15 := by rw [hK38]; exact mkN_0
      have hf42 : K37.2.1 2 q18 = (nI at9) := by rw [hK38]; exact mkN_2
      have hf43 : K37.2.2.1 0 q18 = none := by rw [hK38]; exact mkN_C
      have hf44 : K37.2.2.1 1 q18 = none := by rw [hK38]; exact mkN_C
      have hf45 : K37.2.2.1 2 q18 = none := by rw [hK38]; exact mkN_C
      have hf46 : K37.2.2.1 3 q18 = none := by rw [hK38]; exact mkN_C
      have hf47 : K37.2.2.1 4 q18 = none := by rw [hK38]; exact mkN_C
      have hns48 : NwS K K37 g (gset g q18 0 0 0) := by rw [hK38]; exact NwS.node hns0 hq19
      have hq49 : K.1 q18 = 0 := old_T hns0.2.1 hq19
      have hg50 : (gset g q18 0 0 0) 0 q18 = 0 := gset_0
      have hno51 : NoO K37 (gset g q18 0 0 0) q18 := by rw [hK38]; exact NoO.new hns0.1 hq19
      refine lv_astore_n (lv' := [(1, .ref q18), (0, .ref (a 3))]) hx hb dX8_prefixed_67 rfl hl (by decide) rfl (fun ls hl => ?_)
      refine lv_aload_n hx hb dX8_prefixed_68 rfl (lv_at hl 1 rfl) ?_
      refine lv_dup hx hb dX8_prefixed_69 rfl ?_
      refine c_get (v := .int (nI at9)) (C := RX8) (Tc := TX8) (N := 5) (ci := 5) hx hb hq pin_wsX80 hown hE hP hO 23 (sg_23 G h0 a _ _ _ _ _) rfl 2 (by decide) (hq _ pw_776) (fun _ h9 => h9) rfl dX8_prefixed_70 ?_
      refine lv_iconst (v := 1) hx hb dX8_prefixed_73 (by decide) ?_
      refine lv_iadd hx hb dX8_prefixed_74 ?_
      refine lv_topi (fun x52 e53 => ?_)
      obtain rfl : x52 = nI (at9 + 1) := e53.trans (nI_add (at9) (1))
      refine c_put (v := .int (nI (at9 + 1))) (ty := .int) (C := RX8) (Tc := TX8) (N := 5) (ci := 5) hx hb hq pin_wsX80 tyX8 tyX8_ok nmX8 hown hE hP hD hS hO 23 (sg_23 G h0 a _ _ _ _ _) rfl 2 (by decide) (hq _ pw_776) (fun _ h9 => h9) rfl (by decide +kernel) rfl rfl (Nat.le_of_ble_eq_true rfl) (sf_9 G h0 a _ _ _ _ _ (nI (at9 + 1))) dX8_prefixed_75 (fun H locs w hP hD hS hO => ?_)
      refine lv_aload_n hx hb dX8_prefixed_78 rfl (lv_at hl 0 rfl) ?_
      refine lv_aload_n hx hb dX8_prefixed_79 rfl (lv_at hl 1 rfl) ?_
      have hO : OKP G h0 a (upd (upd (upd (upd (upd (upd (upd (upd (upd (upd F 2 (nI sz)) 9 (nI at9)) 10 (nI dp)) 11 (nI sg)) 9 (nI (at9 + 1))) 10 (nI (dp + 1))) 2 (nI sz)) 9 (nI (at9 + 1))) 10 (nI (dp + 1))) 11 (nI sg)) R Z B J K37 w := hO.to rfl
      obtain ⟨_, qr57, hqr58⟩ := hO.2.1 23 _ (sg_23 G h0 a _ _ _ _ _)
      refine pn_V0 (G := G) (As := []) (rest := [.ref q18]) hx hb hml hown hq hE hX pX0_al hP hD hS hA hl.1 ((ihp (by omega)) h0 a (upd (upd (upd (upd (upd (upd F 2 (nI sz)) 9 (nI at9)) 10 (nI dp)) 11 (nI sg)) 9 (nI (at9 + 1))) 10 (nI (dp + 1))) R Z B J K37 w (at9 + 1) sz (dp + 1) sg 0 (gset g q18 0 0 0) (by omega) (by omega) (by omega) (by omega) hns48.1 (fun o9 h9 => absurd h9 (by omega)) hO hl0) (gV pw_976 pw_977 pw_978 pw_796 pw_972) hV_X8_prefixed qr57 5 hqr58 rfl rfl rfl (Nat.le_of_ble_eq_true rfl) dX8_prefixed_80 ⟨(by show 1 + (2 * (sz - (at9 + 1)) + 19) ≤ (2 * (sz - at9) + 19); omega), (by show 11 + (11 * (2 * (sz - (at9 + 1)) + 19)) ≤ (11 * (2 * (sz - at9) + 19)); omega)⟩ ⟨(by show (40 * (n - 1) + 22) + 1 ≤ (40 * n + 22); omega), (by show 8 + (2 + 11) + (1300 * (n - 1) + 560) ≤ (1300 * n + 560); omega)⟩ (fun v56 u54 H locs hw55 hP hD hS => ?_) (fun ux ce9 q9 H9 locs9 hux hP9 hD9 hS9 hce hcv hcl => pb_out ux (ThQ.up (Thx.same (Thx.same (Thx.same (Thx.same (Thx.f (Thx.f Thx.rfl (by omega)) (by omega)) rfl) rfl) rfl) rfl) RhX.rfl hux) hnt hlocks hce hcv hcl hP9 hD9 hS9 (by show 1 + (2 * (sz - (at9 + 1)) + 19) ≤ (2 * (sz - at9) + 19); omega) (by show 11 + (11 * (2 * (sz - (at9 + 1)) + 19)) ≤ (11 * (2 * (sz - at9) + 19)); omega))
      obtain ⟨w, r59, K60, g61, at62, sg63, f64, k65⟩ := u54
      obtain ⟨hw55, h66, h67, h68, h69, h70, h71, hO⟩ := hw55
      have h66 : NwR K37 K60 (gset g q18 0 0 0) g61 r59 0 k65 ((5 * (20 - (dp + 1)) + 4 + (sg63 - sg))) := h66
      have h67 : (at9 + 1) ≤ rS k65 ∧ rS k65 + 1 ≤ rE k65 ∧ rE k65 ≤ at62 ∧ 1 ≤ rD k65 ∧ rD k65 ≤ 9 * (20 - (dp + 1)) + (sg63 - sg) + 1 := h67
      have h68 : (at9 + 1) + 1 ≤ at62 ∧ at62 ≤ sz := h68
      have h69 : sg ≤ sg63 ∧ sg63 ≤ 60 := h69
      have h70 : ¬ tkN ((B 7)) sz 67 (nI (at9 + 1)) = 37 := h70
      have h71 : NwT ((B 7)) sz ((B 10)) f64 K37 K60 (at9 + 1) at62 := h71
      obtain rfl : v56 = some (.ref r59) := hw55
      have hf72 : K60.1 q18 = 1 := (((h66).2.1.1 q18 (by rw [hf40]; decide)).1).trans hf40
      have hf73 : K60.2.1 0 q18 = 15 := (((h66).2.1.1 q18 (by rw [hf40]; decide)).2.1 0).trans hf41
      have hf74 : K60.2.1 2 q18 = (nI at9) := (((h66).2.1.1 q18 (by rw [hf40]; decide)).2.1 2).trans hf42
      have hf75 : K60.2.2.1 0 q18 = none := (((h66).2.1.1 q18 (by rw [hf40]; decide)).2.2.1 0).trans hf43
      have hf76 : K60.2.2.1 1 q18 = none := (((h66).2.1.1 q18 (by rw [hf40]; decide)).2.2.1 1).trans hf44
      have hf77 : K60.2.2.1 2 q18 = none := (((h66).2.1.1 q18 (by rw [hf40]; decide)).2.2.1 2).trans hf45
      have hf78 : K60.2.2.1 3 q18 = none := (((h66).2.1.1 q18 (by rw [hf40]; decide)).2.2.1 3).trans hf46
      have hf79 : K60.2.2.1 4 q18 = none := (((h66).2.1.1 q18 (by rw [hf40]; decide)).2.2.1 4).trans hf47
      have hO : OKP G h0 a (upd (upd (upd (upd F 2 (nI sz)) 9 (nI at62)) 10 (nI (dp + 1))) 11 (nI sg63)) R Z (updA B 10 f64) J K60 w := hO.to rfl
      refine W.widen (k := (1 + (2 * (at62 - (at9 + 1)) - 1))) (n := (11 + (11 * (2 * (at62 - (at9 + 1)) - 1)))) (by show 1 + (2 * (at62 - (at9 + 1)) - 1) ≤ (1 + (2 * (at62 - (at9 + 1)) - 1)); omega) (by show 11 + (11 * (2 * (at62 - (at9 + 1)) - 1)) ≤ (11 + (11 * (2 * (at62 - (at9 + 1)) - 1))); omega) ?_
      refine W.eq (g2 := F0 m 83 ls [.ref r59, .ref q18]) rfl ?_
      have htk80 : NwT (B 7) sz (B 10) f64 K K60 at9 at62 := (NwT.call htk39 h71 (by omega))
      have hns81 : NwS K K60 g g61 := NwS.call hns48 h66 (fun o9 h9 => absurd h9 (by omega))
      have hrk82 : g61 2 r59 = k65 := h66.2.2.1.2.2.2.2.2.1
      have hf83 : K60.1 r59 = 1 := h66.2.2.1.2.1
      have hg84 : g61 0 q18 = 0 := (h66.2.1.2 q18 (by rw [hf40]; decide) 0).trans hg50
      have hno85 : NoO K60 g61 q18 := NoO.call hno51 h66 hf40 (by omega)
      refine p_put (v := .ref r59) (ty := (.object "JinjaTongue$Node")) (C := RX7) (Tc := TX7) (N := 11) (ci := 13) (K' := (kC K60 0 q18 (some r59))) hx hb hq pin_wsX70 tyX7 tyX7_ok nmX7 hown hE hP hD hS hO (by rw [hf72]; decide) (rep_1 hf72) rfl 6 (by decide) (hq _ pw_938) (fun _ h9 => h9) rfl (by decide +kernel) rfl rfl (Nat.le_of_ble_eq_true rfl) rfl (by rw [rep_1 (show (kC K60 0 q18 (some r59)).1 q18 = 1 from hf72), pc_0] <;> rfl) (fun p9 hp9 => rep_kC hp9) dX8_prefixed_83 (fun H locs w hP hD hS hO => ?_)
      obtain ⟨K86, hK87⟩ : ∃ z : PK, z = (kC K60 0 q18 (some r59)) := ⟨_, rfl⟩
      rw [← hK87] at hO
      have hf88 : K86.1 q18 = 1 := (by rw [hK87]; exact hf72)
      have hf89 : K86.2.1 0 q18 = 15 := (by rw [hK87]; exact hf73)
      have hf90 : K86.2.1 2 q18 = (nI at9) := (by rw [hK87]; exact hf74)
      have hf91 : K86.2.2.1 1 q18 = none := (by rw [hK87]; exact (kC_of (by decide)).trans hf76)
      have hf92 : K86.2.2.1 2 q18 = none := (by rw [hK87]; exact (kC_of (by decide)).trans hf77)
      have hf93 : K86.2.2.1 3 q18 = none := (by rw [hK87]; exact (kC_of (by decide)).trans hf78)
      have hf94 : K86.2.2.1 4 q18 = none := (by rw [hK87]; exact (kC_of (by decide)).trans hf79)
      have hf95 : K86.1 r59 = 1 := (by rw [hK87]; exact hf83)
      have hf96 : K86.2.2.1 0 q18 = some r59 := by rw [hK87]; exact kC_eq
      have htk97 : NwT (B 7) sz (B 10) f64 K K86 at9 at62 := by rw [hK87]; exact NwT.put htk80
      have hns98 : NwS K K86 g g61 := by rw [hK87]; exact NwS.put hns81 hq49 hg84
      have hno99 : NoO K86 g61 q18 := by rw [hK87]; exact hno85
      refine lv_aload_n hx hb dX8_prefixed_86 rfl (lv_at hl 1 rfl) ?_
      have hO : OKW G h0 a (upd (upd (upd (upd (upd F 2 (nI sz)) 9 (nI at62)) 10 (nI (dp + 1))) 11 (nI sg63)) 10 (nI (dp + 1))) R Z (updA B 10 f64) J K86.1 (fun q99 x99 => x99 = rep G a K86 q99) w := hO.to rfl
      obtain ⟨_, qr103, hqr104⟩ := hO.2.1 23 _ (sg_23 G h0 a _ _ _ _ _)
      refine pc_V0 (G := G) (As := []) (rest := []) hx hb hml hown hq hE hX pX0_al hP hD hS hA hl.1 (P_leave l G h0 a (upd (upd (upd (upd F 2 (nI sz)) 9 (nI at62)) 10 (nI (dp + 1))) 11 (nI sg63)) R Z (updA B 10 f64) J K86.1 (fun q99 x99 => x99 = rep G a K86 q99) w (dp + 1) (by omega) hO) (gV pw_950 pw_951 pw_952 pw_796 pw_906) hV_X8_leave qr103 5 hqr104 rfl rfl rfl (Nat.le_of_ble_eq_true rfl) dX8_prefixed_87 ⟨(by show (1 + (2 * (at62 - (at9 + 1)) - 1)) + 0 ≤ (2 * (sz - at9) + 19); omega), (by show (11 + (11 * (2 * (at62 - (at9 + 1)) - 1))) + 0 ≤ (11 * (2 * (sz - at9) + 19)); omega)⟩ ⟨(by show 2 + 1 ≤ (40 * n + 22); omega), (by show 8 + (1 + 11) + 60 ≤ (1300 * n + 560); omega)⟩ (fun v102 u100 H locs hw101 hP hD hS => ?_)
      obtain ⟨w, _⟩ := u100
      obtain ⟨hw101, hO⟩ := hw101
      obtain rfl : v102 = none := hw101
      have hO : OKP G h0 a (upd (upd (upd (upd F 2 (nI sz)) 9 (nI at62)) 10 (nI ((dp + 1) - 1))) 11 (nI sg63)) R Z (updA B 10 f64) J K86 w := hO.to rfl
      refine W.widen (k := (1 + (2 * (at62 - (at9 + 1)) - 1))) (n := (11 + (11 * (2 * (at62 - (at9 + 1)) - 1)))) (by show (1 + (2 * (at62 - (at9 + 1)) - 1)) + 0 ≤ (1 + (2 * (at62 - (at9 + 1)) - 1)); omega) (by show (11 + (11 * (2 * (at62 - (at9 + 1)) - 1))) + 0 ≤ (11 + (11 * (2 * (at62 - (at9 + 1)) - 1))); omega) ?_
      refine W.eq (g2 := F0 m 90 ls []) rfl ?_
      refine lv_aload_n hx hb dX8_prefixed_90 rfl (lv_at hl 0 rfl) ?_
      refine W_size (fun hz1 hz2 => ?_)
      refine vx_ret ?_
      have hlr := h66.2.2.1
      have hlr1 := hlr.2.2.1
      have hlr2 := hlr.2.2.2.1
      obtain ⟨k9105, k9105I, k9105S, k9105E, k9105M, k9105N, k9105X, k9105D⟩ := rk_ex (s := at9) (e := at62) (m := at9) (n := at9) (x := 0) (d := (9 * (20 - dp) + (sg63 - sg) + 1)) (by omega)
      have hkid : ∀ f9 y9 : Nat, f9 ≤ 3 → K86.2.2.1 f9 q18 = some y9 → K86.1 y9 = 1 ∧ 1 ≤ g61 0 y9 ∧ g61 0 y9 < (5 * (20 - dp) + 4 + (sg63 - sg)) := by
        intro f9 y9 hf9 hy9
        rcases (show f9 = 0 ∨ f9 = 1 ∨ f9 = 2 ∨ f9 = 3 by omega) with rfl | rfl | rfl | rfl
        · rw [hf96] at hy9; cases hy9; exact ⟨hf95, hlr1, by omega⟩
        · rw [hf91] at hy9; cases hy9
        · rw [hf92] at hy9; cases hy9
        · rw [hf93] at hy9; cases hy9
      have hkc106 : ∀ f9 y9 : Nat, f9 ≤ 3 → K86.2.2.1 f9 q18 = some y9 → Kch (K86.2.1 0 q18) f9 (K86.2.1 0 y9) k9105 (g61 2 y9) := by
        intro f9 y9 hf9 hy9
        rcases (show f9 = 0 ∨ f9 = 1 ∨ f9 = 2 ∨ f9 = 3 by omega) with rfl | rfl | rfl | rfl
        · rw [hf96] at hy9; cases hy9; rw [hrk82]; rw [hf89] <;> exact ⟨(fun z => absurd z (by decide)), (fun z => absurd z (by decide)), (fun z => absurd z (by decide)), (fun _ _ => (by omega)), (fun z => absurd z (by decide)), (fun z => absurd z (by decide)), (fun z => absurd z (by decide)), (fun z => absurd z (by decide)), (fun z => absurd z (by decide)), (fun z => absurd z (by decide)), (fun z => absurd z (by decide)), (fun z => absurd z (by decide)), (fun z => absurd z (by decide)), (fun z => absurd z (by decide)), (fun z => absurd z (by decide)), (fun z => absurd z (by decide)), (fun z => absurd z (by decide)), (fun z => absurd z (by decide)), (fun z => absurd z (by decide)), (fun z => absurd z (by decide)), (fun z => absurd z (by decide)), (fun z => absurd z (by decide)), (fun z => absurd z (by decide)), (fun z => absurd z (by decide))⟩
        · rw [hf91] at hy9; cases hy9
        · rw [hf92] at hy9; cases hy9
        · rw [hf93] at hy9; cases hy9
      have hdn := NwS.done1I (q := q18) (L := (5 * (20 - dp) + 4 + (sg63 - sg))) (O := O) (k := k9105) hns98 hq49 hf88 hg84 (by omega) ⟨k9105I, (by rw [hf89] <;> exact ⟨(fun z => absurd z (by decide)), (fun z => absurd z (by decide)), (fun z => absurd z (by decide))⟩)⟩ (by rw [hf89]; exact ⟨fun _ => (by show ¬ K86.2.2.1 0 q18 = none; rw [hf96]; intro z; cases z), fun z => absurd z (by decide), fun z => absurd z (by decide), fun z => absurd z (by decide), fun z => absurd z (by decide)⟩) (fun f9 z => by rw [hf89] at z; rcases z with ⟨z, _⟩ | ⟨z | z | z, _⟩ <;> exact absurd z (by decide)) hkid hf94 hno99 hkc106 how
      have hz107 : NwR K K86 g (gset g61 q18 (5 * (20 - dp) + 4 + (sg63 - sg)) O k9105) q18 O k9105 ((5 * (20 - dp) + 4 + (sg63 - sg))) := hdn
      have hz108 : at9 ≤ rS k9105 ∧ rS k9105 + 1 ≤ rE k9105 ∧ rE k9105 ≤ at62 ∧ 1 ≤ rD k9105 ∧ rD k9105 ≤ 9 * (20 - dp) + (sg63 - sg) + 1 := (by omega)
      have hz109 : at9 + 1 ≤ at62 ∧ at62 ≤ sz := (by omega)
      have hz110 : sg ≤ sg63 ∧ sg63 ≤ 60 := (by omega)
      have hz111 : ¬ tkN (B 7) sz 67 (nI at9) = 37 := (by rw [h9.1 (by omega)]; decide)
      have hz112 : NwT (B 7) sz (B 10) f64 K K86 at9 at62 := (NwT.le htk97 (by omega))
      have hO : OKP G h0 a (upd (upd (upd (upd F 2 (nI sz)) 9 (nI at62)) 10 (nI dp)) 11 (nI sg63)) R Z (updA B 10 f64) J K86 w := hO.to rfl
      refine W.widen (k := (2 * (sz - at9) + 19)) (n := (11 * (2 * (sz - at9) + 19))) (by omega) (by omega) ?_
      have hzz1 : H.size ≤ s.heap.size + ((2 * (at62 - at9) - 1)) := (by have z : (1 + (2 * (at62 - (at9 + 1)) - 1)) ≤ (2 * (at62 - at9) - 1) := (by omega); omega)
      have hzz2 : hSl H ≤ hSl s.heap + ((11 * (2 * (at62 - at9) - 1))) := (by have z : (11 + (11 * (2 * (at62 - (at9 + 1)) - 1))) ≤ (11 * (2 * (at62 - at9) - 1)) := (by omega); omega)
      exact W.aret (v := .ref q18) hx hb hr (Or.inl ⟨_, rfl⟩) (Or.inr ⟨_, rfl⟩) (fun t99 ht99 hW99 => ⟨⟨_, (w, (q18, K86, (gset g61 q18 (5 * (20 - dp) + 4 + (sg63 - sg)) O k9105), at62, sg63, f64, k9105)), rfl, ⟨rfl, hz107, hz108, hz109, hz110, hz111, hz112, hO⟩, by rw [ht99]; exact hP, hD, by rw [ht99]; exact hzz1, by rw [ht99]; exact hzz2⟩, hS.F ht99⟩) hS.2.2 dX8_prefixed_91
    · have n113 : ¬ (r26 = 0) := fun h9 => c29 ((nI_eq (a := r26) (b := 0) (by omega) (by omega)).mpr h9)
      refine lv_bipush (v := 16) hx hb dX8_prefixed_49 (by decide) ?_
      refine lv_goto (tgt := 56) hx hb dX8_prefixed_51 (by decide) ?_
      refine lv_aload_n hx hb dX8_prefixed_56 rfl (lv_at hl 0 rfl) ?_
      refine c_get (v := .int (nI at9)) (C := RX8) (Tc := TX8) (N := 5) (ci := 5) hx hb hq pin_wsX80 hown hE hP hO 23 (sg_23 G h0 a _ _ _ _ _) rfl 2 (by decide) (hq _ pw_776) (fun _ h9 => h9) rfl dX8_prefixed_57 ?_
      refine lv_aload_n hx hb dX8_prefixed_60 rfl (lv_at hl 0 rfl) ?_
      refine c_get (v := .int (nI at9)) (C := RX8) (Tc := TX8) (N := 5) (ci := 5) hx hb hq pin_wsX80 hown hE hP hO 23 (sg_23 G h0 a _ _ _ _ _) rfl 2 (by decide) (hq _ pw_776) (fun _ h9 => h9) rfl dX8_prefixed_61 ?_
      have hO : OKP G h0 a (upd (upd (upd (upd F 2 (nI sz)) 9 (nI at9)) 10 (nI (dp + 1))) 11 (nI sg)) R Z B J (kN K q18 1 0) w := hO.to rfl
      obtain ⟨qr117, hqr118⟩ := p_recv hO (by rw [hf20]; decide) (rep_1 hf20)
      refine pc_I0 (G := G) (As := [.int 16, .int (nI at9), .int (nI at9)]) (rest := [.ref q18]) hx hb hml hown hq hE hX pX0_al hP hD hS hA hl.1 (N_init l G h0 a (upd (upd (upd (upd F 2 (nI sz)) 9 (nI at9)) 10 (nI (dp + 1))) 11 (nI sg)) R Z B J (kN K q18 1 0) w q18 16 (nI at9) (nI at9) (by omega) hO) pw_874 pw_875 pw_872 pw_765 rfl hS_X7_init rfl (Nat.le_of_ble_eq_true rfl) dX8_prefixed_64 ⟨(by show 1 + 0 ≤ (2 * (sz - at9) + 19); omega), (by show 11 + 0 ≤ (11 * (2 * (sz - at9) + 19)); omega)⟩ ⟨(by show 2 + 1 ≤ (40 * n + 22); omega), (by show 8 + (4 + 11) + 60 ≤ (1300 * n + 560); omega)⟩ (fun v116 u114 H locs hw115 hP hD hS => ?_)
      obtain ⟨w, _⟩ := u114
      obtain ⟨hw115, hO⟩ := hw115
      obtain rfl : v116 = none := hw115
      have hf119 : (kI (kI (kI (kN K q18 1 0) 0 q18 16) 1 q18 (nI at9)) 2 q18 (nI at9)).1 q18 = 1 := hf20
      have hO : OKP G h0 a (upd (upd (upd (upd F 2 (nI sz)) 9 (nI at9)) 10 (nI (dp + 1))) 11 (nI sg)) R Z B J (kI (kI (kI (kN K q18 1 0) 0 q18 16) 1 q18 (nI at9)) 2 q18 (nI at9)) w := hO.to rfl
      refine W.widen (k := 1) (n := 11) (by show 1 + 0 ≤ 1; omega) (by show 11 + 0 ≤ 11; omega) ?_
      refine W.eq (g2 := F0 m 67 ls [.ref q18]) rfl ?_
      change OKP G h0 a (upd (upd (upd (upd F 2 (nI sz)) 9 (nI at9)) 10 (nI (dp + 1))) 11 (nI sg)) R Z B J (mkN K q18 16 (nI at9) (nI at9)) w at hO
      obtain ⟨K120, hK121⟩ : ∃ z : PK, z = (mkN K q18 16 (nI at9) (nI at9)) := ⟨_, rfl⟩
      rw [← hK121] at hO
      have htk122 : NwT (B 7) sz (B 10) (B 10) K K120 at9 at9 := by rw [hK121]; exact NwT.new (NwT.le htk0 (show _ ≤ at9 by omega)) hq19 (TkP.no (by decide))
      have hf123 : K120.1 q18 = 1 := by rw [hK121]; exact mkN_T
      have hf124 : K120.2.1 0 q18 = 16 := by rw [hK121]; exact mkN_0
      have hf125 : K120.2.1 2 q18 = (nI at9) := by rw [hK121]; exact mkN_2
      have hf126 : K120.2.2.1 0 q18 = none := by rw [hK121]; exact mkN_C
      have hf127 : K120.2.2.1 1 q18 = none := by rw [hK121]; exact mkN_C
      have hf128 : K120.2.2.1 2 q18 = none := by rw [hK121]; exact mkN_C
      have hf129 : K120.2.2.1 3 q18 = none := by rw [hK121]; exact mkN_C
      have hf130 : K120.2.2.1 4 q18 = none := by rw [hK121]; exact mkN_C
      have hns131 : NwS K K120 g (gset g q18 0 0 0) := by rw [hK121]; exact NwS.node hns0 hq19
      have hq132 : K.1 q18 = 0 := old_T hns0.2.1 hq19
      have hg133 : (gset g q18 0 0 0) 0 q18 = 0 := gset_0
      have hno134 : NoO K120 (gset g q18 0 0 0) q18 := by rw [hK121]; exact NoO.new hns0.1 hq19
      refine lv_astore_n (lv' := [(1, .ref q18), (0, .ref (a 3))]) hx hb dX8_prefixed_67 rfl hl (by decide) rfl (fun ls hl => ?_)
      refine lv_aload_n hx hb dX8_prefixed_68 rfl (lv_at hl 1 rfl) ?_
      refine lv_dup hx hb dX8_prefixed_69 rfl ?_
      refine c_get (v := .int (nI at9)) (C := RX8) (Tc := TX8) (N := 5) (ci := 5) hx hb hq pin_wsX80 hown hE hP hO 23 (sg_23 G h0 a _ _ _ _ _) rfl 2 (by decide) (hq _ pw_776) (fun _ h9 => h9) rfl dX8_prefixed_70 ?_
      refine lv_iconst (v := 1) hx hb dX8_prefixed_73 (by decide) ?_
      refine lv_iadd hx hb dX8_prefixed_74 ?_
      refine lv_topi (fun x135 e136 => ?_)
      obtain rfl : x135 = nI (at9 + 1) := e136.trans (nI_add (at9) (1))
      refine c_put (v := .int (nI (at9 + 1))) (ty := .int) (C := RX8) (Tc := TX8) (N := 5) (ci := 5) hx hb hq pin_wsX80 tyX8 tyX8_ok nmX8 hown hE hP hD hS hO 23 (sg_23 G h0 a _ _ _ _ _) rfl 2 (by decide) (hq _ pw_776) (fun _ h9 => h9) rfl (by decide +kernel) rfl rfl (Nat.le_of_ble_eq_true rfl) (sf_9 G h0 a _ _ _ _ _ (nI (at9 + 1))) dX8_prefixed_75 (fun H locs w hP hD hS hO => ?_)
      refine lv_aload_n hx hb dX8_prefixed_78 rfl (lv_at hl 0 rfl) ?_
      refine lv_aload_n hx hb dX8_prefixed_79 rfl (lv_at hl 1 rfl) ?_
      have hO : OKP G h0 a (upd (upd (upd (upd (upd (upd (upd (upd (upd (upd F 2 (nI sz)) 9 (nI at9)) 10 (nI dp)) 11 (nI sg)) 9 (nI (at9 + 1))) 10 (nI (dp + 1))) 2 (nI sz)) 9 (nI (at9 + 1))) 10 (nI (dp + 1))) 11 (nI sg)) R Z B J K120 w := hO.to rfl
      obtain ⟨_, qr140, hqr141⟩ := hO.2.1 23 _ (sg_23 G h0 a _ _ _ _ _)
      refine pn_V0 (G := G) (As := []) (rest := [.ref q18]) hx hb hml hown hq hE hX pX0_al hP hD hS hA hl.1 ((ihp (by omega)) h0 a (upd (upd (upd (upd (upd (upd F 2 (nI sz)) 9 (nI at9)) 10 (nI dp)) 11 (nI sg)) 9 (nI (at9 + 1))) 10 (nI (dp + 1))) R Z B J K120 w (at9 + 1) sz (dp + 1) sg 0 (gset g q18 0 0 0) (by omega) (by omega) (by omega) (by omega) hns131.1 (fun o9 h9 => absurd h9 (by omega)) hO hl0) (gV pw_976 pw_977 pw_978 pw_796 pw_972) hV_X8_prefixed qr140 5 hqr141 rfl rfl rfl (Nat.le_of_ble_eq_true rfl) dX8_prefixed_80 ⟨(by show 1 + (2 * (sz - (at9 + 1)) + 19) ≤ (2 * (sz - at9) + 19); omega), (by show 11 + (11 * (2 * (sz - (at9 + 1)) + 19)) ≤ (11 * (2 * (sz - at9) + 19)); omega)⟩ ⟨(by show (40 * (n - 1) + 22) + 1 ≤ (40 * n + 22); omega), (by show 8 + (2 + 11) + (1300 * (n - 1) + 560) ≤ (1300 * n + 560); omega)⟩ (fun v139 u137 H locs hw138 hP hD hS => ?_) (fun ux ce9 q9 H9 locs9 hux hP9 hD9 hS9 hce hcv hcl => pb_out ux (ThQ.up (Thx.same (Thx.same (Thx.same (Thx.same (Thx.f (Thx.f Thx.rfl (by omega)) (by omega)) rfl) rfl) rfl) rfl) RhX.rfl hux) hnt hlocks hce hcv hcl hP9 hD9 hS9 (by show 1 + (2 * (sz - (at9 + 1)) + 19) ≤ (2 * (sz - at9) + 19); omega) (by show 11 + (11 * (2 * (sz - (at9 + 1)) + 19)) ≤ (11 * (2 * (sz - at9) + 19)); omega))
      obtain ⟨w, r142, K143, g144, at145, sg146, f147, k148⟩ := u137
      obtain ⟨hw138, h149, h150, h151, h152, h153, h154, hO⟩ := hw138
      have h149 : NwR K120 K143 (gset g q18 0 0 0) g144 r142 0 k148 ((5 * (20 - (dp + 1)) + 4 + (sg146 - sg))) := h149
      have h150 : (at9 + 1) ≤ rS k148 ∧ rS k148 + 1 ≤ rE k148 ∧ rE k148 ≤ at145 ∧ 1 ≤ rD k148 ∧ rD k148 ≤ 9 * (20 - (dp + 1)) + (sg146 - sg) + 1 := h150
      have h151 : (at9 + 1) + 1 ≤ at145 ∧ at145 ≤ sz := h151
      have h152 : sg ≤ sg146 ∧ sg146 ≤ 60 := h152
      have h153 : ¬ tkN ((B 7)) sz 67 (nI (at9 + 1)) = 37 := h153
      have h154 : NwT ((B 7)) sz ((B 10)) f147 K120 K143 (at9 + 1) at145 := h154
      obtain rfl : v139 = some (.ref r142) := hw138
      have hf155 : K143.1 q18 = 1 := (((h149).2.1.1 q18 (by rw [hf123]; decide)).1).trans hf123
      have hf156 : K143.2.1 0 q18 = 16 := (((h149).2.1.1 q18 (by rw [hf123]; decide)).2.1 0).trans hf124
      have hf157 : K143.2.1 2 q18 = (nI at9) := (((h149).2.1.1 q18 (by rw [hf123]; decide)).2.1 2).trans hf125
      have hf158 : K143.2.2.1 0 q18 = none := (((h149).2.1.1 q18 (by rw [hf123]; decide)).2.2.1 0).trans hf126
      have hf159 : K143.2.2.1 1 q18 = none := (((h149).2.1.1 q18 (by rw [hf123]; decide)).2.2.1 1).trans hf127
      have hf160 : K143.2.2.1 2 q18 = none := (((h149).2.1.1 q18 (by rw [hf123]; decide)).2.2.1 2).trans hf128
      have hf161 : K143.2.2.1 3 q18 = none := (((h149).2.1.1 q18 (by rw [hf123]; decide)).2.2.1 3).trans hf129
      have hf162 : K143.2.2.1 4 q18 = none := (((h149).2.1.1 q18 (by rw [hf123]; decide)).2.2.1 4).trans hf130
      have hO : OKP G h0 a (upd (upd (upd (upd F 2 (nI sz)) 9 (nI at145)) 10 (nI (dp + 1))) 11 (nI sg146)) R Z (updA B 10 f147) J K143 w := hO.to rfl
      refine W.widen (k := (1 + (2 * (at145 - (at9 + 1)) - 1))) (n := (11 + (11 * (2 * (at145 - (at9 + 1)) - 1)))) (by show 1 + (2 * (at145 - (at9 + 1)) - 1) ≤ (1 + (2 * (at145 - (at9 + 1)) - 1)); omega) (by show 11 + (11 * (2 * (at145 - (at9 + 1)) - 1)) ≤ (11 + (11 * (2 * (at145 - (at9 + 1)) - 1))); omega) ?_
      refine W.eq (g2 := F0 m 83 ls [.ref r142, .ref q18]) rfl ?_
      have htk163 : NwT (B 7) sz (B 10) f147 K K143 at9 at145 := (NwT.call htk122 h154 (by omega))
      have hns164 : NwS K K143 g g144 := NwS.call hns131 h149 (fun o9 h9 => absurd h9 (by omega))
      have hrk165 : g144 2 r142 = k148 := h149.2.2.1.2.2.2.2.2.1
      have hf166 : K143.1 r142 = 1 := h149.2.2.1.2.1
      have hg167 : g144 0 q18 = 0 := (h149.2.1.2 q18 (by rw [hf123]; decide) 0).trans hg133
      have hno168 : NoO K143 g144 q18 := NoO.call hno134 h149 hf123 (by omega)
      refine p_put (v := .ref r142) (ty := (.object "JinjaTongue$Node")) (C := RX7) (Tc := TX7) (N := 11) (ci := 13) (K' := (kC K143 0 q18 (some r142))) hx hb hq pin_wsX70 tyX7 tyX7_ok nmX7 hown hE hP hD hS hO (by rw [hf155]; decide) (rep_1 hf155) rfl 6 (by decide) (hq _ pw_938) (fun _ h9 => h9) rfl (by decide +kernel) rfl rfl (Nat.le_of_ble_eq_true rfl) rfl (by rw [rep_1 (show (kC K143 0 q18 (some r142)).1 q18 = 1 from hf155), pc_0] <;> rfl) (fun p9 hp9 => rep_kC hp9) dX8_prefixed_83 (fun H locs w hP hD hS hO => ?_)
      obtain ⟨K169, hK170⟩ : ∃ z : PK, z = (kC K143 0 q18 (some r142)) := ⟨_, rfl⟩
      rw [← hK170] at hO
      have hf171 : K169.1 q18 = 1 := (by rw [hK170]; exact hf155)
      have hf172 : K169.2.1 0 q18 = 16 := (by rw [hK170]; exact hf156)
      have hf173 : K169.2.1 2 q18 = (nI at9) := (by rw [hK170]; exact hf157)
      have hf174 : K169.2.2.1 1 q18 = none := (by rw [hK170]; exact (kC_of (by decide)).trans hf159)
      have hf175 : K169.2.2.1 2 q18 = none := (by rw [hK170]; exact (kC_of (by decide)).trans hf160)
      have hf176 : K169.2.2.1 3 q18 = none := (by rw [hK170]; exact (kC_of (by decide)).trans hf161)
      have hf177 : K169.2.2.1 4 q18 = none := (by rw [hK170]; exact (kC_of (by decide)).trans hf162)
      have hf178 : K169.1 r142 = 1 := (by rw [hK170]; exact hf166)
      have hf179 : K169.2.2.1 0 q18 = some r142 := by rw [hK170]; exact kC_eq
      have htk180 : NwT (B 7) sz (B 10) f147 K K169 at9 at145 := by rw [hK170]; exact NwT.put htk163
      have hns181 : NwS K K169 g g144 := by rw [hK170]; exact NwS.put hns164 hq132 hg167
      have hno182 : NoO K169 g144 q18 := by rw [hK170]; exact hno168
      refine lv_aload_n hx hb dX8_prefixed_86 rfl (lv_at hl 1 rfl) ?_
      have hO : OKW G h0 a (upd (upd (upd (upd (upd F 2 (nI sz)) 9 (nI at145)) 10 (nI (dp + 1))) 11 (nI sg146)) 10 (nI (dp + 1))) R Z (updA B 10 f147) J K169.1 (fun q99 x99 => x99 = rep G a K169 q99) w := hO.to rfl
      obtain ⟨_, qr186, hqr187⟩ := hO.2.1 23 _ (sg_23 G h0 a _ _ _ _ _)
      refine pc_V0 (G := G) (As := []) (rest := []) hx hb hml hown hq hE hX pX0_al hP hD hS hA hl.1 (P_leave l G h0 a (upd (upd (upd (upd F 2 (nI sz)) 9 (nI at145)) 10 (nI (dp + 1))) 11 (nI sg146)) R Z (updA B 10 f147) J K169.1 (fun q99 x99 => x99 = rep G a K169 q99) w (dp + 1) (by omega) hO) (gV pw_950 pw_951 pw_952 pw_796 pw_906) hV_X8_leave qr186 5 hqr187 rfl rfl rfl (Nat.le_of_ble_eq_true rfl) dX8_prefixed_87 ⟨(by show (1 + (2 * (at145 - (at9 + 1)) - 1)) + 0 ≤ (2 * (sz - at9) + 19); omega), (by show (11 + (11 * (2 * (at145 - (at9 + 1)) - 1))) + 0 ≤ (11 * (2 * (sz - at9) + 19)); omega)⟩ ⟨(by show 2 + 1 ≤ (40 * n + 22); omega), (by show 8 + (1 + 11) + 60 ≤ (1300 * n + 560); omega)⟩ (fun v185 u183 H locs hw184 hP hD hS => ?_)
      obtain ⟨w, _⟩ := u183
      obtain ⟨hw184, hO⟩ := hw184
      obtain rfl : v185 = none := hw184
      have hO : OKP G h0 a (upd (upd (upd (upd F 2 (nI sz)) 9 (nI at145)) 10 (nI ((dp + 1) - 1))) 11 (nI sg146)) R Z (updA B 10 f147) J K169 w := hO.to rfl
      refine W.widen (k := (1 + (2 * (at145 - (at9 + 1)) - 1))) (n := (11 + (11 * (2 * (at145 - (at9 + 1)) - 1)))) (by show (1 + (2 * (at145 - (at9 + 1)) - 1)) + 0 ≤ (1 + (2 * (at145 - (at9 + 1)) - 1)); omega) (by show (11 + (11 * (2 * (at145 - (at9 + 1)) - 1))) + 0 ≤ (11 + (11 * (2 * (at145 - (at9 + 1)) - 1))); omega) ?_
      refine W.eq (g2 := F0 m 90 ls []) rfl ?_
      refine lv_aload_n hx hb dX8_prefixed_90 rfl (lv_at hl 0 rfl) ?_
      refine W_size (fun hz1 hz2 => ?_)
      refine vx_ret ?_
      have hlr := h149.2.2.1
      have hlr1 := hlr.2.2.1
      have hlr2 := hlr.2.2.2.1
      obtain ⟨k9188, k9188I, k9188S, k9188E, k9188M, k9188N, k9188X, k9188D⟩ := rk_ex (s := at9) (e := at145) (m := at9) (n := at9) (x := 0) (d := (9 * (20 - dp) + (sg146 - sg) + 1)) (by omega)
      have hkid : ∀ f9 y9 : Nat, f9 ≤ 3 → K169.2.2.1 f9 q18 = some y9 → K169.1 y9 = 1 ∧ 1 ≤ g144 0 y9 ∧ g144 0 y9 < (5 * (20 - dp) + 4 + (sg146 - sg)) := by
        intro f9 y9 hf9 hy9
        rcases (show f9 = 0 ∨ f9 = 1 ∨ f9 = 2 ∨ f9 = 3 by omega) with rfl | rfl | rfl | rfl
        · rw [hf179] at hy9; cases hy9; exact ⟨hf178, hlr1, by omega⟩
        · rw [hf174] at hy9; cases hy9
        · rw [hf175] at hy9; cases hy9
        · rw [hf176] at hy9; cases hy9
      have hkc189 : ∀ f9 y9 : Nat, f9 ≤ 3 → K169.2.2.1 f9 q18 = some y9 → Kch (K169.2.1 0 q18) f9 (K169.2.1 0 y9) k9188 (g144 2 y9) := by
        intro f9 y9 hf9 hy9
        rcases (show f9 = 0 ∨ f9 = 1 ∨ f9 = 2 ∨ f9 = 3 by omega) with rfl | rfl | rfl | rfl
        · rw [hf179] at hy9; cases hy9; rw [hrk165]; rw [hf172] <;> exact ⟨(fun z => absurd z (by decide)), (fun z => absurd z (by decide)), (fun z => absurd z (by decide)), (fun _ _ => (by omega)), (fun z => absurd z (by decide)), (fun z => absurd z (by decide)), (fun z => absurd z (by decide)), (fun z => absurd z (by decide)), (fun z => absurd z (by decide)), (fun z => absurd z (by decide)), (fun z => absurd z (by decide)), (fun z => absurd z (by decide)), (fun z => absurd z (by decide)), (fun z => absurd z (by decide)), (fun z => absurd z (by decide)), (fun z => absurd z (by decide)), (fun z => absurd z (by decide)), (fun z => absurd z (by decide)), (fun z => absurd z (by decide)), (fun z => absurd z (by decide)), (fun z => absurd z (by decide)), (fun z => absurd z (by decide)), (fun z => absurd z (by decide)), (fun z => absurd z (by decide))⟩
        · rw [hf174] at hy9; cases hy9
        · rw [hf175] at hy9; cases hy9
        · rw [hf176] at hy9; cases hy9
      have hdn := NwS.done1I (q := q18) (L := (5 * (20 - dp) + 4 + (sg146 - sg))) (O := O) (k := k9188) hns181 hq132 hf171 hg167 (by omega) ⟨k9188I, (by rw [hf172] <;> exact ⟨(fun z => absurd z (by decide)), (fun z => absurd z (by decide)), (fun z => absurd z (by decide))⟩)⟩ (by rw [hf172]; exact ⟨fun _ => (by show ¬ K169.2.2.1 0 q18 = none; rw [hf179]; intro z; cases z), fun z => absurd z (by decide), fun z => absurd z (by decide), fun z => absurd z (by decide), fun z => absurd z (by decide)⟩) (fun f9 z => by rw [hf172] at z; rcases z with ⟨z, _⟩ | ⟨z | z | z, _⟩ <;> exact absurd z (by decide)) hkid hf177 hno182 hkc189 how
      have hz190 : NwR K K169 g (gset g144 q18 (5 * (20 - dp) + 4 + (sg146 - sg)) O k9188) q18 O k9188 ((5 * (20 - dp) + 4 + (sg146 - sg))) := hdn
      have hz191 : at9 ≤ rS k9188 ∧ rS k9188 + 1 ≤ rE k9188 ∧ rE k9188 ≤ at145 ∧ 1 ≤ rD k9188 ∧ rD k9188 ≤ 9 * (20 - dp) + (sg146 - sg) + 1 := (by omega)
      have hz192 : at9 + 1 ≤ at145 ∧ at145 ≤ sz := (by omega)
      have hz193 : sg ≤ sg146 ∧ sg146 ≤ 60 := (by omega)
      have hz194 : ¬ tkN (B 7) sz 67 (nI at9) = 37 := (by rw [h9.1 (by omega)]; decide)
      have hz195 : NwT (B 7) sz (B 10) f147 K K169 at9 at145 := (NwT.le htk180 (by omega))
      have hO : OKP G h0 a (upd (upd (upd (upd F 2 (nI sz)) 9 (nI at145)) 10 (nI dp)) 11 (nI sg146)) R Z (updA B 10 f147) J K169 w := hO.to rfl
      refine W.widen (k := (2 * (sz - at9) + 19)) (n := (11 * (2 * (sz - at9) + 19))) (by omega) (by omega) ?_
      have hzz1 : H.size ≤ s.heap.size + ((2 * (at145 - at9) - 1)) := (by have z : (1 + (2 * (at145 - (at9 + 1)) - 1)) ≤ (2 * (at145 - at9) - 1) := (by omega); omega)
      have hzz2 : hSl H ≤ hSl s.heap + ((11 * (2 * (at145 - at9) - 1))) := (by have z : (11 + (11 * (2 * (at145 - (at9 + 1)) - 1))) ≤ (11 * (2 * (at145 - at9) - 1)) := (by omega); omega)
      exact W.aret (v := .ref q18) hx hb hr (Or.inl ⟨_, rfl⟩) (Or.inr ⟨_, rfl⟩) (fun t99 ht99 hW99 => ⟨⟨_, (w, (q18, K169, (gset g144 q18 (5 * (20 - dp) + 4 + (sg146 - sg)) O k9188), at145, sg146, f147, k9188)), rfl, ⟨rfl, hz190, hz191, hz192, hz193, hz194, hz195, hO⟩, by rw [ht99]; exact hP, hD, by rw [ht99]; exact hzz1, by rw [ht99]; exact hzz2⟩, hS.F ht99⟩) hS.2.2 dX8_prefixed_91
  · have n196 : r6 = 0 := (nI_eq (a := r6) (b := 0) (by omega) (by omega)).mp c10
    refine lv_aload_n hx hb dX8_prefixed_9 rfl (lv_at hl 0 rfl) ?_
    refine lv_bipush (v := 52) hx hb dX8_prefixed_10 (by decide) ?_
    have hO : OKW G h0 a (upd (upd (upd (upd (upd (upd F 2 (nI sz)) 9 (nI at9)) 10 (nI dp)) 11 (nI sg)) 2 (nI sz)) 9 (nI at9)) R Z B J K.1 (fun q99 x99 => x99 = rep G a K q99) w := hO.to rfl
    obtain ⟨_, qr200, hqr201⟩ := hO.2.1 23 _ (sg_23 G h0 a _ _ _ _ _)
    refine pc_V0 (G := G) (As := [.int 52]) (rest := []) hx hb hml hown hq hE hX pX0_al hP hD hS hA hl.1 (P_seesT l G h0 a (upd (upd (upd (upd F 2 (nI sz)) 9 (nI at9)) 10 (nI dp)) 11 (nI sg)) R Z B J K.1 (fun q99 x99 => x99 = rep G a K q99) w 52 at9 sz (by omega) (by omega) (by decide) hO) (gV pw_803 pw_804 pw_805 pw_796 pw_775) hV_X8_sees qr200 5 hqr201 rfl rfl rfl (Nat.le_of_ble_eq_true rfl) dX8_prefixed_12 ⟨(by show 0 + 0 ≤ (2 * (sz - at9) + 19); omega), (by show 0 + 0 ≤ (11 * (2 * (sz - at9) + 19)); omega)⟩ ⟨(by show 3 + 1 ≤ (40 * n + 22); omega), (by show 8 + (2 + 11) + 81 ≤ (1300 * n + 560); omega)⟩ (fun v199 u197 H locs hw198 hP hD hS => ?_)
    obtain ⟨w, r202⟩ := u197
    obtain ⟨hw198, h203, h204, h205, hO⟩ := hw198
    have h203 : r202 ≤ 1 := h203
    have h204 : at9 + r202 ≤ sz := h204
    have h205 : SeQ ((B 7)) sz at9 52 r202 := h205
    obtain rfl : v199 = some (.int (nI r202)) := hw198
    have hO : OKP G h0 a (upd (upd (upd (upd F 2 (nI sz)) 9 (nI at9)) 10 (nI dp)) 11 (nI sg)) R Z B J K w := hO.to rfl
    refine W.widen (k := 0) (n := 0) (Nat.le_of_ble_eq_true rfl) (Nat.le_of_ble_eq_true rfl) ?_
    refine W.eq (g2 := F0 m 15 ls [.int (nI r202)]) rfl ?_
    refine lv_if_ne (tgt := 32) hx hb dX8_prefixed_15 (by decide) (fun c206 => ?_) (fun c206 => ?_)
    · have n207 : ¬ (r202 = 0) := fun h9 => c206 ((nI_eq (a := r202) (b := 0) (by omega) (by omega)).mpr h9)
      refine lv_aload_n hx hb dX8_prefixed_32 rfl (lv_at hl 0 rfl) ?_
      have hO : OKW G h0 a (upd (upd (upd (upd (upd (upd (upd F 2 (nI sz)) 9 (nI at9)) 10 (nI dp)) 11 (nI sg)) 2 (nI sz)) 9 (nI at9)) 10 (nI dp)) R Z B J K.1 (fun q99 x99 => x99 = rep G a K q99) w := hO.to rfl
      obtain ⟨_, qr211, hqr212⟩ := hO.2.1 23 _ (sg_23 G h0 a _ _ _ _ _)
      refine pn_V0 (G := G) (As := []) (rest := []) hx hb hml hown hq hE hX pX0_al hP hD hS hA hl.1 (P_enter l G h0 a (upd (upd (upd (upd F 2 (nI sz)) 9 (nI at9)) 10 (nI dp)) 11 (nI sg)) R Z B J K.1 (fun q99 x99 => x99 = rep G a K q99) w dp at9 sz (by omega) (by omega) (by omega) hO hl0) (gV pw_947 pw_948 pw_949 pw_796 pw_905) hV_X8_enter qr211 5 hqr212 rfl rfl rfl (Nat.le_of_ble_eq_true rfl) dX8_prefixed_33 ⟨(by show 0 + 1 ≤ (2 * (sz - at9) + 19); omega), (by show 0 + 6 ≤ (11 * (2 * (sz - at9) + 19)); omega)⟩ ⟨(by show 7 + 1 ≤ (40 * n + 22); omega), (by show 8 + (1 + 11) + 122 ≤ (1300 * n + 560); omega)⟩ (fun v210 u208 H locs hw209 hP hD hS => ?_) (fun ux ce9 q9 H9 locs9 hux hP9 hD9 hS9 hce hcv hcl => pb_out ux (ThQ.up (Thx.same (Thx.same (Thx.same Thx.rfl rfl) rfl) rfl) RhX.rfl hux) hnt hlocks hce hcv hcl hP9 hD9 hS9 (by show 0 + 1 ≤ (2 * (sz - at9) + 19); omega) (by show 0 + 6 ≤ (11 * (2 * (sz - at9) + 19)); omega))
      obtain ⟨w, _⟩ := u208
      obtain ⟨hw209, h213, hO⟩ := hw209
      have h213 : dp + 1 ≤ 20 := h213
      obtain rfl : v210 = none := hw209
      have hO : OKP G h0 a (upd (upd (upd (upd F 2 (nI sz)) 9 (nI at9)) 10 (nI (dp + 1))) 11 (nI sg)) R Z B J K w := hO.to rfl
      refine W.widen (k := 0) (n := 0) (by show 0 + 0 ≤ 0; omega) (by show 0 + 0 ≤ 0; omega) ?_
      refine W.eq (g2 := F0 m 36 ls []) rfl ?_
      refine p_new (s9 := 1) (C := RX7) (T := TX7) (N := 11) (ci := 13) (fs := [.int 0, .int 0, .int 0, .int 0, .int 0, .int 0, .null, .null, .null, .null, .null]) hx hb hq pin_wsX70 tyX7 tyX7_ok hown (hq _ pw_870) (hq _ pw_871) (hq _ pw_872) hE hP hD hS hA hO rfl nw_X7 (by decide) (fun q => by rw [rep_1 (show (kN K q 1 0).1 q = 1 from if_pos rfl)]; unfold fsNode kN; simp only [if_true]; rfl) (by show 0 + 1 ≤ (2 * (sz - at9) + 19); omega) (by show 0 + 11 ≤ (11 * (2 * (sz - at9) + 19)); omega) dX8_prefixed_36 (fun q214 H w hq215 hP hD hS hO => ?_)
      have hf216 : (kN K q214 1 0).1 q214 = 1 := if_pos rfl
      refine W.widen (k := 1) (n := 11) (by show 0 + 1 ≤ 1; omega) (by show 0 + 11 ≤ 11; omega) ?_
      refine lv_dup hx hb dX8_prefixed_39 rfl ?_
      refine lv_aload_n hx hb dX8_prefixed_40 rfl (lv_at hl 0 rfl) ?_
      refine lv_bipush (v := 53) hx hb dX8_prefixed_41 (by decide) ?_
      have hO : OKW G h0 a (upd (upd (upd (upd (upd (upd F 2 (nI sz)) 9 (nI at9)) 10 (nI (dp + 1))) 11 (nI sg)) 2 (nI sz)) 9 (nI at9)) R Z B J ((kN K q214 1 0).1) (fun q99 x99 => x99 = rep G a (kN K q214 1 0) q99) w := hO.to rfl
      obtain ⟨_, qr220, hqr221⟩ := hO.2.1 23 _ (sg_23 G h0 a _ _ _ _ _)
      refine pc_V0 (G := G) (As := [.int 53]) (rest := [.ref q214, .ref q214]) hx hb hml hown hq hE hX pX0_al hP hD hS hA hl.1 (P_sees l G h0 a (upd (upd (upd (upd F 2 (nI sz)) 9 (nI at9)) 10 (nI (dp + 1))) 11 (nI sg)) R Z B J ((kN K q214 1 0).1) (fun q99 x99 => x99 = rep G a (kN K q214 1 0) q99) w 53 at9 sz (by omega) (by omega) hO) (gV pw_803 pw_804 pw_805 pw_796 pw_775) hV_X8_sees qr220 5 hqr221 rfl rfl rfl (Nat.le_of_ble_eq_true rfl) dX8_prefixed_43 ⟨(by show 1 + 0 ≤ (2 * (sz - at9) + 19); omega), (by show 11 + 0 ≤ (11 * (2 * (sz - at9) + 19)); omega)⟩ ⟨(by show 3 + 1 ≤ (40 * n + 22); omega), (by show 8 + (2 + 11) + 81 ≤ (1300 * n + 560); omega)⟩ (fun v219 u217 H locs hw218 hP hD hS => ?_)
      obtain ⟨w, r222⟩ := u217
      obtain ⟨hw218, h223, h224, hO⟩ := hw218
      have h223 : r222 ≤ 1 := h223
      have h224 : SeQ ((B 7)) sz at9 53 r222 := h224
      obtain rfl : v219 = some (.int (nI r222)) := hw218
      have hO : OKP G h0 a (upd (upd (upd (upd F 2 (nI sz)) 9 (nI at9)) 10 (nI (dp + 1))) 11 (nI sg)) R Z B J (kN K q214 1 0) w := hO.to rfl
      refine W.widen (k := 1) (n := 11) (by show 1 + 0 ≤ 1; omega) (by show 11 + 0 ≤ 11; omega) ?_
      refine W.eq (g2 := F0 m 46 ls [.int (nI r222), .ref q214, .ref q214]) rfl ?_
      refine lv_if_eq (tgt := 54) hx hb dX8_prefixed_46 (by decide) (fun c225 => ?_) (fun c225 => ?_)
      · have n226 : r222 = 0 := (nI_eq (a := r222) (b := 0) (by omega) (by omega)).mp c225
        refine lv_bipush (v := 15) hx hb dX8_prefixed_54 (by decide) ?_
        refine lv_aload_n hx hb dX8_prefixed_56 rfl (lv_at hl 0 rfl) ?_
        refine c_get (v := .int (nI at9)) (C := RX8) (Tc := TX8) (N := 5) (ci := 5) hx hb hq pin_wsX80 hown hE hP hO 23 (sg_23 G h0 a _ _ _ _ _) rfl 2 (by decide) (hq _ pw_776) (fun _ h9 => h9) rfl dX8_prefixed_57 ?_
        refine lv_aload_n hx hb dX8_prefixed_60 rfl (lv_at hl 0 rfl) ?_
        refine c_get (v := .int (nI at9)) (C := RX8) (Tc := TX8) (N := 5) (ci := 5) hx hb hq pin_wsX80 hown hE hP hO 23 (sg_23 G h0 a _ _ _ _ _) rfl 2 (by decide) (hq _ pw_776) (fun _ h9 => h9) rfl dX8_prefixed_61 ?_
        have hO : OKP G h0 a (upd (upd (upd (upd F 2 (nI sz)) 9 (nI at9)) 10 (nI (dp + 1))) 11 (nI sg)) R Z B J (kN K q214 1 0) w := hO.to rfl
        obtain ⟨qr230, hqr231⟩ := p_recv hO (by rw [hf216]; decide) (rep_1 hf216)
        refine pc_I0 (G := G) (As := [.int 15, .int (nI at9), .int (nI at9)]) (rest := [.ref q214]) hx hb hml hown hq hE hX pX0_al hP hD hS hA hl.1 (N_init l G h0 a (upd (upd (upd (upd F 2 (nI sz)) 9 (nI at9)) 10 (nI (dp + 1))) 11 (nI sg)) R Z B J (kN K q214 1 0) w q214 15 (nI at9) (nI at9) (by omega) hO) pw_874 pw_875 pw_872 pw_765 rfl hS_X7_init rfl (Nat.le_of_ble_eq_true rfl) dX8_prefixed_64 ⟨(by show 1 + 0 ≤ (2 * (sz - at9) + 19); omega), (by show 11 + 0 ≤ (11 * (2 * (sz - at9) + 19)); omega)⟩ ⟨(by show 2 + 1 ≤ (40 * n + 22); omega), (by show 8 + (4 + 11) + 60 ≤ (1300 * n + 560); omega)⟩ (fun v229 u227 H locs hw228 hP hD hS => ?_)
        obtain ⟨w, _⟩ := u227
        obtain ⟨hw228, hO⟩ := hw228
        obtain rfl : v229 = none := hw228
        have hf232 : (kI (kI (kI (kN K q214 1 0) 0 q214 15) 1 q214 (nI at9)) 2 q214 (nI at9)).1 q214 = 1 := hf216
        have hO : OKP G h0 a (upd (upd (upd (upd F 2 (nI sz)) 9 (nI at9)) 10 (nI (dp + 1))) 11 (nI sg)) R Z B J (kI (kI (kI (kN K q214 1 0) 0 q214 15) 1 q214 (nI at9)) 2 q214 (nI at9)) w := hO.to rfl
        refine W.widen (k := 1) (n := 11) (by show 1 + 0 ≤ 1; omega) (by show 11 + 0 ≤ 11; omega) ?_
        refine W.eq (g2 := F0 m 67 ls [.ref q214]) rfl ?_
        change OKP G h0 a (upd (upd (upd (upd F 2 (nI sz)) 9 (nI at9)) 10 (nI (dp + 1))) 11 (nI sg)) R Z B J (mkN K q214 15 (nI at9) (nI at9)) w at hO
        obtain ⟨K233, hK234⟩ : ∃ z : PK, z = (mkN K q214 15 (nI at9) (nI at9)) := ⟨_, rfl⟩
        rw [← hK234] at hO
        have htk235 : NwT (B 7) sz (B 10) (B 10) K K233 at9 at9 := by rw [hK234]; exact NwT.new (NwT.le htk0 (show _ ≤ at9 by omega)) hq215 (TkP.k15 (Or.inr (h205.1 (by omega))))
        have hf236 : K233.1 q214 = 1 := by rw [hK234]; exact mkN_T
        have hf237 : K233.2.1 0 q214 = 15 := by rw [hK234]; exact mkN_0
        have hf238 : K233.2.1 2 q214 = (nI at9) := by rw [hK234]; exact mkN_2
        have hf239 : K233.2.2.1 0 q214 = none := by rw [hK234]; exact mkN_C
        have hf240 : K233.2.2.1 1 q214 = none := by rw [hK234]; exact mkN_C
        have hf241 : K233.2.2.1 2 q214 = none := by rw [hK234]; exact mkN_C
        have hf242 : K233.2.2.1 3 q214 = none := by rw [hK234]; exact mkN_C
        have hf243 : K233.2.2.1 4 q214 = none := by rw [hK234]; exact mkN_C
        have hns244 : NwS K K233 g (gset g q214 0 0 0) := by rw [hK234]; exact NwS.node hns0 hq215
        have hq245 : K.1 q214 = 0 := old_T hns0.2.1 hq215
        have hg246 : (gset g q214 0 0 0) 0 q214 = 0 := gset_0
        have hno247 : NoO K233 (gset g q214 0 0 0) q214 := by rw [hK234]; exact NoO.new hns0.1 hq215
        refine lv_astore_n (lv' := [(1, .ref q214), (0, .ref (a 3))]) hx hb dX8_prefixed_67 rfl hl (by decide) rfl (fun ls hl => ?_)
        refine lv_aload_n hx hb dX8_prefixed_68 rfl (lv_at hl 1 rfl) ?_
        refine lv_dup hx hb dX8_prefixed_69 rfl ?_
        refine c_get (v := .int (nI at9)) (C := RX8) (Tc := TX8) (N := 5) (ci := 5) hx hb hq pin_wsX80 hown hE hP hO 23 (sg_23 G h0 a _ _ _ _ _) rfl 2 (by decide) (hq _ pw_776) (fun _ h9 => h9) rfl dX8_prefixed_70 ?_
        refine lv_iconst (v := 1) hx hb dX8_prefixed_73 (by decide) ?_
        refine lv_iadd hx hb dX8_prefixed_74 ?_
        refine lv_topi (fun x248 e249 => ?_)
        obtain rfl : x248 = nI (at9 + 1) := e249.trans (nI_add (at9) (1))
        refine c_put (v := .int (nI (at9 + 1))) (ty := .int) (C := RX8) (Tc := TX8) (N := 5) (ci := 5) hx hb hq pin_wsX80 tyX8 tyX8_ok nmX8 hown hE hP hD hS hO 23 (sg_23 G h0 a _ _ _ _ _) rfl 2 (by decide) (hq _ pw_776) (fun _ h9 => h9) rfl (by decide +kernel) rfl rfl (Nat.le_of_ble_eq_true rfl) (sf_9 G h0 a _ _ _ _ _ (nI (at9 + 1))) dX8_prefixed_75 (fun H locs w hP hD hS hO => ?_)
        refine lv_aload_n hx hb dX8_prefixed_78 rfl (lv_at hl 0 rfl) ?_
        refine lv_aload_n hx hb dX8_prefixed_79 rfl (lv_at hl 1 rfl) ?_
        have hO : OKP G h0 a (upd (upd (upd (upd (upd (upd (upd (upd (upd (upd F 2 (nI sz)) 9 (nI at9)) 10 (nI dp)) 11 (nI sg)) 9 (nI (at9 + 1))) 10 (nI (dp + 1))) 2 (nI sz)) 9 (nI (at9 + 1))) 10 (nI (dp + 1))) 11 (nI sg)) R Z B J K233 w := hO.to rfl
        obtain ⟨_, qr253, hqr254⟩ := hO.2.1 23 _ (sg_23 G h0 a _ _ _ _ _)
        refine pn_V0 (G := G) (As := []) (rest := [.ref q214]) hx hb hml hown hq hE hX pX0_al hP hD hS hA hl.1 ((ihp (by omega)) h0 a (upd (upd (upd (upd (upd (upd F 2 (nI sz)) 9 (nI at9)) 10 (nI dp)) 11 (nI sg)) 9 (nI (at9 + 1))) 10 (nI (dp + 1))) R Z B J K233 w (at9 + 1) sz (dp + 1) sg 0 (gset g q214 0 0 0) (by omega) (by omega) (by omega) (by omega) hns244.1 (fun o9 h9 => absurd h9 (by omega)) hO hl0) (gV pw_976 pw_977 pw_978 pw_796 pw_972) hV_X8_prefixed qr253 5 hqr254 rfl rfl rfl (Nat.le_of_ble_eq_true rfl) dX8_prefixed_80 ⟨(by show 1 + (2 * (sz - (at9 + 1)) + 19) ≤ (2 * (sz - at9) + 19); omega), (by show 11 + (11 * (2 * (sz - (at9 + 1)) + 19)) ≤ (11 * (2 * (sz - at9) + 19)); omega)⟩ ⟨(by show (40 * (n - 1) + 22) + 1 ≤ (40 * n + 22); omega), (by show 8 + (2 + 11) + (1300 * (n - 1) + 560) ≤ (1300 * n + 560); omega)⟩ (fun v252 u250 H locs hw251 hP hD hS => ?_) (fun ux ce9 q9 H9 locs9 hux hP9 hD9 hS9 hce hcv hcl => pb_out ux (ThQ.up (Thx.same (Thx.same (Thx.same (Thx.same (Thx.f (Thx.f Thx.rfl (by omega)) (by omega)) rfl) rfl) rfl) rfl) RhX.rfl hux) hnt hlocks hce hcv hcl hP9 hD9 hS9 (by show 1 + (2 * (sz - (at9 + 1)) + 19) ≤ (2 * (sz - at9) + 19); omega) (by show 11 + (11 * (2 * (sz - (at9 + 1)) + 19)) ≤ (11 * (2 * (sz - at9) + 19)); omega))
        obtain ⟨w, r255, K256, g257, at258, sg259, f260, k261⟩ := u250
        obtain ⟨hw251, h262, h263, h264, h265, h266, h267, hO⟩ := hw251
        have h262 : NwR K233 K256 (gset g q214 0 0 0) g257 r255 0 k261 ((5 * (20 - (dp + 1)) + 4 + (sg259 - sg))) := h262
        have h263 : (at9 + 1) ≤ rS k261 ∧ rS k261 + 1 ≤ rE k261 ∧ rE k261 ≤ at258 ∧ 1 ≤ rD k261 ∧ rD k261 ≤ 9 * (20 - (dp + 1)) + (sg259 - sg) + 1 := h263
        have h264 : (at9 + 1) + 1 ≤ at258 ∧ at258 ≤ sz := h264
        have h265 : sg ≤ sg259 ∧ sg259 ≤ 60 := h265
        have h266 : ¬ tkN ((B 7)) sz 67 (nI (at9 + 1)) = 37 := h266
        have h267 : NwT ((B 7)) sz ((B 10)) f260 K233 K256 (at9 + 1) at258 := h267
        obtain rfl : v252 = some (.ref r255) := hw251
        have hf268 : K256.1 q214 = 1 := (((h262).2.1.1 q214 (by rw [hf236]; decide)).1).trans hf236
        have hf269 : K256.2.1 0 q214 = 15 := (((h262).2.1.1 q214 (by rw [hf236]; decide)).2.1 0).trans hf237
        have hf270 : K256.2.1 2 q214 = (nI at9) := (((h262).2.1.1 q214 (by rw [hf236]; decide)).2.1 2).trans hf238
        have hf271 : K256.2.2.1 0 q214 = none := (((h262).2.1.1 q214 (by rw [hf236]; decide)).2.2.1 0).trans hf239
        have hf272 : K256.2.2.1 1 q214 = none := (((h262).2.1.1 q214 (by rw [hf236]; decide)).2.2.1 1).trans hf240
        have hf273 : K256.2.2.1 2 q214 = none := (((h262).2.1.1 q214 (by rw [hf236]; decide)).2.2.1 2).trans hf241
        have hf274 : K256.2.2.1 3 q214 = none := (((h262).2.1.1 q214 (by rw [hf236]; decide)).2.2.1 3).trans hf242
        have hf275 : K256.2.2.1 4 q214 = none := (((h262).2.1.1 q214 (by rw [hf236]; decide)).2.2.1 4).trans hf243
        have hO : OKP G h0 a (upd (upd (upd (upd F 2 (nI sz)) 9 (nI at258)) 10 (nI (dp + 1))) 11 (nI sg259)) R Z (updA B 10 f260) J K256 w := hO.to rfl
        refine W.widen (k := (1 + (2 * (at258 - (at9 + 1)) - 1))) (n := (11 + (11 * (2 * (at258 - (at9 + 1)) - 1)))) (by show 1 + (2 * (at258 - (at9 + 1)) - 1) ≤ (1 + (2 * (at258 - (at9 + 1)) - 1)); omega) (by show 11 + (11 * (2 * (at258 - (at9 + 1)) - 1)) ≤ (11 + (11 * (2 * (at258 - (at9 + 1)) - 1))); omega) ?_
        refine W.eq (g2 := F0 m 83 ls [.ref r255, .ref q214]) rfl ?_
        have htk276 : NwT (B 7) sz (B 10) f260 K K256 at9 at258 := (NwT.call htk235 h267 (by omega))
        have hns277 : NwS K K256 g g257 := NwS.call hns244 h262 (fun o9 h9 => absurd h9 (by omega))
        have hrk278 : g257 2 r255 = k261 := h262.2.2.1.2.2.2.2.2.1
        have hf279 : K256.1 r255 = 1 := h262.2.2.1.2.1
        have hg280 : g257 0 q214 = 0 := (h262.2.1.2 q214 (by rw [hf236]; decide) 0).trans hg246
        have hno281 : NoO K256 g257 q214 := NoO.call hno247 h262 hf236 (by omega)
        refine p_put (v := .ref r255) (ty := (.object "JinjaTongue$Node")) (C := RX7) (Tc := TX7) (N := 11) (ci := 13) (K' := (kC K256 0 q214 (some r255))) hx hb hq pin_wsX70 tyX7 tyX7_ok nmX7 hown hE hP hD hS hO (by rw [hf268]; decide) (rep_1 hf268) rfl 6 (by decide) (hq _ pw_938) (fun _ h9 => h9) rfl (by decide +kernel) rfl rfl (Nat.le_of_ble_eq_true rfl) rfl (by rw [rep_1 (show (kC K256 0 q214 (some r255)).1 q214 = 1 from hf268), pc_0] <;> rfl) (fun p9 hp9 => rep_kC hp9) dX8_prefixed_83 (fun H locs w hP hD hS hO => ?_)
        obtain ⟨K282, hK283⟩ : ∃ z : PK, z = (kC K256 0 q214 (some r255)) := ⟨_, rfl⟩
        rw [← hK283] at hO
        have hf284 : K282.1 q214 = 1 := (by rw [hK283]; exact hf268)
        have hf285 : K282.2.1 0 q214 = 15 := (by rw [hK283]; exact hf269)
        have hf286 : K282.2.1 2 q214 = (nI at9) := (by rw [hK283]; exact hf270)
        have hf287 : K282.2.2.1 1 q214 = none := (by rw [hK283]; exact (kC_of (by decide)).trans hf272)
        have hf288 : K282.2.2.1 2 q214 = none := (by rw [hK283]; exact (kC_of (by decide)).trans hf273)
        have hf289 : K282.2.2.1 3 q214 = none := (by rw [hK283]; exact (kC_of (by decide)).trans hf274)
        have hf290 : K282.2.2.1 4 q214 = none := (by rw [hK283]; exact (kC_of (by decide)).trans hf275)
        have hf291 : K282.1 r255 = 1 := (by rw [hK283]; exact hf279)
        have hf292 : K282.2.2.1 0 q214 = some r255 := by rw [hK283]; exact kC_eq
        have htk293 : NwT (B 7) sz (B 10) f260 K K282 at9 at258 := by rw [hK283]; exact NwT.put htk276
        have hns294 : NwS K K282 g g257 := by rw [hK283]; exact NwS.put hns277 hq245 hg280
        have hno295 : NoO K282 g257 q214 := by rw [hK283]; exact hno281
        refine lv_aload_n hx hb dX8_prefixed_86 rfl (lv_at hl 1 rfl) ?_
        have hO : OKW G h0 a (upd (upd (upd (upd (upd F 2 (nI sz)) 9 (nI at258)) 10 (nI (dp + 1))) 11 (nI sg259)) 10 (nI (dp + 1))) R Z (updA B 10 f260) J K282.1 (fun q99 x99 => x99 = rep G a K282 q99) w := hO.to rfl
        obtain ⟨_, qr299, hqr300⟩ := hO.2.1 23 _ (sg_23 G h0 a _ _ _ _ _)
        refine pc_V0 (G := G) (As := []) (rest := []) hx hb hml hown hq hE hX pX0_al hP hD hS hA hl.1 (P_leave l G h0 a (upd (upd (upd (upd F 2 (nI sz)) 9 (nI at258)) 10 (nI (dp + 1))) 11 (nI sg259)) R Z (updA B 10 f260) J K282.1 (fun q99 x99 => x99 = rep G a K282 q99) w (dp + 1) (by omega) hO) (gV pw_950 pw_951 pw_952 pw_796 pw_906) hV_X8_leave qr299 5 hqr300 rfl rfl rfl (Nat.le_of_ble_eq_true rfl) dX8_prefixed_87 ⟨(by show (1 + (2 * (at258 - (at9 + 1)) - 1)) + 0 ≤ (2 * (sz - at9) + 19); omega), (by show (11 + (11 * (2 * (at258 - (at9 + 1)) - 1))) + 0 ≤ (11 * (2 * (sz - at9) + 19)); omega)⟩ ⟨(by show 2 + 1 ≤ (40 * n + 22); omega), (by show 8 + (1 + 11) + 60 ≤ (1300 * n + 560); omega)⟩ (fun v298 u296 H locs hw297 hP hD hS => ?_)
        obtain ⟨w, _⟩ := u296
        obtain ⟨hw297, hO⟩ := hw297
        obtain rfl : v298 = none := hw297
        have hO : OKP G h0 a (upd (upd (upd (upd F 2 (nI sz)) 9 (nI at258)) 10 (nI ((dp + 1) - 1))) 11 (nI sg259)) R Z (updA B 10 f260) J K282 w := hO.to rfl
        refine W.widen (k := (1 + (2 * (at258 - (at9 + 1)) - 1))) (n := (11 + (11 * (2 * (at258 - (at9 + 1)) - 1)))) (by show (1 + (2 * (at258 - (at9 + 1)) - 1)) + 0 ≤ (1 + (2 * (at258 - (at9 + 1)) - 1)); omega) (by show (11 + (11 * (2 * (at258 - (at9 + 1)) - 1))) + 0 ≤ (11 + (11 * (2 * (at258 - (at9 + 1)) - 1))); omega) ?_
        refine W.eq (g2 := F0 m 90 ls []) rfl ?_
        refine lv_aload_n hx hb dX8_prefixed_90 rfl (lv_at hl 0 rfl) ?_
        refine W_size (fun hz1 hz2 => ?_)
        refine vx_ret ?_
        have hlr := h262.2.2.1
        have hlr1 := hlr.2.2.1
        have hlr2 := hlr.2.2.2.1
        obtain ⟨k9301, k9301I, k9301S, k9301E, k9301M, k9301N, k9301X, k9301D⟩ := rk_ex (s := at9) (e := at258) (m := at9) (n := at9) (x := 0) (d := (9 * (20 - dp) + (sg259 - sg) + 1)) (by omega)
        have hkid : ∀ f9 y9 : Nat, f9 ≤ 3 → K282.2.2.1 f9 q214 = some y9 → K282.1 y9 = 1 ∧ 1 ≤ g257 0 y9 ∧ g257 0 y9 < (5 * (20 - dp) + 4 + (sg259 - sg)) := by
          intro f9 y9 hf9 hy9
          rcases (show f9 = 0 ∨ f9 = 1 ∨ f9 = 2 ∨ f9 = 3 by omega) with rfl | rfl | rfl | rfl
          · rw [hf292] at hy9; cases hy9; exact ⟨hf291, hlr1, by omega⟩
          · rw [hf287] at hy9; cases hy9
          · rw [hf288] at hy9; cases hy9
          · rw [hf289] at hy9; cases hy9
        have hkc302 : ∀ f9 y9 : Nat, f9 ≤ 3 → K282.2.2.1 f9 q214 = some y9 → Kch (K282.2.1 0 q214) f9 (K282.2.1 0 y9) k9301 (g257 2 y9) := by
          intro f9 y9 hf9 hy9
          rcases (show f9 = 0 ∨ f9 = 1 ∨ f9 = 2 ∨ f9 = 3 by omega) with rfl | rfl | rfl | rfl
          · rw [hf292] at hy9; cases hy9; rw [hrk278]; rw [hf285] <;> exact ⟨(fun z => absurd z (by decide)), (fun z => absurd z (by decide)), (fun z => absurd z (by decide)), (fun _ _ => (by omega)), (fun z => absurd z (by decide)), (fun z => absurd z (by decide)), (fun z => absurd z (by decide)), (fun z => absurd z (by decide)), (fun z => absurd z (by decide)), (fun z => absurd z (by decide)), (fun z => absurd z (by decide)), (fun z => absurd z (by decide)), (fun z => absurd z (by decide)), (fun z => absurd z (by decide)), (fun z => absurd z (by decide)), (fun z => absurd z (by decide)), (fun z => absurd z (by decide)), (fun z => absurd z (by decide)), (fun z => absurd z (by decide)), (fun z => absurd z (by decide)), (fun z => absurd z (by decide)), (fun z => absurd z (by decide)), (fun z => absurd z (by decide)), (fun z => absurd z (by decide))⟩
          · rw [hf287] at hy9; cases hy9
          · rw [hf288] at hy9; cases hy9
          · rw [hf289] at hy9; cases hy9
        have hdn := NwS.done1I (q := q214) (L := (5 * (20 - dp) + 4 + (sg259 - sg))) (O := O) (k := k9301) hns294 hq245 hf284 hg280 (by omega) ⟨k9301I, (by rw [hf285] <;> exact ⟨(fun z => absurd z (by decide)), (fun z => absurd z (by decide)), (fun z => absurd z (by decide))⟩)⟩ (by rw [hf285]; exact ⟨fun _ => (by show ¬ K282.2.2.1 0 q214 = none; rw [hf292]; intro z; cases z), fun z => absurd z (by decide), fun z => absurd z (by decide), fun z => absurd z (by decide), fun z => absurd z (by decide)⟩) (fun f9 z => by rw [hf285] at z; rcases z with ⟨z, _⟩ | ⟨z | z | z, _⟩ <;> exact absurd z (by decide)) hkid hf290 hno295 hkc302 how
        have hz303 : NwR K K282 g (gset g257 q214 (5 * (20 - dp) + 4 + (sg259 - sg)) O k9301) q214 O k9301 ((5 * (20 - dp) + 4 + (sg259 - sg))) := hdn
        have hz304 : at9 ≤ rS k9301 ∧ rS k9301 + 1 ≤ rE k9301 ∧ rE k9301 ≤ at258 ∧ 1 ≤ rD k9301 ∧ rD k9301 ≤ 9 * (20 - dp) + (sg259 - sg) + 1 := (by omega)
        have hz305 : at9 + 1 ≤ at258 ∧ at258 ≤ sz := (by omega)
        have hz306 : sg ≤ sg259 ∧ sg259 ≤ 60 := (by omega)
        have hz307 : ¬ tkN (B 7) sz 67 (nI at9) = 37 := (by rw [h205.1 (by omega)]; decide)
        have hz308 : NwT (B 7) sz (B 10) f260 K K282 at9 at258 := (NwT.le htk293 (by omega))
        have hO : OKP G h0 a (upd (upd (upd (upd F 2 (nI sz)) 9 (nI at258)) 10 (nI dp)) 11 (nI sg259)) R Z (updA B 10 f260) J K282 w := hO.to rfl
        refine W.widen (k := (2 * (sz - at9) + 19)) (n := (11 * (2 * (sz - at9) + 19))) (by omega) (by omega) ?_
        have hzz1 : H.size ≤ s.heap.size + ((2 * (at258 - at9) - 1)) := (by have z : (1 + (2 * (at258 - (at9 + 1)) - 1)) ≤ (2 * (at258 - at9) - 1) := (by omega); omega)
        have hzz2 : hSl H ≤ hSl s.heap + ((11 * (2 * (at258 - at9) - 1))) := (by have z : (11 + (11 * (2 * (at258 - (at9 + 1)) - 1))) ≤ (11 * (2 * (at258 - at9) - 1)) := (by omega); omega)
        exact W.aret (v := .ref q214) hx hb hr (Or.inl ⟨_, rfl⟩) (Or.inr ⟨_, rfl⟩) (fun t99 ht99 hW99 => ⟨⟨_, (w, (q214, K282, (gset g257 q214 (5 * (20 - dp) + 4 + (sg259 - sg)) O k9301), at258, sg259, f260, k9301)), rfl, ⟨rfl, hz303, hz304, hz305, hz306, hz307, hz308, hO⟩, by rw [ht99]; exact hP, hD, by rw [ht99]; exact hzz1, by rw [ht99]; exact hzz2⟩, hS.F ht99⟩) hS.2.2 dX8_prefixed_91
      · have n309 : ¬ (r222 = 0) := fun h9 => c225 ((nI_eq (a := r222) (b := 0) (by omega) (by omega)).mpr h9)
        refine lv_bipush (v := 16) hx hb dX8_prefixed_49 (by decide) ?_
        refine lv_goto (tgt := 56) hx hb dX8_prefixed_51 (by decide) ?_
        refine lv_aload_n hx hb dX8_prefixed_56 rfl (lv_at hl 0 rfl) ?_
        refine c_get (v := .int (nI at9)) (C := RX8) (Tc := TX8) (N := 5) (ci := 5) hx hb hq pin_wsX80 hown hE hP hO 23 (sg_23 G h0 a _ _ _ _ _) rfl 2 (by decide) (hq _ pw_776) (fun _ h9 => h9) rfl dX8_prefixed_57 ?_
        refine lv_aload_n hx hb dX8_prefixed_60 rfl (lv_at hl 0 rfl) ?_
        refine c_get (v := .int (nI at9)) (C := RX8) (Tc := TX8) (N := 5) (ci := 5) hx hb hq pin_wsX80 hown hE hP hO 23 (sg_23 G h0 a _ _ _ _ _) rfl 2 (by decide) (hq _ pw_776) (fun _ h9 => h9) rfl dX8_prefixed_61 ?_
        have hO : OKP G h0 a (upd (upd (upd (upd F 2 (nI sz)) 9 (nI at9)) 10 (nI (dp + 1))) 11 (nI sg)) R Z B J (kN K q214 1 0) w := hO.to rfl
        obtain ⟨qr313, hqr314⟩ := p_recv hO (by rw [hf216]; decide) (rep_1 hf216)
        refine pc_I0 (G := G) (As := [.int 16, .int (nI at9), .int (nI at9)]) (rest := [.ref q214]) hx hb hml hown hq hE hX pX0_al hP hD hS hA hl.1 (N_init l G h0 a (upd (upd (upd (upd F 2 (nI sz)) 9 (nI at9)) 10 (nI (dp + 1))) 11 (nI sg)) R Z B J (kN K q214 1 0) w q214 16 (nI at9) (nI at9) (by omega) hO) pw_874 pw_875 pw_872 pw_765 rfl hS_X7_init rfl (Nat.le_of_ble_eq_true rfl) dX8_prefixed_64 ⟨(by show 1 + 0 ≤ (2 * (sz - at9) + 19); omega), (by show 11 + 0 ≤ (11 * (2 * (sz - at9) + 19)); omega)⟩ ⟨(by show 2 + 1 ≤ (40 * n + 22); omega), (by show 8 + (4 + 11) + 60 ≤ (1300 * n + 560); omega)⟩ (fun v312 u310 H locs hw311 hP hD hS => ?_)
        obtain ⟨w, _⟩ := u310
        obtain ⟨hw311, hO⟩ := hw311
        obtain rfl : v312 = none := hw311
        have hf315 : (kI (kI (kI (kN K q214 1 0) 0 q214 16) 1 q214 (nI at9)) 2 q214 (nI at9)).1 q214 = 1 := hf216
        have hO : OKP G h0 a (upd (upd (upd (upd F 2 (nI sz)) 9 (nI at9)) 10 (nI (dp + 1))) 11 (nI sg)) R Z B J (kI (kI (kI (kN K q214 1 0) 0 q214 16) 1 q214 (nI at9)) 2 q214 (nI at9)) w := hO.to rfl
        refine W.widen (k := 1) (n := 11) (by show 1 + 0 ≤ 1; omega) (by show 11 + 0 ≤ 11; omega) ?_
        refine W.eq (g2 := F0 m 67 ls [.ref q214]) rfl ?_
        change OKP G h0 a (upd (upd (upd (upd F 2 (nI sz)) 9 (nI at9)) 10 (nI (dp + 1))) 11 (nI sg)) R Z B J (mkN K q214 16 (nI at9) (nI at9)) w at hO
        obtain ⟨K316, hK317⟩ : ∃ z : PK, z = (mkN K q214 16 (nI at9) (nI at9)) := ⟨_, rfl⟩
        rw [← hK317] at hO
        have htk318 : NwT (B 7) sz (B 10) (B 10) K K316 at9 at9 := by rw [hK317]; exact NwT.new (NwT.le htk0 (show _ ≤ at9 by omega)) hq215 (TkP.no (by decide))
        have hf319 : K316.1 q214 = 1 := by rw [hK317]; exact mkN_T
        have hf320 : K316.2.1 0 q214 = 16 := by rw [hK317]; exact mkN_0
        have hf321 : K316.2.1 2 q214 = (nI at9) := by rw [hK317]; exact mkN_2
        have hf322 : K316.2.2.1 0 q214 = none := by rw [hK317]; exact mkN_C
        have hf323 : K316.2.2.1 1 q214 = none := by rw [hK317]; exact mkN_C
        have hf324 : K316.2.2.1 2 q214 = none := by rw [hK317]; exact mkN_C
        have hf325 : K316.2.2.1 3 q214 = none := by rw [hK317]; exact mkN_C
        have hf326 : K316.2.2.1 4 q214 = none := by rw [hK317]; exact mkN_C
        have hns327 : NwS K K316 g (gset g q214 0 0 0) := by rw [hK317]; exact NwS.node hns0 hq215
        have hq328 : K.1 q214 = 0 := old_T hns0.2.1 hq215
        have hg329 : (gset g q214 0 0 0) 0 q214 = 0 := gset_0
        have hno330 : NoO K316 (gset g q214 0 0 0) q214 := by rw [hK317]; exact NoO.new hns0.1 hq215
        refine lv_astore_n (lv' := [(1, .ref q214), (0, .ref (a 3))]) hx hb dX8_prefixed_67 rfl hl (by decide) rfl (fun ls hl => ?_)
        refine lv_aload_n hx hb dX8_prefixed_68 rfl (lv_at hl 1 rfl) ?_
        refine lv_dup hx hb dX8_prefixed_69 rfl ?_
        refine c_get (v := .int (nI at9)) (C := RX8) (Tc := TX8) (N := 5) (ci := 5) hx hb hq pin_wsX80 hown hE hP hO 23 (sg_23 G h0 a _ _ _ _ _) rfl 2 (by decide) (hq _ pw_776) (fun _ h9 => h9) rfl dX8_prefixed_70 ?_
        refine lv_iconst (v := 1) hx hb dX8_prefixed_73 (by decide) ?_
        refine lv_iadd hx hb dX8_prefixed_74 ?_
        refine lv_topi (fun x331 e332 => ?_)
        obtain rfl : x331 = nI (at9 + 1) := e332.trans (nI_add (at9) (1))
        refine c_put (v := .int (nI (at9 + 1))) (ty := .int) (C := RX8) (Tc := TX8) (N := 5) (ci := 5) hx hb hq pin_wsX80 tyX8 tyX8_ok nmX8 hown hE hP hD hS hO 23 (sg_23 G h0 a _ _ _ _ _) rfl 2 (by decide) (hq _ pw_776) (fun _ h9 => h9) rfl (by decide +kernel) rfl rfl (Nat.le_of_ble_eq_true rfl) (sf_9 G h0 a _ _ _ _ _ (nI (at9 + 1))) dX8_prefixed_75 (fun H locs w hP hD hS hO => ?_)
        refine lv_aload_n hx hb dX8_prefixed_78 rfl (lv_at hl 0 rfl) ?_
        refine lv_aload_n hx hb dX8_prefixed_79 rfl (lv_at hl 1 rfl) ?_
        have hO : OKP G h0 a (upd (upd (upd (upd (upd (upd (upd (upd (upd (upd F 2 (nI sz)) 9 (nI at9)) 10 (nI dp)) 11 (nI sg)) 9 (nI (at9 + 1))) 10 (nI (dp + 1))) 2 (nI sz)) 9 (nI (at9 + 1))) 10 (nI (dp + 1))) 11 (nI sg)) R Z B J K316 w := hO.to rfl
        obtain ⟨_, qr336, hqr337⟩ := hO.2.1 23 _ (sg_23 G h0 a _ _ _ _ _)
        refine pn_V0 (G := G) (As := []) (rest := [.ref q214]) hx hb hml hown hq hE hX pX0_al hP hD hS hA hl.1 ((ihp (by omega)) h0 a (upd (upd (upd (upd (upd (upd F 2 (nI sz)) 9 (nI at9)) 10 (nI dp)) 11 (nI sg)) 9 (nI (at9 + 1))) 10 (nI (dp + 1))) R Z B J K316 w (at9 + 1) sz (dp + 1) sg 0 (gset g q214 0 0 0) (by omega) (by omega) (by omega) (by omega) hns327.1 (fun o9 h9 => absurd h9 (by omega)) hO hl0) (gV pw_976 pw_977 pw_978 pw_796 pw_972) hV_X8_prefixed qr336 5 hqr337 rfl rfl rfl (Nat.le_of_ble_eq_true rfl) dX8_prefixed_80 ⟨(by show 1 + (2 * (sz - (at9 + 1)) + 19) ≤ (2 * (sz - at9) + 19); omega), (by show 11 + (11 * (2 * (sz - (at9 + 1)) + 19)) ≤ (11 * (2 * (sz - at9) + 19)); omega)⟩ ⟨(by show (40 * (n - 1) + 22) + 1 ≤ (40 * n + 22); omega), (by show 8 + (2 + 11) + (1300 * (n - 1) + 560) ≤ (1300 * n + 560); omega)⟩ (fun v335 u333 H locs hw334 hP hD hS => ?_) (fun ux ce9 q9 H9 locs9 hux hP9 hD9 hS9 hce hcv hcl => pb_out ux (ThQ.up (Thx.same (Thx.same (Thx.same (Thx.same (Thx.f (Thx.f Thx.rfl (by omega)) (by omega)) rfl) rfl) rfl) rfl) RhX.rfl hux) hnt hlocks hce hcv hcl hP9 hD9 hS9 (by show 1 + (2 * (sz - (at9 + 1)) + 19) ≤ (2 * (sz - at9) + 19); omega) (by show 11 + (11 * (2 * (sz - (at9 + 1)) + 19)) ≤ (11 * (2 * (sz - at9) + 19)); omega))
        obtain ⟨w, r338, K339, g340, at341, sg342, f343, k344⟩ := u333
        obtain ⟨hw334, h345, h346, h347, h348, h349, h350, hO⟩ := hw334
        have h345 : NwR K316 K339 (gset g q214 0 0 0) g340 r338 0 k344 ((5 * (20 - (dp + 1)) + 4 + (sg342 - sg))) := h345
        have h346 : (at9 + 1) ≤ rS k344 ∧ rS k344 + 1 ≤ rE k344 ∧ rE k344 ≤ at341 ∧ 1 ≤ rD k344 ∧ rD k344 ≤ 9 * (20 - (dp + 1)) + (sg342 - sg) + 1 := h346
        have h347 : (at9 + 1) + 1 ≤ at341 ∧ at341 ≤ sz := h347
        have h348 : sg ≤ sg342 ∧ sg342 ≤ 60 := h348
        have h349 : ¬ tkN ((B 7)) sz 67 (nI (at9 + 1)) = 37 := h349
        have h350 : NwT ((B 7)) sz ((B 10)) f343 K316 K339 (at9 + 1) at341 := h350
        obtain rfl : v335 = some (.ref r338) := hw334
        have hf351 : K339.1 q214 = 1 := (((h345).2.1.1 q214 (by rw [hf319]; decide)).1).trans hf319
        have hf352 : K339.2.1 0 q214 = 16 := (((h345).2.1.1 q214 (by rw [hf319]; decide)).2.1 0).trans hf320
        have hf353 : K339.2.1 2 q214 = (nI at9) := (((h345).2.1.1 q214 (by rw [hf319]; decide)).2.1 2).trans hf321
        have hf354 : K339.2.2.1 0 q214 = none := (((h345).2.1.1 q214 (by rw [hf319]; decide)).2.2.1 0).trans hf322
        have hf355 : K339.2.2.1 1 q214 = none := (((h345).2.1.1 q214 (by rw [hf319]; decide)).2.2.1 1).trans hf323
        have hf356 : K339.2.2.1 2 q214 = none := (((h345).2.1.1 q214 (by rw [hf319]; decide)).2.2.1 2).trans hf324
        have hf357 : K339.2.2.1 3 q214 = none := (((h345).2.1.1 q214 (by rw [hf319]; decide)).2.2.1 3).trans hf325
        have hf358 : K339.2.2.1 4 q214 = none := (((h345).2.1.1 q214 (by rw [hf319]; decide)).2.2.1 4).trans hf326
        have hO : OKP G h0 a (upd (upd (upd (upd F 2 (nI sz)) 9 (nI at341)) 10 (nI (dp + 1))) 11 (nI sg342)) R Z (updA B 10 f343) J K339 w := hO.to rfl
        refine W.widen (k := (1 + (2 * (at341 - (at9 + 1)) - 1))) (n := (11 + (11 * (2 * (at341 - (at9 + 1)) - 1)))) (by show 1 + (2 * (at341 - (at9 + 1)) - 1) ≤ (1 + (2 * (at341 - (at9 + 1)) - 1)); omega) (by show 11 + (11 * (2 * (at341 - (at9 + 1)) - 1)) ≤ (11 + (11 * (2 * (at341 - (at9 + 1)) - 1))); omega) ?_
        refine W.eq (g2 := F0 m 83 ls [.ref r338, .ref q214]) rfl ?_
        have htk359 : NwT (B 7) sz (B 10) f343 K K339 at9 at341 := (NwT.call htk318 h350 (by omega))
        have hns360 : NwS K K339 g g340 := NwS.call hns327 h345 (fun o9 h9 => absurd h9 (by omega))
        have hrk361 : g340 2 r338 = k344 := h345.2.2.1.2.2.2.2.2.1
        have hf362 : K339.1 r338 = 1 := h345.2.2.1.2.1
        have hg363 : g340 0 q214 = 0 := (h345.2.1.2 q214 (by rw [hf319]; decide) 0).trans hg329
        have hno364 : NoO K339 g340 q214 := NoO.call hno330 h345 hf319 (by omega)
        refine p_put (v := .ref r338) (ty := (.object "JinjaTongue$Node")) (C := RX7) (Tc := TX7) (N := 11) (ci := 13) (K' := (kC K339 0 q214 (some r338))) hx hb hq pin_wsX70 tyX7 tyX7_ok nmX7 hown hE hP hD hS hO (by rw [hf351]; decide) (rep_1 hf351) rfl 6 (by decide) (hq _ pw_938) (fun _ h9 => h9) rfl (by decide +kernel) rfl rfl (Nat.le_of_ble_eq_true rfl) rfl (by rw [rep_1 (show (kC K339 0 q214 (some r338)).1 q214 = 1 from hf351), pc_0] <;> rfl) (fun p9 hp9 => rep_kC hp9) dX8_prefixed_83 (fun H locs w hP hD hS hO => ?_)
        obtain ⟨K365, hK366⟩ : ∃ z : PK, z = (kC K339 0 q214 (some r338)) := ⟨_, rfl⟩
        rw [← hK366] at hO
        have hf367 : K365.1 q214 = 1 := (by rw [hK366]; exact hf351)
        have hf368 : K365.2.1 0 q214 = 16 := (by rw [hK366]; exact hf352)
        have hf369 : K365.2.1 2 q214 = (nI at9) := (by rw [hK366]; exact hf353)
        have hf370 : K365.2.2.1 1 q214 = none := (by rw [hK366]; exact (kC_of (by decide)).trans hf355)
        have hf371 : K365.2.2.1 2 q214 = none := (by rw [hK366]; exact (kC_of (by decide)).trans hf356)
        have hf372 : K365.2.2.1 3 q214 = none := (by rw [hK366]; exact (kC_of (by decide)).trans hf357)
        have hf373 : K365.2.2.1 4 q214 = none := (by rw [hK366]; exact (kC_of (by decide)).trans hf358)
        have hf374 : K365.1 r338 = 1 := (by rw [hK366]; exact hf362)
        have hf375 : K365.2.2.1 0 q214 = some r338 := by rw [hK366]; exact kC_eq
        have htk376 : NwT (B 7) sz (B 10) f343 K K365 at9 at341 := by rw [hK366]; exact NwT.put htk359
        have hns377 : NwS K K365 g g340 := by rw [hK366]; exact NwS.put hns360 hq328 hg363
        have hno378 : NoO K365 g340 q214 := by rw [hK366]; exact hno364
        refine lv_aload_n hx hb dX8_prefixed_86 rfl (lv_at hl 1 rfl) ?_
        have hO : OKW G h0 a (upd (upd (upd (upd (upd F 2 (nI sz)) 9 (nI at341)) 10 (nI (dp + 1))) 11 (nI sg342)) 10 (nI (dp + 1))) R Z (updA B 10 f343) J K365.1 (fun q99 x99 => x99 = rep G a K365 q99) w := hO.to rfl
        obtain ⟨_, qr382, hqr383⟩ := hO.2.1 23 _ (sg_23 G h0 a _ _ _ _ _)
        refine pc_V0 (G := G) (As := []) (rest := []) hx hb hml hown hq hE hX pX0_al hP hD hS hA hl.1 (P_leave l G h0 a (upd (upd (upd (upd F 2 (nI sz)) 9 (nI at341)) 10 (nI (dp + 1))) 11 (nI sg342)) R Z (updA B 10 f343) J K365.1 (fun q99 x99 => x99 = rep G a K365 q99) w (dp + 1) (by omega) hO) (gV pw_950 pw_951 pw_952 pw_796 pw_906) hV_X8_leave qr382 5 hqr383 rfl rfl rfl (Nat.le_of_ble_eq_true rfl) dX8_prefixed_87 ⟨(by show (1 + (2 * (at341 - (at9 + 1)) - 1)) + 0 ≤ (2 * (sz - at9) + 19); omega), (by show (11 + (11 * (2 * (at341 - (at9 + 1)) - 1))) + 0 ≤ (11 * (2 * (sz - at9) + 19)); omega)⟩ ⟨(by show 2 + 1 ≤ (40 * n + 22); omega), (by show 8 + (1 + 11) + 60 ≤ (1300 * n + 560); omega)⟩ (fun v381 u379 H locs hw380 hP hD hS => ?_)
        obtain ⟨w, _⟩ := u379
        obtain ⟨hw380, hO⟩ := hw380
        obtain rfl : v381 = none := hw380
        have hO : OKP G h0 a (upd (upd (upd (upd F 2 (nI sz)) 9 (nI at341)) 10 (nI ((dp + 1) - 1))) 11 (nI sg342)) R Z (updA B 10 f343) J K365 w := hO.to rfl
        refine W.widen (k := (1 + (2 * (at341 - (at9 + 1)) - 1))) (n := (11 + (11 * (2 * (at341 - (at9 + 1)) - 1)))) (by show (1 + (2 * (at341 - (at9 + 1)) - 1)) + 0 ≤ (1 + (2 * (at341 - (at9 + 1)) - 1)); omega) (by show (11 + (11 * (2 * (at341 - (at9 + 1)) - 1))) + 0 ≤ (11 + (11 * (2 * (at341 - (at9 + 1)) - 1))); omega) ?_
        refine W.eq (g2 := F0 m 90 ls []) rfl ?_
        refine lv_aload_n hx hb dX8_prefixed_90 rfl (lv_at hl 0 rfl) ?_
        refine W_size (fun hz1 hz2 => ?_)
        refine vx_ret ?_
        have hlr := h345.2.2.1
        have hlr1 := hlr.2.2.1
        have hlr2 := hlr.2.2.2.1
        obtain ⟨k9384, k9384I, k9384S, k9384E, k9384M, k9384N, k9384X, k9384D⟩ := rk_ex (s := at9) (e := at341) (m := at9) (n := at9) (x := 0) (d := (9 * (20 - dp) + (sg342 - sg) + 1)) (by omega)
        have hkid : ∀ f9 y9 : Nat, f9 ≤ 3 → K365.2.2.1 f9 q214 = some y9 → K365.1 y9 = 1 ∧ 1 ≤ g340 0 y9 ∧ g340 0 y9 < (5 * (20 - dp) + 4 + (sg342 - sg)) := by
          intro f9 y9 hf9 hy9
          rcases (show f9 = 0 ∨ f9 = 1 ∨ f9 = 2 ∨ f9 = 3 by omega) with rfl | rfl | rfl | rfl
          · rw [hf375] at hy9; cases hy9; exact ⟨hf374, hlr1, by omega⟩
          · rw [hf370] at hy9; cases hy9
          · rw [hf371] at hy9; cases hy9
          · rw [hf372] at hy9; cases hy9
        have hkc385 : ∀ f9 y9 : Nat, f9 ≤ 3 → K365.2.2.1 f9 q214 = some y9 → Kch (K365.2.1 0 q214) f9 (K365.2.1 0 y9) k9384 (g340 2 y9) := by
          intro f9 y9 hf9 hy9
          rcases (show f9 = 0 ∨ f9 = 1 ∨ f9 = 2 ∨ f9 = 3 by omega) with rfl | rfl | rfl | rfl
          · rw [hf375] at hy9; cases hy9; rw [hrk361]; rw [hf368] <;> exact ⟨(fun z => absurd z (by decide)), (fun z => absurd z (by decide)), (fun z => absurd z (by decide)), (fun _ _ => (by omega)), (fun z => absurd z (by decide)), (fun z => absurd z (by decide)), (fun z => absurd z (by decide)), (fun z => absurd z (by decide)), (fun z => absurd z (by decide)), (fun z => absurd z (by decide)), (fun z => absurd z (by decide)), (fun z => absurd z (by decide)), (fun z => absurd z (by decide)), (fun z => absurd z (by decide)), (fun z => absurd z (by decide)), (fun z => absurd z (by decide)), (fun z => absurd z (by decide)), (fun z => absurd z (by decide)), (fun z => absurd z (by decide)), (fun z => absurd z (by decide)), (fun z => absurd z (by decide)), (fun z => absurd z (by decide)), (fun z => absurd z (by decide)), (fun z => absurd z (by decide))⟩
          · rw [hf370] at hy9; cases hy9
          · rw [hf371] at hy9; cases hy9
          · rw [hf372] at hy9; cases hy9
        have hdn := NwS.done1I (q := q214) (L := (5 * (20 - dp) + 4 + (sg342 - sg))) (O := O) (k := k9384) hns377 hq328 hf367 hg363 (by omega) ⟨k9384I, (by rw [hf368] <;> exact ⟨(fun z => absurd z (by decide)), (fun z => absurd z (by decide)), (fun z => absurd z (by decide))⟩)⟩ (by rw [hf368]; exact ⟨fun _ => (by show ¬ K365.2.2.1 0 q214 = none; rw [hf375]; intro z; cases z), fun z => absurd z (by decide), fun z => absurd z (by decide), fun z => absurd z (by decide), fun z => absurd z (by decide)⟩) (fun f9 z => by rw [hf368] at z; rcases z with ⟨z, _⟩ | ⟨z | z | z, _⟩ <;> exact absurd z (by decide)) hkid hf373 hno378 hkc385 how
        have hz386 : NwR K K365 g (gset g340 q214 (5 * (20 - dp) + 4 + (sg342 - sg)) O k9384) q214 O k9384 ((5 * (20 - dp) + 4 + (sg342 - sg))) := hdn
        have hz387 : at9 ≤ rS k9384 ∧ rS k9384 + 1 ≤ rE k9384 ∧ rE k9384 ≤ at341 ∧ 1 ≤ rD k9384 ∧ rD k9384 ≤ 9 * (20 - dp) + (sg342 - sg) + 1 := (by omega)
        have hz388 : at9 + 1 ≤ at341 ∧ at341 ≤ sz := (by omega)
        have hz389 : sg ≤ sg342 ∧ sg342 ≤ 60 := (by omega)
        have hz390 : ¬ tkN (B 7) sz 67 (nI at9) = 37 := (by rw [h205.1 (by omega)]; decide)
        have hz391 : NwT (B 7) sz (B 10) f343 K K365 at9 at341 := (NwT.le htk376 (by omega))
        have hO : OKP G h0 a (upd (upd (upd (upd F 2 (nI sz)) 9 (nI at341)) 10 (nI dp)) 11 (nI sg342)) R Z (updA B 10 f343) J K365 w := hO.to rfl
        refine W.widen (k := (2 * (sz - at9) + 19)) (n := (11 * (2 * (sz - at9) + 19))) (by omega) (by omega) ?_
        have hzz1 : H.size ≤ s.heap.size + ((2 * (at341 - at9) - 1)) := (by have z : (1 + (2 * (at341 - (at9 + 1)) - 1)) ≤ (2 * (at341 - at9) - 1) := (by omega); omega)
        have hzz2 : hSl H ≤ hSl s.heap + ((11 * (2 * (at341 - at9) - 1))) := (by have z : (11 + (11 * (2 * (at341 - (at9 + 1)) - 1))) ≤ (11 * (2 * (at341 - at9) - 1)) := (by omega); omega)
        exact W.aret (v := .ref q214) hx hb hr (Or.inl ⟨_, rfl⟩) (Or.inr ⟨_, rfl⟩) (fun t99 ht99 hW99 => ⟨⟨_, (w, (q214, K365, (gset g340 q214 (5 * (20 - dp) + 4 + (sg342 - sg)) O k9384), at341, sg342, f343, k9384)), rfl, ⟨rfl, hz386, hz387, hz388, hz389, hz390, hz391, hO⟩, by rw [ht99]; exact hP, hD, by rw [ht99]; exact hzz1, by rw [ht99]; exact hzz2⟩, hS.F ht99⟩) hS.2.2 dX8_prefixed_91
    · have n392 : r202 = 0 := (nI_eq (a := r202) (b := 0) (by omega) (by omega)).mp c206
      refine lv_aload_n hx hb dX8_prefixed_18 rfl (lv_at hl 0 rfl) ?_
      refine lv_bipush (v := 53) hx hb dX8_prefixed_19 (by decide) ?_
      have hO : OKW G h0 a (upd (upd (upd (upd (upd (upd F 2 (nI sz)) 9 (nI at9)) 10 (nI dp)) 11 (nI sg)) 2 (nI sz)) 9 (nI at9)) R Z B J K.1 (fun q99 x99 => x99 = rep G a K q99) w := hO.to rfl
      obtain ⟨_, qr396, hqr397⟩ := hO.2.1 23 _ (sg_23 G h0 a _ _ _ _ _)
      refine pc_V0 (G := G) (As := [.int 53]) (rest := []) hx hb hml hown hq hE hX pX0_al hP hD hS hA hl.1 (P_seesT l G h0 a (upd (upd (upd (upd F 2 (nI sz)) 9 (nI at9)) 10 (nI dp)) 11 (nI sg)) R Z B J K.1 (fun q99 x99 => x99 = rep G a K q99) w 53 at9 sz (by omega) (by omega) (by decide) hO) (gV pw_803 pw_804 pw_805 pw_796 pw_775) hV_X8_sees qr396 5 hqr397 rfl rfl rfl (Nat.le_of_ble_eq_true rfl) dX8_prefixed_21 ⟨(by show 0 + 0 ≤ (2 * (sz - at9) + 19); omega), (by show 0 + 0 ≤ (11 * (2 * (sz - at9) + 19)); omega)⟩ ⟨(by show 3 + 1 ≤ (40 * n + 22); omega), (by show 8 + (2 + 11) + 81 ≤ (1300 * n + 560); omega)⟩ (fun v395 u393 H locs hw394 hP hD hS => ?_)
      obtain ⟨w, r398⟩ := u393
      obtain ⟨hw394, h399, h400, h401, hO⟩ := hw394
      have h399 : r398 ≤ 1 := h399
      have h400 : at9 + r398 ≤ sz := h400
      have h401 : SeQ ((B 7)) sz at9 53 r398 := h401
      obtain rfl : v395 = some (.int (nI r398)) := hw394
      have hO : OKP G h0 a (upd (upd (upd (upd F 2 (nI sz)) 9 (nI at9)) 10 (nI dp)) 11 (nI sg)) R Z B J K w := hO.to rfl
      refine W.widen (k := 0) (n := 0) (Nat.le_of_ble_eq_true rfl) (Nat.le_of_ble_eq_true rfl) ?_
      refine W.eq (g2 := F0 m 24 ls [.int (nI r398)]) rfl ?_
      refine lv_if_ne (tgt := 32) hx hb dX8_prefixed_24 (by decide) (fun c402 => ?_) (fun c402 => ?_)
      · have n403 : ¬ (r398 = 0) := fun h9 => c402 ((nI_eq (a := r398) (b := 0) (by omega) (by omega)).mpr h9)
        refine lv_aload_n hx hb dX8_prefixed_32 rfl (lv_at hl 0 rfl) ?_
        have hO : OKW G h0 a (upd (upd (upd (upd (upd (upd (upd F 2 (nI sz)) 9 (nI at9)) 10 (nI dp)) 11 (nI sg)) 2 (nI sz)) 9 (nI at9)) 10 (nI dp)) R Z B J K.1 (fun q99 x99 => x99 = rep G a K q99) w := hO.to rfl
        obtain ⟨_, qr407, hqr408⟩ := hO.2.1 23 _ (sg_23 G h0 a _ _ _ _ _)
        refine pn_V0 (G := G) (As := []) (rest := []) hx hb hml hown hq hE hX pX0_al hP hD hS hA hl.1 (P_enter l G h0 a (upd (upd (upd (upd F 2 (nI sz)) 9 (nI at9)) 10 (nI dp)) 11 (nI sg)) R Z B J K.1 (fun q99 x99 => x99 = rep G a K q99) w dp at9 sz (by omega) (by omega) (by omega) hO hl0) (gV pw_947 pw_948 pw_949 pw_796 pw_905) hV_X8_enter qr407 5 hqr408 rfl rfl rfl (Nat.le_of_ble_eq_true rfl) dX8_prefixed_33 ⟨(by show 0 + 1 ≤ (2 * (sz - at9) + 19); omega), (by show 0 + 6 ≤ (11 * (2 * (sz - at9) + 19)); omega)⟩ ⟨(by show 7 + 1 ≤ (40 * n + 22); omega), (by show 8 + (1 + 11) + 122 ≤ (1300 * n + 560); omega)⟩ (fun v406 u404 H locs hw405 hP hD hS => ?_) (fun ux ce9 q9 H9 locs9 hux hP9 hD9 hS9 hce hcv hcl => pb_out ux (ThQ.up (Thx.same (Thx.same (Thx.same Thx.rfl rfl) rfl) rfl) RhX.rfl hux) hnt hlocks hce hcv hcl hP9 hD9 hS9 (by show 0 + 1 ≤ (2 * (sz - at9) + 19); omega) (by show 0 + 6 ≤ (11 * (2 * (sz - at9) + 19)); omega))
        obtain ⟨w, _⟩ := u404
        obtain ⟨hw405, h409, hO⟩ := hw405
        have h409 : dp + 1 ≤ 20 := h409
        obtain rfl : v406 = none := hw405
        have hO : OKP G h0 a (upd (upd (upd (upd F 2 (nI sz)) 9 (nI at9)) 10 (nI (dp + 1))) 11 (nI sg)) R Z B J K w := hO.to rfl
        refine W.widen (k := 0) (n := 0) (by show 0 + 0 ≤ 0; omega) (by show 0 + 0 ≤ 0; omega) ?_
        refine W.eq (g2 := F0 m 36 ls []) rfl ?_
        refine p_new (s9 := 1) (C := RX7) (T := TX7) (N := 11) (ci := 13) (fs := [.int 0, .int 0, .int 0, .int 0, .int 0, .int 0, .null, .null, .null, .null, .null]) hx hb hq pin_wsX70 tyX7 tyX7_ok hown (hq _ pw_870) (hq _ pw_871) (hq _ pw_872) hE hP hD hS hA hO rfl nw_X7 (by decide) (fun q => by rw [rep_1 (show (kN K q 1 0).1 q = 1 from if_pos rfl)]; unfold fsNode kN; simp only [if_true]; rfl) (by show 0 + 1 ≤ (2 * (sz - at9) + 19); omega) (by show 0 + 11 ≤ (11 * (2 * (sz - at9) + 19)); omega) dX8_prefixed_36 (fun q410 H w hq411 hP hD hS hO => ?_)
        have hf412 : (kN K q410 1 0).1 q410 = 1 := if_pos rfl
        refine W.widen (k := 1) (n := 11) (by show 0 + 1 ≤ 1; omega) (by show 0 + 11 ≤ 11; omega) ?_
        refine lv_dup hx hb dX8_prefixed_39 rfl ?_
        refine lv_aload_n hx hb dX8_prefixed_40 rfl (lv_at hl 0 rfl) ?_
        refine lv_bipush (v := 53) hx hb dX8_prefixed_41 (by decide) ?_
        have hO : OKW G h0 a (upd (upd (upd (upd (upd (upd F 2 (nI sz)) 9 (nI at9)) 10 (nI (dp + 1))) 11 (nI sg)) 2 (nI sz)) 9 (nI at9)) R Z B J ((kN K q410 1 0).1) (fun q99 x99 => x99 = rep G a (kN K q410 1 0) q99) w := hO.to rfl
        obtain ⟨_, qr416, hqr417⟩ := hO.2.1 23 _ (sg_23 G h0 a _ _ _ _ _)
        refine pc_V0 (G := G) (As := [.int 53]) (rest := [.ref q410, .ref q410]) hx hb hml hown hq hE hX pX0_al hP hD hS hA hl.1 (P_sees l G h0 a (upd (upd (upd (upd F 2 (nI sz)) 9 (nI at9)) 10 (nI (dp + 1))) 11 (nI sg)) R Z B J ((kN K q410 1 0).1) (fun q99 x99 => x99 = rep G a (kN K q410 1 0) q99) w 53 at9 sz (by omega) (by omega) hO) (gV pw_803 pw_804 pw_805 pw_796 pw_775) hV_X8_sees qr416 5 hqr417 rfl rfl rfl (Nat.le_of_ble_eq_true rfl) dX8_prefixed_43 ⟨(by show 1 + 0 ≤ (2 * (sz - at9) + 19); omega), (by show 11 + 0 ≤ (11 * (2 * (sz - at9) + 19)); omega)⟩ ⟨(by show 3 + 1 ≤ (40 * n + 22); omega), (by show 8 + (2 + 11) + 81 ≤ (1300 * n + 560); omega)⟩ (fun v415 u413 H locs hw414 hP hD hS => ?_)
        obtain ⟨w, r418⟩ := u413
        obtain ⟨hw414, h419, h420, hO⟩ := hw414
        have h419 : r418 ≤ 1 := h419
        have h420 : SeQ ((B 7)) sz at9 53 r418 := h420
        obtain rfl : v415 = some (.int (nI r418)) := hw414
        have hO : OKP G h0 a (upd (upd (upd (upd F 2 (nI sz)) 9 (nI at9)) 10 (nI (dp + 1))) 11 (nI sg)) R Z B J (kN K q410 1 0) w := hO.to rfl
        refine W.widen (k := 1) (n := 11) (by show 1 + 0 ≤ 1; omega) (by show 11 + 0 ≤ 11; omega) ?_
        refine W.eq (g2 := F0 m 46 ls [.int (nI r418), .ref q410, .ref q410]) rfl ?_
        refine lv_if_eq (tgt := 54) hx hb dX8_prefixed_46 (by decide) (fun c421 => ?_) (fun c421 => ?_)
        · have n422 : r418 = 0 := (nI_eq (a := r418) (b := 0) (by omega) (by omega)).mp c421
          refine lv_bipush (v := 15) hx hb dX8_prefixed_54 (by decide) ?_
          refine lv_aload_n hx hb dX8_prefixed_56 rfl (lv_at hl 0 rfl) ?_
          refine c_get (v := .int (nI at9)) (C := RX8) (Tc := TX8) (N := 5) (ci := 5) hx hb hq pin_wsX80 hown hE hP hO 23 (sg_23 G h0 a _ _ _ _ _) rfl 2 (by decide) (hq _ pw_776) (fun _ h9 => h9) rfl dX8_prefixed_57 ?_
          refine lv_aload_n hx hb dX8_prefixed_60 rfl (lv_at hl 0 rfl) ?_
          refine c_get (v := .int (nI at9)) (C := RX8) (Tc := TX8) (N := 5) (ci := 5) hx hb hq pin_wsX80 hown hE hP hO 23 (sg_23 G h0 a _ _ _ _ _) rfl 2 (by decide) (hq _ pw_776) (fun _ h9 => h9) rfl dX8_prefixed_61 ?_
          have hO : OKP G h0 a (upd (upd (upd (upd F 2 (nI sz)) 9 (nI at9)) 10 (nI (dp + 1))) 11 (nI sg)) R Z B J (kN K q410 1 0) w := hO.to rfl
          obtain ⟨qr426, hqr427⟩ := p_recv hO (by rw [hf412]; decide) (rep_1 hf412)
          refine pc_I0 (G := G) (As := [.int 15, .int (nI at9), .int (nI at9)]) (rest := [.ref q410]) hx hb hml hown hq hE hX pX0_al hP hD hS hA hl.1 (N_init l G h0 a (upd (upd (upd (upd F 2 (nI sz)) 9 (nI at9)) 10 (nI (dp + 1))) 11 (nI sg)) R Z B J (kN K q410 1 0) w q410 15 (nI at9) (nI at9) (by omega) hO) pw_874 pw_875 pw_872 pw_765 rfl hS_X7_init rfl (Nat.le_of_ble_eq_true rfl) dX8_prefixed_64 ⟨(by show 1 + 0 ≤ (2 * (sz - at9) + 19); omega), (by show 11 + 0 ≤ (11 * (2 * (sz - at9) + 19)); omega)⟩ ⟨(by show 2 + 1 ≤ (40 * n + 22); omega), (by show 8 + (4 + 11) + 60 ≤ (1300 * n + 560); omega)⟩ (fun v425 u423 H locs hw424 hP hD hS => ?_)
          obtain ⟨w, _⟩ := u423
          obtain ⟨hw424, hO⟩ := hw424
          obtain rfl : v425 = none := hw424
          have hf428 : (kI (kI (kI (kN K q410 1 0) 0 q410 15) 1 q410 (nI at9)) 2 q410 (nI at9)).1 q410 = 1 := hf412
          have hO : OKP G h0 a (upd (upd (upd (upd F 2 (nI sz)) 9 (nI at9)) 10 (nI (dp + 1))) 11 (nI sg)) R Z B J (kI (kI (kI (kN K q410 1 0) 0 q410 15) 1 q410 (nI at9)) 2 q410 (nI at9)) w := hO.to rfl
          refine W.widen (k := 1) (n := 11) (by show 1 + 0 ≤ 1; omega) (by show 11 + 0 ≤ 11; omega) ?_
          refine W.eq (g2 := F0 m 67 ls [.ref q410]) rfl ?_
          change OKP G h0 a (upd (upd (upd (upd F 2 (nI sz)) 9 (nI at9)) 10 (nI (dp + 1))) 11 (nI sg)) R Z B J (mkN K q410 15 (nI at9) (nI at9)) w at hO
          obtain ⟨K429, hK430⟩ : ∃ z : PK, z = (mkN K q410 15 (nI at9) (nI at9)) := ⟨_, rfl⟩
          rw [← hK430] at hO
          have htk431 : NwT (B 7) sz (B 10) (B 10) K K429 at9 at9 := by rw [hK430]; exact NwT.new (NwT.le htk0 (show _ ≤ at9 by omega)) hq411 (TkP.k15 (absurd (h401.1 (by omega)) (h420.2 (by omega))))
          have hf432 : K429.1 q410 = 1 := by rw [hK430]; exact mkN_T
          have hf433 : K429.2.1 0 q410 = 15 := by rw [hK430]; exact mkN_0
          have hf434 : K429.2.1 2 q410 = (nI at9) := by rw [hK430]; exact mkN_2
          have hf435 : K429.2.2.1 0 q410 = none := by rw [hK430]; exact mkN_C
          have hf436 : K429.2.2.1 1 q410 = none := by rw [hK430]; exact mkN_C
          have hf437 : K429.2.2.1 2 q410 = none := by rw [hK430]; exact mkN_C
          have hf438 : K429.2.2.1 3 q410 = none := by rw [hK430]; exact mkN_C
          have hf439 : K429.2.2.1 4 q410 = none := by rw [hK430]; exact mkN_C
          have hns440 : NwS K K429 g (gset g q410 0 0 0) := by rw [hK430]; exact NwS.node hns0 hq411
          have hq441 : K.1 q410 = 0 := old_T hns0.2.1 hq411
          have hg442 : (gset g q410 0 0 0) 0 q410 = 0 := gset_0
          have hno443 : NoO K429 (gset g q410 0 0 0) q410 := by rw [hK430]; exact NoO.new hns0.1 hq411
          refine lv_astore_n (lv' := [(1, .ref q410), (0, .ref (a 3))]) hx hb dX8_prefixed_67 rfl hl (by decide) rfl (fun ls hl => ?_)
          refine lv_aload_n hx hb dX8_prefixed_68 rfl (lv_at hl 1 rfl) ?_
          refine lv_dup hx hb dX8_prefixed_69 rfl ?_
          refine c_get (v := .int (nI at9)) (C := RX8) (Tc := TX8) (N := 5) (ci := 5) hx hb hq pin_wsX80 hown hE hP hO 23 (sg_23 G h0 a _ _ _ _ _) rfl 2 (by decide) (hq _ pw_776) (fun _ h9 => h9) rfl dX8_prefixed_70 ?_
          refine lv_iconst (v := 1) hx hb dX8_prefixed_73 (by decide) ?_
          refine lv_iadd hx hb dX8_prefixed_74 ?_
          refine lv_topi (fun x444 e445 => ?_)
          obtain rfl : x444 = nI (at9 + 1) := e445.trans (nI_add (at9) (1))
          refine c_put (v := .int (nI (at9 + 1))) (ty := .int) (C := RX8) (Tc := TX8) (N := 5) (ci := 5) hx hb hq pin_wsX80 tyX8 tyX8_ok nmX8 hown hE hP hD hS hO 23 (sg_23 G h0 a _ _ _ _ _) rfl 2 (by decide) (hq _ pw_776) (fun _ h9 => h9) rfl (by decide +kernel) rfl rfl (Nat.le_of_ble_eq_true rfl) (sf_9 G h0 a _ _ _ _ _ (nI (at9 + 1))) dX8_prefixed_75 (fun H locs w hP hD hS hO => ?_)
          refine lv_aload_n hx hb dX8_prefixed_78 rfl (lv_at hl 0 rfl) ?_
          refine lv_aload_n hx hb dX8_prefixed_79 rfl (lv_at hl 1 rfl) ?_
          have hO : OKP G h0 a (upd (upd (upd (upd (upd (upd (upd (upd (upd (upd F 2 (nI sz)) 9 (nI at9)) 10 (nI dp)) 11 (nI sg)) 9 (nI (at9 + 1))) 10 (nI (dp + 1))) 2 (nI sz)) 9 (nI (at9 + 1))) 10 (nI (dp + 1))) 11 (nI sg)) R Z B J K429 w := hO.to rfl
          obtain ⟨_, qr449, hqr450⟩ := hO.2.1 23 _ (sg_23 G h0 a _ _ _ _ _)
          refine pn_V0 (G := G) (As := []) (rest := [.ref q410]) hx hb hml hown hq hE hX pX0_al hP hD hS hA hl.1 ((ihp (by omega)) h0 a (upd (upd (upd (upd (upd (upd F 2 (nI sz)) 9 (nI at9)) 10 (nI dp)) 11 (nI sg)) 9 (nI (at9 + 1))) 10 (nI (dp + 1))) R Z B J K429 w (at9 + 1) sz (dp + 1) sg 0 (gset g q410 0 0 0) (by omega) (by omega) (by omega) (by omega) hns440.1 (fun o9 h9 => absurd h9 (by omega)) hO hl0) (gV pw_976 pw_977 pw_978 pw_796 pw_972) hV_X8_prefixed qr449 5 hqr450 rfl rfl rfl (Nat.le_of_ble_eq_true rfl) dX8_prefixed_80 ⟨(by show 1 + (2 * (sz - (at9 + 1)) + 19) ≤ (2 * (sz - at9) + 19); omega), (by show 11 + (11 * (2 * (sz - (at9 + 1)) + 19)) ≤ (11 * (2 * (sz - at9) + 19)); omega)⟩ ⟨(by show (40 * (n - 1) + 22) + 1 ≤ (40 * n + 22); omega), (by show 8 + (2 + 11) + (1300 * (n - 1) + 560) ≤ (1300 * n + 560); omega)⟩ (fun v448 u446 H locs hw447 hP hD hS => ?_) (fun ux ce9 q9 H9 locs9 hux hP9 hD9 hS9 hce hcv hcl => pb_out ux (ThQ.up (Thx.same (Thx.same (Thx.same (Thx.same (Thx.f (Thx.f Thx.rfl (by omega)) (by omega)) rfl) rfl) rfl) rfl) RhX.rfl hux) hnt hlocks hce hcv hcl hP9 hD9 hS9 (by show 1 + (2 * (sz - (at9 + 1)) + 19) ≤ (2 * (sz - at9) + 19); omega) (by show 11 + (11 * (2 * (sz - (at9 + 1)) + 19)) ≤ (11 * (2 * (sz - at9) + 19)); omega))
          obtain ⟨w, r451, K452, g453, at454, sg455, f456, k457⟩ := u446
          obtain ⟨hw447, h458, h459, h460, h461, h462, h463, hO⟩ := hw447
          have h458 : NwR K429 K452 (gset g q410 0 0 0) g453 r451 0 k457 ((5 * (20 - (dp + 1)) + 4 + (sg455 - sg))) := h458
          have h459 : (at9 + 1) ≤ rS k457 ∧ rS k457 + 1 ≤ rE k457 ∧ rE k457 ≤ at454 ∧ 1 ≤ rD k457 ∧ rD k457 ≤ 9 * (20 - (dp + 1)) + (sg455 - sg) + 1 := h459
          have h460 : (at9 + 1) + 1 ≤ at454 ∧ at454 ≤ sz := h460
          have h461 : sg ≤ sg455 ∧ sg455 ≤ 60 := h461
          have h462 : ¬ tkN ((B 7)) sz 67 (nI (at9 + 1)) = 37 := h462
          have h463 : NwT ((B 7)) sz ((B 10)) f456 K429 K452 (at9 + 1) at454 := h463
          obtain rfl : v448 = some (.ref r451) := hw447
          have hf464 : K452.1 q410 = 1 := (((h458).2.1.1 q410 (by rw [hf432]; decide)).1).trans hf432
          have hf465 : K452.2.1 0 q410 = 15 := (((h458).2.1.1 q410 (by rw [hf432]; decide)).2.1 0).trans hf433
          have hf466 : K452.2.1 2 q410 = (nI at9) := (((h458).2.1.1 q410 (by rw [hf432]; decide)).2.1 2).trans hf434
          have hf467 : K452.2.2.1 0 q410 = none := (((h458).2.1.1 q410 (by rw [hf432]; decide)).2.2.1 0).trans hf435
          have hf468 : K452.2.2.1 1 q410 = none := (((h458).2.1.1 q410 (by rw [hf432]; decide)).2.2.1 1).trans hf436
          have hf469 : K452.2.2.1 2 q410 = none := (((h458).2.1.1 q410 (by rw [hf432]; decide)).2.2.1 2).trans hf437
          have hf470 : K452.2.2.1 3 q410 = none := (((h458).2.1.1 q410 (by rw [hf432]; decide)).2.2.1 3).trans hf438
          have hf471 : K452.2.2.1 4 q410 = none := (((h458).2.1.1 q410 (by rw [hf432]; decide)).2.2.1 4).trans hf439
          have hO : OKP G h0 a (upd (upd (upd (upd F 2 (nI sz)) 9 (nI at454)) 10 (nI (dp + 1))) 11 (nI sg455)) R Z (updA B 10 f456) J K452 w := hO.to rfl
          refine W.widen (k := (1 + (2 * (at454 - (at9 + 1)) - 1))) (n := (11 + (11 * (2 * (at454 - (at9 + 1)) - 1)))) (by show 1 + (2 * (at454 - (at9 + 1)) - 1) ≤ (1 + (2 * (at454 - (at9 + 1)) - 1)); omega) (by show 11 + (11 * (2 * (at454 - (at9 + 1)) - 1)) ≤ (11 + (11 * (2 * (at454 - (at9 + 1)) - 1))); omega) ?_
          refine W.eq (g2 := F0 m 83 ls [.ref r451, .ref q410]) rfl ?_
          have htk472 : NwT (B 7) sz (B 10) f456 K K452 at9 at454 := (NwT.call htk431 h463 (by omega))
          have hns473 : NwS K K452 g g453 := NwS.call hns440 h458 (fun o9 h9 => absurd h9 (by omega))
          have hrk474 : g453 2 r451 = k457 := h458.2.2.1.2.2.2.2.2.1
          have hf475 : K452.1 r451 = 1 := h458.2.2.1.2.1
          have hg476 : g453 0 q410 = 0 := (h458.2.1.2 q410 (by rw [hf432]; decide) 0).trans hg442
          have hno477 : NoO K452 g453 q410 := NoO.call hno443 h458 hf432 (by omega)
          refine p_put (v := .ref r451) (ty := (.object "JinjaTongue$Node")) (C := RX7) (Tc := TX7) (N := 11) (ci := 13) (K' := (kC K452 0 q410 (some r451))) hx hb hq pin_wsX70 tyX7 tyX7_ok nmX7 hown hE hP hD hS hO (by rw [hf464]; decide) (rep_1 hf464) rfl 6 (by decide) (hq _ pw_938) (fun _ h9 => h9) rfl (by decide +kernel) rfl rfl (Nat.le_of_ble_eq_true rfl) rfl (by rw [rep_1 (show (kC K452 0 q410 (some r451)).1 q410 = 1 from hf464), pc_0] <;> rfl) (fun p9 hp9 => rep_kC hp9) dX8_prefixed_83 (fun H locs w hP hD hS hO => ?_)
          obtain ⟨K478, hK479⟩ : ∃ z : PK, z = (kC K452 0 q410 (some r451)) := ⟨_, rfl⟩
          rw [← hK479] at hO
          have hf480 : K478.1 q410 = 1 := (by rw [hK479]; exact hf464)
          have hf481 : K478.2.1 0 q410 = 15 := (by rw [hK479]; exact hf465)
          have hf482 : K478.2.1 2 q410 = (nI at9) := (by rw [hK479]; exact hf466)
          have hf483 : K478.2.2.1 1 q410 = none := (by rw [hK479]; exact (kC_of (by decide)).trans hf468)
          have hf484 : K478.2.2.1 2 q410 = none := (by rw [hK479]; exact (kC_of (by decide)).trans hf469)
          have hf485 : K478.2.2.1 3 q410 = none := (by rw [hK479]; exact (kC_of (by decide)).trans hf470)
          have hf486 : K478.2.2.1 4 q410 = none := (by rw [hK479]; exact (kC_of (by decide)).trans hf471)
          have hf487 : K478.1 r451 = 1 := (by rw [hK479]; exact hf475)
          have hf488 : K478.2.2.1 0 q410 = some r451 := by rw [hK479]; exact kC_eq
          have htk489 : NwT (B 7) sz (B 10) f456 K K478 at9 at454 := by rw [hK479]; exact NwT.put htk472
          have hns490 : NwS K K478 g g453 := by rw [hK479]; exact NwS.put hns473 hq441 hg476
          have hno491 : NoO K478 g453 q410 := by rw [hK479]; exact hno477
          refine lv_aload_n hx hb dX8_prefixed_86 rfl (lv_at hl 1 rfl) ?_
          have hO : OKW G h0 a (upd (upd (upd (upd (upd F 2 (nI sz)) 9 (nI at454)) 10 (nI (dp + 1))) 11 (nI sg455)) 10 (nI (dp + 1))) R Z (updA B 10 f456) J K478.1 (fun q99 x99 => x99 = rep G a K478 q99) w := hO.to rfl
          obtain ⟨_, qr495, hqr496⟩ := hO.2.1 23 _ (sg_23 G h0 a _ _ _ _ _)
          refine pc_V0 (G := G) (As := []) (rest := []) hx hb hml hown hq hE hX pX0_al hP hD hS hA hl.1 (P_leave l G h0 a (upd (upd (upd (upd F 2 (nI sz)) 9 (nI at454)) 10 (nI (dp + 1))) 11 (nI sg455)) R Z (updA B 10 f456) J K478.1 (fun q99 x99 => x99 = rep G a K478 q99) w (dp + 1) (by omega) hO) (gV pw_950 pw_951 pw_952 pw_796 pw_906) hV_X8_leave qr495 5 hqr496 rfl rfl rfl (Nat.le_of_ble_eq_true rfl) dX8_prefixed_87 ⟨(by show (1 + (2 * (at454 - (at9 + 1)) - 1)) + 0 ≤ (2 * (sz - at9) + 19); omega), (by show (11 + (11 * (2 * (at454 - (at9 + 1)) - 1))) + 0 ≤ (11 * (2 * (sz - at9) + 19)); omega)⟩ ⟨(by show 2 + 1 ≤ (40 * n + 22); omega), (by show 8 + (1 + 11) + 60 ≤ (1300 * n + 560); omega)⟩ (fun v494 u492 H locs hw493 hP hD hS => ?_)
          obtain ⟨w, _⟩ := u492
          obtain ⟨hw493, hO⟩ := hw493
          obtain rfl : v494 = none := hw493
          have hO : OKP G h0 a (upd (upd (upd (upd F 2 (nI sz)) 9 (nI at454)) 10 (nI ((dp + 1) - 1))) 11 (nI sg455)) R Z (updA B 10 f456) J K478 w := hO.to rfl
          refine W.widen (k := (1 + (2 * (at454 - (at9 + 1)) - 1))) (n := (11 + (11 * (2 * (at454 - (at9 + 1)) - 1)))) (by show (1 + (2 * (at454 - (at9 + 1)) - 1)) + 0 ≤ (1 + (2 * (at454 - (at9 + 1)) - 1)); omega) (by show (11 + (11 * (2 * (at454 - (at9 + 1)) - 1))) + 0 ≤ (11 + (11 * (2 * (at454 - (at9 + 1)) - 1))); omega) ?_
          refine W.eq (g2 := F0 m 90 ls []) rfl ?_
          refine lv_aload_n hx hb dX8_prefixed_90 rfl (lv_at hl 0 rfl) ?_
          refine W_size (fun hz1 hz2 => ?_)
          refine vx_ret ?_
          have hlr := h458.2.2.1
          have hlr1 := hlr.2.2.1
          have hlr2 := hlr.2.2.2.1
          obtain ⟨k9497, k9497I, k9497S, k9497E, k9497M, k9497N, k9497X, k9497D⟩ := rk_ex (s := at9) (e := at454) (m := at9) (n := at9) (x := 0) (d := (9 * (20 - dp) + (sg455 - sg) + 1)) (by omega)
          have hkid : ∀ f9 y9 : Nat, f9 ≤ 3 → K478.2.2.1 f9 q410 = some y9 → K478.1 y9 = 1 ∧ 1 ≤ g453 0 y9 ∧ g453 0 y9 < (5 * (20 - dp) + 4 + (sg455 - sg)) := by
            intro f9 y9 hf9 hy9
            rcases (show f9 = 0 ∨ f9 = 1 ∨ f9 = 2 ∨ f9 = 3 by omega) with rfl | rfl | rfl | rfl
            · rw [hf488] at hy9; cases hy9; exact ⟨hf487, hlr1, by omega⟩
            · rw [hf483] at hy9; cases hy9
            · rw [hf484] at hy9; cases hy9
            · rw [hf485] at hy9; cases hy9
          have hkc498 : ∀ f9 y9 : Nat, f9 ≤ 3 → K478.2.2.1 f9 q410 = some y9 → Kch (K478.2.1 0 q410) f9 (K478.2.1 0 y9) k9497 (g453 2 y9) := by
            intro f9 y9 hf9 hy9
            rcases (show f9 = 0 ∨ f9 = 1 ∨ f9 = 2 ∨ f9 = 3 by omega) with rfl | rfl | rfl | rfl
            · rw [hf488] at hy9; cases hy9; rw [hrk474]; rw [hf481] <;> exact ⟨(fun z => absurd z (by decide)), (fun z => absurd z (by decide)), (fun z => absurd z (by decide)), (fun _ _ => (by omega)), (fun z => absurd z (by decide)), (fun z => absurd z (by decide)), (fun z => absurd z (by decide)), (fun z => absurd z (by decide)), (fun z => absurd z (by decide)), (fun z => absurd z (by decide)), (fun z => absurd z (by decide)), (fun z => absurd z (by decide)), (fun z => absurd z (by decide)), (fun z => absurd z (by decide)), (fun z => absurd z (by decide)), (fun z => absurd z (by decide)), (fun z => absurd z (by decide)), (fun z => absurd z (by decide)), (fun z => absurd z (by decide)), (fun z => absurd z (by decide)), (fun z => absurd z (by decide)), (fun z => absurd z (by decide)), (fun z => absurd z (by decide)), (fun z => absurd z (by decide))⟩
            · rw [hf483] at hy9; cases hy9
            · rw [hf484] at hy9; cases hy9
            · rw [hf485] at hy9; cases hy9
          have hdn := NwS.done1I (q := q410) (L := (5 * (20 - dp) + 4 + (sg455 - sg))) (O := O) (k := k9497) hns490 hq441 hf480 hg476 (by omega) ⟨k9497I, (by rw [hf481] <;> exact ⟨(fun z => absurd z (by decide)), (fun z => absurd z (by decide)), (fun z => absurd z (by decide))⟩)⟩ (by rw [hf481]; exact ⟨fun _ => (by show ¬ K478.2.2.1 0 q410 = none; rw [hf488]; intro z; cases z), fun z => absurd z (by decide), fun z => absurd z (by decide), fun z => absurd z (by decide), fun z => absurd z (by decide)⟩) (fun f9 z => by rw [hf481] at z; rcases z with ⟨z, _⟩ | ⟨z | z | z, _⟩ <;> exact absurd z (by decide)) hkid hf486 hno491 hkc498 how
          have hz499 : NwR K K478 g (gset g453 q410 (5 * (20 - dp) + 4 + (sg455 - sg)) O k9497) q410 O k9497 ((5 * (20 - dp) + 4 + (sg455 - sg))) := hdn
          have hz500 : at9 ≤ rS k9497 ∧ rS k9497 + 1 ≤ rE k9497 ∧ rE k9497 ≤ at454 ∧ 1 ≤ rD k9497 ∧ rD k9497 ≤ 9 * (20 - dp) + (sg455 - sg) + 1 := (by omega)
          have hz501 : at9 + 1 ≤ at454 ∧ at454 ≤ sz := (by omega)
          have hz502 : sg ≤ sg455 ∧ sg455 ≤ 60 := (by omega)
          have hz503 : ¬ tkN (B 7) sz 67 (nI at9) = 37 := (by rw [h401.1 (by omega)]; decide)
          have hz504 : NwT (B 7) sz (B 10) f456 K K478 at9 at454 := (NwT.le htk489 (by omega))
          have hO : OKP G h0 a (upd (upd (upd (upd F 2 (nI sz)) 9 (nI at454)) 10 (nI dp)) 11 (nI sg455)) R Z (updA B 10 f456) J K478 w := hO.to rfl
          refine W.widen (k := (2 * (sz - at9) + 19)) (n := (11 * (2 * (sz - at9) + 19))) (by omega) (by omega) ?_
          have hzz1 : H.size ≤ s.heap.size + ((2 * (at454 - at9) - 1)) := (by have z : (1 + (2 * (at454 - (at9 + 1)) - 1)) ≤ (2 * (at454 - at9) - 1) := (by omega); omega)
          have hzz2 : hSl H ≤ hSl s.heap + ((11 * (2 * (at454 - at9) - 1))) := (by have z : (11 + (11 * (2 * (at454 - (at9 + 1)) - 1))) ≤ (11 * (2 * (at454 - at9) - 1)) := (by omega); omega)
          exact W.aret (v := .ref q410) hx hb hr (Or.inl ⟨_, rfl⟩) (Or.inr ⟨_, rfl⟩) (fun t99 ht99 hW99 => ⟨⟨_, (w, (q410, K478, (gset g453 q410 (5 * (20 - dp) + 4 + (sg455 - sg)) O k9497), at454, sg455, f456, k9497)), rfl, ⟨rfl, hz499, hz500, hz501, hz502, hz503, hz504, hO⟩, by rw [ht99]; exact hP, hD, by rw [ht99]; exact hzz1, by rw [ht99]; exact hzz2⟩, hS.F ht99⟩) hS.2.2 dX8_prefixed_91
        · have n505 : ¬ (r418 = 0) := fun h9 => c421 ((nI_eq (a := r418) (b := 0) (by omega) (by omega)).mpr h9)
          refine lv_bipush (v := 16) hx hb dX8_prefixed_49 (by decide) ?_
          refine lv_goto (tgt := 56) hx hb dX8_prefixed_51 (by decide) ?_
          refine lv_aload_n hx hb dX8_prefixed_56 rfl (lv_at hl 0 rfl) ?_
          refine c_get (v := .int (nI at9)) (C := RX8) (Tc := TX8) (N := 5) (ci := 5) hx hb hq pin_wsX80 hown hE hP hO 23 (sg_23 G h0 a _ _ _ _ _) rfl 2 (by decide) (hq _ pw_776) (fun _ h9 => h9) rfl dX8_prefixed_57 ?_
          refine lv_aload_n hx hb dX8_prefixed_60 rfl (lv_at hl 0 rfl) ?_
          refine c_get (v := .int (nI at9)) (C := RX8) (Tc := TX8) (N := 5) (ci := 5) hx hb hq pin_wsX80 hown hE hP hO 23 (sg_23 G h0 a _ _ _ _ _) rfl 2 (by decide) (hq _ pw_776) (fun _ h9 => h9) rfl dX8_prefixed_61 ?_
          have hO : OKP G h0 a (upd (upd (upd (upd F 2 (nI sz)) 9 (nI at9)) 10 (nI (dp + 1))) 11 (nI sg)) R Z B J (kN K q410 1 0) w := hO.to rfl
          obtain ⟨qr509, hqr510⟩ := p_recv hO (by rw [hf412]; decide) (rep_1 hf412)
          refine pc_I0 (G := G) (As := [.int 16, .int (nI at9), .int (nI at9)]) (rest := [.ref q410]) hx hb hml hown hq hE hX pX0_al hP hD hS hA hl.1 (N_init l G h0 a (upd (upd (upd (upd F 2 (nI sz)) 9 (nI at9)) 10 (nI (dp + 1))) 11 (nI sg)) R Z B J (kN K q410 1 0) w q410 16 (nI at9) (nI at9) (by omega) hO) pw_874 pw_875 pw_872 pw_765 rfl hS_X7_init rfl (Nat.le_of_ble_eq_true rfl) dX8_prefixed_64 ⟨(by show 1 + 0 ≤ (2 * (sz - at9) + 19); omega), (by show 11 + 0 ≤ (11 * (2 * (sz - at9) + 19)); omega)⟩ ⟨(by show 2 + 1 ≤ (40 * n + 22); omega), (by show 8 + (4 + 11) + 60 ≤ (1300 * n + 560); omega)⟩ (fun v508 u506 H locs hw507 hP hD hS => ?_)
          obtain ⟨w, _⟩ := u506
          obtain ⟨hw507, hO⟩ := hw507
          obtain rfl : v508 = none := hw507
          have hf511 : (kI (kI (kI (kN K q410 1 0) 0 q410 16) 1 q410 (nI at9)) 2 q410 (nI at9)).1 q410 = 1 := hf412
          have hO : OKP G h0 a (upd (upd (upd (upd F 2 (nI sz)) 9 (nI at9)) 10 (nI (dp + 1))) 11 (nI sg)) R Z B J (kI (kI (kI (kN K q410 1 0) 0 q410 16) 1 q410 (nI at9)) 2 q410 (nI at9)) w := hO.to rfl
          refine W.widen (k := 1) (n := 11) (by show 1 + 0 ≤ 1; omega) (by show 11 + 0 ≤ 11; omega) ?_
          refine W.eq (g2 := F0 m 67 ls [.ref q410]) rfl ?_
          change OKP G h0 a (upd (upd (upd (upd F 2 (nI sz)) 9 (nI at9)) 10 (nI (dp + 1))) 11 (nI sg)) R Z B J (mkN K q410 16 (nI at9) (nI at9)) w at hO
          obtain ⟨K512, hK513⟩ : ∃ z : PK, z = (mkN K q410 16 (nI at9) (nI at9)) := ⟨_, rfl⟩
          rw [← hK513] at hO
          have htk514 : NwT (B 7) sz (B 10) (B 10) K K512 at9 at9 := by rw [hK513]; exact NwT.new (NwT.le htk0 (show _ ≤ at9 by omega)) hq411 (TkP.no (by decide))
          have hf515 : K512.1 q410 = 1 := by rw [hK513]; exact mkN_T
          have hf516 : K512.2.1 0 q410 = 16 := by rw [hK513]; exact mkN_0
          have hf517 : K512.2.1 2 q410 = (nI at9) := by rw [hK513]; exact mkN_2
          have hf518 : K512.2.2.1 0 q410 = none := by rw [hK513]; exact mkN_C
          have hf519 : K512.2.2.1 1 q410 = none := by rw [hK513]; exact mkN_C
          have hf520 : K512.2.2.1 2 q410 = none := by rw [hK513]; exact mkN_C
          have hf521 : K512.2.2.1 3 q410 = none := by rw [hK513]; exact mkN_C
          have hf522 : K512.2.2.1 4 q410 = none := by rw [hK513]; exact mkN_C
          have hns523 : NwS K K512 g (gset g q410 0 0 0) := by rw [hK513]; exact NwS.node hns0 hq411
          have hq524 : K.1 q410 = 0 := old_T hns0.2.1 hq411
          have hg525 : (gset g q410 0 0 0) 0 q410 = 0 := gset_0
          have hno526 : NoO K512 (gset g q410 0 0 0) q410 := by rw [hK513]; exact NoO.new hns0.1 hq411
          refine lv_astore_n (lv' := [(1, .ref q410), (0, .ref (a 3))]) hx hb dX8_prefixed_67 rfl hl (by decide) rfl (fun ls hl => ?_)
          refine lv_aload_n hx hb dX8_prefixed_68 rfl (lv_at hl 1 rfl) ?_
          refine lv_dup hx hb dX8_prefixed_69 rfl ?_
          refine c_get (v := .int (nI at9)) (C := RX8) (Tc := TX8) (N := 5) (ci := 5) hx hb hq pin_wsX80 hown hE hP hO 23 (sg_23 G h0 a _ _ _ _ _) rfl 2 (by decide) (hq _ pw_776) (fun _ h9 => h9) rfl dX8_prefixed_70 ?_
          refine lv_iconst (v := 1) hx hb dX8_prefixed_73 (by decide) ?_
          refine lv_iadd hx hb dX8_prefixed_74 ?_
          refine lv_topi (fun x527 e528 => ?_)
          obtain rfl : x527 = nI (at9 + 1) := e528.trans (nI_add (at9) (1))
          refine c_put (v := .int (nI (at9 + 1))) (ty := .int) (C := RX8) (Tc := TX8) (N := 5) (ci := 5) hx hb hq pin_wsX80 tyX8 tyX8_ok nmX8 hown hE hP hD hS hO 23 (sg_23 G h0 a _ _ _ _ _) rfl 2 (by decide) (hq _ pw_776) (fun _ h9 => h9) rfl (by decide +kernel) rfl rfl (Nat.le_of_ble_eq_true rfl) (sf_9 G h0 a _ _ _ _ _ (nI (at9 + 1))) dX8_prefixed_75 (fun H locs w hP hD hS hO => ?_)
          refine lv_aload_n hx hb dX8_prefixed_78 rfl (lv_at hl 0 rfl) ?_
          refine lv_aload_n hx hb dX8_prefixed_79 rfl (lv_at hl 1 rfl) ?_
          have hO : OKP G h0 a (upd (upd (upd (upd (upd (upd (upd (upd (upd (upd F 2 (nI sz)) 9 (nI at9)) 10 (nI dp)) 11 (nI sg)) 9 (nI (at9 + 1))) 10 (nI (dp + 1))) 2 (nI sz)) 9 (nI (at9 + 1))) 10 (nI (dp + 1))) 11 (nI sg)) R Z B J K512 w := hO.to rfl
          obtain ⟨_, qr532, hqr533⟩ := hO.2.1 23 _ (sg_23 G h0 a _ _ _ _ _)
          refine pn_V0 (G := G) (As := []) (rest := [.ref q410]) hx hb hml hown hq hE hX pX0_al hP hD hS hA hl.1 ((ihp (by omega)) h0 a (upd (upd (upd (upd (upd (upd F 2 (nI sz)) 9 (nI at9)) 10 (nI dp)) 11 (nI sg)) 9 (nI (at9 + 1))) 10 (nI (dp + 1))) R Z B J K512 w (at9 + 1) sz (dp + 1) sg 0 (gset g q410 0 0 0) (by omega) (by omega) (by omega) (by omega) hns523.1 (fun o9 h9 => absurd h9 (by omega)) hO hl0) (gV pw_976 pw_977 pw_978 pw_796 pw_972) hV_X8_prefixed qr532 5 hqr533 rfl rfl rfl (Nat.le_of_ble_eq_true rfl) dX8_prefixed_80 ⟨(by show 1 + (2 * (sz - (at9 + 1)) + 19) ≤ (2 * (sz - at9) + 19); omega), (by show 11 + (11 * (2 * (sz - (at9 + 1)) + 19)) ≤ (11 * (2 * (sz - at9) + 19)); omega)⟩ ⟨(by show (40 * (n - 1) + 22) + 1 ≤ (40 * n + 22); omega), (by show 8 + (2 + 11) + (1300 * (n - 1) + 560) ≤ (1300 * n + 560); omega)⟩ (fun v531 u529 H locs hw530 hP hD hS => ?_) (fun ux ce9 q9 H9 locs9 hux hP9 hD9 hS9 hce hcv hcl => pb_out ux (ThQ.up (Thx.same (Thx.same (Thx.same (Thx.same (Thx.f (Thx.f Thx.rfl (by omega)) (by omega)) rfl) rfl) rfl) rfl) RhX.rfl hux) hnt hlocks hce hcv hcl hP9 hD9 hS9 (by show 1 + (2 * (sz - (at9 + 1)) + 19) ≤ (2 * (sz - at9) + 19); omega) (by show 11 + (11 * (2 * (sz - (at9 + 1)) + 19)) ≤ (11 * (2 * (sz - at9) + 19)); omega))
          obtain ⟨w, r534, K535, g536, at537, sg538, f539, k540⟩ := u529
          obtain ⟨hw530, h541, h542, h543, h544, h545, h546, hO⟩ := hw530
          have h541 : NwR K512 K535 (gset g q410 0 0 0) g536 r534 0 k540 ((5 * (20 - (dp + 1)) + 4 + (sg538 - sg))) := h541
          have h542 : (at9 + 1) ≤ rS k540 ∧ rS k540 + 1 ≤ rE k540 ∧ rE k540 ≤ at537 ∧ 1 ≤ rD k540 ∧ rD k540 ≤ 9 * (20 - (dp + 1)) + (sg538 - sg) + 1 := h542
          have h543 : (at9 + 1) + 1 ≤ at537 ∧ at537 ≤ sz := h543
          have h544 : sg ≤ sg538 ∧ sg538 ≤ 60 := h544
          have h545 : ¬ tkN ((B 7)) sz 67 (nI (at9 + 1)) = 37 := h545
          have h546 : NwT ((B 7)) sz ((B 10)) f539 K512 K535 (at9 + 1) at537 := h546
          obtain rfl : v531 = some (.ref r534) := hw530
          have hf547 : K535.1 q410 = 1 := (((h541).2.1.1 q410 (by rw [hf515]; decide)).1).trans hf515
          have hf548 : K535.2.1 0 q410 = 16 := (((h541).2.1.1 q410 (by rw [hf515]; decide)).2.1 0).trans hf516
          have hf549 : K535.2.1 2 q410 = (nI at9) := (((h541).2.1.1 q410 (by rw [hf515]; decide)).2.1 2).trans hf517
          have hf550 : K535.2.2.1 0 q410 = none := (((h541).2.1.1 q410 (by rw [hf515]; decide)).2.2.1 0).trans hf518
          have hf551 : K535.2.2.1 1 q410 = none := (((h541).2.1.1 q410 (by rw [hf515]; decide)).2.2.1 1).trans hf519
          have hf552 : K535.2.2.1 2 q410 = none := (((h541).2.1.1 q410 (by rw [hf515]; decide)).2.2.1 2).trans hf520
          have hf553 : K535.2.2.1 3 q410 = none := (((h541).2.1.1 q410 (by rw [hf515]; decide)).2.2.1 3).trans hf521
          have hf554 : K535.2.2.1 4 q410 = none := (((h541).2.1.1 q410 (by rw [hf515]; decide)).2.2.1 4).trans hf522
          have hO : OKP G h0 a (upd (upd (upd (upd F 2 (nI sz)) 9 (nI at537)) 10 (nI (dp + 1))) 11 (nI sg538)) R Z (updA B 10 f539) J K535 w := hO.to rfl
          refine W.widen (k := (1 + (2 * (at537 - (at9 + 1)) - 1))) (n := (11 + (11 * (2 * (at537 - (at9 + 1)) - 1)))) (by show 1 + (2 * (at537 - (at9 + 1)) - 1) ≤ (1 + (2 * (at537 - (at9 + 1)) - 1)); omega) (by show 11 + (11 * (2 * (at537 - (at9 + 1)) - 1)) ≤ (11 + (11 * (2 * (at537 - (at9 + 1)) - 1))); omega) ?_
          refine W.eq (g2 := F0 m 83 ls [.ref r534, .ref q410]) rfl ?_
          have htk555 : NwT (B 7) sz (B 10) f539 K K535 at9 at537 := (NwT.call htk514 h546 (by omega))
          have hns556 : NwS K K535 g g536 := NwS.call hns523 h541 (fun o9 h9 => absurd h9 (by omega))
          have hrk557 : g536 2 r534 = k540 := h541.2.2.1.2.2.2.2.2.1
          have hf558 : K535.1 r534 = 1 := h541.2.2.1.2.1
          have hg559 : g536 0 q410 = 0 := (h541.2.1.2 q410 (by rw [hf515]; decide) 0).trans hg525
          have hno560 : NoO K535 g536 q410 := NoO.call hno526 h541 hf515 (by omega)
          refine p_put (v := .ref r534) (ty := (.object "JinjaTongue$Node")) (C := RX7) (Tc := TX7) (N := 11) (ci := 13) (K' := (kC K535 0 q410 (some r534))) hx hb hq pin_wsX70 tyX7 tyX7_ok nmX7 hown hE hP hD hS hO (by rw [hf547]; decide) (rep_1 hf547) rfl 6 (by decide) (hq _ pw_938) (fun _ h9 => h9) rfl (by decide +kernel) rfl rfl (Nat.le_of_ble_eq_true rfl) rfl (by rw [rep_1 (show (kC K535 0 q410 (some r534)).1 q410 = 1 from hf547), pc_0] <;> rfl) (fun p9 hp9 => rep_kC hp9) dX8_prefixed_83 (fun H locs w hP hD hS hO => ?_)
          obtain ⟨K561, hK562⟩ : ∃ z : PK, z = (kC K535 0 q410 (some r534)) := ⟨_, rfl⟩
          rw [← hK562] at hO
          have hf563 : K561.1 q410 = 1 := (by rw [hK562]; exact hf547)
          have hf564 : K561.2.1 0 q410 = 16 := (by rw [hK562]; exact hf548)
          have hf565 : K561.2.1 2 q410 = (nI at9) := (by rw [hK562]; exact hf549)
          have hf566 : K561.2.2.1 1 q410 = none := (by rw [hK562]; exact (kC_of (by decide)).trans hf551)
          have hf567 : K561.2.2.1 2 q410 = none := (by rw [hK562]; exact (kC_of (by decide)).trans hf552)
          have hf568 : K561.2.2.1 3 q410 = none := (by rw [hK562]; exact (kC_of (by decide)).trans hf553)
          have hf569 : K561.2.2.1 4 q410 = none := (by rw [hK562]; exact (kC_of (by decide)).trans hf554)
          have hf570 : K561.1 r534 = 1 := (by rw [hK562]; exact hf558)
          have hf571 : K561.2.2.1 0 q410 = some r534 := by rw [hK562]; exact kC_eq
          have htk572 : NwT (B 7) sz (B 10) f539 K K561 at9 at537 := by rw [hK562]; exact NwT.put htk555
          have hns573 : NwS K K561 g g536 := by rw [hK562]; exact NwS.put hns556 hq524 hg559
          have hno574 : NoO K561 g536 q410 := by rw [hK562]; exact hno560
          refine lv_aload_n hx hb dX8_prefixed_86 rfl (lv_at hl 1 rfl) ?_
          have hO : OKW G h0 a (upd (upd (upd (upd (upd F 2 (nI sz)) 9 (nI at537)) 10 (nI (dp + 1))) 11 (nI sg538)) 10 (nI (dp + 1))) R Z (updA B 10 f539) J K561.1 (fun q99 x99 => x99 = rep G a K561 q99) w := hO.to rfl
          obtain ⟨_, qr578, hqr579⟩ := hO.2.1 23 _ (sg_23 G h0 a _ _ _ _ _)
          refine pc_V0 (G := G) (As := []) (rest := []) hx hb hml hown hq hE hX pX0_al hP hD hS hA hl.1 (P_leave l G h0 a (upd (upd (upd (upd F 2 (nI sz)) 9 (nI at537)) 10 (nI (dp + 1))) 11 (nI sg538)) R Z (updA B 10 f539) J K561.1 (fun q99 x99 => x99 = rep G a K561 q99) w (dp + 1) (by omega) hO) (gV pw_950 pw_951 pw_952 pw_796 pw_906) hV_X8_leave qr578 5 hqr579 rfl rfl rfl (Nat.le_of_ble_eq_true rfl) dX8_prefixed_87 ⟨(by show (1 + (2 * (at537 - (at9 + 1)) - 1)) + 0 ≤ (2 * (sz - at9) + 19); omega), (by show (11 + (11 * (2 * (at537 - (at9 + 1)) - 1))) + 0 ≤ (11 * (2 * (sz - at9) + 19)); omega)⟩ ⟨(by show 2 + 1 ≤ (40 * n + 22); omega), (by show 8 + (1 + 11) + 60 ≤ (1300 * n + 560); omega)⟩ (fun v577 u575 H locs hw576 hP hD hS => ?_)
          obtain ⟨w, _⟩ := u575
          obtain ⟨hw576, hO⟩ := hw576
          obtain rfl : v577 = none := hw576
          have hO : OKP G h0 a (upd (upd (upd (upd F 2 (nI sz)) 9 (nI at537)) 10 (nI ((dp + 1) - 1))) 11 (nI sg538)) R Z (updA B 10 f539) J K561 w := hO.to rfl
          refine W.widen (k := (1 + (2 * (at537 - (at9 + 1)) - 1))) (n := (11 + (11 * (2 * (at537 - (at9 + 1)) - 1)))) (by show (1 + (2 * (at537 - (at9 + 1)) - 1)) + 0 ≤ (1 + (2 * (at537 - (at9 + 1)) - 1)); omega) (by show (11 + (11 * (2 * (at537 - (at9 + 1)) - 1))) + 0 ≤ (11 + (11 * (2 * (at537 - (at9 + 1)) - 1))); omega) ?_
          refine W.eq (g2 := F0 m 90 ls []) rfl ?_
          refine lv_aload_n hx hb dX8_prefixed_90 rfl (lv_at hl 0 rfl) ?_
          refine W_size (fun hz1 hz2 => ?_)
          refine vx_ret ?_
          have hlr := h541.2.2.1
          have hlr1 := hlr.2.2.1
          have hlr2 := hlr.2.2.2.1
          obtain ⟨k9580, k9580I, k9580S, k9580E, k9580M, k9580N, k9580X, k9580D⟩ := rk_ex (s := at9) (e := at537) (m := at9) (n := at9) (x := 0) (d := (9 * (20 - dp) + (sg538 - sg) + 1)) (by omega)
          have hkid : ∀ f9 y9 : Nat, f9 ≤ 3 → K561.2.2.1 f9 q410 = some y9 → K561.1 y9 = 1 ∧ 1 ≤ g536 0 y9 ∧ g536 0 y9 < (5 * (20 - dp) + 4 + (sg538 - sg)) := by
            intro f9 y9 hf9 hy9
            rcases (show f9 = 0 ∨ f9 = 1 ∨ f9 = 2 ∨ f9 = 3 by omega) with rfl | rfl | rfl | rfl
            · rw [hf571] at hy9; cases hy9; exact ⟨hf570, hlr1, by omega⟩
            · rw [hf566] at hy9; cases hy9
            · rw [hf567] at hy9; cases hy9
            · rw [hf568] at hy9; cases hy9
          have hkc581 : ∀ f9 y9 : Nat, f9 ≤ 3 → K561.2.2.1 f9 q410 = some y9 → Kch (K561.2.1 0 q410) f9 (K561.2.1 0 y9) k9580 (g536 2 y9) := by
            intro f9 y9 hf9 hy9
            rcases (show f9 = 0 ∨ f9 = 1 ∨ f9 = 2 ∨ f9 = 3 by omega) with rfl | rfl | rfl | rfl
            · rw [hf571] at hy9; cases hy9; rw [hrk557]; rw [hf564] <;> exact ⟨(fun z => absurd z (by decide)), (fun z => absurd z (by decide)), (fun z => absurd z (by decide)), (fun _ _ => (by omega)), (fun z => absurd z (by decide)), (fun z => absurd z (by decide)), (fun z => absurd z (by decide)), (fun z => absurd z (by decide)), (fun z => absurd z (by decide)), (fun z => absurd z (by decide)), (fun z => absurd z (by decide)), (fun z => absurd z (by decide)), (fun z => absurd z (by decide)), (fun z => absurd z (by decide)), (fun z => absurd z (by decide)), (fun z => absurd z (by decide)), (fun z => absurd z (by decide)), (fun z => absurd z (by decide)), (fun z => absurd z (by decide)), (fun z => absurd z (by decide)), (fun z => absurd z (by decide)), (fun z => absurd z (by decide)), (fun z => absurd z (by decide)), (fun z => absurd z (by decide))⟩
            · rw [hf566] at hy9; cases hy9
            · rw [hf567] at hy9; cases hy9
            · rw [hf568] at hy9; cases hy9
          have hdn := NwS.done1I (q := q410) (L := (5 * (20 - dp) + 4 + (sg538 - sg))) (O := O) (k := k9580) hns573 hq524 hf563 hg559 (by omega) ⟨k9580I, (by rw [hf564] <;> exact ⟨(fun z => absurd z (by decide)), (fun z => absurd z (by decide)), (fun z => absurd z (by decide))⟩)⟩ (by rw [hf564]; exact ⟨fun _ => (by show ¬ K561.2.2.1 0 q410 = none; rw [hf571]; intro z; cases z), fun z => absurd z (by decide), fun z => absurd z (by decide), fun z => absurd z (by decide), fun z => absurd z (by decide)⟩) (fun f9 z => by rw [hf564] at z; rcases z with ⟨z, _⟩ | ⟨z | z | z, _⟩ <;> exact absurd z (by decide)) hkid hf569 hno574 hkc581 how
          have hz582 : NwR K K561 g (gset g536 q410 (5 * (20 - dp) + 4 + (sg538 - sg)) O k9580) q410 O k9580 ((5 * (20 - dp) + 4 + (sg538 - sg))) := hdn
          have hz583 : at9 ≤ rS k9580 ∧ rS k9580 + 1 ≤ rE k9580 ∧ rE k9580 ≤ at537 ∧ 1 ≤ rD k9580 ∧ rD k9580 ≤ 9 * (20 - dp) + (sg538 - sg) + 1 := (by omega)
          have hz584 : at9 + 1 ≤ at537 ∧ at537 ≤ sz := (by omega)
          have hz585 : sg ≤ sg538 ∧ sg538 ≤ 60 := (by omega)
          have hz586 : ¬ tkN (B 7) sz 67 (nI at9) = 37 := (by rw [h401.1 (by omega)]; decide)
          have hz587 : NwT (B 7) sz (B 10) f539 K K561 at9 at537 := (NwT.le htk572 (by omega))
          have hO : OKP G h0 a (upd (upd (upd (upd F 2 (nI sz)) 9 (nI at537)) 10 (nI dp)) 11 (nI sg538)) R Z (updA B 10 f539) J K561 w := hO.to rfl
          refine W.widen (k := (2 * (sz - at9) + 19)) (n := (11 * (2 * (sz - at9) + 19))) (by omega) (by omega) ?_
          have hzz1 : H.size ≤ s.heap.size + ((2 * (at537 - at9) - 1)) := (by have z : (1 + (2 * (at537 - (at9 + 1)) - 1)) ≤ (2 * (at537 - at9) - 1) := (by omega); omega)
          have hzz2 : hSl H ≤ hSl s.heap + ((11 * (2 * (at537 - at9) - 1))) := (by have z : (11 + (11 * (2 * (at537 - (at9 + 1)) - 1))) ≤ (11 * (2 * (at537 - at9) - 1)) := (by omega); omega)
          exact W.aret (v := .ref q410) hx hb hr (Or.inl ⟨_, rfl⟩) (Or.inr ⟨_, rfl⟩) (fun t99 ht99 hW99 => ⟨⟨_, (w, (q410, K561, (gset g536 q410 (5 * (20 - dp) + 4 + (sg538 - sg)) O k9580), at537, sg538, f539, k9580)), rfl, ⟨rfl, hz582, hz583, hz584, hz585, hz586, hz587, hO⟩, by rw [ht99]; exact hP, hD, by rw [ht99]; exact hzz1, by rw [ht99]; exact hzz2⟩, hS.F ht99⟩) hS.2.2 dX8_prefixed_91
      · have n588 : r398 = 0 := (nI_eq (a := r398) (b := 0) (by omega) (by omega)).mp c402
        refine lv_aload_n hx hb dX8_prefixed_27 rfl (lv_at hl 0 rfl) ?_
        have hO : OKP G h0 a (upd (upd (upd (upd (upd (upd (upd (upd F 2 (nI sz)) 9 (nI at9)) 10 (nI dp)) 11 (nI sg)) 2 (nI sz)) 9 (nI at9)) 10 (nI dp)) 11 (nI sg)) R Z B J K w := hO.to rfl
        obtain ⟨_, qr592, hqr593⟩ := hO.2.1 23 _ (sg_23 G h0 a _ _ _ _ _)
        refine pn_V0 (G := G) (As := []) (rest := []) hx hb hml hown hq hE hX pX0_al hP hD hS hA hl.1 (P_chain l G h0 a (upd (upd (upd (upd F 2 (nI sz)) 9 (nI at9)) 10 (nI dp)) 11 (nI sg)) R Z B J K w n at9 sz dp sg O g (by omega) (by omega) (by omega) (by omega) hwn how ihe hO hl0) (gV pw_973 pw_974 pw_975 pw_796 pw_923) hV_X8_chain qr592 5 hqr593 rfl rfl rfl (Nat.le_of_ble_eq_true rfl) dX8_prefixed_28 ⟨(by show 0 + (2 * (sz - at9) + 19) ≤ (2 * (sz - at9) + 19); omega), (by show 0 + (11 * (2 * (sz - at9) + 19)) ≤ (11 * (2 * (sz - at9) + 19)); omega)⟩ ⟨(by show (40 * n + 20) + 1 ≤ (40 * n + 22); omega), (by show 8 + (3 + 11) + (1300 * n + 520) ≤ (1300 * n + 560); omega)⟩ (fun v591 u589 H locs hw590 hP hD hS => ?_) (fun ux ce9 q9 H9 locs9 hux hP9 hD9 hS9 hce hcv hcl => pb_out ux (ThQ.up (Thx.same (Thx.same (Thx.same (Thx.same Thx.rfl rfl) rfl) rfl) rfl) RhX.rfl hux) hnt hlocks hce hcv hcl hP9 hD9 hS9 (by show 0 + (2 * (sz - at9) + 19) ≤ (2 * (sz - at9) + 19); omega) (by show 0 + (11 * (2 * (sz - at9) + 19)) ≤ (11 * (2 * (sz - at9) + 19)); omega))
        obtain ⟨w, r594, K595, g596, at597, sg598, f599, k600⟩ := u589
        obtain ⟨hw590, h601, h602, h603, h604, h605, h606, hO⟩ := hw590
        have h601 : NwR K K595 g g596 r594 O k600 ((5 * (20 - dp) + 3 + (sg598 - sg))) := h601
        have h602 : at9 ≤ rS k600 ∧ rS k600 + 1 ≤ rE k600 ∧ rE k600 ≤ at597 ∧ 1 ≤ rD k600 ∧ rD k600 ≤ 9 * (20 - dp) + (sg598 - sg) + 1 := h602
        have h603 : at9 + 1 ≤ at597 ∧ at597 ≤ sz := h603
        have h604 : sg ≤ sg598 ∧ sg598 ≤ 60 := h604
        have h605 : ¬ tkN ((B 7)) sz 67 (nI at9) = 37 := h605
        have h606 : NwT ((B 7)) sz ((B 10)) f599 K K595 at9 at597 := h606
        obtain rfl : v591 = some (.ref r594) := hw590
        have hO : OKP G h0 a (upd (upd (upd (upd F 2 (nI sz)) 9 (nI at597)) 10 (nI dp)) 11 (nI sg598)) R Z (updA B 10 f599) J K595 w := hO.to rfl
        refine W.widen (k := (2 * (at597 - at9) - 1)) (n := (11 * (2 * (at597 - at9) - 1))) (by show 0 + (2 * (at597 - at9) - 1) ≤ (2 * (at597 - at9) - 1); omega) (by show 0 + (11 * (2 * (at597 - at9) - 1)) ≤ (11 * (2 * (at597 - at9) - 1)); omega) ?_
        refine W.eq (g2 := F0 m 31 ls [.ref r594]) rfl ?_
        have htk607 : NwT (B 7) sz (B 10) f599 K K595 at9 at597 := (NwT.call htk0 h606 (by omega))
        refine W_size (fun hz1 hz2 => ?_)
        refine vx_ret ?_
        have hz608 : NwR K K595 g g596 r594 O k600 ((5 * (20 - dp) + 4 + (sg598 - sg))) := (NwR.up h601 (by omega))
        have hz609 : at9 ≤ rS k600 ∧ rS k600 + 1 ≤ rE k600 ∧ rE k600 ≤ at597 ∧ 1 ≤ rD k600 ∧ rD k600 ≤ 9 * (20 - dp) + (sg598 - sg) + 1 := (by omega)
        have hz610 : at9 + 1 ≤ at597 ∧ at597 ≤ sz := (by omega)
        have hz611 : sg ≤ sg598 ∧ sg598 ≤ 60 := (by omega)
        have hz612 : ¬ tkN (B 7) sz 67 (nI at9) = 37 := h605
        have hz613 : NwT (B 7) sz (B 10) f599 K K595 at9 at597 := (NwT.le htk607 (by omega))
        have hO : OKP G h0 a (upd (upd (upd (upd F 2 (nI sz)) 9 (nI at597)) 10 (nI dp)) 11 (nI sg598)) R Z (updA B 10 f599) J K595 w := hO.to rfl
        refine W.widen (k := (2 * (sz - at9) + 19)) (n := (11 * (2 * (sz - at9) + 19))) (by omega) (by omega) ?_
        have hzz1 : H.size ≤ s.heap.size + ((2 * (at597 - at9) - 1)) := (by have z : (2 * (at597 - at9) - 1) ≤ (2 * (at597 - at9) - 1) := (by omega); omega)
        have hzz2 : hSl H ≤ hSl s.heap + ((11 * (2 * (at597 - at9) - 1))) := (by have z : (11 * (2 * (at597 - at9) - 1)) ≤ (11 * (2 * (at597 - at9) - 1)) := (by omega); omega)
        exact W.aret (v := .ref r594) hx hb hr (Or.inl ⟨_, rfl⟩) (Or.inr ⟨_, rfl⟩) (fun t99 ht99 hW99 => ⟨⟨_, (w, (r594, K595, g596, at597, sg598, f599, k600)), rfl, ⟨rfl, hz608, hz609, hz610, hz611, hz612, hz613, hO⟩, by rw [ht99]; exact hP, hD, by rw [ht99]; exact hzz1, by rw [ht99]; exact hzz2⟩, hS.F ht99⟩) hS.2.2 dX8_prefixed_31
