theorem dX8_operand_0 : decode cX8_operand 0 = .ok (.aload_n 0, 1) := by decide +kernel
theorem dX8_operand_1 : decode cX8_operand 1 = .ok (.getfield 7, 3) := by decide +kernel
theorem dX8_operand_4 : decode cX8_operand 4 = .ok (.aload_n 0, 1) := by decide +kernel
theorem dX8_operand_5 : decode cX8_operand 5 = .ok (.getfield 17, 3) := by decide +kernel
theorem dX8_operand_8 : decode cX8_operand 8 = .ok (.invokevirtual 57, 3) := by decide +kernel
theorem dX8_operand_11 : decode cX8_operand 11 = .ok (.lookupswitch 188 #[(8, 101), (17, 129), (18, 107), (20, 166), (22, 124), (23, 113), (25, 95), (34, 134), (65, 119), (66, 89)], 89) := by decide +kernel
theorem dX8_operand_112 : decode cX8_operand 112 = .ok (.aload_n 0, 1) := by decide +kernel
theorem dX8_operand_113 : decode cX8_operand 113 = .ok (.iconst 2, 1) := by decide +kernel
theorem dX8_operand_114 : decode cX8_operand 114 = .ok (.invokevirtual 290, 3) := by decide +kernel
theorem dX8_operand_117 : decode cX8_operand 117 = .ok (.areturn, 1) := by decide +kernel
theorem dX8_operand_140 : decode cX8_operand 140 = .ok (.aload_n 0, 1) := by decide +kernel
theorem dX8_operand_141 : decode cX8_operand 141 = .ok (.invokevirtual 299, 3) := by decide +kernel
theorem dX8_operand_144 : decode cX8_operand 144 = .ok (.areturn, 1) := by decide +kernel
theorem dX8_operand_118 : decode cX8_operand 118 = .ok (.aload_n 0, 1) := by decide +kernel
theorem dX8_operand_119 : decode cX8_operand 119 = .ok (.iconst 3, 1) := by decide +kernel
theorem dX8_operand_120 : decode cX8_operand 120 = .ok (.invokevirtual 290, 3) := by decide +kernel
theorem dX8_operand_123 : decode cX8_operand 123 = .ok (.areturn, 1) := by decide +kernel
theorem dX8_operand_177 : decode cX8_operand 177 = .ok (.aload_n 0, 1) := by decide +kernel
theorem dX8_operand_178 : decode cX8_operand 178 = .ok (.bipush 6, 2) := by decide +kernel
theorem dX8_operand_180 : decode cX8_operand 180 = .ok (.invokevirtual 290, 3) := by decide +kernel
theorem dX8_operand_183 : decode cX8_operand 183 = .ok (.astore_n 2, 1) := by decide +kernel
theorem dX8_operand_184 : decode cX8_operand 184 = .ok (.aload_n 0, 1) := by decide +kernel
theorem dX8_operand_185 : decode cX8_operand 185 = .ok (.bipush 34, 2) := by decide +kernel
theorem dX8_operand_187 : decode cX8_operand 187 = .ok (.invokevirtual 283, 3) := by decide +kernel
theorem dX8_operand_190 : decode cX8_operand 190 = .ok (.aload_n 0, 1) := by decide +kernel
theorem dX8_operand_191 : decode cX8_operand 191 = .ok (.bipush 35, 2) := by decide +kernel
theorem dX8_operand_193 : decode cX8_operand 193 = .ok (.invokevirtual 287, 3) := by decide +kernel
theorem dX8_operand_196 : decode cX8_operand 196 = .ok (.pop, 1) := by decide +kernel
theorem dX8_operand_197 : decode cX8_operand 197 = .ok (.aload_n 2, 1) := by decide +kernel
theorem dX8_operand_198 : decode cX8_operand 198 = .ok (.areturn, 1) := by decide +kernel
theorem dX8_operand_135 : decode cX8_operand 135 = .ok (.aload_n 0, 1) := by decide +kernel
theorem dX8_operand_136 : decode cX8_operand 136 = .ok (.invokevirtual 296, 3) := by decide +kernel
theorem dX8_operand_139 : decode cX8_operand 139 = .ok (.areturn, 1) := by decide +kernel
theorem dX8_operand_124 : decode cX8_operand 124 = .ok (.aload_n 0, 1) := by decide +kernel
theorem dX8_operand_125 : decode cX8_operand 125 = .ok (.iconst 4, 1) := by decide +kernel
theorem dX8_operand_126 : decode cX8_operand 126 = .ok (.invokevirtual 290, 3) := by decide +kernel
theorem dX8_operand_129 : decode cX8_operand 129 = .ok (.areturn, 1) := by decide +kernel
theorem dX8_operand_106 : decode cX8_operand 106 = .ok (.aload_n 0, 1) := by decide +kernel
theorem dX8_operand_107 : decode cX8_operand 107 = .ok (.iconst 1, 1) := by decide +kernel
theorem dX8_operand_108 : decode cX8_operand 108 = .ok (.invokevirtual 290, 3) := by decide +kernel
theorem dX8_operand_111 : decode cX8_operand 111 = .ok (.areturn, 1) := by decide +kernel
theorem dX8_operand_145 : decode cX8_operand 145 = .ok (.new 143, 3) := by decide +kernel
theorem dX8_operand_148 : decode cX8_operand 148 = .ok (.dup, 1) := by decide +kernel
theorem dX8_operand_149 : decode cX8_operand 149 = .ok (.bipush 7, 2) := by decide +kernel
theorem dX8_operand_151 : decode cX8_operand 151 = .ok (.aload_n 0, 1) := by decide +kernel
theorem dX8_operand_152 : decode cX8_operand 152 = .ok (.getfield 17, 3) := by decide +kernel
theorem dX8_operand_155 : decode cX8_operand 155 = .ok (.aload_n 0, 1) := by decide +kernel
theorem dX8_operand_156 : decode cX8_operand 156 = .ok (.getfield 17, 3) := by decide +kernel
theorem dX8_operand_159 : decode cX8_operand 159 = .ok (.invokespecial 145, 3) := by decide +kernel
theorem dX8_operand_162 : decode cX8_operand 162 = .ok (.astore_n 1, 1) := by decide +kernel
theorem dX8_operand_163 : decode cX8_operand 163 = .ok (.aload_n 1, 1) := by decide +kernel
theorem dX8_operand_164 : decode cX8_operand 164 = .ok (.aload_n 0, 1) := by decide +kernel
theorem dX8_operand_165 : decode cX8_operand 165 = .ok (.bipush 34, 2) := by decide +kernel
theorem dX8_operand_167 : decode cX8_operand 167 = .ok (.bipush 35, 2) := by decide +kernel
theorem dX8_operand_169 : decode cX8_operand 169 = .ok (.invokevirtual 280, 3) := by decide +kernel
theorem dX8_operand_172 : decode cX8_operand 172 = .ok (.putfield 165, 3) := by decide +kernel
theorem dX8_operand_175 : decode cX8_operand 175 = .ok (.aload_n 1, 1) := by decide +kernel
theorem dX8_operand_176 : decode cX8_operand 176 = .ok (.areturn, 1) := by decide +kernel
theorem dX8_operand_130 : decode cX8_operand 130 = .ok (.aload_n 0, 1) := by decide +kernel
theorem dX8_operand_131 : decode cX8_operand 131 = .ok (.invokevirtual 293, 3) := by decide +kernel
theorem dX8_operand_134 : decode cX8_operand 134 = .ok (.areturn, 1) := by decide +kernel
theorem dX8_operand_100 : decode cX8_operand 100 = .ok (.aload_n 0, 1) := by decide +kernel
theorem dX8_operand_101 : decode cX8_operand 101 = .ok (.iconst 0, 1) := by decide +kernel
theorem dX8_operand_102 : decode cX8_operand 102 = .ok (.invokevirtual 290, 3) := by decide +kernel
theorem dX8_operand_105 : decode cX8_operand 105 = .ok (.areturn, 1) := by decide +kernel
theorem dX8_operand_199 : decode cX8_operand 199 = .ok (.aload_n 0, 1) := by decide +kernel
theorem dX8_operand_200 : decode cX8_operand 200 = .ok (.invokevirtual 67, 3) := by decide +kernel
theorem hV_X8_made : yX8_made.cls = RX8 ∧ yX8_made.cls ≠ "java/lang/invoke/MethodHandle" ∧ yX8_made.cls ≠ "java/lang/invoke/VarHandle" ∧ (parseMethodDescriptor yX8_made.desc).map (fun d => d.parameters.length) = some 0 := by decide +kernel
theorem hV_X8_superCall : yX8_superCall.cls = RX8 ∧ yX8_superCall.cls ≠ "java/lang/invoke/MethodHandle" ∧ yX8_superCall.cls ≠ "java/lang/invoke/VarHandle" ∧ (parseMethodDescriptor yX8_superCall.desc).map (fun d => d.parameters.length) = some 0 := by decide +kernel
theorem hV_X8_named : yX8_named.cls = RX8 ∧ yX8_named.cls ≠ "java/lang/invoke/MethodHandle" ∧ yX8_named.cls ≠ "java/lang/invoke/VarHandle" ∧ (parseMethodDescriptor yX8_named.desc).map (fun d => d.parameters.length) = some 0 := by decide +kernel
theorem hV_X8_refuse : yX8_refuse.cls = RX8 ∧ yX8_refuse.cls ≠ "java/lang/invoke/MethodHandle" ∧ yX8_refuse.cls ≠ "java/lang/invoke/VarHandle" ∧ (parseMethodDescriptor yX8_refuse.desc).map (fun d => d.parameters.length) = some 0 := by decide +kernel
set_option maxHeartbeats 40000000 in
set_option maxRecDepth 100000 in
theorem P_operand (l : Launch) (G : pT) (h0 : Nat) (a : Nat → Nat) (F : Nat → Int32) (R : Nat → Value) (Z : Int64) (B : Nat → Nat → Int32) (J : Nat → Nat → Int64) (K : PK) (w : va_W) (n : Nat) (at9 : Nat) (sz : Nat) (dp : Nat) (sg : Nat) (O : Nat) (g : Nat → Nat → Nat) (hsz : sz ≤ 5000) (hat : at9 ≤ sz) (hdp : dp + n = 20) (hsg : sg ≤ 60) (hwn : WN K g) (how : ∀ o : Nat, O = o + 1 → K.1 o = 1 ∧ g 0 o = 0 ∧ ¬ K.2.1 0 o = 32) (ihe : IhE l G n) (hO : OKP G h0 a (upd (upd (upd (upd F 2 (nI sz)) 9 (nI at9)) 10 (nI dp)) 11 (nI sg)) R Z B J K w) (hl0 : l.stackTraces = false) : PBn l G pX0 yX8_operand cX8_operand 3 (some (.object "JinjaTongue$Node")) ({ frames := (40 * n + 16), cells := (2 * (sz - at9) + 19), slots := (11 * (2 * (sz - at9) + 19)), locals := (1300 * n + 480) }) [.ref (a 3)] w (fun (v : Option Value) (u : va_W × (Nat × PK × (Nat → Nat → Nat) × Nat × Nat × (Nat → Int32) × Nat)) => v = some (.ref u.2.1) ∧ (NwR K u.2.2.1 g u.2.2.2.1 u.2.1 O u.2.2.2.2.2.2.2 ((5 * (20 - dp) + 2 + (u.2.2.2.2.2.1 - sg)))) ∧ (at9 ≤ rS u.2.2.2.2.2.2.2 ∧ rS u.2.2.2.2.2.2.2 + 1 ≤ rE u.2.2.2.2.2.2.2 ∧ rE u.2.2.2.2.2.2.2 ≤ u.2.2.2.2.1 ∧ 1 ≤ rD u.2.2.2.2.2.2.2 ∧ rD u.2.2.2.2.2.2.2 ≤ 9 * (20 - dp) + (u.2.2.2.2.2.1 - sg) + 1) ∧ (at9 + 1 ≤ u.2.2.2.2.1 ∧ u.2.2.2.2.1 ≤ sz) ∧ (sg ≤ u.2.2.2.2.2.1 ∧ u.2.2.2.2.2.1 ≤ 60) ∧ (¬ tkN (B 7) sz 67 (nI at9) = 37) ∧ (NwT (B 7) sz (B 10) u.2.2.2.2.2.2.1 K u.2.2.1 at9 u.2.2.2.2.1) ∧ (OKP G h0 a (upd (upd (upd (upd F 2 (nI sz)) 9 (nI u.2.2.2.2.1)) 10 (nI dp)) 11 (nI u.2.2.2.2.2.1)) R Z (updA B 10 u.2.2.2.2.2.2.1) J u.2.2.1 u.1)) (fun u => u.1) (fun (u : va_W × (Nat × PK × (Nat → Nat → Nat) × Nat × Nat × (Nat → Int32) × Nat)) => (2 * (u.2.2.2.2.1 - at9) - 1)) (fun (u : va_W × (Nat × PK × (Nat → Nat → Nat) × Nat × Nat × (Nat → Int32) × Nat)) => (11 * (2 * (u.2.2.2.2.1 - at9) - 1))) (fun (u : va_W × (Nat → Int32) × (Nat → Value) × (Nat → Nat → Int32)) => ThQ G h0 a (upd (upd (upd (upd F 2 (nI sz)) 9 (nI at9)) 10 (nI dp)) 11 (nI sg)) R Z B J u) (fun u => u.1) := by
  intro sz
  refine vx_ofW (cc := cX8_operand) (maxL := 3) (ret := (some (.object "JinjaTongue$Node"))) (by decide) rfl ?_
  intro p e s m args below meth c s₁ B9 hml hnt hv
  obtain ⟨rfl, hsz, hP, hD0, hE, hX⟩ := hv
  have hx := B9.exec
  have hb := B9.bytes
  have hr := B9.returns
  have hts := atoms_spec (ws := Cond.code yX8_operand cX8_operand 3 (some (.object "JinjaTongue$Node")) :: pw) B9.pre
  have hq : ∀ w ∈ pw, w.before _ s = true := fun w h => hts w (List.mem_cons_of_mem _ h)
  have hown : s.vm.findClass RX8 = some m.cls := findClass_of_methodNamed B9.named
  have hlocks := B9.notSynchronized
  subst hsz
  have hD := hD0.self (sz := s.heap.size)
  have hA : ∀ q : Nat, s.heap.size ≤ q → va_A w s.heap.size q := fun q h => Or.inr h
  generalize va_A w s.heap.size = A at hD hE hA ⊢
  have hS : va_S A s.heap s.heap [] := va_S.rf
  have hl := lv_entry ([.ref (a 3)]) (n := 3) (Nat.le_of_ble_eq_true rfl)
  rw [lg_entry_eq]
  generalize (lg_sl ([.ref (a 3)]) ++ List.replicate (3 - (lg_sl ([.ref (a 3)])).length) Slot.unset).toArray = ls at hl ⊢
  have hl : lv_has ls 3 [(0, .ref (a 3))] := hl
  have htk0 : NwT (B 7) sz (B 10) (B 10) K K at9 at9 := NwT.nil
  have hns0 : NwS K K g g := NwS.nil hwn
  refine lv_aload_n hx hb dX8_operand_0 rfl (lv_at hl 0 rfl) ?_
  refine c_get (v := .ref (a 1)) (C := RX8) (Tc := TX8) (N := 5) (ci := 5) hx hb hq pin_wsX80 hown hE hP hO 23 (sg_23 G h0 a _ _ _ _ _) rfl 0 (by decide) (hq _ pw_774) (fun _ h9 => h9) rfl dX8_operand_1 ?_
  refine lv_aload_n hx hb dX8_operand_4 rfl (lv_at hl 0 rfl) ?_
  refine c_get (v := .int (nI at9)) (C := RX8) (Tc := TX8) (N := 5) (ci := 5) hx hb hq pin_wsX80 hown hE hP hO 23 (sg_23 G h0 a _ _ _ _ _) rfl 2 (by decide) (hq _ pw_776) (fun _ h9 => h9) rfl dX8_operand_5 ?_
  have hO : OKW G h0 a (upd (upd (upd (upd (upd F 2 (nI sz)) 9 (nI at9)) 10 (nI dp)) 11 (nI sg)) 2 (nI sz)) R Z B J K.1 (fun q99 x99 => x99 = rep G a K q99) w := hO.to rfl
  obtain ⟨_, qr4, hqr5⟩ := hO.2.1 2 _ (sg_2 G h0 a _ _ _ _ _)
  refine pc_V0 (G := G) (As := [.int (nI at9)]) (rest := []) hx hb hml hown hq hE hX pX0_al hP hD hS hA hl.1 (K_kindX l G h0 a (upd (upd (upd (upd F 2 (nI sz)) 9 (nI at9)) 10 (nI dp)) 11 (nI sg)) R Z B J K.1 (fun q99 x99 => x99 = rep G a K q99) w (nI at9) sz (by omega) hO) (gV pw_777 pw_193 pw_194 pw_59 pw_126) hV_X10_kindAt qr4 7 hqr5 rfl rfl rfl (Nat.le_of_ble_eq_true rfl) dX8_operand_8 ⟨(by show 0 + 0 ≤ (2 * (sz - at9) + 19); omega), (by show 0 + 0 ≤ (11 * (2 * (sz - at9) + 19)); omega)⟩ ⟨(by show 2 + 1 ≤ (40 * n + 16); omega), (by show 8 + (2 + 11) + 60 ≤ (1300 * n + 480); omega)⟩ (fun v3 u1 H locs hw2 hP hD hS => ?_)
  obtain ⟨w, r6⟩ := u1
  obtain ⟨hw2, h7, h8, hO⟩ := hw2
  have h7 : r6 = 67 ∨ ∃ t : Nat, (nI at9) = nI t ∧ t < sz := h7
  have h8 : r6 = tkN ((B 7)) sz 67 (nI at9) := h8
  obtain rfl : v3 = some (.int r6) := hw2
  have hO : OKP G h0 a (upd (upd (upd (upd F 2 (nI sz)) 9 (nI at9)) 10 (nI dp)) 11 (nI sg)) R Z B J K w := hO.to rfl
  refine W.widen (k := 0) (n := 0) (Nat.le_of_ble_eq_true rfl) (Nat.le_of_ble_eq_true rfl) ?_
  refine W.eq (g2 := F0 m 11 ls [.int r6]) rfl ?_
  by_cases h9 : r6 = 8
  · refine lv_lookup (tgt := 112) (off := 101) hx hb dX8_operand_11 (by decide) (by rw [h9]; decide) (by decide) ?_
    have htk := tok_in h7 h9 (by decide : ¬ (8 : Int32) = 67) (by omega) hsz
    refine lv_aload_n hx hb dX8_operand_112 rfl (lv_at hl 0 rfl) ?_
    refine lv_iconst (v := 2) hx hb dX8_operand_113 (by decide) ?_
    have hO : OKP G h0 a (upd (upd (upd (upd (upd (upd F 2 (nI sz)) 9 (nI at9)) 10 (nI dp)) 11 (nI sg)) 2 (nI sz)) 9 (nI at9)) R Z B J K w := hO.to rfl
    obtain ⟨_, qr13, hqr14⟩ := hO.2.1 23 _ (sg_23 G h0 a _ _ _ _ _)
    refine pc_V0 (G := G) (As := [.int 2]) (rest := []) hx hb hml hown hq hE hX pX0_al hP hD hS hA hl.1 (P_leaf l G h0 a (upd (upd (upd (upd F 2 (nI sz)) 9 (nI at9)) 10 (nI dp)) 11 (nI sg)) R Z B J K w 2 at9 sz O g (by omega) (by omega) hwn (fun o9 h9 => ⟨(how o9 h9).1, fun z => (by rw [(how o9 h9).2.1] at z; omega), (how o9 h9).2.2⟩) (by omega) (fun C => ⟨fun z => absurd z (by decide), fun z => absurd z (by decide), fun z => absurd z (by decide), fun z => absurd z (by decide), fun z => absurd z (by decide)⟩) (fun kq => IvK.no (by decide)) (by decide) hO) (gV pw_959 pw_960 pw_961 pw_796 pw_907) hV_X8_leaf qr13 5 hqr14 rfl rfl rfl (Nat.le_of_ble_eq_true rfl) dX8_operand_114 ⟨(by show 0 + 1 ≤ (2 * (sz - at9) + 19); omega), (by show 0 + 11 ≤ (11 * (2 * (sz - at9) + 19)); omega)⟩ ⟨(by show 3 + 1 ≤ (40 * n + 16); omega), (by show 8 + (2 + 11) + 83 ≤ (1300 * n + 480); omega)⟩ (fun v12 u10 H locs hw11 hP hD hS => ?_)
    obtain ⟨w, r15, K16, g17, k18⟩ := u10
    obtain ⟨hw11, h19, h20, h21, h22, hO⟩ := hw11
    have h19 : NwR K K16 g g17 r15 O k18 1 := h19
    have h20 : rS k18 = at9 ∧ rE k18 = at9 + 1 ∧ rD k18 = 1 := h20
    have h21 : K16.2.1 0 r15 = 2 := h21
    have h22 : NwT ((B 7)) sz ((B 10)) ((B 10)) K K16 at9 (at9 + 1) := h22
    obtain rfl : v12 = some (.ref r15) := hw11
    have hO : OKP G h0 a (upd (upd (upd (upd F 2 (nI sz)) 9 (nI (at9 + 1))) 10 (nI dp)) 11 (nI sg)) R Z B J K16 w := hO.to rfl
    refine W.widen (k := 1) (n := 11) (by show 0 + 1 ≤ 1; omega) (by show 0 + 11 ≤ 11; omega) ?_
    refine W.eq (g2 := F0 m 117 ls [.ref r15]) rfl ?_
    have htk23 : NwT (B 7) sz (B 10) (B 10) K K16 at9 (at9 + 1) := (NwT.call htk0 h22 (by omega))
    refine W_size (fun hz1 hz2 => ?_)
    refine vx_ret ?_
    have hz24 : NwR K K16 g g17 r15 O k18 ((5 * (20 - dp) + 2 + (sg - sg))) := (NwR.up h19 (by omega))
    have hz25 : at9 ≤ rS k18 ∧ rS k18 + 1 ≤ rE k18 ∧ rE k18 ≤ (at9 + 1) ∧ 1 ≤ rD k18 ∧ rD k18 ≤ 9 * (20 - dp) + (sg - sg) + 1 := (by omega)
    have hz26 : at9 + 1 ≤ (at9 + 1) ∧ (at9 + 1) ≤ sz := (by omega)
    have hz27 : sg ≤ sg ∧ sg ≤ 60 := (by omega)
    have hz28 : ¬ tkN (B 7) sz 67 (nI at9) = 37 := (fun z => absurd ((h8.trans z).symm.trans h9) (by decide))
    have hz29 : NwT (B 7) sz (B 10) (B 10) K K16 at9 (at9 + 1) := (NwT.le htk23 (by omega))
    have hO : OKP G h0 a (upd (upd (upd (upd F 2 (nI sz)) 9 (nI (at9 + 1))) 10 (nI dp)) 11 (nI sg)) R Z (updA B 10 (B 10)) J K16 w := hO.to rfl
    refine W.widen (k := (2 * (sz - at9) + 19)) (n := (11 * (2 * (sz - at9) + 19))) (by omega) (by omega) ?_
    have hzz1 : H.size ≤ s.heap.size + ((2 * ((at9 + 1) - at9) - 1)) := (by have z : 1 ≤ (2 * ((at9 + 1) - at9) - 1) := (by omega); omega)
    have hzz2 : hSl H ≤ hSl s.heap + ((11 * (2 * ((at9 + 1) - at9) - 1))) := (by have z : 11 ≤ (11 * (2 * ((at9 + 1) - at9) - 1)) := (by omega); omega)
    exact W.aret (v := .ref r15) hx hb hr (Or.inl ⟨_, rfl⟩) (Or.inr ⟨_, rfl⟩) (fun t99 ht99 hW99 => ⟨⟨_, (w, (r15, K16, g17, (at9 + 1), sg, (B 10), k18)), rfl, ⟨rfl, hz24, hz25, hz26, hz27, hz28, hz29, hO⟩, by rw [ht99]; exact hP, hD, by rw [ht99]; exact hzz1, by rw [ht99]; exact hzz2⟩, hS.F ht99⟩) hS.2.2 dX8_operand_117
  by_cases h30 : r6 = 17
  · refine lv_lookup (tgt := 140) (off := 129) hx hb dX8_operand_11 (by decide) (by rw [h30]; decide) (by decide) ?_
    have htk := tok_in h7 h30 (by decide : ¬ (17 : Int32) = 67) (by omega) hsz
    refine lv_aload_n hx hb dX8_operand_140 rfl (lv_at hl 0 rfl) ?_
    have hO : OKP G h0 a (upd (upd (upd (upd (upd (upd (upd (upd F 2 (nI sz)) 9 (nI at9)) 10 (nI dp)) 11 (nI sg)) 2 (nI sz)) 9 (nI at9)) 10 (nI dp)) 11 (nI sg)) R Z B J K w := hO.to rfl
    obtain ⟨_, qr34, hqr35⟩ := hO.2.1 23 _ (sg_23 G h0 a _ _ _ _ _)
    refine pn_V0 (G := G) (As := []) (rest := []) hx hb hml hown hq hE hX pX0_al hP hD hS hA hl.1 (P_made l G h0 a (upd (upd (upd (upd F 2 (nI sz)) 9 (nI at9)) 10 (nI dp)) 11 (nI sg)) R Z B J K w n at9 sz dp sg O g (by omega) (by omega) (by omega) (by omega) hwn how ihe hO hl0) (gV pw_969 pw_970 pw_971 pw_796 pw_957) hV_X8_made qr34 5 hqr35 rfl rfl rfl (Nat.le_of_ble_eq_true rfl) dX8_operand_141 ⟨(by show 0 + (2 * (sz - at9) + 19) ≤ (2 * (sz - at9) + 19); omega), (by show 0 + (11 * (2 * (sz - at9) + 19)) ≤ (11 * (2 * (sz - at9) + 19)); omega)⟩ ⟨(by show (40 * n + 14) + 1 ≤ (40 * n + 16); omega), (by show 8 + (4 + 11) + (1300 * n + 440) ≤ (1300 * n + 480); omega)⟩ (fun v33 u31 H locs hw32 hP hD hS => ?_) (fun ux ce9 q9 H9 locs9 hux hP9 hD9 hS9 hce hcv hcl => pb_out ux (ThQ.up (Thx.same (Thx.same (Thx.same (Thx.same Thx.rfl rfl) rfl) rfl) rfl) RhX.rfl hux) hnt hlocks hce hcv hcl hP9 hD9 hS9 (by show 0 + (2 * (sz - at9) + 19) ≤ (2 * (sz - at9) + 19); omega) (by show 0 + (11 * (2 * (sz - at9) + 19)) ≤ (11 * (2 * (sz - at9) + 19)); omega))
    obtain ⟨w, r36, K37, g38, at39, sg40, f41, k42⟩ := u31
    obtain ⟨hw32, h43, h44, h45, h46, h47, hO⟩ := hw32
    have h43 : NwR K K37 g g38 r36 O k42 ((5 * (20 - dp) + 2 + (sg40 - sg))) := h43
    have h44 : at9 ≤ rS k42 ∧ rS k42 + 1 ≤ rE k42 ∧ rE k42 ≤ at39 ∧ 1 ≤ rD k42 ∧ rD k42 ≤ 9 * (20 - dp) + (sg40 - sg) + 1 := h44
    have h45 : at9 + 4 ≤ at39 ∧ at39 ≤ sz := h45
    have h46 : sg ≤ sg40 ∧ sg40 ≤ 60 := h46
    have h47 : NwT ((B 7)) sz ((B 10)) f41 K K37 at9 at39 := h47
    obtain rfl : v33 = some (.ref r36) := hw32
    have hO : OKP G h0 a (upd (upd (upd (upd F 2 (nI sz)) 9 (nI at39)) 10 (nI dp)) 11 (nI sg40)) R Z (updA B 10 f41) J K37 w := hO.to rfl
    refine W.widen (k := (2 * (at39 - at9) - 5)) (n := (11 * (2 * (at39 - at9) - 5))) (by show 0 + (2 * (at39 - at9) - 5) ≤ (2 * (at39 - at9) - 5); omega) (by show 0 + (11 * (2 * (at39 - at9) - 5)) ≤ (11 * (2 * (at39 - at9) - 5)); omega) ?_
    refine W.eq (g2 := F0 m 144 ls [.ref r36]) rfl ?_
    have htk48 : NwT (B 7) sz (B 10) f41 K K37 at9 at39 := (NwT.call htk0 h47 (by omega))
    refine W_size (fun hz1 hz2 => ?_)
    refine vx_ret ?_
    have hz49 : NwR K K37 g g38 r36 O k42 ((5 * (20 - dp) + 2 + (sg40 - sg))) := (NwR.up h43 (by omega))
    have hz50 : at9 ≤ rS k42 ∧ rS k42 + 1 ≤ rE k42 ∧ rE k42 ≤ at39 ∧ 1 ≤ rD k42 ∧ rD k42 ≤ 9 * (20 - dp) + (sg40 - sg) + 1 := (by omega)
    have hz51 : at9 + 1 ≤ at39 ∧ at39 ≤ sz := (by omega)
    have hz52 : sg ≤ sg40 ∧ sg40 ≤ 60 := (by omega)
    have hz53 : ¬ tkN (B 7) sz 67 (nI at9) = 37 := (fun z => absurd ((h8.trans z).symm.trans h30) (by decide))
    have hz54 : NwT (B 7) sz (B 10) f41 K K37 at9 at39 := (NwT.le htk48 (by omega))
    have hO : OKP G h0 a (upd (upd (upd (upd F 2 (nI sz)) 9 (nI at39)) 10 (nI dp)) 11 (nI sg40)) R Z (updA B 10 f41) J K37 w := hO.to rfl
    refine W.widen (k := (2 * (sz - at9) + 19)) (n := (11 * (2 * (sz - at9) + 19))) (by omega) (by omega) ?_
    have hzz1 : H.size ≤ s.heap.size + ((2 * (at39 - at9) - 1)) := (by have z : (2 * (at39 - at9) - 5) ≤ (2 * (at39 - at9) - 1) := (by omega); omega)
    have hzz2 : hSl H ≤ hSl s.heap + ((11 * (2 * (at39 - at9) - 1))) := (by have z : (11 * (2 * (at39 - at9) - 5)) ≤ (11 * (2 * (at39 - at9) - 1)) := (by omega); omega)
    exact W.aret (v := .ref r36) hx hb hr (Or.inl ⟨_, rfl⟩) (Or.inr ⟨_, rfl⟩) (fun t99 ht99 hW99 => ⟨⟨_, (w, (r36, K37, g38, at39, sg40, f41, k42)), rfl, ⟨rfl, hz49, hz50, hz51, hz52, hz53, hz54, hO⟩, by rw [ht99]; exact hP, hD, by rw [ht99]; exact hzz1, by rw [ht99]; exact hzz2⟩, hS.F ht99⟩) hS.2.2 dX8_operand_144
  by_cases h55 : r6 = 18
  · refine lv_lookup (tgt := 118) (off := 107) hx hb dX8_operand_11 (by decide) (by rw [h55]; decide) (by decide) ?_
    have htk := tok_in h7 h55 (by decide : ¬ (18 : Int32) = 67) (by omega) hsz
    refine lv_aload_n hx hb dX8_operand_118 rfl (lv_at hl 0 rfl) ?_
    refine lv_iconst (v := 3) hx hb dX8_operand_119 (by decide) ?_
    have hO : OKP G h0 a (upd (upd (upd (upd (upd (upd F 2 (nI sz)) 9 (nI at9)) 10 (nI dp)) 11 (nI sg)) 2 (nI sz)) 9 (nI at9)) R Z B J K w := hO.to rfl
    obtain ⟨_, qr59, hqr60⟩ := hO.2.1 23 _ (sg_23 G h0 a _ _ _ _ _)
    refine pc_V0 (G := G) (As := [.int 3]) (rest := []) hx hb hml hown hq hE hX pX0_al hP hD hS hA hl.1 (P_leaf l G h0 a (upd (upd (upd (upd F 2 (nI sz)) 9 (nI at9)) 10 (nI dp)) 11 (nI sg)) R Z B J K w 3 at9 sz O g (by omega) (by omega) hwn (fun o9 h9 => ⟨(how o9 h9).1, fun z => (by rw [(how o9 h9).2.1] at z; omega), (how o9 h9).2.2⟩) (by omega) (fun C => ⟨fun z => absurd z (by decide), fun z => absurd z (by decide), fun z => absurd z (by decide), fun z => absurd z (by decide), fun z => absurd z (by decide)⟩) (fun kq => IvK.no (by decide)) (by decide) hO) (gV pw_959 pw_960 pw_961 pw_796 pw_907) hV_X8_leaf qr59 5 hqr60 rfl rfl rfl (Nat.le_of_ble_eq_true rfl) dX8_operand_120 ⟨(by show 0 + 1 ≤ (2 * (sz - at9) + 19); omega), (by show 0 + 11 ≤ (11 * (2 * (sz - at9) + 19)); omega)⟩ ⟨(by show 3 + 1 ≤ (40 * n + 16); omega), (by show 8 + (2 + 11) + 83 ≤ (1300 * n + 480); omega)⟩ (fun v58 u56 H locs hw57 hP hD hS => ?_)
    obtain ⟨w, r61, K62, g63, k64⟩ := u56
    obtain ⟨hw57, h65, h66, h67, h68, hO⟩ := hw57
    have h65 : NwR K K62 g g63 r61 O k64 1 := h65
    have h66 : rS k64 = at9 ∧ rE k64 = at9 + 1 ∧ rD k64 = 1 := h66
    have h67 : K62.2.1 0 r61 = 3 := h67
    have h68 : NwT ((B 7)) sz ((B 10)) ((B 10)) K K62 at9 (at9 + 1) := h68
    obtain rfl : v58 = some (.ref r61) := hw57
    have hO : OKP G h0 a (upd (upd (upd (upd F 2 (nI sz)) 9 (nI (at9 + 1))) 10 (nI dp)) 11 (nI sg)) R Z B J K62 w := hO.to rfl
    refine W.widen (k := 1) (n := 11) (by show 0 + 1 ≤ 1; omega) (by show 0 + 11 ≤ 11; omega) ?_
    refine W.eq (g2 := F0 m 123 ls [.ref r61]) rfl ?_
    have htk69 : NwT (B 7) sz (B 10) (B 10) K K62 at9 (at9 + 1) := (NwT.call htk0 h68 (by omega))
    refine W_size (fun hz1 hz2 => ?_)
    refine vx_ret ?_
    have hz70 : NwR K K62 g g63 r61 O k64 ((5 * (20 - dp) + 2 + (sg - sg))) := (NwR.up h65 (by omega))
    have hz71 : at9 ≤ rS k64 ∧ rS k64 + 1 ≤ rE k64 ∧ rE k64 ≤ (at9 + 1) ∧ 1 ≤ rD k64 ∧ rD k64 ≤ 9 * (20 - dp) + (sg - sg) + 1 := (by omega)
    have hz72 : at9 + 1 ≤ (at9 + 1) ∧ (at9 + 1) ≤ sz := (by omega)
    have hz73 : sg ≤ sg ∧ sg ≤ 60 := (by omega)
    have hz74 : ¬ tkN (B 7) sz 67 (nI at9) = 37 := (fun z => absurd ((h8.trans z).symm.trans h55) (by decide))
    have hz75 : NwT (B 7) sz (B 10) (B 10) K K62 at9 (at9 + 1) := (NwT.le htk69 (by omega))
    have hO : OKP G h0 a (upd (upd (upd (upd F 2 (nI sz)) 9 (nI (at9 + 1))) 10 (nI dp)) 11 (nI sg)) R Z (updA B 10 (B 10)) J K62 w := hO.to rfl
    refine W.widen (k := (2 * (sz - at9) + 19)) (n := (11 * (2 * (sz - at9) + 19))) (by omega) (by omega) ?_
    have hzz1 : H.size ≤ s.heap.size + ((2 * ((at9 + 1) - at9) - 1)) := (by have z : 1 ≤ (2 * ((at9 + 1) - at9) - 1) := (by omega); omega)
    have hzz2 : hSl H ≤ hSl s.heap + ((11 * (2 * ((at9 + 1) - at9) - 1))) := (by have z : 11 ≤ (11 * (2 * ((at9 + 1) - at9) - 1)) := (by omega); omega)
    exact W.aret (v := .ref r61) hx hb hr (Or.inl ⟨_, rfl⟩) (Or.inr ⟨_, rfl⟩) (fun t99 ht99 hW99 => ⟨⟨_, (w, (r61, K62, g63, (at9 + 1), sg, (B 10), k64)), rfl, ⟨rfl, hz70, hz71, hz72, hz73, hz74, hz75, hO⟩, by rw [ht99]; exact hP, hD, by rw [ht99]; exact hzz1, by rw [ht99]; exact hzz2⟩, hS.F ht99⟩) hS.2.2 dX8_operand_123
  by_cases h76 : r6 = 20
  · refine lv_lookup (tgt := 177) (off := 166) hx hb dX8_operand_11 (by decide) (by rw [h76]; decide) (by decide) ?_
    have htk := tok_in h7 h76 (by decide : ¬ (20 : Int32) = 67) (by omega) hsz
    refine lv_aload_n hx hb dX8_operand_177 rfl (lv_at hl 0 rfl) ?_
    refine lv_bipush (v := 6) hx hb dX8_operand_178 (by decide) ?_
    have hO : OKP G h0 a (upd (upd (upd (upd (upd (upd F 2 (nI sz)) 9 (nI at9)) 10 (nI dp)) 11 (nI sg)) 2 (nI sz)) 9 (nI at9)) R Z B J K w := hO.to rfl
    obtain ⟨_, qr80, hqr81⟩ := hO.2.1 23 _ (sg_23 G h0 a _ _ _ _ _)
    refine pc_V0 (G := G) (As := [.int 6]) (rest := []) hx hb hml hown hq hE hX pX0_al hP hD hS hA hl.1 (P_leaf l G h0 a (upd (upd (upd (upd F 2 (nI sz)) 9 (nI at9)) 10 (nI dp)) 11 (nI sg)) R Z B J K w 6 at9 sz O g (by omega) (by omega) hwn (fun o9 h9 => ⟨(how o9 h9).1, fun z => (by rw [(how o9 h9).2.1] at z; omega), (how o9 h9).2.2⟩) (by omega) (fun C => ⟨fun z => absurd z (by decide), fun z => absurd z (by decide), fun z => absurd z (by decide), fun z => absurd z (by decide), fun z => absurd z (by decide)⟩) (fun kq => IvK.no (by decide)) (by decide) hO) (gV pw_959 pw_960 pw_961 pw_796 pw_907) hV_X8_leaf qr80 5 hqr81 rfl rfl rfl (Nat.le_of_ble_eq_true rfl) dX8_operand_180 ⟨(by show 0 + 1 ≤ (2 * (sz - at9) + 19); omega), (by show 0 + 11 ≤ (11 * (2 * (sz - at9) + 19)); omega)⟩ ⟨(by show 3 + 1 ≤ (40 * n + 16); omega), (by show 8 + (2 + 11) + 83 ≤ (1300 * n + 480); omega)⟩ (fun v79 u77 H locs hw78 hP hD hS => ?_)
    obtain ⟨w, r82, K83, g84, k85⟩ := u77
    obtain ⟨hw78, h86, h87, h88, h89, hO⟩ := hw78
    have h86 : NwR K K83 g g84 r82 O k85 1 := h86
    have h87 : rS k85 = at9 ∧ rE k85 = at9 + 1 ∧ rD k85 = 1 := h87
    have h88 : K83.2.1 0 r82 = 6 := h88
    have h89 : NwT ((B 7)) sz ((B 10)) ((B 10)) K K83 at9 (at9 + 1) := h89
    obtain rfl : v79 = some (.ref r82) := hw78
    have hO : OKP G h0 a (upd (upd (upd (upd F 2 (nI sz)) 9 (nI (at9 + 1))) 10 (nI dp)) 11 (nI sg)) R Z B J K83 w := hO.to rfl
    refine W.widen (k := 1) (n := 11) (by show 0 + 1 ≤ 1; omega) (by show 0 + 11 ≤ 11; omega) ?_
    refine W.eq (g2 := F0 m 183 ls [.ref r82]) rfl ?_
    have htk90 : NwT (B 7) sz (B 10) (B 10) K K83 at9 (at9 + 1) := (NwT.call htk0 h89 (by omega))
    refine lv_astore_n (lv' := [(2, .ref r82), (0, .ref (a 3))]) hx hb dX8_operand_183 rfl hl (by decide) rfl (fun ls hl => ?_)
    refine lv_aload_n hx hb dX8_operand_184 rfl (lv_at hl 1 rfl) ?_
    refine lv_bipush (v := 34) hx hb dX8_operand_185 (by decide) ?_
    have hO : OKW G h0 a (upd (upd (upd (upd (upd (upd (upd (upd F 2 (nI sz)) 9 (nI at9)) 10 (nI dp)) 11 (nI sg)) 9 (nI (at9 + 1))) 2 (nI sz)) 9 (nI (at9 + 1))) 10 (nI dp)) R Z B J K83.1 (fun q99 x99 => x99 = rep G a K83 q99) w := hO.to rfl
    obtain ⟨_, qr94, hqr95⟩ := hO.2.1 23 _ (sg_23 G h0 a _ _ _ _ _)
    refine pn_V0 (G := G) (As := [.int 34]) (rest := []) hx hb hml hown hq hE hX pX0_al hP hD hS hA hl.1 (P_openBracket l G h0 a (upd (upd (upd (upd (upd F 2 (nI sz)) 9 (nI at9)) 10 (nI dp)) 11 (nI sg)) 9 (nI (at9 + 1))) R Z B J K83.1 (fun q99 x99 => x99 = rep G a K83 q99) w 34 dp (at9 + 1) sz (by omega) (by omega) (by decide) (by omega) hO hl0) (gV pw_913 pw_914 pw_915 pw_796 pw_900) hV_X8_openBracket qr94 5 hqr95 rfl rfl rfl (Nat.le_of_ble_eq_true rfl) dX8_operand_187 ⟨(by show 1 + 1 ≤ (2 * (sz - at9) + 19); omega), (by show 11 + 6 ≤ (11 * (2 * (sz - at9) + 19)); omega)⟩ ⟨(by show 7 + 1 ≤ (40 * n + 16); omega), (by show 8 + (2 + 11) + 122 ≤ (1300 * n + 480); omega)⟩ (fun v93 u91 H locs hw92 hP hD hS => ?_) (fun ux ce9 q9 H9 locs9 hux hP9 hD9 hS9 hce hcv hcl => pb_out ux (ThQ.up (Thx.same (Thx.same (Thx.same (Thx.f Thx.rfl (by omega)) rfl) rfl) rfl) RhX.rfl hux) hnt hlocks hce hcv hcl hP9 hD9 hS9 (by show 1 + 1 ≤ (2 * (sz - at9) + 19); omega) (by show 11 + 6 ≤ (11 * (2 * (sz - at9) + 19)); omega))
    obtain ⟨w, _⟩ := u91
    obtain ⟨hw92, h96, h97, hO⟩ := hw92
    have h96 : (at9 + 1) + 1 ≤ sz ∧ dp + 1 ≤ 20 := h96
    have h97 : tkN ((B 7)) sz 67 (nI (at9 + 1)) = 34 := h97
    obtain rfl : v93 = none := hw92
    have hO : OKP G h0 a (upd (upd (upd (upd F 2 (nI sz)) 9 (nI ((at9 + 1) + 1))) 10 (nI (dp + 1))) 11 (nI sg)) R Z B J K83 w := hO.to rfl
    refine W.widen (k := 1) (n := 11) (by show 1 + 0 ≤ 1; omega) (by show 11 + 0 ≤ 11; omega) ?_
    refine W.eq (g2 := F0 m 190 ls []) rfl ?_
    refine lv_aload_n hx hb dX8_operand_190 rfl (lv_at hl 1 rfl) ?_
    refine lv_bipush (v := 35) hx hb dX8_operand_191 (by decide) ?_
    have hO : OKW G h0 a (upd (upd (upd (upd (upd (upd (upd (upd (upd F 2 (nI sz)) 9 (nI at9)) 10 (nI dp)) 11 (nI sg)) 9 (nI ((at9 + 1) + 1))) 10 (nI (dp + 1))) 2 (nI sz)) 9 (nI ((at9 + 1) + 1))) 10 (nI (dp + 1))) R Z B J K83.1 (fun q99 x99 => x99 = rep G a K83 q99) w := hO.to rfl
    obtain ⟨_, qr101, hqr102⟩ := hO.2.1 23 _ (sg_23 G h0 a _ _ _ _ _)
    refine pn_V0 (G := G) (As := [.int 35]) (rest := []) hx hb hml hown hq hE hX pX0_al hP hD hS hA hl.1 (P_closeBracket l G h0 a (upd (upd (upd (upd (upd (upd F 2 (nI sz)) 9 (nI at9)) 10 (nI dp)) 11 (nI sg)) 9 (nI ((at9 + 1) + 1))) 10 (nI (dp + 1))) R Z B J K83.1 (fun q99 x99 => x99 = rep G a K83 q99) w 35 (dp + 1) ((at9 + 1) + 1) sz (by omega) (by omega) (by decide) (by omega) hO hl0) (gV pw_919 pw_920 pw_921 pw_796 pw_902) hV_X8_closeBracket qr101 5 hqr102 rfl rfl rfl (Nat.le_of_ble_eq_true rfl) dX8_operand_193 ⟨(by show 1 + 1 ≤ (2 * (sz - at9) + 19); omega), (by show 11 + 6 ≤ (11 * (2 * (sz - at9) + 19)); omega)⟩ ⟨(by show 7 + 1 ≤ (40 * n + 16); omega), (by show 8 + (2 + 11) + 122 ≤ (1300 * n + 480); omega)⟩ (fun v100 u98 H locs hw99 hP hD hS => ?_) (fun ux ce9 q9 H9 locs9 hux hP9 hD9 hS9 hce hcv hcl => pb_out ux (ThQ.up (Thx.same (Thx.same (Thx.same (Thx.f (Thx.f Thx.rfl (by omega)) (by omega)) rfl) rfl) rfl) RhX.rfl hux) hnt hlocks hce hcv hcl hP9 hD9 hS9 (by show 1 + 1 ≤ (2 * (sz - at9) + 19); omega) (by show 11 + 6 ≤ (11 * (2 * (sz - at9) + 19)); omega))
    obtain ⟨w, _⟩ := u98
    obtain ⟨hw99, h103, hO⟩ := hw99
    have h103 : ((at9 + 1) + 1) + 1 ≤ sz := h103
    obtain rfl : v100 = some (.int (nI ((at9 + 1) + 1))) := hw99
    have hO : OKP G h0 a (upd (upd (upd (upd F 2 (nI sz)) 9 (nI (((at9 + 1) + 1) + 1))) 10 (nI ((dp + 1) - 1))) 11 (nI sg)) R Z B J K83 w := hO.to rfl
    refine W.widen (k := 1) (n := 11) (by show 1 + 0 ≤ 1; omega) (by show 11 + 0 ≤ 11; omega) ?_
    refine W.eq (g2 := F0 m 196 ls [.int (nI ((at9 + 1) + 1))]) rfl ?_
    refine lv_pop hx hb dX8_operand_196 rfl ?_
    refine lv_aload_n hx hb dX8_operand_197 rfl (lv_at hl 0 rfl) ?_
    refine W_size (fun hz1 hz2 => ?_)
    refine vx_ret ?_
    have hz104 : NwR K K83 g g84 r82 O k85 ((5 * (20 - dp) + 2 + (sg - sg))) := (NwR.up h86 (by omega))
    have hz105 : at9 ≤ rS k85 ∧ rS k85 + 1 ≤ rE k85 ∧ rE k85 ≤ (((at9 + 1) + 1) + 1) ∧ 1 ≤ rD k85 ∧ rD k85 ≤ 9 * (20 - dp) + (sg - sg) + 1 := (by omega)
    have hz106 : at9 + 1 ≤ (((at9 + 1) + 1) + 1) ∧ (((at9 + 1) + 1) + 1) ≤ sz := (by omega)
    have hz107 : sg ≤ sg ∧ sg ≤ 60 := (by omega)
    have hz108 : ¬ tkN (B 7) sz 67 (nI at9) = 37 := (fun z => absurd ((h8.trans z).symm.trans h76) (by decide))
    have hz109 : NwT (B 7) sz (B 10) (B 10) K K83 at9 (((at9 + 1) + 1) + 1) := (NwT.le htk90 (by omega))
    have hO : OKP G h0 a (upd (upd (upd (upd F 2 (nI sz)) 9 (nI (((at9 + 1) + 1) + 1))) 10 (nI dp)) 11 (nI sg)) R Z (updA B 10 (B 10)) J K83 w := hO.to rfl
    refine W.widen (k := (2 * (sz - at9) + 19)) (n := (11 * (2 * (sz - at9) + 19))) (by omega) (by omega) ?_
    have hzz1 : H.size ≤ s.heap.size + ((2 * ((((at9 + 1) + 1) + 1) - at9) - 1)) := (by have z : 1 ≤ (2 * ((((at9 + 1) + 1) + 1) - at9) - 1) := (by omega); omega)
    have hzz2 : hSl H ≤ hSl s.heap + ((11 * (2 * ((((at9 + 1) + 1) + 1) - at9) - 1))) := (by have z : 11 ≤ (11 * (2 * ((((at9 + 1) + 1) + 1) - at9) - 1)) := (by omega); omega)
    exact W.aret (v := .ref r82) hx hb hr (Or.inl ⟨_, rfl⟩) (Or.inr ⟨_, rfl⟩) (fun t99 ht99 hW99 => ⟨⟨_, (w, (r82, K83, g84, (((at9 + 1) + 1) + 1), sg, (B 10), k85)), rfl, ⟨rfl, hz104, hz105, hz106, hz107, hz108, hz109, hO⟩, by rw [ht99]; exact hP, hD, by rw [ht99]; exact hzz1, by rw [ht99]; exact hzz2⟩, hS.F ht99⟩) hS.2.2 dX8_operand_198
  by_cases h110 : r6 = 22
  · refine lv_lookup (tgt := 135) (off := 124) hx hb dX8_operand_11 (by decide) (by rw [h110]; decide) (by decide) ?_
    have htk := tok_in h7 h110 (by decide : ¬ (22 : Int32) = 67) (by omega) hsz
    refine lv_aload_n hx hb dX8_operand_135 rfl (lv_at hl 0 rfl) ?_
    have hO : OKP G h0 a (upd (upd (upd (upd (upd (upd (upd (upd F 2 (nI sz)) 9 (nI at9)) 10 (nI dp)) 11 (nI sg)) 2 (nI sz)) 9 (nI at9)) 10 (nI dp)) 11 (nI sg)) R Z B J K w := hO.to rfl
    obtain ⟨_, qr114, hqr115⟩ := hO.2.1 23 _ (sg_23 G h0 a _ _ _ _ _)
    refine pn_V0 (G := G) (As := []) (rest := []) hx hb hml hown hq hE hX pX0_al hP hD hS hA hl.1 (P_superCall l G h0 a (upd (upd (upd (upd F 2 (nI sz)) 9 (nI at9)) 10 (nI dp)) 11 (nI sg)) R Z B J K w n at9 sz dp sg O g (by omega) (by omega) (by omega) (by omega) hwn how ihe hO hl0) (gV pw_966 pw_967 pw_968 pw_796 pw_985) hV_X8_superCall qr114 5 hqr115 rfl rfl rfl (Nat.le_of_ble_eq_true rfl) dX8_operand_136 ⟨(by show 0 + (2 * (sz - at9) + 19) ≤ (2 * (sz - at9) + 19); omega), (by show 0 + (11 * (2 * (sz - at9) + 19)) ≤ (11 * (2 * (sz - at9) + 19)); omega)⟩ ⟨(by show (40 * n + 14) + 1 ≤ (40 * n + 16); omega), (by show 8 + (3 + 11) + (1300 * n + 440) ≤ (1300 * n + 480); omega)⟩ (fun v113 u111 H locs hw112 hP hD hS => ?_) (fun ux ce9 q9 H9 locs9 hux hP9 hD9 hS9 hce hcv hcl => pb_out ux (ThQ.up (Thx.same (Thx.same (Thx.same (Thx.same Thx.rfl rfl) rfl) rfl) rfl) RhX.rfl hux) hnt hlocks hce hcv hcl hP9 hD9 hS9 (by show 0 + (2 * (sz - at9) + 19) ≤ (2 * (sz - at9) + 19); omega) (by show 0 + (11 * (2 * (sz - at9) + 19)) ≤ (11 * (2 * (sz - at9) + 19)); omega))
    obtain ⟨w, r116, K117, g118, at119, sg120, f121, k122⟩ := u111
    obtain ⟨hw112, h123, h124, h125, h126, h127, hO⟩ := hw112
    have h123 : NwR K K117 g g118 r116 O k122 ((5 * (20 - dp) + 2 + (sg120 - sg))) := h123
    have h124 : at9 ≤ rS k122 ∧ rS k122 + 1 ≤ rE k122 ∧ rE k122 ≤ at119 ∧ 1 ≤ rD k122 ∧ rD k122 ≤ 9 * (20 - dp) + (sg120 - sg) + 1 := h124
    have h125 : at9 + 3 ≤ at119 ∧ at119 ≤ sz := h125
    have h126 : sg ≤ sg120 ∧ sg120 ≤ 60 := h126
    have h127 : NwT ((B 7)) sz ((B 10)) f121 K K117 at9 at119 := h127
    obtain rfl : v113 = some (.ref r116) := hw112
    have hO : OKP G h0 a (upd (upd (upd (upd F 2 (nI sz)) 9 (nI at119)) 10 (nI dp)) 11 (nI sg120)) R Z (updA B 10 f121) J K117 w := hO.to rfl
    refine W.widen (k := (2 * (at119 - at9) - 2)) (n := (11 * (2 * (at119 - at9) - 2))) (by show 0 + (2 * (at119 - at9) - 2) ≤ (2 * (at119 - at9) - 2); omega) (by show 0 + (11 * (2 * (at119 - at9) - 2)) ≤ (11 * (2 * (at119 - at9) - 2)); omega) ?_
    refine W.eq (g2 := F0 m 139 ls [.ref r116]) rfl ?_
    have htk128 : NwT (B 7) sz (B 10) f121 K K117 at9 at119 := (NwT.call htk0 h127 (by omega))
    refine W_size (fun hz1 hz2 => ?_)
    refine vx_ret ?_
    have hz129 : NwR K K117 g g118 r116 O k122 ((5 * (20 - dp) + 2 + (sg120 - sg))) := (NwR.up h123 (by omega))
    have hz130 : at9 ≤ rS k122 ∧ rS k122 + 1 ≤ rE k122 ∧ rE k122 ≤ at119 ∧ 1 ≤ rD k122 ∧ rD k122 ≤ 9 * (20 - dp) + (sg120 - sg) + 1 := (by omega)
    have hz131 : at9 + 1 ≤ at119 ∧ at119 ≤ sz := (by omega)
    have hz132 : sg ≤ sg120 ∧ sg120 ≤ 60 := (by omega)
    have hz133 : ¬ tkN (B 7) sz 67 (nI at9) = 37 := (fun z => absurd ((h8.trans z).symm.trans h110) (by decide))
    have hz134 : NwT (B 7) sz (B 10) f121 K K117 at9 at119 := (NwT.le htk128 (by omega))
    have hO : OKP G h0 a (upd (upd (upd (upd F 2 (nI sz)) 9 (nI at119)) 10 (nI dp)) 11 (nI sg120)) R Z (updA B 10 f121) J K117 w := hO.to rfl
    refine W.widen (k := (2 * (sz - at9) + 19)) (n := (11 * (2 * (sz - at9) + 19))) (by omega) (by omega) ?_
    have hzz1 : H.size ≤ s.heap.size + ((2 * (at119 - at9) - 1)) := (by have z : (2 * (at119 - at9) - 2) ≤ (2 * (at119 - at9) - 1) := (by omega); omega)
    have hzz2 : hSl H ≤ hSl s.heap + ((11 * (2 * (at119 - at9) - 1))) := (by have z : (11 * (2 * (at119 - at9) - 2)) ≤ (11 * (2 * (at119 - at9) - 1)) := (by omega); omega)
    exact W.aret (v := .ref r116) hx hb hr (Or.inl ⟨_, rfl⟩) (Or.inr ⟨_, rfl⟩) (fun t99 ht99 hW99 => ⟨⟨_, (w, (r116, K117, g118, at119, sg120, f121, k122)), rfl, ⟨rfl, hz129, hz130, hz131, hz132, hz133, hz134, hO⟩, by rw [ht99]; exact hP, hD, by rw [ht99]; exact hzz1, by rw [ht99]; exact hzz2⟩, hS.F ht99⟩) hS.2.2 dX8_operand_139
  by_cases h135 : r6 = 23
  · refine lv_lookup (tgt := 124) (off := 113) hx hb dX8_operand_11 (by decide) (by rw [h135]; decide) (by decide) ?_
    have htk := tok_in h7 h135 (by decide : ¬ (23 : Int32) = 67) (by omega) hsz
    refine lv_aload_n hx hb dX8_operand_124 rfl (lv_at hl 0 rfl) ?_
    refine lv_iconst (v := 4) hx hb dX8_operand_125 (by decide) ?_
    have hO : OKP G h0 a (upd (upd (upd (upd (upd (upd F 2 (nI sz)) 9 (nI at9)) 10 (nI dp)) 11 (nI sg)) 2 (nI sz)) 9 (nI at9)) R Z B J K w := hO.to rfl
    obtain ⟨_, qr139, hqr140⟩ := hO.2.1 23 _ (sg_23 G h0 a _ _ _ _ _)
    refine pc_V0 (G := G) (As := [.int 4]) (rest := []) hx hb hml hown hq hE hX pX0_al hP hD hS hA hl.1 (P_leaf l G h0 a (upd (upd (upd (upd F 2 (nI sz)) 9 (nI at9)) 10 (nI dp)) 11 (nI sg)) R Z B J K w 4 at9 sz O g (by omega) (by omega) hwn (fun o9 h9 => ⟨(how o9 h9).1, fun z => (by rw [(how o9 h9).2.1] at z; omega), (how o9 h9).2.2⟩) (by omega) (fun C => ⟨fun z => absurd z (by decide), fun z => absurd z (by decide), fun z => absurd z (by decide), fun z => absurd z (by decide), fun z => absurd z (by decide)⟩) (fun kq => IvK.no (by decide)) (by decide) hO) (gV pw_959 pw_960 pw_961 pw_796 pw_907) hV_X8_leaf qr139 5 hqr140 rfl rfl rfl (Nat.le_of_ble_eq_true rfl) dX8_operand_126 ⟨(by show 0 + 1 ≤ (2 * (sz - at9) + 19); omega), (by show 0 + 11 ≤ (11 * (2 * (sz - at9) + 19)); omega)⟩ ⟨(by show 3 + 1 ≤ (40 * n + 16); omega), (by show 8 + (2 + 11) + 83 ≤ (1300 * n + 480); omega)⟩ (fun v138 u136 H locs hw137 hP hD hS => ?_)
    obtain ⟨w, r141, K142, g143, k144⟩ := u136
    obtain ⟨hw137, h145, h146, h147, h148, hO⟩ := hw137
    have h145 : NwR K K142 g g143 r141 O k144 1 := h145
    have h146 : rS k144 = at9 ∧ rE k144 = at9 + 1 ∧ rD k144 = 1 := h146
    have h147 : K142.2.1 0 r141 = 4 := h147
    have h148 : NwT ((B 7)) sz ((B 10)) ((B 10)) K K142 at9 (at9 + 1) := h148
    obtain rfl : v138 = some (.ref r141) := hw137
    have hO : OKP G h0 a (upd (upd (upd (upd F 2 (nI sz)) 9 (nI (at9 + 1))) 10 (nI dp)) 11 (nI sg)) R Z B J K142 w := hO.to rfl
    refine W.widen (k := 1) (n := 11) (by show 0 + 1 ≤ 1; omega) (by show 0 + 11 ≤ 11; omega) ?_
    refine W.eq (g2 := F0 m 129 ls [.ref r141]) rfl ?_
    have htk149 : NwT (B 7) sz (B 10) (B 10) K K142 at9 (at9 + 1) := (NwT.call htk0 h148 (by omega))
    refine W_size (fun hz1 hz2 => ?_)
    refine vx_ret ?_
    have hz150 : NwR K K142 g g143 r141 O k144 ((5 * (20 - dp) + 2 + (sg - sg))) := (NwR.up h145 (by omega))
    have hz151 : at9 ≤ rS k144 ∧ rS k144 + 1 ≤ rE k144 ∧ rE k144 ≤ (at9 + 1) ∧ 1 ≤ rD k144 ∧ rD k144 ≤ 9 * (20 - dp) + (sg - sg) + 1 := (by omega)
    have hz152 : at9 + 1 ≤ (at9 + 1) ∧ (at9 + 1) ≤ sz := (by omega)
    have hz153 : sg ≤ sg ∧ sg ≤ 60 := (by omega)
    have hz154 : ¬ tkN (B 7) sz 67 (nI at9) = 37 := (fun z => absurd ((h8.trans z).symm.trans h135) (by decide))
    have hz155 : NwT (B 7) sz (B 10) (B 10) K K142 at9 (at9 + 1) := (NwT.le htk149 (by omega))
    have hO : OKP G h0 a (upd (upd (upd (upd F 2 (nI sz)) 9 (nI (at9 + 1))) 10 (nI dp)) 11 (nI sg)) R Z (updA B 10 (B 10)) J K142 w := hO.to rfl
    refine W.widen (k := (2 * (sz - at9) + 19)) (n := (11 * (2 * (sz - at9) + 19))) (by omega) (by omega) ?_
    have hzz1 : H.size ≤ s.heap.size + ((2 * ((at9 + 1) - at9) - 1)) := (by have z : 1 ≤ (2 * ((at9 + 1) - at9) - 1) := (by omega); omega)
    have hzz2 : hSl H ≤ hSl s.heap + ((11 * (2 * ((at9 + 1) - at9) - 1))) := (by have z : 11 ≤ (11 * (2 * ((at9 + 1) - at9) - 1)) := (by omega); omega)
    exact W.aret (v := .ref r141) hx hb hr (Or.inl ⟨_, rfl⟩) (Or.inr ⟨_, rfl⟩) (fun t99 ht99 hW99 => ⟨⟨_, (w, (r141, K142, g143, (at9 + 1), sg, (B 10), k144)), rfl, ⟨rfl, hz150, hz151, hz152, hz153, hz154, hz155, hO⟩, by rw [ht99]; exact hP, hD, by rw [ht99]; exact hzz1, by rw [ht99]; exact hzz2⟩, hS.F ht99⟩) hS.2.2 dX8_operand_129
  by_cases h156 : r6 = 25
  · refine lv_lookup (tgt := 106) (off := 95) hx hb dX8_operand_11 (by decide) (by rw [h156]; decide) (by decide) ?_
    have htk := tok_in h7 h156 (by decide : ¬ (25 : Int32) = 67) (by omega) hsz
    refine lv_aload_n hx hb dX8_operand_106 rfl (lv_at hl 0 rfl) ?_
    refine lv_iconst (v := 1) hx hb dX8_operand_107 (by decide) ?_
    have hO : OKP G h0 a (upd (upd (upd (upd (upd (upd F 2 (nI sz)) 9 (nI at9)) 10 (nI dp)) 11 (nI sg)) 2 (nI sz)) 9 (nI at9)) R Z B J K w := hO.to rfl
    obtain ⟨_, qr160, hqr161⟩ := hO.2.1 23 _ (sg_23 G h0 a _ _ _ _ _)
    refine pc_V0 (G := G) (As := [.int 1]) (rest := []) hx hb hml hown hq hE hX pX0_al hP hD hS hA hl.1 (P_leaf l G h0 a (upd (upd (upd (upd F 2 (nI sz)) 9 (nI at9)) 10 (nI dp)) 11 (nI sg)) R Z B J K w 1 at9 sz O g (by omega) (by omega) hwn (fun o9 h9 => ⟨(how o9 h9).1, fun z => (by rw [(how o9 h9).2.1] at z; omega), (how o9 h9).2.2⟩) (by omega) (fun C => ⟨fun z => absurd z (by decide), fun z => absurd z (by decide), fun z => absurd z (by decide), fun z => absurd z (by decide), fun z => absurd z (by decide)⟩) (fun kq => IvK.no (by decide)) (by decide) hO) (gV pw_959 pw_960 pw_961 pw_796 pw_907) hV_X8_leaf qr160 5 hqr161 rfl rfl rfl (Nat.le_of_ble_eq_true rfl) dX8_operand_108 ⟨(by show 0 + 1 ≤ (2 * (sz - at9) + 19); omega), (by show 0 + 11 ≤ (11 * (2 * (sz - at9) + 19)); omega)⟩ ⟨(by show 3 + 1 ≤ (40 * n + 16); omega), (by show 8 + (2 + 11) + 83 ≤ (1300 * n + 480); omega)⟩ (fun v159 u157 H locs hw158 hP hD hS => ?_)
    obtain ⟨w, r162, K163, g164, k165⟩ := u157
    obtain ⟨hw158, h166, h167, h168, h169, hO⟩ := hw158
    have h166 : NwR K K163 g g164 r162 O k165 1 := h166
    have h167 : rS k165 = at9 ∧ rE k165 = at9 + 1 ∧ rD k165 = 1 := h167
    have h168 : K163.2.1 0 r162 = 1 := h168
    have h169 : NwT ((B 7)) sz ((B 10)) ((B 10)) K K163 at9 (at9 + 1) := h169
    obtain rfl : v159 = some (.ref r162) := hw158
    have hO : OKP G h0 a (upd (upd (upd (upd F 2 (nI sz)) 9 (nI (at9 + 1))) 10 (nI dp)) 11 (nI sg)) R Z B J K163 w := hO.to rfl
    refine W.widen (k := 1) (n := 11) (by show 0 + 1 ≤ 1; omega) (by show 0 + 11 ≤ 11; omega) ?_
    refine W.eq (g2 := F0 m 111 ls [.ref r162]) rfl ?_
    have htk170 : NwT (B 7) sz (B 10) (B 10) K K163 at9 (at9 + 1) := (NwT.call htk0 h169 (by omega))
    refine W_size (fun hz1 hz2 => ?_)
    refine vx_ret ?_
    have hz171 : NwR K K163 g g164 r162 O k165 ((5 * (20 - dp) + 2 + (sg - sg))) := (NwR.up h166 (by omega))
    have hz172 : at9 ≤ rS k165 ∧ rS k165 + 1 ≤ rE k165 ∧ rE k165 ≤ (at9 + 1) ∧ 1 ≤ rD k165 ∧ rD k165 ≤ 9 * (20 - dp) + (sg - sg) + 1 := (by omega)
    have hz173 : at9 + 1 ≤ (at9 + 1) ∧ (at9 + 1) ≤ sz := (by omega)
    have hz174 : sg ≤ sg ∧ sg ≤ 60 := (by omega)
    have hz175 : ¬ tkN (B 7) sz 67 (nI at9) = 37 := (fun z => absurd ((h8.trans z).symm.trans h156) (by decide))
    have hz176 : NwT (B 7) sz (B 10) (B 10) K K163 at9 (at9 + 1) := (NwT.le htk170 (by omega))
    have hO : OKP G h0 a (upd (upd (upd (upd F 2 (nI sz)) 9 (nI (at9 + 1))) 10 (nI dp)) 11 (nI sg)) R Z (updA B 10 (B 10)) J K163 w := hO.to rfl
    refine W.widen (k := (2 * (sz - at9) + 19)) (n := (11 * (2 * (sz - at9) + 19))) (by omega) (by omega) ?_
    have hzz1 : H.size ≤ s.heap.size + ((2 * ((at9 + 1) - at9) - 1)) := (by have z : 1 ≤ (2 * ((at9 + 1) - at9) - 1) := (by omega); omega)
    have hzz2 : hSl H ≤ hSl s.heap + ((11 * (2 * ((at9 + 1) - at9) - 1))) := (by have z : 11 ≤ (11 * (2 * ((at9 + 1) - at9) - 1)) := (by omega); omega)
    exact W.aret (v := .ref r162) hx hb hr (Or.inl ⟨_, rfl⟩) (Or.inr ⟨_, rfl⟩) (fun t99 ht99 hW99 => ⟨⟨_, (w, (r162, K163, g164, (at9 + 1), sg, (B 10), k165)), rfl, ⟨rfl, hz171, hz172, hz173, hz174, hz175, hz176, hO⟩, by rw [ht99]; exact hP, hD, by rw [ht99]; exact hzz1, by rw [ht99]; exact hzz2⟩, hS.F ht99⟩) hS.2.2 dX8_operand_111
  by_cases h177 : r6 = 34
  · refine lv_lookup (tgt := 145) (off := 134) hx hb dX8_operand_11 (by decide) (by rw [h177]; decide) (by decide) ?_
    have htk := tok_in h7 h177 (by decide : ¬ (34 : Int32) = 67) (by omega) hsz
    refine p_new (s9 := 1) (C := RX7) (T := TX7) (N := 11) (ci := 13) (fs := [.int 0, .int 0, .int 0, .int 0, .int 0, .int 0, .null, .null, .null, .null, .null]) hx hb hq pin_wsX70 tyX7 tyX7_ok hown (hq _ pw_870) (hq _ pw_871) (hq _ pw_872) hE hP hD hS hA hO rfl nw_X7 (by decide) (fun q => by rw [rep_1 (show (kN K q 1 0).1 q = 1 from if_pos rfl)]; unfold fsNode kN; simp only [if_true]; rfl) (by show 0 + 1 ≤ (2 * (sz - at9) + 19); omega) (by show 0 + 11 ≤ (11 * (2 * (sz - at9) + 19)); omega) dX8_operand_145 (fun q178 H w hq179 hP hD hS hO => ?_)
    have hf180 : (kN K q178 1 0).1 q178 = 1 := if_pos rfl
    refine W.widen (k := 1) (n := 11) (by show 0 + 1 ≤ 1; omega) (by show 0 + 11 ≤ 11; omega) ?_
    refine lv_dup hx hb dX8_operand_148 rfl ?_
    refine lv_bipush (v := 7) hx hb dX8_operand_149 (by decide) ?_
    refine lv_aload_n hx hb dX8_operand_151 rfl (lv_at hl 0 rfl) ?_
    refine c_get (v := .int (nI at9)) (C := RX8) (Tc := TX8) (N := 5) (ci := 5) hx hb hq pin_wsX80 hown hE hP hO 23 (sg_23 G h0 a _ _ _ _ _) rfl 2 (by decide) (hq _ pw_776) (fun _ h9 => h9) rfl dX8_operand_152 ?_
    refine lv_aload_n hx hb dX8_operand_155 rfl (lv_at hl 0 rfl) ?_
    refine c_get (v := .int (nI at9)) (C := RX8) (Tc := TX8) (N := 5) (ci := 5) hx hb hq pin_wsX80 hown hE hP hO 23 (sg_23 G h0 a _ _ _ _ _) rfl 2 (by decide) (hq _ pw_776) (fun _ h9 => h9) rfl dX8_operand_156 ?_
    have hO : OKP G h0 a (upd (upd (upd (upd F 2 (nI sz)) 9 (nI at9)) 10 (nI dp)) 11 (nI sg)) R Z B J (kN K q178 1 0) w := hO.to rfl
    obtain ⟨qr184, hqr185⟩ := p_recv hO (by rw [hf180]; decide) (rep_1 hf180)
    refine pc_I0 (G := G) (As := [.int 7, .int (nI at9), .int (nI at9)]) (rest := [.ref q178]) hx hb hml hown hq hE hX pX0_al hP hD hS hA hl.1 (N_init l G h0 a (upd (upd (upd (upd F 2 (nI sz)) 9 (nI at9)) 10 (nI dp)) 11 (nI sg)) R Z B J (kN K q178 1 0) w q178 7 (nI at9) (nI at9) (by omega) hO) pw_874 pw_875 pw_872 pw_765 rfl hS_X7_init rfl (Nat.le_of_ble_eq_true rfl) dX8_operand_159 ⟨(by show 1 + 0 ≤ (2 * (sz - at9) + 19); omega), (by show 11 + 0 ≤ (11 * (2 * (sz - at9) + 19)); omega)⟩ ⟨(by show 2 + 1 ≤ (40 * n + 16); omega), (by show 8 + (4 + 11) + 60 ≤ (1300 * n + 480); omega)⟩ (fun v183 u181 H locs hw182 hP hD hS => ?_)
    obtain ⟨w, _⟩ := u181
    obtain ⟨hw182, hO⟩ := hw182
    obtain rfl : v183 = none := hw182
    have hf186 : (kI (kI (kI (kN K q178 1 0) 0 q178 7) 1 q178 (nI at9)) 2 q178 (nI at9)).1 q178 = 1 := hf180
    have hO : OKP G h0 a (upd (upd (upd (upd F 2 (nI sz)) 9 (nI at9)) 10 (nI dp)) 11 (nI sg)) R Z B J (kI (kI (kI (kN K q178 1 0) 0 q178 7) 1 q178 (nI at9)) 2 q178 (nI at9)) w := hO.to rfl
    refine W.widen (k := 1) (n := 11) (by show 1 + 0 ≤ 1; omega) (by show 11 + 0 ≤ 11; omega) ?_
    refine W.eq (g2 := F0 m 162 ls [.ref q178]) rfl ?_
    change OKP G h0 a (upd (upd (upd (upd F 2 (nI sz)) 9 (nI at9)) 10 (nI dp)) 11 (nI sg)) R Z B J (mkN K q178 7 (nI at9) (nI at9)) w at hO
    obtain ⟨K187, hK188⟩ : ∃ z : PK, z = (mkN K q178 7 (nI at9) (nI at9)) := ⟨_, rfl⟩
    rw [← hK188] at hO
    have htk189 : NwT (B 7) sz (B 10) (B 10) K K187 at9 at9 := by rw [hK188]; exact NwT.new (NwT.le htk0 (show _ ≤ at9 by omega)) hq179 (TkP.no (by decide))
    have hf190 : K187.1 q178 = 1 := by rw [hK188]; exact mkN_T
    have hf191 : K187.2.1 0 q178 = 7 := by rw [hK188]; exact mkN_0
    have hf192 : K187.2.1 2 q178 = (nI at9) := by rw [hK188]; exact mkN_2
    have hf193 : K187.2.2.1 0 q178 = none := by rw [hK188]; exact mkN_C
    have hf194 : K187.2.2.1 1 q178 = none := by rw [hK188]; exact mkN_C
    have hf195 : K187.2.2.1 2 q178 = none := by rw [hK188]; exact mkN_C
    have hf196 : K187.2.2.1 3 q178 = none := by rw [hK188]; exact mkN_C
    have hf197 : K187.2.2.1 4 q178 = none := by rw [hK188]; exact mkN_C
    have hns198 : NwS K K187 g (gset g q178 0 0 0) := by rw [hK188]; exact NwS.node hns0 hq179
    have hq199 : K.1 q178 = 0 := old_T hns0.2.1 hq179
    have hg200 : (gset g q178 0 0 0) 0 q178 = 0 := gset_0
    have hno201 : NoO K187 (gset g q178 0 0 0) q178 := by rw [hK188]; exact NoO.new hns0.1 hq179
    refine lv_astore_n (lv' := [(1, .ref q178), (0, .ref (a 3))]) hx hb dX8_operand_162 rfl hl (by decide) rfl (fun ls hl => ?_)
    refine lv_aload_n hx hb dX8_operand_163 rfl (lv_at hl 0 rfl) ?_
    refine lv_aload_n hx hb dX8_operand_164 rfl (lv_at hl 1 rfl) ?_
    refine lv_bipush (v := 34) hx hb dX8_operand_165 (by decide) ?_
    refine lv_bipush (v := 35) hx hb dX8_operand_167 (by decide) ?_
    have hO : OKP G h0 a (upd (upd (upd (upd (upd (upd (upd (upd F 2 (nI sz)) 9 (nI at9)) 10 (nI dp)) 11 (nI sg)) 2 (nI sz)) 9 (nI at9)) 10 (nI dp)) 11 (nI sg)) R Z B J K187 w := hO.to rfl
    obtain ⟨_, qr205, hqr206⟩ := hO.2.1 23 _ (sg_23 G h0 a _ _ _ _ _)
    refine pn_V0 (G := G) (As := [.int 34, .int 35]) (rest := [.ref q178]) hx hb hml hown hq hE hX pX0_al hP hD hS hA hl.1 (P_bracketed l G h0 a (upd (upd (upd (upd F 2 (nI sz)) 9 (nI at9)) 10 (nI dp)) 11 (nI sg)) R Z B J K187 w 34 35 n at9 sz dp sg 0 (gset g q178 0 0 0) (by omega) (by omega) (by omega) (by omega) hns198.1 (fun o9 h9 => absurd h9 (by omega)) (by decide) (by decide) ihe hO hl0) (gV pw_954 pw_955 pw_956 pw_796 pw_922) hV_X8_bracketed qr205 5 hqr206 rfl rfl rfl (Nat.le_of_ble_eq_true rfl) dX8_operand_169 ⟨(by show 1 + (2 * (sz - at9) + 18) ≤ (2 * (sz - at9) + 19); omega), (by show 11 + (11 * (2 * (sz - at9) + 18)) ≤ (11 * (2 * (sz - at9) + 19)); omega)⟩ ⟨(by show (40 * n + 10) + 1 ≤ (40 * n + 16); omega), (by show 8 + (4 + 11) + (1300 * n + 330) ≤ (1300 * n + 480); omega)⟩ (fun v204 u202 H locs hw203 hP hD hS => ?_) (fun ux ce9 q9 H9 locs9 hux hP9 hD9 hS9 hce hcv hcl => pb_out ux (ThQ.up (Thx.same (Thx.same (Thx.same (Thx.same Thx.rfl rfl) rfl) rfl) rfl) RhX.rfl hux) hnt hlocks hce hcv hcl hP9 hD9 hS9 (by show 1 + (2 * (sz - at9) + 18) ≤ (2 * (sz - at9) + 19); omega) (by show 11 + (11 * (2 * (sz - at9) + 18)) ≤ (11 * (2 * (sz - at9) + 19)); omega))
    obtain ⟨w, r207, K208, g209, at210, sg211, f212, k213⟩ := u202
    obtain ⟨hw203, h214, h215, h216, h217, h218, h219, h220, hO⟩ := hw203
    have h214 : NwR K187 K208 (gset g q178 0 0 0) g209 r207 0 k213 (5 * (20 - (dp + 1)) + 6 + (sg211 - sg)) := h214
    have h215 : at9 + 1 ≤ rS k213 ∧ rS k213 + 1 ≤ rE k213 ∧ rE k213 + 1 ≤ at210 ∧ 1 ≤ rD k213 ∧ rD k213 ≤ 9 * (20 - (dp + 1)) + (sg211 - sg) + 1 := h215
    have h216 : at9 + 3 ≤ at210 ∧ at210 ≤ sz := h216
    have h217 : sg ≤ sg211 ∧ sg211 ≤ 60 := h217
    have h218 : dp + 1 ≤ 20 := h218
    have h219 : ¬ tkN ((B 7)) sz 67 (nI (at9 + 1)) = 37 := h219
    have h220 : NwT ((B 7)) sz ((B 10)) f212 K187 K208 at9 at210 := h220
    obtain rfl : v204 = some (.ref r207) := hw203
    have hf221 : K208.1 q178 = 1 := (((h214).2.1.1 q178 (by rw [hf190]; decide)).1).trans hf190
    have hf222 : K208.2.1 0 q178 = 7 := (((h214).2.1.1 q178 (by rw [hf190]; decide)).2.1 0).trans hf191
    have hf223 : K208.2.1 2 q178 = (nI at9) := (((h214).2.1.1 q178 (by rw [hf190]; decide)).2.1 2).trans hf192
    have hf224 : K208.2.2.1 0 q178 = none := (((h214).2.1.1 q178 (by rw [hf190]; decide)).2.2.1 0).trans hf193
    have hf225 : K208.2.2.1 1 q178 = none := (((h214).2.1.1 q178 (by rw [hf190]; decide)).2.2.1 1).trans hf194
    have hf226 : K208.2.2.1 2 q178 = none := (((h214).2.1.1 q178 (by rw [hf190]; decide)).2.2.1 2).trans hf195
    have hf227 : K208.2.2.1 3 q178 = none := (((h214).2.1.1 q178 (by rw [hf190]; decide)).2.2.1 3).trans hf196
    have hf228 : K208.2.2.1 4 q178 = none := (((h214).2.1.1 q178 (by rw [hf190]; decide)).2.2.1 4).trans hf197
    have hO : OKP G h0 a (upd (upd (upd (upd F 2 (nI sz)) 9 (nI at210)) 10 (nI dp)) 11 (nI sg211)) R Z (updA B 10 f212) J K208 w := hO.to rfl
    refine W.widen (k := (1 + (2 * (at210 - at9) - 5))) (n := (11 + (11 * (2 * (at210 - at9) - 5)))) (by show 1 + (2 * (at210 - at9) - 5) ≤ (1 + (2 * (at210 - at9) - 5)); omega) (by show 11 + (11 * (2 * (at210 - at9) - 5)) ≤ (11 + (11 * (2 * (at210 - at9) - 5))); omega) ?_
    refine W.eq (g2 := F0 m 172 ls [.ref r207, .ref q178]) rfl ?_
    have htk229 : NwT (B 7) sz (B 10) f212 K K208 at9 at210 := (NwT.call htk189 h220 (by omega))
    have hns230 : NwS K K208 g g209 := NwS.call hns198 h214 (fun o9 h9 => absurd h9 (by omega))
    have hrk231 : g209 2 r207 = k213 := h214.2.2.1.2.2.2.2.2.1
    have hf232 : K208.1 r207 = 1 := h214.2.2.1.2.1
    have hg233 : g209 0 q178 = 0 := (h214.2.1.2 q178 (by rw [hf190]; decide) 0).trans hg200
    have hno234 : NoO K208 g209 q178 := NoO.call hno201 h214 hf190 (by omega)
    refine p_put (v := .ref r207) (ty := (.object "JinjaTongue$Node")) (C := RX7) (Tc := TX7) (N := 11) (ci := 13) (K' := (kC K208 0 q178 (some r207))) hx hb hq pin_wsX70 tyX7 tyX7_ok nmX7 hown hE hP hD hS hO (by rw [hf221]; decide) (rep_1 hf221) rfl 6 (by decide) (hq _ pw_938) (fun _ h9 => h9) rfl (by decide +kernel) rfl rfl (Nat.le_of_ble_eq_true rfl) rfl (by rw [rep_1 (show (kC K208 0 q178 (some r207)).1 q178 = 1 from hf221), pc_0] <;> rfl) (fun p9 hp9 => rep_kC hp9) dX8_operand_172 (fun H locs w hP hD hS hO => ?_)
    obtain ⟨K235, hK236⟩ : ∃ z : PK, z = (kC K208 0 q178 (some r207)) := ⟨_, rfl⟩
    rw [← hK236] at hO
    have hf237 : K235.1 q178 = 1 := (by rw [hK236]; exact hf221)
    have hf238 : K235.2.1 0 q178 = 7 := (by rw [hK236]; exact hf222)
    have hf239 : K235.2.1 2 q178 = (nI at9) := (by rw [hK236]; exact hf223)
    have hf240 : K235.2.2.1 1 q178 = none := (by rw [hK236]; exact (kC_of (by decide)).trans hf225)
    have hf241 : K235.2.2.1 2 q178 = none := (by rw [hK236]; exact (kC_of (by decide)).trans hf226)
    have hf242 : K235.2.2.1 3 q178 = none := (by rw [hK236]; exact (kC_of (by decide)).trans hf227)
    have hf243 : K235.2.2.1 4 q178 = none := (by rw [hK236]; exact (kC_of (by decide)).trans hf228)
    have hf244 : K235.1 r207 = 1 := (by rw [hK236]; exact hf232)
    have hf245 : K235.2.2.1 0 q178 = some r207 := by rw [hK236]; exact kC_eq
    have htk246 : NwT (B 7) sz (B 10) f212 K K235 at9 at210 := by rw [hK236]; exact NwT.put htk229
    have hns247 : NwS K K235 g g209 := by rw [hK236]; exact NwS.put hns230 hq199 hg233
    have hno248 : NoO K235 g209 q178 := by rw [hK236]; exact hno234
    refine lv_aload_n hx hb dX8_operand_175 rfl (lv_at hl 0 rfl) ?_
    refine W_size (fun hz1 hz2 => ?_)
    refine vx_ret ?_
    have hlr := h214.2.2.1
    have hlr1 := hlr.2.2.1
    have hlr2 := hlr.2.2.2.1
    obtain ⟨k9249, k9249I, k9249S, k9249E, k9249M, k9249N, k9249X, k9249D⟩ := rk_ex (s := at9) (e := at210) (m := at9) (n := at9) (x := 0) (d := (9 * (20 - dp) + (sg211 - sg) + 1)) (by omega)
    have hkid : ∀ f9 y9 : Nat, f9 ≤ 3 → K235.2.2.1 f9 q178 = some y9 → K235.1 y9 = 1 ∧ 1 ≤ g209 0 y9 ∧ g209 0 y9 < (5 * (20 - dp) + 2 + (sg211 - sg)) := by
      intro f9 y9 hf9 hy9
      rcases (show f9 = 0 ∨ f9 = 1 ∨ f9 = 2 ∨ f9 = 3 by omega) with rfl | rfl | rfl | rfl
      · rw [hf245] at hy9; cases hy9; exact ⟨hf244, hlr1, by omega⟩
      · rw [hf240] at hy9; cases hy9
      · rw [hf241] at hy9; cases hy9
      · rw [hf242] at hy9; cases hy9
    have hkc250 : ∀ f9 y9 : Nat, f9 ≤ 3 → K235.2.2.1 f9 q178 = some y9 → Kch (K235.2.1 0 q178) f9 (K235.2.1 0 y9) k9249 (g209 2 y9) := by
      intro f9 y9 hf9 hy9
      rcases (show f9 = 0 ∨ f9 = 1 ∨ f9 = 2 ∨ f9 = 3 by omega) with rfl | rfl | rfl | rfl
      · rw [hf245] at hy9; cases hy9; rw [hrk231]; rw [hf238] <;> exact ⟨(fun z => absurd z (by decide)), (fun z => absurd z (by decide)), (fun z => absurd z (by decide)), (fun _ _ => (by omega)), (fun z => absurd z (by decide)), (fun z => absurd z (by decide)), (fun z => absurd z (by decide)), (fun z => absurd z (by decide)), (fun z => absurd z (by decide)), (fun z => absurd z (by decide)), (fun z => absurd z (by decide)), (fun z => absurd z (by decide)), (fun z => absurd z (by decide)), (fun z => absurd z (by decide)), (fun z => absurd z (by decide)), (fun z => absurd z (by decide)), (fun z => absurd z (by decide)), (fun z => absurd z (by decide)), (fun z => absurd z (by decide)), (fun z => absurd z (by decide)), (fun z => absurd z (by decide)), (fun z => absurd z (by decide)), (fun z => absurd z (by decide)), (fun z => absurd z (by decide))⟩
      · rw [hf240] at hy9; cases hy9
      · rw [hf241] at hy9; cases hy9
      · rw [hf242] at hy9; cases hy9
    have hdn := NwS.done1I (q := q178) (L := (5 * (20 - dp) + 2 + (sg211 - sg))) (O := O) (k := k9249) hns247 hq199 hf237 hg233 (by omega) ⟨k9249I, (by rw [hf238] <;> exact ⟨(fun z => absurd z (by decide)), (fun z => absurd z (by decide)), (fun z => absurd z (by decide))⟩)⟩ (by rw [hf238]; exact ⟨fun _ => (by show ¬ K235.2.2.1 0 q178 = none; rw [hf245]; intro z; cases z), fun z => absurd z (by decide), fun z => absurd z (by decide), fun z => absurd z (by decide), fun z => absurd z (by decide)⟩) (fun f9 z => by rw [hf238] at z; rcases z with ⟨z, _⟩ | ⟨z | z | z, _⟩ <;> exact absurd z (by decide)) hkid hf243 hno248 hkc250 how
    have hz251 : NwR K K235 g (gset g209 q178 (5 * (20 - dp) + 2 + (sg211 - sg)) O k9249) q178 O k9249 ((5 * (20 - dp) + 2 + (sg211 - sg))) := hdn
    have hz252 : at9 ≤ rS k9249 ∧ rS k9249 + 1 ≤ rE k9249 ∧ rE k9249 ≤ at210 ∧ 1 ≤ rD k9249 ∧ rD k9249 ≤ 9 * (20 - dp) + (sg211 - sg) + 1 := (by omega)
    have hz253 : at9 + 1 ≤ at210 ∧ at210 ≤ sz := (by omega)
    have hz254 : sg ≤ sg211 ∧ sg211 ≤ 60 := (by omega)
    have hz255 : ¬ tkN (B 7) sz 67 (nI at9) = 37 := (fun z => absurd ((h8.trans z).symm.trans h177) (by decide))
    have hz256 : NwT (B 7) sz (B 10) f212 K K235 at9 at210 := (NwT.le htk246 (by omega))
    have hO : OKP G h0 a (upd (upd (upd (upd F 2 (nI sz)) 9 (nI at210)) 10 (nI dp)) 11 (nI sg211)) R Z (updA B 10 f212) J K235 w := hO.to rfl
    refine W.widen (k := (2 * (sz - at9) + 19)) (n := (11 * (2 * (sz - at9) + 19))) (by omega) (by omega) ?_
    have hzz1 : H.size ≤ s.heap.size + ((2 * (at210 - at9) - 1)) := (by have z : (1 + (2 * (at210 - at9) - 5)) ≤ (2 * (at210 - at9) - 1) := (by omega); omega)
    have hzz2 : hSl H ≤ hSl s.heap + ((11 * (2 * (at210 - at9) - 1))) := (by have z : (11 + (11 * (2 * (at210 - at9) - 5))) ≤ (11 * (2 * (at210 - at9) - 1)) := (by omega); omega)
    exact W.aret (v := .ref q178) hx hb hr (Or.inl ⟨_, rfl⟩) (Or.inr ⟨_, rfl⟩) (fun t99 ht99 hW99 => ⟨⟨_, (w, (q178, K235, (gset g209 q178 (5 * (20 - dp) + 2 + (sg211 - sg)) O k9249), at210, sg211, f212, k9249)), rfl, ⟨rfl, hz251, hz252, hz253, hz254, hz255, hz256, hO⟩, by rw [ht99]; exact hP, hD, by rw [ht99]; exact hzz1, by rw [ht99]; exact hzz2⟩, hS.F ht99⟩) hS.2.2 dX8_operand_176
  by_cases h257 : r6 = 65
  · refine lv_lookup (tgt := 130) (off := 119) hx hb dX8_operand_11 (by decide) (by rw [h257]; decide) (by decide) ?_
    have htk := tok_in h7 h257 (by decide : ¬ (65 : Int32) = 67) (by omega) hsz
    refine lv_aload_n hx hb dX8_operand_130 rfl (lv_at hl 0 rfl) ?_
    have hO : OKP G h0 a (upd (upd (upd (upd (upd (upd (upd (upd F 2 (nI sz)) 9 (nI at9)) 10 (nI dp)) 11 (nI sg)) 2 (nI sz)) 9 (nI at9)) 10 (nI dp)) 11 (nI sg)) R Z B J K w := hO.to rfl
    obtain ⟨_, qr261, hqr262⟩ := hO.2.1 23 _ (sg_23 G h0 a _ _ _ _ _)
    refine pn_V0 (G := G) (As := []) (rest := []) hx hb hml hown hq hE hX pX0_al hP hD hS hA hl.1 (P_named l G h0 a (upd (upd (upd (upd F 2 (nI sz)) 9 (nI at9)) 10 (nI dp)) 11 (nI sg)) R Z B J K w n at9 sz dp sg O g (by omega) (by omega) (by omega) (by omega) hwn how (by omega) ihe hO hl0) (gV pw_963 pw_964 pw_965 pw_796 pw_958) hV_X8_named qr261 5 hqr262 rfl rfl rfl (Nat.le_of_ble_eq_true rfl) dX8_operand_131 ⟨(by show 0 + (2 * (sz - at9) + 19) ≤ (2 * (sz - at9) + 19); omega), (by show 0 + (11 * (2 * (sz - at9) + 19)) ≤ (11 * (2 * (sz - at9) + 19)); omega)⟩ ⟨(by show (40 * n + 14) + 1 ≤ (40 * n + 16); omega), (by show 8 + (2 + 11) + (1300 * n + 440) ≤ (1300 * n + 480); omega)⟩ (fun v260 u258 H locs hw259 hP hD hS => ?_) (fun ux ce9 q9 H9 locs9 hux hP9 hD9 hS9 hce hcv hcl => pb_out ux (ThQ.up (Thx.same (Thx.same (Thx.same (Thx.same Thx.rfl rfl) rfl) rfl) rfl) RhX.rfl hux) hnt hlocks hce hcv hcl hP9 hD9 hS9 (by show 0 + (2 * (sz - at9) + 19) ≤ (2 * (sz - at9) + 19); omega) (by show 0 + (11 * (2 * (sz - at9) + 19)) ≤ (11 * (2 * (sz - at9) + 19)); omega))
    obtain ⟨w, r263, K264, g265, at266, sg267, f268, k269⟩ := u258
    obtain ⟨hw259, h270, h271, h272, h273, h274, hO⟩ := hw259
    have h270 : NwR K K264 g g265 r263 O k269 ((5 * (20 - dp) + 2 + (sg267 - sg))) := h270
    have h271 : at9 ≤ rS k269 ∧ rS k269 + 1 ≤ rE k269 ∧ rE k269 ≤ at266 ∧ 1 ≤ rD k269 ∧ rD k269 ≤ 9 * (20 - dp) + (sg267 - sg) + 1 := h271
    have h272 : at9 + 1 ≤ at266 ∧ at266 ≤ sz := h272
    have h273 : sg ≤ sg267 ∧ sg267 ≤ 60 := h273
    have h274 : NwT ((B 7)) sz ((B 10)) f268 K K264 at9 at266 := h274
    obtain rfl : v260 = some (.ref r263) := hw259
    have hO : OKP G h0 a (upd (upd (upd (upd F 2 (nI sz)) 9 (nI at266)) 10 (nI dp)) 11 (nI sg267)) R Z (updA B 10 f268) J K264 w := hO.to rfl
    refine W.widen (k := (2 * (at266 - at9) - 1)) (n := (11 * (2 * (at266 - at9) - 1))) (by show 0 + (2 * (at266 - at9) - 1) ≤ (2 * (at266 - at9) - 1); omega) (by show 0 + (11 * (2 * (at266 - at9) - 1)) ≤ (11 * (2 * (at266 - at9) - 1)); omega) ?_
    refine W.eq (g2 := F0 m 134 ls [.ref r263]) rfl ?_
    have htk275 : NwT (B 7) sz (B 10) f268 K K264 at9 at266 := (NwT.call htk0 h274 (by omega))
    refine W_size (fun hz1 hz2 => ?_)
    refine vx_ret ?_
    have hz276 : NwR K K264 g g265 r263 O k269 ((5 * (20 - dp) + 2 + (sg267 - sg))) := (NwR.up h270 (by omega))
    have hz277 : at9 ≤ rS k269 ∧ rS k269 + 1 ≤ rE k269 ∧ rE k269 ≤ at266 ∧ 1 ≤ rD k269 ∧ rD k269 ≤ 9 * (20 - dp) + (sg267 - sg) + 1 := (by omega)
    have hz278 : at9 + 1 ≤ at266 ∧ at266 ≤ sz := (by omega)
    have hz279 : sg ≤ sg267 ∧ sg267 ≤ 60 := (by omega)
    have hz280 : ¬ tkN (B 7) sz 67 (nI at9) = 37 := (fun z => absurd ((h8.trans z).symm.trans h257) (by decide))
    have hz281 : NwT (B 7) sz (B 10) f268 K K264 at9 at266 := (NwT.le htk275 (by omega))
    have hO : OKP G h0 a (upd (upd (upd (upd F 2 (nI sz)) 9 (nI at266)) 10 (nI dp)) 11 (nI sg267)) R Z (updA B 10 f268) J K264 w := hO.to rfl
    refine W.widen (k := (2 * (sz - at9) + 19)) (n := (11 * (2 * (sz - at9) + 19))) (by omega) (by omega) ?_
    have hzz1 : H.size ≤ s.heap.size + ((2 * (at266 - at9) - 1)) := (by have z : (2 * (at266 - at9) - 1) ≤ (2 * (at266 - at9) - 1) := (by omega); omega)
    have hzz2 : hSl H ≤ hSl s.heap + ((11 * (2 * (at266 - at9) - 1))) := (by have z : (11 * (2 * (at266 - at9) - 1)) ≤ (11 * (2 * (at266 - at9) - 1)) := (by omega); omega)
    exact W.aret (v := .ref r263) hx hb hr (Or.inl ⟨_, rfl⟩) (Or.inr ⟨_, rfl⟩) (fun t99 ht99 hW99 => ⟨⟨_, (w, (r263, K264, g265, at266, sg267, f268, k269)), rfl, ⟨rfl, hz276, hz277, hz278, hz279, hz280, hz281, hO⟩, by rw [ht99]; exact hP, hD, by rw [ht99]; exact hzz1, by rw [ht99]; exact hzz2⟩, hS.F ht99⟩) hS.2.2 dX8_operand_134
  by_cases h282 : r6 = 66
  · refine lv_lookup (tgt := 100) (off := 89) hx hb dX8_operand_11 (by decide) (by rw [h282]; decide) (by decide) ?_
    have htk := tok_in h7 h282 (by decide : ¬ (66 : Int32) = 67) (by omega) hsz
    refine lv_aload_n hx hb dX8_operand_100 rfl (lv_at hl 0 rfl) ?_
    refine lv_iconst (v := 0) hx hb dX8_operand_101 (by decide) ?_
    have hO : OKP G h0 a (upd (upd (upd (upd (upd (upd F 2 (nI sz)) 9 (nI at9)) 10 (nI dp)) 11 (nI sg)) 2 (nI sz)) 9 (nI at9)) R Z B J K w := hO.to rfl
    obtain ⟨_, qr286, hqr287⟩ := hO.2.1 23 _ (sg_23 G h0 a _ _ _ _ _)
    refine pc_V0 (G := G) (As := [.int 0]) (rest := []) hx hb hml hown hq hE hX pX0_al hP hD hS hA hl.1 (P_leaf l G h0 a (upd (upd (upd (upd F 2 (nI sz)) 9 (nI at9)) 10 (nI dp)) 11 (nI sg)) R Z B J K w 0 at9 sz O g (by omega) (by omega) hwn (fun o9 h9 => ⟨(how o9 h9).1, fun z => (by rw [(how o9 h9).2.1] at z; omega), (how o9 h9).2.2⟩) (by omega) (fun C => ⟨fun z => absurd z (by decide), fun z => absurd z (by decide), fun z => absurd z (by decide), fun z => absurd z (by decide), fun z => absurd z (by decide)⟩) (fun kq => IvK.no (by decide)) (by decide) hO) (gV pw_959 pw_960 pw_961 pw_796 pw_907) hV_X8_leaf qr286 5 hqr287 rfl rfl rfl (Nat.le_of_ble_eq_true rfl) dX8_operand_102 ⟨(by show 0 + 1 ≤ (2 * (sz - at9) + 19); omega), (by show 0 + 11 ≤ (11 * (2 * (sz - at9) + 19)); omega)⟩ ⟨(by show 3 + 1 ≤ (40 * n + 16); omega), (by show 8 + (2 + 11) + 83 ≤ (1300 * n + 480); omega)⟩ (fun v285 u283 H locs hw284 hP hD hS => ?_)
    obtain ⟨w, r288, K289, g290, k291⟩ := u283
    obtain ⟨hw284, h292, h293, h294, h295, hO⟩ := hw284
    have h292 : NwR K K289 g g290 r288 O k291 1 := h292
    have h293 : rS k291 = at9 ∧ rE k291 = at9 + 1 ∧ rD k291 = 1 := h293
    have h294 : K289.2.1 0 r288 = 0 := h294
    have h295 : NwT ((B 7)) sz ((B 10)) ((B 10)) K K289 at9 (at9 + 1) := h295
    obtain rfl : v285 = some (.ref r288) := hw284
    have hO : OKP G h0 a (upd (upd (upd (upd F 2 (nI sz)) 9 (nI (at9 + 1))) 10 (nI dp)) 11 (nI sg)) R Z B J K289 w := hO.to rfl
    refine W.widen (k := 1) (n := 11) (by show 0 + 1 ≤ 1; omega) (by show 0 + 11 ≤ 11; omega) ?_
    refine W.eq (g2 := F0 m 105 ls [.ref r288]) rfl ?_
    have htk296 : NwT (B 7) sz (B 10) (B 10) K K289 at9 (at9 + 1) := (NwT.call htk0 h295 (by omega))
    refine W_size (fun hz1 hz2 => ?_)
    refine vx_ret ?_
    have hz297 : NwR K K289 g g290 r288 O k291 ((5 * (20 - dp) + 2 + (sg - sg))) := (NwR.up h292 (by omega))
    have hz298 : at9 ≤ rS k291 ∧ rS k291 + 1 ≤ rE k291 ∧ rE k291 ≤ (at9 + 1) ∧ 1 ≤ rD k291 ∧ rD k291 ≤ 9 * (20 - dp) + (sg - sg) + 1 := (by omega)
    have hz299 : at9 + 1 ≤ (at9 + 1) ∧ (at9 + 1) ≤ sz := (by omega)
    have hz300 : sg ≤ sg ∧ sg ≤ 60 := (by omega)
    have hz301 : ¬ tkN (B 7) sz 67 (nI at9) = 37 := (fun z => absurd ((h8.trans z).symm.trans h282) (by decide))
    have hz302 : NwT (B 7) sz (B 10) (B 10) K K289 at9 (at9 + 1) := (NwT.le htk296 (by omega))
    have hO : OKP G h0 a (upd (upd (upd (upd F 2 (nI sz)) 9 (nI (at9 + 1))) 10 (nI dp)) 11 (nI sg)) R Z (updA B 10 (B 10)) J K289 w := hO.to rfl
    refine W.widen (k := (2 * (sz - at9) + 19)) (n := (11 * (2 * (sz - at9) + 19))) (by omega) (by omega) ?_
    have hzz1 : H.size ≤ s.heap.size + ((2 * ((at9 + 1) - at9) - 1)) := (by have z : 1 ≤ (2 * ((at9 + 1) - at9) - 1) := (by omega); omega)
    have hzz2 : hSl H ≤ hSl s.heap + ((11 * (2 * ((at9 + 1) - at9) - 1))) := (by have z : 11 ≤ (11 * (2 * ((at9 + 1) - at9) - 1)) := (by omega); omega)
    exact W.aret (v := .ref r288) hx hb hr (Or.inl ⟨_, rfl⟩) (Or.inr ⟨_, rfl⟩) (fun t99 ht99 hW99 => ⟨⟨_, (w, (r288, K289, g290, (at9 + 1), sg, (B 10), k291)), rfl, ⟨rfl, hz297, hz298, hz299, hz300, hz301, hz302, hO⟩, by rw [ht99]; exact hP, hD, by rw [ht99]; exact hzz1, by rw [ht99]; exact hzz2⟩, hS.F ht99⟩) hS.2.2 dX8_operand_105
  refine lv_lookup (tgt := 199) (off := 188) hx hb dX8_operand_11 (by decide) ((lv_osw h9 (by decide)).trans ((lv_osw h30 (by decide)).trans ((lv_osw h55 (by decide)).trans ((lv_osw h76 (by decide)).trans ((lv_osw h110 (by decide)).trans ((lv_osw h135 (by decide)).trans ((lv_osw h156 (by decide)).trans ((lv_osw h177 (by decide)).trans ((lv_osw h257 (by decide)).trans ((lv_osw h282 (by decide)).trans rfl)))))))))) (by decide) ?_
  refine lv_aload_n hx hb dX8_operand_199 rfl (lv_at hl 0 rfl) ?_
  have hO : OKW G h0 a (upd (upd (upd (upd (upd (upd F 2 (nI sz)) 9 (nI at9)) 10 (nI dp)) 11 (nI sg)) 2 (nI sz)) 9 (nI at9)) R Z B J K.1 (fun q99 x99 => x99 = rep G a K q99) w := hO.to rfl
  obtain ⟨_, qr306, hqr307⟩ := hO.2.1 23 _ (sg_23 G h0 a _ _ _ _ _)
  refine pn_V0 (G := G) (As := []) (rest := []) hx hb hml hown hq hE hX pX0_al hP hD hS hA hl.1 (P_refuse l G h0 a (upd (upd (upd (upd F 2 (nI sz)) 9 (nI at9)) 10 (nI dp)) 11 (nI sg)) R Z B J K.1 (fun q99 x99 => x99 = rep G a K q99) w at9 sz (by omega) (by omega) hO hl0) (gV pw_806 pw_807 pw_808 pw_796 pw_778) hV_X8_refuse qr306 5 hqr307 rfl rfl rfl (Nat.le_of_ble_eq_true rfl) dX8_operand_200 ⟨(by show 0 + 1 ≤ (2 * (sz - at9) + 19); omega), (by show 0 + 6 ≤ (11 * (2 * (sz - at9) + 19)); omega)⟩ ⟨(by show 7 + 1 ≤ (40 * n + 16); omega), (by show 8 + (1 + 11) + 122 ≤ (1300 * n + 480); omega)⟩ (fun v305 u303 H locs hw304 hP hD hS => hw304.elim) (fun ux ce9 q9 H9 locs9 hux hP9 hD9 hS9 hce hcv hcl => pb_out ux (ThQ.up (Thx.same (Thx.same Thx.rfl rfl) rfl) RhX.rfl hux) hnt hlocks hce hcv hcl hP9 hD9 hS9 (by show 0 + 1 ≤ (2 * (sz - at9) + 19); omega) (by show 0 + 6 ≤ (11 * (2 * (sz - at9) + 19)); omega))
