theorem dX8_operand_0 : decode cX8_operand 0 = .ok (.aload_n 0, 1) := by decide +kernel
theorem dX8_operand_1 : decode cX8_operand 1 = .ok (.getfield 7, 3) := by decide +kernel
theorem dX8_operand_4 : decode cX8_operand 4 = .ok (.aload_n 0, 1) := by decide +kernel
theorem dX8_operand_5 : decode cX8_operand 5 = .ok (.getfield 17, 3) := by decide +kernel
theorem dX8_operand_8 : decode cX8_operand 8 = .ok (.invokevirtual 57, 3) := by decide +kernel
theorem dX8_operand_11 : decode cX8_operand 11 = .ok (.lookupswitch 188 #[(8, 101), (17, 129), (18, 107), (20, 166), (22, 124), (23, 113), (25, 95), (34, 134), (65, 119), (66, 89)], 89) := by decide +kernel
theorem dX8_operand_112 : decode cX8_operand 112 = .ok (.aload_n 0, 1) := by decide +kernel
theorem dX8_operand_113 : decode cX8_operand 113 = .ok (.iconst 2, 1) := by decide +kernel
theorem dX8_operand_114 : decode cX8_operand 114 = .ok (.invokevirtual 290, 3) := by decide +kernel
theorem dX8_operand_117 : decode cX8_operand 117 = .ok (.areturn, 1) := by decide +kernel
theorem dX8_operand_140 : decode cX8_operand 140 = .ok (.aload_n 0, 1) := by decide +kernel
theorem dX8_operand_141 : decode cX8_operand 141 = .ok (.invokevirtual 299, 3) := by decide +kernel
theorem dX8_operand_144 : decode cX8_operand 144 = .ok (.areturn, 1) := by decide +kernel
theorem dX8_operand_118 : decode cX8_operand 118 = .ok (.aload_n 0, 1) := by decide +kernel
theorem dX8_operand_119 : decode cX8_operand 119 = .ok (.iconst 3, 1) := by decide +kernel
theorem dX8_operand_120 : decode cX8_operand 120 = .ok (.invokevirtual 290, 3) := by decide +kernel
theorem dX8_operand_123 : decode cX8_operand 123 = .ok (.areturn, 1) := by decide +kernel
theorem dX8_operand_177 : decode cX8_operand 177 = .ok (.aload_n 0, 1) := by decide +kernel
theorem dX8_operand_178 : decode cX8_operand 178 = .ok (.bipush 6, 2) := by decide +kernel
theorem dX8_operand_180 : decode cX8_operand 180 = .ok (.invokevirtual 290, 3) := by decide +kernel
theorem dX8_operand_183 : decode cX8_operand 183 = .ok (.astore_n 2, 1) := by decide +kernel
theorem dX8_operand_184 : decode cX8_operand 184 = .ok (.aload_n 0, 1) := by decide +kernel
theorem dX8_operand_185 : decode cX8_operand 185 = .ok (.bipush 34, 2) := by decide +kernel
theorem dX8_operand_187 : decode cX8_operand 187 = .ok (.invokevirtual 283, 3) := by decide +kernel
theorem dX8_operand_190 : decode cX8_operand 190 = .ok (.aload_n 0, 1) := by decide +kernel
theorem dX8_operand_191 : decode cX8_operand 191 = .ok (.bipush 35, 2) := by decide +kernel
theorem dX8_operand_193 : decode cX8_operand 193 = .ok (.invokevirtual 287, 3) := by decide +kernel
theorem dX8_operand_196 : decode cX8_operand 196 = .ok (.pop, 1) := by decide +kernel
theorem dX8_operand_197 : decode cX8_operand 197 = .ok (.aload_n 2, 1) := by decide +kernel
theorem dX8_operand_198 : decode cX8_operand 198 = .ok (.areturn, 1) := by decide +kernel
theorem dX8_operand_135 : decode cX8_operand 135 = .ok (.aload_n 0, 1) := by decide +kernel
theorem dX8_operand_136 : decode cX8_operand 136 = .ok (.invokevirtual 296, 3) := by decide +kernel
theorem dX8_operand_139 : decode cX8_operand 139 = .ok (.areturn, 1) := by decide +kernel
theorem dX8_operand_124 : decode cX8_operand 124 = .ok (.aload_n 0, 1) := by decide +kernel
theorem dX8_operand_125 : decode cX8_operand 125 = .ok (.iconst 4, 1) := by decide +kernel
theorem dX8_operand_126 : decode cX8_operand 126 = .ok (.invokevirtual 290, 3) := by decide +kernel
theorem dX8_operand_129 : decode cX8_operand 129 = .ok (.areturn, 1) := by decide +kernel
theorem dX8_operand_106 : decode cX8_operand 106 = .ok (.aload_n 0, 1) := by decide +kernel
theorem dX8_operand_107 : decode cX8_operand 107 = .ok (.iconst 1, 1) := by decide +kernel
theorem dX8_operand_108 : decode cX8_operand 108 = .ok (.invokevirtual 290, 3) := by decide +kernel
theorem dX8_operand_111 : decode cX8_operand 111 = .ok (.areturn, 1) := by decide +kernel
theorem dX8_operand_145 : decode cX8_operand 145 = .ok (.new 143, 3) := by decide +kernel
theorem dX8_operand_148 : decode cX8_operand 148 = .ok (.dup, 1) := by decide +kernel
theorem dX8_operand_149 : decode cX8_operand 149 = .ok (.bipush 7, 2) := by decide +kernel
theorem dX8_operand_151 : decode cX8_operand 151 = .ok (.aload_n 0, 1) := by decide +kernel
theorem dX8_operand_152 : decode cX8_operand 152 = .ok (.getfield 17, 3) := by decide +kernel
theorem dX8_operand_155 : decode cX8_operand 155 = .ok (.aload_n 0, 1) := by decide +kernel
theorem dX8_operand_156 : decode cX8_operand 156 = .ok (.getfield 17, 3) := by decide +kernel
theorem dX8_operand_159 : decode cX8_operand 159 = .ok (.invokespecial 145, 3) := by decide +kernel
theorem dX8_operand_162 : decode cX8_operand 162 = .ok (.astore_n 1, 1) := by decide +kernel
theorem dX8_operand_163 : decode cX8_operand 163 = .ok (.aload_n 1, 1) := by decide +kernel
theorem dX8_operand_164 : decode cX8_operand 164 = .ok (.aload_n 0, 1) := by decide +kernel
theorem dX8_operand_165 : decode cX8_operand 165 = .ok (.bipush 34, 2) := by decide +kernel
theorem dX8_operand_167 : decode cX8_operand 167 = .ok (.bipush 35, 2) := by decide +kernel
theorem dX8_operand_169 : decode cX8_operand 169 = .ok (.invokevirtual 280, 3) := by decide +kernel
theorem dX8_operand_172 : decode cX8_operand 172 = .ok (.putfield 165, 3) := by decide +kernel
theorem dX8_operand_175 : decode cX8_operand 175 = .ok (.aload_n 1, 1) := by decide +kernel
theorem dX8_operand_176 : decode cX8_operand 176 = .ok (.areturn, 1) := by decide +kernel
theorem dX8_operand_130 : decode cX8_operand 130 = .ok (.aload_n 0, 1) := by decide +kernel
theorem dX8_operand_131 : decode cX8_operand 131 = .ok (.invokevirtual 293, 3) := by decide +kernel
theorem dX8_operand_134 : decode cX8_operand 134 = .ok (.areturn, 1) := by decide +kernel
theorem dX8_operand_100 : decode cX8_operand 100 = .ok (.aload_n 0, 1) := by decide +kernel
theorem dX8_operand_101 : decode cX8_operand 101 = .ok (.iconst 0, 1) := by decide +kernel
theorem dX8_operand_102 : decode cX8_operand 102 = .ok (.invokevirtual 290, 3) := by decide +kernel
theorem dX8_operand_105 : decode cX8_operand 105 = .ok (.areturn, 1) := by decide +kernel
theorem dX8_operand_199 : decode cX8_operand 199 = .ok (.aload_n 0, 1) := by decide +kernel
theorem dX8_operand_200 : decode cX8_operand 200 = .ok (.invokevirtual 67, 3) := by decide +kernel
theorem hV_X8_made : yX8_made.cls = RX8 ∧ yX8_made.cls ≠ "java/lang/invoke/MethodHandle" ∧ yX8_made.cls ≠ "java/lang/invoke/VarHandle" ∧ (parseMethodDescriptor yX8_made.desc).map (fun d => d.parameters.length) = some 0 := by decide +kernel
theorem hV_X8_superCall : yX8_superCall.cls = RX8 ∧ yX8_superCall.cls ≠ "java/lang/invoke/MethodHandle" ∧ yX8_superCall.cls ≠ "java/lang/invoke/VarHandle" ∧ (parseMethodDescriptor yX8_superCall.desc).map (fun d => d.parameters.length) = some 0 := by decide +kernel
theorem hV_X8_named : yX8_named.cls = RX8 ∧ yX8_named.cls ≠ "java/lang/invoke/MethodHandle" ∧ yX8_named.cls ≠ "java/lang/invoke/VarHandle" ∧ (parseMethodDescriptor yX8_named.desc).map (fun d => d.parameters.length) = some 0 := by decide +kernel
theorem hV_X8_refuse : yX8_refuse.cls = RX8 ∧ yX8_refuse.cls ≠ "java/lang/invoke/MethodHandle" ∧ yX8_refuse.cls ≠ "java/lang/invoke/VarHandle" ∧ (parseMethodDescriptor yX8_refuse.desc).map (fun d => d.parameters.length) = some 0 := by decide +kernel
set_option maxHeartbeats 40000000 in
set_option maxRecDepth 100000 in
theorem P_operand (l : Launch) (G : pT) (h0 : Nat) (a : Nat → Nat) (F : Nat → Int32) (R : Nat → Value) (Z : Int64) (B : Nat → Nat → Int32) (J : Nat → Nat → Int64) (K : PK) (w : va_W) (n : Nat) (at9 : Nat) (sz : Nat) (dp : Nat) (sg : Nat) (O : Nat) (g : Nat → Nat → Nat) (hsz : sz ≤ 5000) (hat : at9 ≤ sz) (hdp : dp + n = 20) (hsg : sg ≤ 60) (hwn : WN K g) (how : ∀ o : Nat, O = o + 1 → K.1 o = 1 ∧ g 0 o = 0 ∧ ¬ K.2.1 0 o = 32) (ihe : IhE l G n) (hO : OKP G h0 a (upd (upd (upd (upd F 2 (nI sz)) 9 (nI at9)) 10 (nI dp)) 11 (nI sg)) R Z B J K w) (hl0 : l.stackTraces = false) : PBn l G pX0 yX8_operand cX8_operand 3 (some (.object "JinjaTongue$Node")) ({ frames := (40 * n + 16), cells := (2 * (sz - at9) + 19), slots := (11 * (2 * (sz - at9) + 19)), locals := (1300 * n + 480) }) [.ref (a 3)] w (fun (v : Option Value) (u : va_W × (Nat × PK × (Nat → Nat → Nat) × Nat × Nat × (Nat → Int32))) => v = some (.ref u.2.1) ∧ (NwR K u.2.2.1 g u.2.2.2.1 u.2.1 O at9 ((5 * (20 - dp) + 2 + (u.2.2.2.2.2.1 - sg)))) ∧ (at9 + 1 ≤ u.2.2.2.2.1 ∧ u.2.2.2.2.1 ≤ sz) ∧ (sg ≤ u.2.2.2.2.2.1 ∧ u.2.2.2.2.2.1 ≤ 60) ∧ (OKP G h0 a (upd (upd (upd (upd F 2 (nI sz)) 9 (nI u.2.2.2.2.1)) 10 (nI dp)) 11 (nI u.2.2.2.2.2.1)) R Z (updA B 10 u.2.2.2.2.2.2) J u.2.2.1 u.1)) (fun u => u.1) (fun (u : va_W × (Nat × PK × (Nat → Nat → Nat) × Nat × Nat × (Nat → Int32))) => (2 * (u.2.2.2.2.1 - at9) - 1)) (fun (u : va_W × (Nat × PK × (Nat → Nat → Nat) × Nat × Nat × (Nat → Int32))) => (11 * (2 * (u.2.2.2.2.1 - at9) - 1))) (fun (u : va_W × (Nat → Int32) × (Nat → Value) × (Nat → Nat → Int32)) => ThQ G h0 a (upd (upd (upd (upd F 2 (nI sz)) 9 (nI at9)) 10 (nI dp)) 11 (nI sg)) R Z B J u) (fun u => u.1) := by
  intro sz
  refine vx_ofW (cc := cX8_operand) (maxL := 3) (ret := (some (.object "JinjaTongue$Node"))) (by decide) rfl ?_
  intro p e s m args below meth c s₁ B9 hml hnt hv
  obtain ⟨rfl, hsz, hP, hD0, hE, hX⟩ := hv
  have hx := B9.exec
  have hb := B9.bytes
  have hr := B9.returns
  have hts := atoms_spec (ws := Cond.code yX8_operand cX8_operand 3 (some (.object "JinjaTongue$Node")) :: pw) B9.pre
  have hq : ∀ w ∈ pw, w.before _ s = true := fun w h => hts w (List.mem_cons_of_mem _ h)
  have hown : s.vm.findClass RX8 = some m.cls := findClass_of_methodNamed B9.named
  have hlocks := B9.notSynchronized
  subst hsz
  have hD := hD0.self (sz := s.heap.size)
  have hA : ∀ q : Nat, s.heap.size ≤ q → va_A w s.heap.size q := fun q h => Or.inr h
  generalize va_A w s.heap.size = A at hD hE hA ⊢
  have hS : va_S A s.heap s.heap [] := va_S.rf
  have hl := lv_entry ([.ref (a 3)]) (n := 3) (Nat.le_of_ble_eq_true rfl)
  rw [lg_entry_eq]
  generalize (lg_sl ([.ref (a 3)]) ++ List.replicate (3 - (lg_sl ([.ref (a 3)])).length) Slot.unset).toArray = ls at hl ⊢
  have hl : lv_has ls 3 [(0, .ref (a 3))] := hl
  have hns0 : NwS K K g g := NwS.nil hwn
  refine lv_aload_n hx hb dX8_operand_0 rfl (lv_at hl 0 rfl) ?_
  refine c_get (v := .ref (a 1)) (C := RX8) (Tc := TX8) (N := 5) (ci := 5) hx hb hq pin_wsX80 hown hE hP hO 23 (sg_23 G h0 a _ _ _ _ _) rfl 0 (by decide) (hq _ pw_774) (fun _ h9 => h9) rfl dX8_operand_1 ?_
  refine lv_aload_n hx hb dX8_operand_4 rfl (lv_at hl 0 rfl) ?_
  refine c_get (v := .int (nI at9)) (C := RX8) (Tc := TX8) (N := 5) (ci := 5) hx hb hq pin_wsX80 hown hE hP hO 23 (sg_23 G h0 a _ _ _ _ _) rfl 2 (by decide) (hq _ pw_776) (fun _ h9 => h9) rfl dX8_operand_5 ?_
  have hO : OKW G h0 a (upd (upd (upd (upd (upd F 2 (nI sz)) 9 (nI at9)) 10 (nI dp)) 11 (nI sg)) 2 (nI sz)) R Z B J K.1 (fun q99 x99 => x99 = rep G a K q99) w := hO.to rfl
  obtain ⟨_, qr4, hqr5⟩ := hO.2.1 2 _ (sg_2 G h0 a _ _ _ _ _)
  refine pc_V0 (G := G) (As := [.int (nI at9)]) (rest := []) hx hb hml hown hq hE hX pX0_al hP hD hS hA hl.1 (K_kindAt l G h0 a (upd (upd (upd (upd F 2 (nI sz)) 9 (nI at9)) 10 (nI dp)) 11 (nI sg)) R Z B J K.1 (fun q99 x99 => x99 = rep G a K q99) w (nI at9) sz (by omega) hO) (gV pw_777 pw_193 pw_194 pw_59 pw_126) hV_X10_kindAt qr4 7 hqr5 rfl rfl rfl (Nat.le_of_ble_eq_true rfl) dX8_operand_8 ⟨(by show 0 + 0 ≤ (2 * (sz - at9) + 19); omega), (by show 0 + 0 ≤ (11 * (2 * (sz - at9) + 19)); omega)⟩ ⟨(by show 2 + 1 ≤ (40 * n + 16); omega), (by show 8 + (2 + 11) + 60 ≤ (1300 * n + 480); omega)⟩ (fun v3 u1 H locs hw2 hP hD hS => ?_)
  obtain ⟨w, r6⟩ := u1
  obtain ⟨hw2, h7, hO⟩ := hw2
  have h7 : r6 = 67 ∨ ∃ t : Nat, (nI at9) = nI t ∧ t < sz := h7
  obtain rfl : v3 = some (.int r6) := hw2
  have hO : OKP G h0 a (upd (upd (upd (upd F 2 (nI sz)) 9 (nI at9)) 10 (nI dp)) 11 (nI sg)) R Z B J K w := hO.to rfl
  refine W.widen (k := 0) (n := 0) (Nat.le_of_ble_eq_true rfl) (Nat.le_of_ble_eq_true rfl) ?_
  refine W.eq (g2 := F0 m 11 ls [.int r6]) rfl ?_
  by_cases h8 : r6 = 8
  · refine lv_lookup (tgt := 112) (off := 101) hx hb dX8_operand_11 (by decide) (by rw [h8]; decide) (by decide) ?_
    have htk := tok_in h7 h8 (by decide : ¬ (8 : Int32) = 67) (by omega) hsz
    refine lv_aload_n hx hb dX8_operand_112 rfl (lv_at hl 0 rfl) ?_
    refine lv_iconst (v := 2) hx hb dX8_operand_113 (by decide) ?_
    have hO : OKP G h0 a (upd (upd (upd (upd (upd (upd F 2 (nI sz)) 9 (nI at9)) 10 (nI dp)) 11 (nI sg)) 2 (nI sz)) 9 (nI at9)) R Z B J K w := hO.to rfl
    obtain ⟨_, qr12, hqr13⟩ := hO.2.1 23 _ (sg_23 G h0 a _ _ _ _ _)
    refine pc_V0 (G := G) (As := [.int 2]) (rest := []) hx hb hml hown hq hE hX pX0_al hP hD hS hA hl.1 (P_leaf l G h0 a (upd (upd (upd (upd F 2 (nI sz)) 9 (nI at9)) 10 (nI dp)) 11 (nI sg)) R Z B J K w 2 at9 sz O g (by omega) (by omega) hwn (fun o9 h9 => ⟨(how o9 h9).1, fun z => (by rw [(how o9 h9).2.1] at z; omega), (how o9 h9).2.2⟩) (by omega) (fun C => ⟨fun z => absurd z (by decide), fun z => absurd z (by decide), fun z => absurd z (by decide), fun z => absurd z (by decide), fun z => absurd z (by decide)⟩) hO) (gV pw_959 pw_960 pw_961 pw_796 pw_907) hV_X8_leaf qr12 5 hqr13 rfl rfl rfl (Nat.le_of_ble_eq_true rfl) dX8_operand_114 ⟨(by show 0 + 1 ≤ (2 * (sz - at9) + 19); omega), (by show 0 + 11 ≤ (11 * (2 * (sz - at9) + 19)); omega)⟩ ⟨(by show 3 + 1 ≤ (40 * n + 16); omega), (by show 8 + (2 + 11) + 83 ≤ (1300 * n + 480); omega)⟩ (fun v11 u9 H locs hw10 hP hD hS => ?_)
    obtain ⟨w, r14, K15, g16⟩ := u9
    obtain ⟨hw10, h17, h18, hO⟩ := hw10
    have h17 : NwR K K15 g g16 r14 O at9 1 := h17
    have h18 : K15.2.1 0 r14 = 2 := h18
    obtain rfl : v11 = some (.ref r14) := hw10
    have hO : OKP G h0 a (upd (upd (upd (upd F 2 (nI sz)) 9 (nI (at9 + 1))) 10 (nI dp)) 11 (nI sg)) R Z B J K15 w := hO.to rfl
    refine W.widen (k := 1) (n := 11) (by show 0 + 1 ≤ 1; omega) (by show 0 + 11 ≤ 11; omega) ?_
    refine W.eq (g2 := F0 m 117 ls [.ref r14]) rfl ?_
    refine W_size (fun hz1 hz2 => ?_)
    refine vx_ret ?_
    have hz19 : NwR K K15 g g16 r14 O at9 ((5 * (20 - dp) + 2 + (sg - sg))) := (NwR.up h17 (by omega))
    have hz20 : at9 + 1 ≤ (at9 + 1) ∧ (at9 + 1) ≤ sz := (by omega)
    have hz21 : sg ≤ sg ∧ sg ≤ 60 := (by omega)
    have hO : OKP G h0 a (upd (upd (upd (upd F 2 (nI sz)) 9 (nI (at9 + 1))) 10 (nI dp)) 11 (nI sg)) R Z (updA B 10 (B 10)) J K15 w := hO.to rfl
    refine W.widen (k := (2 * (sz - at9) + 19)) (n := (11 * (2 * (sz - at9) + 19))) (by omega) (by omega) ?_
    have hzz1 : H.size ≤ s.heap.size + ((2 * ((at9 + 1) - at9) - 1)) := (by have z : 1 ≤ (2 * ((at9 + 1) - at9) - 1) := (by omega); omega)
    have hzz2 : hSl H ≤ hSl s.heap + ((11 * (2 * ((at9 + 1) - at9) - 1))) := (by have z : 11 ≤ (11 * (2 * ((at9 + 1) - at9) - 1)) := (by omega); omega)
    exact W.aret (v := .ref r14) hx hb hr (Or.inl ⟨_, rfl⟩) (Or.inr ⟨_, rfl⟩) (fun t99 ht99 hW99 => ⟨⟨_, (w, (r14, K15, g16, (at9 + 1), sg, (B 10))), rfl, ⟨rfl, hz19, hz20, hz21, hO⟩, by rw [ht99]; exact hP, hD, by rw [ht99]; exact hzz1, by rw [ht99]; exact hzz2⟩, hS.F ht99⟩) hS.2.2 dX8_operand_117
  by_cases h22 : r6 = 17
  · refine lv_lookup (tgt := 140) (off := 129) hx hb dX8_operand_11 (by decide) (by rw [h22]; decide) (by decide) ?_
    have htk := tok_in h7 h22 (by decide : ¬ (17 : Int32) = 67) (by omega) hsz
    refine lv_aload_n hx hb dX8_operand_140 rfl (lv_at hl 0 rfl) ?_
    have hO : OKP G h0 a (upd (upd (upd (upd (upd (upd (upd (upd F 2 (nI sz)) 9 (nI at9)) 10 (nI dp)) 11 (nI sg)) 2 (nI sz)) 9 (nI at9)) 10 (nI dp)) 11 (nI sg)) R Z B J K w := hO.to rfl
    obtain ⟨_, qr26, hqr27⟩ := hO.2.1 23 _ (sg_23 G h0 a _ _ _ _ _)
    refine pn_V0 (G := G) (As := []) (rest := []) hx hb hml hown hq hE hX pX0_al hP hD hS hA hl.1 (P_made l G h0 a (upd (upd (upd (upd F 2 (nI sz)) 9 (nI at9)) 10 (nI dp)) 11 (nI sg)) R Z B J K w n at9 sz dp sg O g (by omega) (by omega) (by omega) (by omega) hwn how ihe hO hl0) (gV pw_969 pw_970 pw_971 pw_796 pw_957) hV_X8_made qr26 5 hqr27 rfl rfl rfl (Nat.le_of_ble_eq_true rfl) dX8_operand_141 ⟨(by show 0 + (2 * (sz - at9) + 19) ≤ (2 * (sz - at9) + 19); omega), (by show 0 + (11 * (2 * (sz - at9) + 19)) ≤ (11 * (2 * (sz - at9) + 19)); omega)⟩ ⟨(by show (40 * n + 14) + 1 ≤ (40 * n + 16); omega), (by show 8 + (4 + 11) + (1300 * n + 440) ≤ (1300 * n + 480); omega)⟩ (fun v25 u23 H locs hw24 hP hD hS => ?_) (fun ux ce9 q9 H9 locs9 hux hP9 hD9 hS9 hce hcv hcl => pb_out ux (ThQ.up (Thx.same (Thx.same (Thx.same (Thx.same Thx.rfl rfl) rfl) rfl) rfl) RhX.rfl hux) hnt hlocks hce hcv hcl hP9 hD9 hS9 (by show 0 + (2 * (sz - at9) + 19) ≤ (2 * (sz - at9) + 19); omega) (by show 0 + (11 * (2 * (sz - at9) + 19)) ≤ (11 * (2 * (sz - at9) + 19)); omega))
    obtain ⟨w, r28, K29, g30, at31, sg32, f33⟩ := u23
    obtain ⟨hw24, h34, h35, h36, hO⟩ := hw24
    have h34 : NwR K K29 g g30 r28 O at9 ((5 * (20 - dp) + 2 + (sg32 - sg))) := h34
    have h35 : at9 + 4 ≤ at31 ∧ at31 ≤ sz := h35
    have h36 : sg ≤ sg32 ∧ sg32 ≤ 60 := h36
    obtain rfl : v25 = some (.ref r28) := hw24
    have hO : OKP G h0 a (upd (upd (upd (upd F 2 (nI sz)) 9 (nI at31)) 10 (nI dp)) 11 (nI sg32)) R Z (updA B 10 f33) J K29 w := hO.to rfl
    refine W.widen (k := (2 * (at31 - at9) - 5)) (n := (11 * (2 * (at31 - at9) - 5))) (by show 0 + (2 * (at31 - at9) - 5) ≤ (2 * (at31 - at9) - 5); omega) (by show 0 + (11 * (2 * (at31 - at9) - 5)) ≤ (11 * (2 * (at31 - at9) - 5)); omega) ?_
    refine W.eq (g2 := F0 m 144 ls [.ref r28]) rfl ?_
    refine W_size (fun hz1 hz2 => ?_)
    refine vx_ret ?_
    have hz37 : NwR K K29 g g30 r28 O at9 ((5 * (20 - dp) + 2 + (sg32 - sg))) := (NwR.up h34 (by omega))
    have hz38 : at9 + 1 ≤ at31 ∧ at31 ≤ sz := (by omega)
    have hz39 : sg ≤ sg32 ∧ sg32 ≤ 60 := (by omega)
    have hO : OKP G h0 a (upd (upd (upd (upd F 2 (nI sz)) 9 (nI at31)) 10 (nI dp)) 11 (nI sg32)) R Z (updA B 10 f33) J K29 w := hO.to rfl
    refine W.widen (k := (2 * (sz - at9) + 19)) (n := (11 * (2 * (sz - at9) + 19))) (by omega) (by omega) ?_
    have hzz1 : H.size ≤ s.heap.size + ((2 * (at31 - at9) - 1)) := (by have z : (2 * (at31 - at9) - 5) ≤ (2 * (at31 - at9) - 1) := (by omega); omega)
    have hzz2 : hSl H ≤ hSl s.heap + ((11 * (2 * (at31 - at9) - 1))) := (by have z : (11 * (2 * (at31 - at9) - 5)) ≤ (11 * (2 * (at31 - at9) - 1)) := (by omega); omega)
    exact W.aret (v := .ref r28) hx hb hr (Or.inl ⟨_, rfl⟩) (Or.inr ⟨_, rfl⟩) (fun t99 ht99 hW99 => ⟨⟨_, (w, (r28, K29, g30, at31, sg32, f33)), rfl, ⟨rfl, hz37, hz38, hz39, hO⟩, by rw [ht99]; exact hP, hD, by rw [ht99]; exact hzz1, by rw [ht99]; exact hzz2⟩, hS.F ht99⟩) hS.2.2 dX8_operand_144
  by_cases h40 : r6 = 18
  · refine lv_lookup (tgt := 118) (off := 107) hx hb dX8_operand_11 (by decide) (by rw [h40]; decide) (by decide) ?_
    have htk := tok_in h7 h40 (by decide : ¬ (18 : Int32) = 67) (by omega) hsz
    refine lv_aload_n hx hb dX8_operand_118 rfl (lv_at hl 0 rfl) ?_
    refine lv_iconst (v := 3) hx hb dX8_operand_119 (by decide) ?_
    have hO : OKP G h0 a (upd (upd (upd (upd (upd (upd F 2 (nI sz)) 9 (nI at9)) 10 (nI dp)) 11 (nI sg)) 2 (nI sz)) 9 (nI at9)) R Z B J K w := hO.to rfl
    obtain ⟨_, qr44, hqr45⟩ := hO.2.1 23 _ (sg_23 G h0 a _ _ _ _ _)
    refine pc_V0 (G := G) (As := [.int 3]) (rest := []) hx hb hml hown hq hE hX pX0_al hP hD hS hA hl.1 (P_leaf l G h0 a (upd (upd (upd (upd F 2 (nI sz)) 9 (nI at9)) 10 (nI dp)) 11 (nI sg)) R Z B J K w 3 at9 sz O g (by omega) (by omega) hwn (fun o9 h9 => ⟨(how o9 h9).1, fun z => (by rw [(how o9 h9).2.1] at z; omega), (how o9 h9).2.2⟩) (by omega) (fun C => ⟨fun z => absurd z (by decide), fun z => absurd z (by decide), fun z => absurd z (by decide), fun z => absurd z (by decide), fun z => absurd z (by decide)⟩) hO) (gV pw_959 pw_960 pw_961 pw_796 pw_907) hV_X8_leaf qr44 5 hqr45 rfl rfl rfl (Nat.le_of_ble_eq_true rfl) dX8_operand_120 ⟨(by show 0 + 1 ≤ (2 * (sz - at9) + 19); omega), (by show 0 + 11 ≤ (11 * (2 * (sz - at9) + 19)); omega)⟩ ⟨(by show 3 + 1 ≤ (40 * n + 16); omega), (by show 8 + (2 + 11) + 83 ≤ (1300 * n + 480); omega)⟩ (fun v43 u41 H locs hw42 hP hD hS => ?_)
    obtain ⟨w, r46, K47, g48⟩ := u41
    obtain ⟨hw42, h49, h50, hO⟩ := hw42
    have h49 : NwR K K47 g g48 r46 O at9 1 := h49
    have h50 : K47.2.1 0 r46 = 3 := h50
    obtain rfl : v43 = some (.ref r46) := hw42
    have hO : OKP G h0 a (upd (upd (upd (upd F 2 (nI sz)) 9 (nI (at9 + 1))) 10 (nI dp)) 11 (nI sg)) R Z B J K47 w := hO.to rfl
    refine W.widen (k := 1) (n := 11) (by show 0 + 1 ≤ 1; omega) (by show 0 + 11 ≤ 11; omega) ?_
    refine W.eq (g2 := F0 m 123 ls [.ref r46]) rfl ?_
    refine W_size (fun hz1 hz2 => ?_)
    refine vx_ret ?_
    have hz51 : NwR K K47 g g48 r46 O at9 ((5 * (20 - dp) + 2 + (sg - sg))) := (NwR.up h49 (by omega))
    have hz52 : at9 + 1 ≤ (at9 + 1) ∧ (at9 + 1) ≤ sz := (by omega)
    have hz53 : sg ≤ sg ∧ sg ≤ 60 := (by omega)
    have hO : OKP G h0 a (upd (upd (upd (upd F 2 (nI sz)) 9 (nI (at9 + 1))) 10 (nI dp)) 11 (nI sg)) R Z (updA B 10 (B 10)) J K47 w := hO.to rfl
    refine W.widen (k := (2 * (sz - at9) + 19)) (n := (11 * (2 * (sz - at9) + 19))) (by omega) (by omega) ?_
    have hzz1 : H.size ≤ s.heap.size + ((2 * ((at9 + 1) - at9) - 1)) := (by have z : 1 ≤ (2 * ((at9 + 1) - at9) - 1) := (by omega); omega)
    have hzz2 : hSl H ≤ hSl s.heap + ((11 * (2 * ((at9 + 1) - at9) - 1))) := (by have z : 11 ≤ (11 * (2 * ((at9 + 1) - at9) - 1)) := (by omega); omega)
    exact W.aret (v := .ref r46) hx hb hr (Or.inl ⟨_, rfl⟩) (Or.inr ⟨_, rfl⟩) (fun t99 ht99 hW99 => ⟨⟨_, (w, (r46, K47, g48, (at9 + 1), sg, (B 10))), rfl, ⟨rfl, hz51, hz52, hz53, hO⟩, by rw [ht99]; exact hP, hD, by rw [ht99]; exact hzz1, by rw [ht99]; exact hzz2⟩, hS.F ht99⟩) hS.2.2 dX8_operand_123
  by_cases h54 : r6 = 20
  · refine lv_lookup (tgt := 177) (off := 166) hx hb dX8_operand_11 (by decide) (by rw [h54]; decide) (by decide) ?_
    have htk := tok_in h7 h54 (by decide : ¬ (20 : Int32) = 67) (by omega) hsz
    refine lv_aload_n hx hb dX8_operand_177 rfl (lv_at hl 0 rfl) ?_
    refine lv_bipush (v := 6) hx hb dX8_operand_178 (by decide) ?_
    have hO : OKP G h0 a (upd (upd (upd (upd (upd (upd F 2 (nI sz)) 9 (nI at9)) 10 (nI dp)) 11 (nI sg)) 2 (nI sz)) 9 (nI at9)) R Z B J K w := hO.to rfl
    obtain ⟨_, qr58, hqr59⟩ := hO.2.1 23 _ (sg_23 G h0 a _ _ _ _ _)
    refine pc_V0 (G := G) (As := [.int 6]) (rest := []) hx hb hml hown hq hE hX pX0_al hP hD hS hA hl.1 (P_leaf l G h0 a (upd (upd (upd (upd F 2 (nI sz)) 9 (nI at9)) 10 (nI dp)) 11 (nI sg)) R Z B J K w 6 at9 sz O g (by omega) (by omega) hwn (fun o9 h9 => ⟨(how o9 h9).1, fun z => (by rw [(how o9 h9).2.1] at z; omega), (how o9 h9).2.2⟩) (by omega) (fun C => ⟨fun z => absurd z (by decide), fun z => absurd z (by decide), fun z => absurd z (by decide), fun z => absurd z (by decide), fun z => absurd z (by decide)⟩) hO) (gV pw_959 pw_960 pw_961 pw_796 pw_907) hV_X8_leaf qr58 5 hqr59 rfl rfl rfl (Nat.le_of_ble_eq_true rfl) dX8_operand_180 ⟨(by show 0 + 1 ≤ (2 * (sz - at9) + 19); omega), (by show 0 + 11 ≤ (11 * (2 * (sz - at9) + 19)); omega)⟩ ⟨(by show 3 + 1 ≤ (40 * n + 16); omega), (by show 8 + (2 + 11) + 83 ≤ (1300 * n + 480); omega)⟩ (fun v57 u55 H locs hw56 hP hD hS => ?_)
    obtain ⟨w, r60, K61, g62⟩ := u55
    obtain ⟨hw56, h63, h64, hO⟩ := hw56
    have h63 : NwR K K61 g g62 r60 O at9 1 := h63
    have h64 : K61.2.1 0 r60 = 6 := h64
    obtain rfl : v57 = some (.ref r60) := hw56
    have hO : OKP G h0 a (upd (upd (upd (upd F 2 (nI sz)) 9 (nI (at9 + 1))) 10 (nI dp)) 11 (nI sg)) R Z B J K61 w := hO.to rfl
    refine W.widen (k := 1) (n := 11) (by show 0 + 1 ≤ 1; omega) (by show 0 + 11 ≤ 11; omega) ?_
    refine W.eq (g2 := F0 m 183 ls [.ref r60]) rfl ?_
    refine lv_astore_n (lv' := [(2, .ref r60), (0, .ref (a 3))]) hx hb dX8_operand_183 rfl hl (by decide) rfl (fun ls hl => ?_)
    refine lv_aload_n hx hb dX8_operand_184 rfl (lv_at hl 1 rfl) ?_
    refine lv_bipush (v := 34) hx hb dX8_operand_185 (by decide) ?_
    have hO : OKW G h0 a (upd (upd (upd (upd (upd (upd (upd (upd F 2 (nI sz)) 9 (nI at9)) 10 (nI dp)) 11 (nI sg)) 9 (nI (at9 + 1))) 2 (nI sz)) 9 (nI (at9 + 1))) 10 (nI dp)) R Z B J K61.1 (fun q99 x99 => x99 = rep G a K61 q99) w := hO.to rfl
    obtain ⟨_, qr68, hqr69⟩ := hO.2.1 23 _ (sg_23 G h0 a _ _ _ _ _)
    refine pn_V0 (G := G) (As := [.int 34]) (rest := []) hx hb hml hown hq hE hX pX0_al hP hD hS hA hl.1 (P_openBracket l G h0 a (upd (upd (upd (upd (upd F 2 (nI sz)) 9 (nI at9)) 10 (nI dp)) 11 (nI sg)) 9 (nI (at9 + 1))) R Z B J K61.1 (fun q99 x99 => x99 = rep G a K61 q99) w 34 dp (at9 + 1) sz (by omega) (by omega) (by decide) (by omega) hO hl0) (gV pw_913 pw_914 pw_915 pw_796 pw_900) hV_X8_openBracket qr68 5 hqr69 rfl rfl rfl (Nat.le_of_ble_eq_true rfl) dX8_operand_187 ⟨(by show 1 + 1 ≤ (2 * (sz - at9) + 19); omega), (by show 11 + 6 ≤ (11 * (2 * (sz - at9) + 19)); omega)⟩ ⟨(by show 7 + 1 ≤ (40 * n + 16); omega), (by show 8 + (2 + 11) + 122 ≤ (1300 * n + 480); omega)⟩ (fun v67 u65 H locs hw66 hP hD hS => ?_) (fun ux ce9 q9 H9 locs9 hux hP9 hD9 hS9 hce hcv hcl => pb_out ux (ThQ.up (Thx.same (Thx.same (Thx.same (Thx.f Thx.rfl (by omega)) rfl) rfl) rfl) RhX.rfl hux) hnt hlocks hce hcv hcl hP9 hD9 hS9 (by show 1 + 1 ≤ (2 * (sz - at9) + 19); omega) (by show 11 + 6 ≤ (11 * (2 * (sz - at9) + 19)); omega))
    obtain ⟨w, _⟩ := u65
    obtain ⟨hw66, h70, hO⟩ := hw66
    have h70 : (at9 + 1) + 1 ≤ sz ∧ dp + 1 ≤ 20 := h70
    obtain rfl : v67 = none := hw66
    have hO : OKP G h0 a (upd (upd (upd (upd F 2 (nI sz)) 9 (nI ((at9 + 1) + 1))) 10 (nI (dp + 1))) 11 (nI sg)) R Z B J K61 w := hO.to rfl
    refine W.widen (k := 1) (n := 11) (by show 1 + 0 ≤ 1; omega) (by show 11 + 0 ≤ 11; omega) ?_
    refine W.eq (g2 := F0 m 190 ls []) rfl ?_
    refine lv_aload_n hx hb dX8_operand_190 rfl (lv_at hl 1 rfl) ?_
    refine lv_bipush (v := 35) hx hb dX8_operand_191 (by decide) ?_
    have hO : OKW G h0 a (upd (upd (upd (upd (upd (upd (upd (upd (upd F 2 (nI sz)) 9 (nI at9)) 10 (nI dp)) 11 (nI sg)) 9 (nI ((at9 + 1) + 1))) 10 (nI (dp + 1))) 2 (nI sz)) 9 (nI ((at9 + 1) + 1))) 10 (nI (dp + 1))) R Z B J K61.1 (fun q99 x99 => x99 = rep G a K61 q99) w := hO.to rfl
    obtain ⟨_, qr74, hqr75⟩ := hO.2.1 23 _ (sg_23 G h0 a _ _ _ _ _)
    refine pn_V0 (G := G) (As := [.int 35]) (rest := []) hx hb hml hown hq hE hX pX0_al hP hD hS hA hl.1 (P_closeBracket l G h0 a (upd (upd (upd (upd (upd (upd F 2 (nI sz)) 9 (nI at9)) 10 (nI dp)) 11 (nI sg)) 9 (nI ((at9 + 1) + 1))) 10 (nI (dp + 1))) R Z B J K61.1 (fun q99 x99 => x99 = rep G a K61 q99) w 35 (dp + 1) ((at9 + 1) + 1) sz (by omega) (by omega) (by decide) (by omega) hO hl0) (gV pw_919 pw_920 pw_921 pw_796 pw_902) hV_X8_closeBracket qr74 5 hqr75 rfl rfl rfl (Nat.le_of_ble_eq_true rfl) dX8_operand_193 ⟨(by show 1 + 1 ≤ (2 * (sz - at9) + 19); omega), (by show 11 + 6 ≤ (11 * (2 * (sz - at9) + 19)); omega)⟩ ⟨(by show 7 + 1 ≤ (40 * n + 16); omega), (by show 8 + (2 + 11) + 122 ≤ (1300 * n + 480); omega)⟩ (fun v73 u71 H locs hw72 hP hD hS => ?_) (fun ux ce9 q9 H9 locs9 hux hP9 hD9 hS9 hce hcv hcl => pb_out ux (ThQ.up (Thx.same (Thx.same (Thx.same (Thx.f (Thx.f Thx.rfl (by omega)) (by omega)) rfl) rfl) rfl) RhX.rfl hux) hnt hlocks hce hcv hcl hP9 hD9 hS9 (by show 1 + 1 ≤ (2 * (sz - at9) + 19); omega) (by show 11 + 6 ≤ (11 * (2 * (sz - at9) + 19)); omega))
    obtain ⟨w, _⟩ := u71
    obtain ⟨hw72, h76, hO⟩ := hw72
    have h76 : ((at9 + 1) + 1) + 1 ≤ sz := h76
    obtain rfl : v73 = some (.int (nI ((at9 + 1) + 1))) := hw72
    have hO : OKP G h0 a (upd (upd (upd (upd F 2 (nI sz)) 9 (nI (((at9 + 1) + 1) + 1))) 10 (nI ((dp + 1) - 1))) 11 (nI sg)) R Z B J K61 w := hO.to rfl
    refine W.widen (k := 1) (n := 11) (by show 1 + 0 ≤ 1; omega) (by show 11 + 0 ≤ 11; omega) ?_
    refine W.eq (g2 := F0 m 196 ls [.int (nI ((at9 + 1) + 1))]) rfl ?_
    refine lv_pop hx hb dX8_operand_196 rfl ?_
    refine lv_aload_n hx hb dX8_operand_197 rfl (lv_at hl 0 rfl) ?_
    refine W_size (fun hz1 hz2 => ?_)
    refine vx_ret ?_
    have hz77 : NwR K K61 g g62 r60 O at9 ((5 * (20 - dp) + 2 + (sg - sg))) := (NwR.up h63 (by omega))
    have hz78 : at9 + 1 ≤ (((at9 + 1) + 1) + 1) ∧ (((at9 + 1) + 1) + 1) ≤ sz := (by omega)
    have hz79 : sg ≤ sg ∧ sg ≤ 60 := (by omega)
    have hO : OKP G h0 a (upd (upd (upd (upd F 2 (nI sz)) 9 (nI (((at9 + 1) + 1) + 1))) 10 (nI dp)) 11 (nI sg)) R Z (updA B 10 (B 10)) J K61 w := hO.to rfl
    refine W.widen (k := (2 * (sz - at9) + 19)) (n := (11 * (2 * (sz - at9) + 19))) (by omega) (by omega) ?_
    have hzz1 : H.size ≤ s.heap.size + ((2 * ((((at9 + 1) + 1) + 1) - at9) - 1)) := (by have z : 1 ≤ (2 * ((((at9 + 1) + 1) + 1) - at9) - 1) := (by omega); omega)
    have hzz2 : hSl H ≤ hSl s.heap + ((11 * (2 * ((((at9 + 1) + 1) + 1) - at9) - 1))) := (by have z : 11 ≤ (11 * (2 * ((((at9 + 1) + 1) + 1) - at9) - 1)) := (by omega); omega)
    exact W.aret (v := .ref r60) hx hb hr (Or.inl ⟨_, rfl⟩) (Or.inr ⟨_, rfl⟩) (fun t99 ht99 hW99 => ⟨⟨_, (w, (r60, K61, g62, (((at9 + 1) + 1) + 1), sg, (B 10))), rfl, ⟨rfl, hz77, hz78, hz79, hO⟩, by rw [ht99]; exact hP, hD, by rw [ht99]; exact hzz1, by rw [ht99]; exact hzz2⟩, hS.F ht99⟩) hS.2.2 dX8_operand_198
  by_cases h80 : r6 = 22
  · refine lv_lookup (tgt := 135) (off := 124) hx hb dX8_operand_11 (by decide) (by rw [h80]; decide) (by decide) ?_
    have htk := tok_in h7 h80 (by decide : ¬ (22 : Int32) = 67) (by omega) hsz
    refine lv_aload_n hx hb dX8_operand_135 rfl (lv_at hl 0 rfl) ?_
    have hO : OKP G h0 a (upd (upd (upd (upd (upd (upd (upd (upd F 2 (nI sz)) 9 (nI at9)) 10 (nI dp)) 11 (nI sg)) 2 (nI sz)) 9 (nI at9)) 10 (nI dp)) 11 (nI sg)) R Z B J K w := hO.to rfl
    obtain ⟨_, qr84, hqr85⟩ := hO.2.1 23 _ (sg_23 G h0 a _ _ _ _ _)
    refine pn_V0 (G := G) (As := []) (rest := []) hx hb hml hown hq hE hX pX0_al hP hD hS hA hl.1 (P_superCall l G h0 a (upd (upd (upd (upd F 2 (nI sz)) 9 (nI at9)) 10 (nI dp)) 11 (nI sg)) R Z B J K w n at9 sz dp sg O g (by omega) (by omega) (by omega) (by omega) hwn how ihe hO hl0) (gV pw_966 pw_967 pw_968 pw_796 pw_985) hV_X8_superCall qr84 5 hqr85 rfl rfl rfl (Nat.le_of_ble_eq_true rfl) dX8_operand_136 ⟨(by show 0 + (2 * (sz - at9) + 19) ≤ (2 * (sz - at9) + 19); omega), (by show 0 + (11 * (2 * (sz - at9) + 19)) ≤ (11 * (2 * (sz - at9) + 19)); omega)⟩ ⟨(by show (40 * n + 14) + 1 ≤ (40 * n + 16); omega), (by show 8 + (3 + 11) + (1300 * n + 440) ≤ (1300 * n + 480); omega)⟩ (fun v83 u81 H locs hw82 hP hD hS => ?_) (fun ux ce9 q9 H9 locs9 hux hP9 hD9 hS9 hce hcv hcl => pb_out ux (ThQ.up (Thx.same (Thx.same (Thx.same (Thx.same Thx.rfl rfl) rfl) rfl) rfl) RhX.rfl hux) hnt hlocks hce hcv hcl hP9 hD9 hS9 (by show 0 + (2 * (sz - at9) + 19) ≤ (2 * (sz - at9) + 19); omega) (by show 0 + (11 * (2 * (sz - at9) + 19)) ≤ (11 * (2 * (sz - at9) + 19)); omega))
    obtain ⟨w, r86, K87, g88, at89, sg90, f91⟩ := u81
    obtain ⟨hw82, h92, h93, h94, hO⟩ := hw82
    have h92 : NwR K K87 g g88 r86 O at9 ((5 * (20 - dp) + 2 + (sg90 - sg))) := h92
    have h93 : at9 + 3 ≤ at89 ∧ at89 ≤ sz := h93
    have h94 : sg ≤ sg90 ∧ sg90 ≤ 60 := h94
    obtain rfl : v83 = some (.ref r86) := hw82
    have hO : OKP G h0 a (upd (upd (upd (upd F 2 (nI sz)) 9 (nI at89)) 10 (nI dp)) 11 (nI sg90)) R Z (updA B 10 f91) J K87 w := hO.to rfl
    refine W.widen (k := (2 * (at89 - at9) - 2)) (n := (11 * (2 * (at89 - at9) - 2))) (by show 0 + (2 * (at89 - at9) - 2) ≤ (2 * (at89 - at9) - 2); omega) (by show 0 + (11 * (2 * (at89 - at9) - 2)) ≤ (11 * (2 * (at89 - at9) - 2)); omega) ?_
    refine W.eq (g2 := F0 m 139 ls [.ref r86]) rfl ?_
    refine W_size (fun hz1 hz2 => ?_)
    refine vx_ret ?_
    have hz95 : NwR K K87 g g88 r86 O at9 ((5 * (20 - dp) + 2 + (sg90 - sg))) := (NwR.up h92 (by omega))
    have hz96 : at9 + 1 ≤ at89 ∧ at89 ≤ sz := (by omega)
    have hz97 : sg ≤ sg90 ∧ sg90 ≤ 60 := (by omega)
    have hO : OKP G h0 a (upd (upd (upd (upd F 2 (nI sz)) 9 (nI at89)) 10 (nI dp)) 11 (nI sg90)) R Z (updA B 10 f91) J K87 w := hO.to rfl
    refine W.widen (k := (2 * (sz - at9) + 19)) (n := (11 * (2 * (sz - at9) + 19))) (by omega) (by omega) ?_
    have hzz1 : H.size ≤ s.heap.size + ((2 * (at89 - at9) - 1)) := (by have z : (2 * (at89 - at9) - 2) ≤ (2 * (at89 - at9) - 1) := (by omega); omega)
    have hzz2 : hSl H ≤ hSl s.heap + ((11 * (2 * (at89 - at9) - 1))) := (by have z : (11 * (2 * (at89 - at9) - 2)) ≤ (11 * (2 * (at89 - at9) - 1)) := (by omega); omega)
    exact W.aret (v := .ref r86) hx hb hr (Or.inl ⟨_, rfl⟩) (Or.inr ⟨_, rfl⟩) (fun t99 ht99 hW99 => ⟨⟨_, (w, (r86, K87, g88, at89, sg90, f91)), rfl, ⟨rfl, hz95, hz96, hz97, hO⟩, by rw [ht99]; exact hP, hD, by rw [ht99]; exact hzz1, by rw [ht99]; exact hzz2⟩, hS.F ht99⟩) hS.2.2 dX8_operand_139
  by_cases h98 : r6 = 23
  · refine lv_lookup (tgt := 124) (off := 113) hx hb dX8_operand_11 (by decide) (by rw [h98]; decide) (by decide) ?_
    have htk := tok_in h7 h98 (by decide : ¬ (23 : Int32) = 67) (by omega) hsz
    refine lv_aload_n hx hb dX8_operand_124 rfl (lv_at hl 0 rfl) ?_
    refine lv_iconst (v := 4) hx hb dX8_operand_125 (by decide) ?_
    have hO : OKP G h0 a (upd (upd (upd (upd (upd (upd F 2 (nI sz)) 9 (nI at9)) 10 (nI dp)) 11 (nI sg)) 2 (nI sz)) 9 (nI at9)) R Z B J K w := hO.to rfl
    obtain ⟨_, qr102, hqr103⟩ := hO.2.1 23 _ (sg_23 G h0 a _ _ _ _ _)
    refine pc_V0 (G := G) (As := [.int 4]) (rest := []) hx hb hml hown hq hE hX pX0_al hP hD hS hA hl.1 (P_leaf l G h0 a (upd (upd (upd (upd F 2 (nI sz)) 9 (nI at9)) 10 (nI dp)) 11 (nI sg)) R Z B J K w 4 at9 sz O g (by omega) (by omega) hwn (fun o9 h9 => ⟨(how o9 h9).1, fun z => (by rw [(how o9 h9).2.1] at z; omega), (how o9 h9).2.2⟩) (by omega) (fun C => ⟨fun z => absurd z (by decide), fun z => absurd z (by decide), fun z => absurd z (by decide), fun z => absurd z (by decide), fun z => absurd z (by decide)⟩) hO) (gV pw_959 pw_960 pw_961 pw_796 pw_907) hV_X8_leaf qr102 5 hqr103 rfl rfl rfl (Nat.le_of_ble_eq_true rfl) dX8_operand_126 ⟨(by show 0 + 1 ≤ (2 * (sz - at9) + 19); omega), (by show 0 + 11 ≤ (11 * (2 * (sz - at9) + 19)); omega)⟩ ⟨(by show 3 + 1 ≤ (40 * n + 16); omega), (by show 8 + (2 + 11) + 83 ≤ (1300 * n + 480); omega)⟩ (fun v101 u99 H locs hw100 hP hD hS => ?_)
    obtain ⟨w, r104, K105, g106⟩ := u99
    obtain ⟨hw100, h107, h108, hO⟩ := hw100
    have h107 : NwR K K105 g g106 r104 O at9 1 := h107
    have h108 : K105.2.1 0 r104 = 4 := h108
    obtain rfl : v101 = some (.ref r104) := hw100
    have hO : OKP G h0 a (upd (upd (upd (upd F 2 (nI sz)) 9 (nI (at9 + 1))) 10 (nI dp)) 11 (nI sg)) R Z B J K105 w := hO.to rfl
    refine W.widen (k := 1) (n := 11) (by show 0 + 1 ≤ 1; omega) (by show 0 + 11 ≤ 11; omega) ?_
    refine W.eq (g2 := F0 m 129 ls [.ref r104]) rfl ?_
    refine W_size (fun hz1 hz2 => ?_)
    refine vx_ret ?_
    have hz109 : NwR K K105 g g106 r104 O at9 ((5 * (20 - dp) + 2 + (sg - sg))) := (NwR.up h107 (by omega))
    have hz110 : at9 + 1 ≤ (at9 + 1) ∧ (at9 + 1) ≤ sz := (by omega)
    have hz111 : sg ≤ sg ∧ sg ≤ 60 := (by omega)
    have hO : OKP G h0 a (upd (upd (upd (upd F 2 (nI sz)) 9 (nI (at9 + 1))) 10 (nI dp)) 11 (nI sg)) R Z (updA B 10 (B 10)) J K105 w := hO.to rfl
    refine W.widen (k := (2 * (sz - at9) + 19)) (n := (11 * (2 * (sz - at9) + 19))) (by omega) (by omega) ?_
    have hzz1 : H.size ≤ s.heap.size + ((2 * ((at9 + 1) - at9) - 1)) := (by have z : 1 ≤ (2 * ((at9 + 1) - at9) - 1) := (by omega); omega)
    have hzz2 : hSl H ≤ hSl s.heap + ((11 * (2 * ((at9 + 1) - at9) - 1))) := (by have z : 11 ≤ (11 * (2 * ((at9 + 1) - at9) - 1)) := (by omega); omega)
    exact W.aret (v := .ref r104) hx hb hr (Or.inl ⟨_, rfl⟩) (Or.inr ⟨_, rfl⟩) (fun t99 ht99 hW99 => ⟨⟨_, (w, (r104, K105, g106, (at9 + 1), sg, (B 10))), rfl, ⟨rfl, hz109, hz110, hz111, hO⟩, by rw [ht99]; exact hP, hD, by rw [ht99]; exact hzz1, by rw [ht99]; exact hzz2⟩, hS.F ht99⟩) hS.2.2 dX8_operand_129
  by_cases h112 : r6 = 25
  · refine lv_lookup (tgt := 106) (off := 95) hx hb dX8_operand_11 (by decide) (by rw [h112]; decide) (by decide) ?_
    have htk := tok_in h7 h112 (by decide : ¬ (25 : Int32) = 67) (by omega) hsz
    refine lv_aload_n hx hb dX8_operand_106 rfl (lv_at hl 0 rfl) ?_
    refine lv_iconst (v := 1) hx hb dX8_operand_107 (by decide) ?_
    have hO : OKP G h0 a (upd (upd (upd (upd (upd (upd F 2 (nI sz)) 9 (nI at9)) 10 (nI dp)) 11 (nI sg)) 2 (nI sz)) 9 (nI at9)) R Z B J K w := hO.to rfl
    obtain ⟨_, qr116, hqr117⟩ := hO.2.1 23 _ (sg_23 G h0 a _ _ _ _ _)
    refine pc_V0 (G := G) (As := [.int 1]) (rest := []) hx hb hml hown hq hE hX pX0_al hP hD hS hA hl.1 (P_leaf l G h0 a (upd (upd (upd (upd F 2 (nI sz)) 9 (nI at9)) 10 (nI dp)) 11 (nI sg)) R Z B J K w 1 at9 sz O g (by omega) (by omega) hwn (fun o9 h9 => ⟨(how o9 h9).1, fun z => (by rw [(how o9 h9).2.1] at z; omega), (how o9 h9).2.2⟩) (by omega) (fun C => ⟨fun z => absurd z (by decide), fun z => absurd z (by decide), fun z => absurd z (by decide), fun z => absurd z (by decide), fun z => absurd z (by decide)⟩) hO) (gV pw_959 pw_960 pw_961 pw_796 pw_907) hV_X8_leaf qr116 5 hqr117 rfl rfl rfl (Nat.le_of_ble_eq_true rfl) dX8_operand_108 ⟨(by show 0 + 1 ≤ (2 * (sz - at9) + 19); omega), (by show 0 + 11 ≤ (11 * (2 * (sz - at9) + 19)); omega)⟩ ⟨(by show 3 + 1 ≤ (40 * n + 16); omega), (by show 8 + (2 + 11) + 83 ≤ (1300 * n + 480); omega)⟩ (fun v115 u113 H locs hw114 hP hD hS => ?_)
    obtain ⟨w, r118, K119, g120⟩ := u113
    obtain ⟨hw114, h121, h122, hO⟩ := hw114
    have h121 : NwR K K119 g g120 r118 O at9 1 := h121
    have h122 : K119.2.1 0 r118 = 1 := h122
    obtain rfl : v115 = some (.ref r118) := hw114
    have hO : OKP G h0 a (upd (upd (upd (upd F 2 (nI sz)) 9 (nI (at9 + 1))) 10 (nI dp)) 11 (nI sg)) R Z B J K119 w := hO.to rfl
    refine W.widen (k := 1) (n := 11) (by show 0 + 1 ≤ 1; omega) (by show 0 + 11 ≤ 11; omega) ?_
    refine W.eq (g2 := F0 m 111 ls [.ref r118]) rfl ?_
    refine W_size (fun hz1 hz2 => ?_)
    refine vx_ret ?_
    have hz123 : NwR K K119 g g120 r118 O at9 ((5 * (20 - dp) + 2 + (sg - sg))) := (NwR.up h121 (by omega))
    have hz124 : at9 + 1 ≤ (at9 + 1) ∧ (at9 + 1) ≤ sz := (by omega)
    have hz125 : sg ≤ sg ∧ sg ≤ 60 := (by omega)
    have hO : OKP G h0 a (upd (upd (upd (upd F 2 (nI sz)) 9 (nI (at9 + 1))) 10 (nI dp)) 11 (nI sg)) R Z (updA B 10 (B 10)) J K119 w := hO.to rfl
    refine W.widen (k := (2 * (sz - at9) + 19)) (n := (11 * (2 * (sz - at9) + 19))) (by omega) (by omega) ?_
    have hzz1 : H.size ≤ s.heap.size + ((2 * ((at9 + 1) - at9) - 1)) := (by have z : 1 ≤ (2 * ((at9 + 1) - at9) - 1) := (by omega); omega)
    have hzz2 : hSl H ≤ hSl s.heap + ((11 * (2 * ((at9 + 1) - at9) - 1))) := (by have z : 11 ≤ (11 * (2 * ((at9 + 1) - at9) - 1)) := (by omega); omega)
    exact W.aret (v := .ref r118) hx hb hr (Or.inl ⟨_, rfl⟩) (Or.inr ⟨_, rfl⟩) (fun t99 ht99 hW99 => ⟨⟨_, (w, (r118, K119, g120, (at9 + 1), sg, (B 10))), rfl, ⟨rfl, hz123, hz124, hz125, hO⟩, by rw [ht99]; exact hP, hD, by rw [ht99]; exact hzz1, by rw [ht99]; exact hzz2⟩, hS.F ht99⟩) hS.2.2 dX8_operand_111
  by_cases h126 : r6 = 34
  · refine lv_lookup (tgt := 145) (off := 134) hx hb dX8_operand_11 (by decide) (by rw [h126]; decide) (by decide) ?_
    have htk := tok_in h7 h126 (by decide : ¬ (34 : Int32) = 67) (by omega) hsz
    refine p_new (s9 := 1) (C := RX7) (T := TX7) (N := 11) (ci := 13) (fs := [.int 0, .int 0, .int 0, .int 0, .int 0, .int 0, .null, .null, .null, .null, .null]) hx hb hq pin_wsX70 tyX7 tyX7_ok hown (hq _ pw_870) (hq _ pw_871) (hq _ pw_872) hE hP hD hS hA hO rfl nw_X7 (by decide) (fun q => by rw [rep_1 (show (kN K q 1 0).1 q = 1 from if_pos rfl)]; unfold fsNode kN; simp only [if_true]; rfl) (by show 0 + 1 ≤ (2 * (sz - at9) + 19); omega) (by show 0 + 11 ≤ (11 * (2 * (sz - at9) + 19)); omega) dX8_operand_145 (fun q127 H w hq128 hP hD hS hO => ?_)
    have hf129 : (kN K q127 1 0).1 q127 = 1 := if_pos rfl
    refine W.widen (k := 1) (n := 11) (by show 0 + 1 ≤ 1; omega) (by show 0 + 11 ≤ 11; omega) ?_
    refine lv_dup hx hb dX8_operand_148 rfl ?_
    refine lv_bipush (v := 7) hx hb dX8_operand_149 (by decide) ?_
    refine lv_aload_n hx hb dX8_operand_151 rfl (lv_at hl 0 rfl) ?_
    refine c_get (v := .int (nI at9)) (C := RX8) (Tc := TX8) (N := 5) (ci := 5) hx hb hq pin_wsX80 hown hE hP hO 23 (sg_23 G h0 a _ _ _ _ _) rfl 2 (by decide) (hq _ pw_776) (fun _ h9 => h9) rfl dX8_operand_152 ?_
    refine lv_aload_n hx hb dX8_operand_155 rfl (lv_at hl 0 rfl) ?_
    refine c_get (v := .int (nI at9)) (C := RX8) (Tc := TX8) (N := 5) (ci := 5) hx hb hq pin_wsX80 hown hE hP hO 23 (sg_23 G h0 a _ _ _ _ _) rfl 2 (by decide) (hq _ pw_776) (fun _ h9 => h9) rfl dX8_operand_156 ?_
    have hO : OKP G h0 a (upd (upd (upd (upd F 2 (nI sz)) 9 (nI at9)) 10 (nI dp)) 11 (nI sg)) R Z B J (kN K q127 1 0) w := hO.to rfl
    obtain ⟨qr133, hqr134⟩ := p_recv hO (by rw [hf129]; decide) (rep_1 hf129)
    refine pc_I0 (G := G) (As := [.int 7, .int (nI at9), .int (nI at9)]) (rest := [.ref q127]) hx hb hml hown hq hE hX pX0_al hP hD hS hA hl.1 (N_init l G h0 a (upd (upd (upd (upd F 2 (nI sz)) 9 (nI at9)) 10 (nI dp)) 11 (nI sg)) R Z B J (kN K q127 1 0) w q127 7 (nI at9) (nI at9) (by omega) hO) pw_874 pw_875 pw_872 pw_765 rfl hS_X7_init rfl (Nat.le_of_ble_eq_true rfl) dX8_operand_159 ⟨(by show 1 + 0 ≤ (2 * (sz - at9) + 19); omega), (by show 11 + 0 ≤ (11 * (2 * (sz - at9) + 19)); omega)⟩ ⟨(by show 2 + 1 ≤ (40 * n + 16); omega), (by show 8 + (4 + 11) + 60 ≤ (1300 * n + 480); omega)⟩ (fun v132 u130 H locs hw131 hP hD hS => ?_)
    obtain ⟨w, _⟩ := u130
    obtain ⟨hw131, hO⟩ := hw131
    obtain rfl : v132 = none := hw131
    have hf135 : (kI (kI (kI (kN K q127 1 0) 0 q127 7) 1 q127 (nI at9)) 2 q127 (nI at9)).1 q127 = 1 := hf129
    have hO : OKP G h0 a (upd (upd (upd (upd F 2 (nI sz)) 9 (nI at9)) 10 (nI dp)) 11 (nI sg)) R Z B J (kI (kI (kI (kN K q127 1 0) 0 q127 7) 1 q127 (nI at9)) 2 q127 (nI at9)) w := hO.to rfl
    refine W.widen (k := 1) (n := 11) (by show 1 + 0 ≤ 1; omega) (by show 11 + 0 ≤ 11; omega) ?_
    refine W.eq (g2 := F0 m 162 ls [.ref q127]) rfl ?_
    change OKP G h0 a (upd (upd (upd (upd F 2 (nI sz)) 9 (nI at9)) 10 (nI dp)) 11 (nI sg)) R Z B J (mkN K q127 7 (nI at9) (nI at9)) w at hO
    obtain ⟨K136, hK137⟩ : ∃ z : PK, z = (mkN K q127 7 (nI at9) (nI at9)) := ⟨_, rfl⟩
    rw [← hK137] at hO
    have hf138 : K136.1 q127 = 1 := by rw [hK137]; exact mkN_T
    have hf139 : K136.2.1 0 q127 = 7 := by rw [hK137]; exact mkN_0
    have hf140 : K136.2.1 2 q127 = (nI at9) := by rw [hK137]; exact mkN_2
    have hf141 : K136.2.2.1 0 q127 = none := by rw [hK137]; exact mkN_C
    have hf142 : K136.2.2.1 1 q127 = none := by rw [hK137]; exact mkN_C
    have hf143 : K136.2.2.1 2 q127 = none := by rw [hK137]; exact mkN_C
    have hf144 : K136.2.2.1 3 q127 = none := by rw [hK137]; exact mkN_C
    have hf145 : K136.2.2.1 4 q127 = none := by rw [hK137]; exact mkN_C
    have hns146 : NwS K K136 g (gset g q127 0 0 0) := by rw [hK137]; exact NwS.node hns0 hq128
    have hq147 : K.1 q127 = 0 := old_T hns0.2.1 hq128
    have hg148 : (gset g q127 0 0 0) 0 q127 = 0 := gset_0
    have hno149 : NoO K136 (gset g q127 0 0 0) q127 := by rw [hK137]; exact NoO.new hns0.1 hq128
    refine lv_astore_n (lv' := [(1, .ref q127), (0, .ref (a 3))]) hx hb dX8_operand_162 rfl hl (by decide) rfl (fun ls hl => ?_)
    refine lv_aload_n hx hb dX8_operand_163 rfl (lv_at hl 0 rfl) ?_
    refine lv_aload_n hx hb dX8_operand_164 rfl (lv_at hl 1 rfl) ?_
    refine lv_bipush (v := 34) hx hb dX8_operand_165 (by decide) ?_
    refine lv_bipush (v := 35) hx hb dX8_operand_167 (by decide) ?_
    have hO : OKP G h0 a (upd (upd (upd (upd (upd (upd (upd (upd F 2 (nI sz)) 9 (nI at9)) 10 (nI dp)) 11 (nI sg)) 2 (nI sz)) 9 (nI at9)) 10 (nI dp)) 11 (nI sg)) R Z B J K136 w := hO.to rfl
    obtain ⟨_, qr153, hqr154⟩ := hO.2.1 23 _ (sg_23 G h0 a _ _ _ _ _)
    refine pn_V0 (G := G) (As := [.int 34, .int 35]) (rest := [.ref q127]) hx hb hml hown hq hE hX pX0_al hP hD hS hA hl.1 (P_bracketed l G h0 a (upd (upd (upd (upd F 2 (nI sz)) 9 (nI at9)) 10 (nI dp)) 11 (nI sg)) R Z B J K136 w 34 35 n at9 sz dp sg 0 (gset g q127 0 0 0) (by omega) (by omega) (by omega) (by omega) hns146.1 (fun o9 h9 => absurd h9 (by omega)) (by decide) (by decide) ihe hO hl0) (gV pw_954 pw_955 pw_956 pw_796 pw_922) hV_X8_bracketed qr153 5 hqr154 rfl rfl rfl (Nat.le_of_ble_eq_true rfl) dX8_operand_169 ⟨(by show 1 + (2 * (sz - at9) + 18) ≤ (2 * (sz - at9) + 19); omega), (by show 11 + (11 * (2 * (sz - at9) + 18)) ≤ (11 * (2 * (sz - at9) + 19)); omega)⟩ ⟨(by show (40 * n + 10) + 1 ≤ (40 * n + 16); omega), (by show 8 + (4 + 11) + (1300 * n + 330) ≤ (1300 * n + 480); omega)⟩ (fun v152 u150 H locs hw151 hP hD hS => ?_) (fun ux ce9 q9 H9 locs9 hux hP9 hD9 hS9 hce hcv hcl => pb_out ux (ThQ.up (Thx.same (Thx.same (Thx.same (Thx.same Thx.rfl rfl) rfl) rfl) rfl) RhX.rfl hux) hnt hlocks hce hcv hcl hP9 hD9 hS9 (by show 1 + (2 * (sz - at9) + 18) ≤ (2 * (sz - at9) + 19); omega) (by show 11 + (11 * (2 * (sz - at9) + 18)) ≤ (11 * (2 * (sz - at9) + 19)); omega))
    obtain ⟨w, r155, K156, g157, at158, sg159, f160⟩ := u150
    obtain ⟨hw151, h161, h162, h163, h164, hO⟩ := hw151
    have h161 : NwR K136 K156 (gset g q127 0 0 0) g157 r155 0 (at9 + 1) (5 * (20 - (dp + 1)) + 6 + (sg159 - sg)) := h161
    have h162 : at9 + 3 ≤ at158 ∧ at158 ≤ sz := h162
    have h163 : sg ≤ sg159 ∧ sg159 ≤ 60 := h163
    have h164 : dp + 1 ≤ 20 := h164
    obtain rfl : v152 = some (.ref r155) := hw151
    have hf165 : K156.1 q127 = 1 := (((h161).2.1.1 q127 (by rw [hf138]; decide)).1).trans hf138
    have hf166 : K156.2.1 0 q127 = 7 := (((h161).2.1.1 q127 (by rw [hf138]; decide)).2.1 0).trans hf139
    have hf167 : K156.2.1 2 q127 = (nI at9) := (((h161).2.1.1 q127 (by rw [hf138]; decide)).2.1 2).trans hf140
    have hf168 : K156.2.2.1 0 q127 = none := (((h161).2.1.1 q127 (by rw [hf138]; decide)).2.2.1 0).trans hf141
    have hf169 : K156.2.2.1 1 q127 = none := (((h161).2.1.1 q127 (by rw [hf138]; decide)).2.2.1 1).trans hf142
    have hf170 : K156.2.2.1 2 q127 = none := (((h161).2.1.1 q127 (by rw [hf138]; decide)).2.2.1 2).trans hf143
    have hf171 : K156.2.2.1 3 q127 = none := (((h161).2.1.1 q127 (by rw [hf138]; decide)).2.2.1 3).trans hf144
    have hf172 : K156.2.2.1 4 q127 = none := (((h161).2.1.1 q127 (by rw [hf138]; decide)).2.2.1 4).trans hf145
    have hO : OKP G h0 a (upd (upd (upd (upd F 2 (nI sz)) 9 (nI at158)) 10 (nI dp)) 11 (nI sg159)) R Z (updA B 10 f160) J K156 w := hO.to rfl
    refine W.widen (k := (1 + (2 * (at158 - at9) - 5))) (n := (11 + (11 * (2 * (at158 - at9) - 5)))) (by show 1 + (2 * (at158 - at9) - 5) ≤ (1 + (2 * (at158 - at9) - 5)); omega) (by show 11 + (11 * (2 * (at158 - at9) - 5)) ≤ (11 + (11 * (2 * (at158 - at9) - 5))); omega) ?_
    refine W.eq (g2 := F0 m 172 ls [.ref r155, .ref q127]) rfl ?_
    have hns173 : NwS K K156 g g157 := NwS.call hns146 h161 (fun o9 h9 => absurd h9 (by omega))
    have hf174 : K156.1 r155 = 1 := h161.2.2.1.2.1
    have hg175 : g157 0 q127 = 0 := (h161.2.1.2 q127 (by rw [hf138]; decide) 0).trans hg148
    have hno176 : NoO K156 g157 q127 := NoO.call hno149 h161 hf138 (by omega)
    refine p_put (v := .ref r155) (ty := (.object "JinjaTongue$Node")) (C := RX7) (Tc := TX7) (N := 11) (ci := 13) (K' := (kC K156 0 q127 (some r155))) hx hb hq pin_wsX70 tyX7 tyX7_ok nmX7 hown hE hP hD hS hO (by rw [hf165]; decide) (rep_1 hf165) rfl 6 (by decide) (hq _ pw_938) (fun _ h9 => h9) rfl (by decide +kernel) rfl rfl (Nat.le_of_ble_eq_true rfl) rfl (by rw [rep_1 (show (kC K156 0 q127 (some r155)).1 q127 = 1 from hf165), pc_0] <;> rfl) (fun p9 hp9 => rep_kC hp9) dX8_operand_172 (fun H locs w hP hD hS hO => ?_)
    obtain ⟨K177, hK178⟩ : ∃ z : PK, z = (kC K156 0 q127 (some r155)) := ⟨_, rfl⟩
    rw [← hK178] at hO
    have hf179 : K177.1 q127 = 1 := (by rw [hK178]; exact hf165)
    have hf180 : K177.2.1 0 q127 = 7 := (by rw [hK178]; exact hf166)
    have hf181 : K177.2.1 2 q127 = (nI at9) := (by rw [hK178]; exact hf167)
    have hf182 : K177.2.2.1 1 q127 = none := (by rw [hK178]; exact (kC_of (by decide)).trans hf169)
    have hf183 : K177.2.2.1 2 q127 = none := (by rw [hK178]; exact (kC_of (by decide)).trans hf170)
    have hf184 : K177.2.2.1 3 q127 = none := (by rw [hK178]; exact (kC_of (by decide)).trans hf171)
    have hf185 : K177.2.2.1 4 q127 = none := (by rw [hK178]; exact (kC_of (by decide)).trans hf172)
    have hf186 : K177.1 r155 = 1 := (by rw [hK178]; exact hf174)
    have hf187 : K177.2.2.1 0 q127 = some r155 := by rw [hK178]; exact kC_eq
    have hns188 : NwS K K177 g g157 := by rw [hK178]; exact NwS.put hns173 hq147 hg175
    have hno189 : NoO K177 g157 q127 := by rw [hK178]; exact hno176
    refine lv_aload_n hx hb dX8_operand_175 rfl (lv_at hl 0 rfl) ?_
    refine W_size (fun hz1 hz2 => ?_)
    refine vx_ret ?_
    have hlr := h161.2.2.1
    have hlr1 := hlr.2.2.1
    have hlr2 := hlr.2.2.2.1
    have hkid : ∀ f9 y9 : Nat, f9 ≤ 3 → K177.2.2.1 f9 q127 = some y9 → K177.1 y9 = 1 ∧ 1 ≤ g157 0 y9 ∧ g157 0 y9 < (5 * (20 - dp) + 2 + (sg159 - sg)) := by
      intro f9 y9 hf9 hy9
      rcases (show f9 = 0 ∨ f9 = 1 ∨ f9 = 2 ∨ f9 = 3 by omega) with rfl | rfl | rfl | rfl
      · rw [hf187] at hy9; cases hy9; exact ⟨hf186, hlr1, by omega⟩
      · rw [hf182] at hy9; cases hy9
      · rw [hf183] at hy9; cases hy9
      · rw [hf184] at hy9; cases hy9
    have hdn := NwS.done1 (q := q127) (L := (5 * (20 - dp) + 2 + (sg159 - sg))) (O := O) (k := at9) hns188 hq147 hf179 hg175 (by omega) (by omega) (by rw [hf180]; exact ⟨fun _ => (by show ¬ K177.2.2.1 0 q127 = none; rw [hf187]; intro z; cases z), fun z => absurd z (by decide), fun z => absurd z (by decide), fun z => absurd z (by decide), fun z => absurd z (by decide)⟩) (fun f9 z => by rw [hf180] at z; rcases z with ⟨z, _⟩ | ⟨z | z | z, _⟩ <;> exact absurd z (by decide)) hkid hf185 hno189 (fun f9 x9 _ _ => Kch.no (by rw [hf180]; decide)) how
    have hz190 : NwR K K177 g (gset g157 q127 (5 * (20 - dp) + 2 + (sg159 - sg)) O at9) q127 O at9 ((5 * (20 - dp) + 2 + (sg159 - sg))) := hdn
    have hz191 : at9 + 1 ≤ at158 ∧ at158 ≤ sz := (by omega)
    have hz192 : sg ≤ sg159 ∧ sg159 ≤ 60 := (by omega)
    have hO : OKP G h0 a (upd (upd (upd (upd F 2 (nI sz)) 9 (nI at158)) 10 (nI dp)) 11 (nI sg159)) R Z (updA B 10 f160) J K177 w := hO.to rfl
    refine W.widen (k := (2 * (sz - at9) + 19)) (n := (11 * (2 * (sz - at9) + 19))) (by omega) (by omega) ?_
    have hzz1 : H.size ≤ s.heap.size + ((2 * (at158 - at9) - 1)) := (by have z : (1 + (2 * (at158 - at9) - 5)) ≤ (2 * (at158 - at9) - 1) := (by omega); omega)
    have hzz2 : hSl H ≤ hSl s.heap + ((11 * (2 * (at158 - at9) - 1))) := (by have z : (11 + (11 * (2 * (at158 - at9) - 5))) ≤ (11 * (2 * (at158 - at9) - 1)) := (by omega); omega)
    exact W.aret (v := .ref q127) hx hb hr (Or.inl ⟨_, rfl⟩) (Or.inr ⟨_, rfl⟩) (fun t99 ht99 hW99 => ⟨⟨_, (w, (q127, K177, (gset g157 q127 (5 * (20 - dp) + 2 + (sg159 - sg)) O at9), at158, sg159, f160)), rfl, ⟨rfl, hz190, hz191, hz192, hO⟩, by rw [ht99]; exact hP, hD, by rw [ht99]; exact hzz1, by rw [ht99]; exact hzz2⟩, hS.F ht99⟩) hS.2.2 dX8_operand_176
  by_cases h193 : r6 = 65
  · refine lv_lookup (tgt := 130) (off := 119) hx hb dX8_operand_11 (by decide) (by rw [h193]; decide) (by decide) ?_
    have htk := tok_in h7 h193 (by decide : ¬ (65 : Int32) = 67) (by omega) hsz
    refine lv_aload_n hx hb dX8_operand_130 rfl (lv_at hl 0 rfl) ?_
    have hO : OKP G h0 a (upd (upd (upd (upd (upd (upd (upd (upd F 2 (nI sz)) 9 (nI at9)) 10 (nI dp)) 11 (nI sg)) 2 (nI sz)) 9 (nI at9)) 10 (nI dp)) 11 (nI sg)) R Z B J K w := hO.to rfl
    obtain ⟨_, qr197, hqr198⟩ := hO.2.1 23 _ (sg_23 G h0 a _ _ _ _ _)
    refine pn_V0 (G := G) (As := []) (rest := []) hx hb hml hown hq hE hX pX0_al hP hD hS hA hl.1 (P_named l G h0 a (upd (upd (upd (upd F 2 (nI sz)) 9 (nI at9)) 10 (nI dp)) 11 (nI sg)) R Z B J K w n at9 sz dp sg O g (by omega) (by omega) (by omega) (by omega) hwn how (by omega) ihe hO hl0) (gV pw_963 pw_964 pw_965 pw_796 pw_958) hV_X8_named qr197 5 hqr198 rfl rfl rfl (Nat.le_of_ble_eq_true rfl) dX8_operand_131 ⟨(by show 0 + (2 * (sz - at9) + 19) ≤ (2 * (sz - at9) + 19); omega), (by show 0 + (11 * (2 * (sz - at9) + 19)) ≤ (11 * (2 * (sz - at9) + 19)); omega)⟩ ⟨(by show (40 * n + 14) + 1 ≤ (40 * n + 16); omega), (by show 8 + (2 + 11) + (1300 * n + 440) ≤ (1300 * n + 480); omega)⟩ (fun v196 u194 H locs hw195 hP hD hS => ?_) (fun ux ce9 q9 H9 locs9 hux hP9 hD9 hS9 hce hcv hcl => pb_out ux (ThQ.up (Thx.same (Thx.same (Thx.same (Thx.same Thx.rfl rfl) rfl) rfl) rfl) RhX.rfl hux) hnt hlocks hce hcv hcl hP9 hD9 hS9 (by show 0 + (2 * (sz - at9) + 19) ≤ (2 * (sz - at9) + 19); omega) (by show 0 + (11 * (2 * (sz - at9) + 19)) ≤ (11 * (2 * (sz - at9) + 19)); omega))
    obtain ⟨w, r199, K200, g201, at202, sg203, f204⟩ := u194
    obtain ⟨hw195, h205, h206, h207, hO⟩ := hw195
    have h205 : NwR K K200 g g201 r199 O at9 ((5 * (20 - dp) + 2 + (sg203 - sg))) := h205
    have h206 : at9 + 1 ≤ at202 ∧ at202 ≤ sz := h206
    have h207 : sg ≤ sg203 ∧ sg203 ≤ 60 := h207
    obtain rfl : v196 = some (.ref r199) := hw195
    have hO : OKP G h0 a (upd (upd (upd (upd F 2 (nI sz)) 9 (nI at202)) 10 (nI dp)) 11 (nI sg203)) R Z (updA B 10 f204) J K200 w := hO.to rfl
    refine W.widen (k := (2 * (at202 - at9) - 1)) (n := (11 * (2 * (at202 - at9) - 1))) (by show 0 + (2 * (at202 - at9) - 1) ≤ (2 * (at202 - at9) - 1); omega) (by show 0 + (11 * (2 * (at202 - at9) - 1)) ≤ (11 * (2 * (at202 - at9) - 1)); omega) ?_
    refine W.eq (g2 := F0 m 134 ls [.ref r199]) rfl ?_
    refine W_size (fun hz1 hz2 => ?_)
    refine vx_ret ?_
    have hz208 : NwR K K200 g g201 r199 O at9 ((5 * (20 - dp) + 2 + (sg203 - sg))) := (NwR.up h205 (by omega))
    have hz209 : at9 + 1 ≤ at202 ∧ at202 ≤ sz := (by omega)
    have hz210 : sg ≤ sg203 ∧ sg203 ≤ 60 := (by omega)
    have hO : OKP G h0 a (upd (upd (upd (upd F 2 (nI sz)) 9 (nI at202)) 10 (nI dp)) 11 (nI sg203)) R Z (updA B 10 f204) J K200 w := hO.to rfl
    refine W.widen (k := (2 * (sz - at9) + 19)) (n := (11 * (2 * (sz - at9) + 19))) (by omega) (by omega) ?_
    have hzz1 : H.size ≤ s.heap.size + ((2 * (at202 - at9) - 1)) := (by have z : (2 * (at202 - at9) - 1) ≤ (2 * (at202 - at9) - 1) := (by omega); omega)
    have hzz2 : hSl H ≤ hSl s.heap + ((11 * (2 * (at202 - at9) - 1))) := (by have z : (11 * (2 * (at202 - at9) - 1)) ≤ (11 * (2 * (at202 - at9) - 1)) := (by omega); omega)
    exact W.aret (v := .ref r199) hx hb hr (Or.inl ⟨_, rfl⟩) (Or.inr ⟨_, rfl⟩) (fun t99 ht99 hW99 => ⟨⟨_, (w, (r199, K200, g201, at202, sg203, f204)), rfl, ⟨rfl, hz208, hz209, hz210, hO⟩, by rw [ht99]; exact hP, hD, by rw [ht99]; exact hzz1, by rw [ht99]; exact hzz2⟩, hS.F ht99⟩) hS.2.2 dX8_operand_134
  by_cases h211 : r6 = 66
  · refine lv_lookup (tgt := 100) (off := 89) hx hb dX8_operand_11 (by decide) (by rw [h211]; decide) (by decide) ?_
    have htk := tok_in h7 h211 (by decide : ¬ (66 : Int32) = 67) (by omega) hsz
    refine lv_aload_n hx hb dX8_operand_100 rfl (lv_at hl 0 rfl) ?_
    refine lv_iconst (v := 0) hx hb dX8_operand_101 (by decide) ?_
    have hO : OKP G h0 a (upd (upd (upd (upd (upd (upd F 2 (nI sz)) 9 (nI at9)) 10 (nI dp)) 11 (nI sg)) 2 (nI sz)) 9 (nI at9)) R Z B J K w := hO.to rfl
    obtain ⟨_, qr215, hqr216⟩ := hO.2.1 23 _ (sg_23 G h0 a _ _ _ _ _)
    refine pc_V0 (G := G) (As := [.int 0]) (rest := []) hx hb hml hown hq hE hX pX0_al hP hD hS hA hl.1 (P_leaf l G h0 a (upd (upd (upd (upd F 2 (nI sz)) 9 (nI at9)) 10 (nI dp)) 11 (nI sg)) R Z B J K w 0 at9 sz O g (by omega) (by omega) hwn (fun o9 h9 => ⟨(how o9 h9).1, fun z => (by rw [(how o9 h9).2.1] at z; omega), (how o9 h9).2.2⟩) (by omega) (fun C => ⟨fun z => absurd z (by decide), fun z => absurd z (by decide), fun z => absurd z (by decide), fun z => absurd z (by decide), fun z => absurd z (by decide)⟩) hO) (gV pw_959 pw_960 pw_961 pw_796 pw_907) hV_X8_leaf qr215 5 hqr216 rfl rfl rfl (Nat.le_of_ble_eq_true rfl) dX8_operand_102 ⟨(by show 0 + 1 ≤ (2 * (sz - at9) + 19); omega), (by show 0 + 11 ≤ (11 * (2 * (sz - at9) + 19)); omega)⟩ ⟨(by show 3 + 1 ≤ (40 * n + 16); omega), (by show 8 + (2 + 11) + 83 ≤ (1300 * n + 480); omega)⟩ (fun v214 u212 H locs hw213 hP hD hS => ?_)
    obtain ⟨w, r217, K218, g219⟩ := u212
    obtain ⟨hw213, h220, h221, hO⟩ := hw213
    have h220 : NwR K K218 g g219 r217 O at9 1 := h220
    have h221 : K218.2.1 0 r217 = 0 := h221
    obtain rfl : v214 = some (.ref r217) := hw213
    have hO : OKP G h0 a (upd (upd (upd (upd F 2 (nI sz)) 9 (nI (at9 + 1))) 10 (nI dp)) 11 (nI sg)) R Z B J K218 w := hO.to rfl
    refine W.widen (k := 1) (n := 11) (by show 0 + 1 ≤ 1; omega) (by show 0 + 11 ≤ 11; omega) ?_
    refine W.eq (g2 := F0 m 105 ls [.ref r217]) rfl ?_
    refine W_size (fun hz1 hz2 => ?_)
    refine vx_ret ?_
    have hz222 : NwR K K218 g g219 r217 O at9 ((5 * (20 - dp) + 2 + (sg - sg))) := (NwR.up h220 (by omega))
    have hz223 : at9 + 1 ≤ (at9 + 1) ∧ (at9 + 1) ≤ sz := (by omega)
    have hz224 : sg ≤ sg ∧ sg ≤ 60 := (by omega)
    have hO : OKP G h0 a (upd (upd (upd (upd F 2 (nI sz)) 9 (nI (at9 + 1))) 10 (nI dp)) 11 (nI sg)) R Z (updA B 10 (B 10)) J K218 w := hO.to rfl
    refine W.widen (k := (2 * (sz - at9) + 19)) (n := (11 * (2 * (sz - at9) + 19))) (by omega) (by omega) ?_
    have hzz1 : H.size ≤ s.heap.size + ((2 * ((at9 + 1) - at9) - 1)) := (by have z : 1 ≤ (2 * ((at9 + 1) - at9) - 1) := (by omega); omega)
    have hzz2 : hSl H ≤ hSl s.heap + ((11 * (2 * ((at9 + 1) - at9) - 1))) := (by have z : 11 ≤ (11 * (2 * ((at9 + 1) - at9) - 1)) := (by omega); omega)
    exact W.aret (v := .ref r217) hx hb hr (Or.inl ⟨_, rfl⟩) (Or.inr ⟨_, rfl⟩) (fun t99 ht99 hW99 => ⟨⟨_, (w, (r217, K218, g219, (at9 + 1), sg, (B 10))), rfl, ⟨rfl, hz222, hz223, hz224, hO⟩, by rw [ht99]; exact hP, hD, by rw [ht99]; exact hzz1, by rw [ht99]; exact hzz2⟩, hS.F ht99⟩) hS.2.2 dX8_operand_105
  refine lv_lookup (tgt := 199) (off := 188) hx hb dX8_operand_11 (by decide) ((lv_osw h8 (by decide)).trans ((lv_osw h22 (by decide)).trans ((lv_osw h40 (by decide)).trans ((lv_osw h54 (by decide)).trans ((lv_osw h80 (by decide)).trans ((lv_osw h98 (by decide)).trans ((lv_osw h112 (by decide)).trans ((lv_osw h126 (by decide)).trans ((lv_osw h193 (by decide)).trans ((lv_osw h211 (by decide)).trans rfl)))))))))) (by decide) ?_
  refine lv_aload_n hx hb dX8_operand_199 rfl (lv_at hl 0 rfl) ?_
  have hO : OKW G h0 a (upd (upd (upd (upd (upd (upd F 2 (nI sz)) 9 (nI at9)) 10 (nI dp)) 11 (nI sg)) 2 (nI sz)) 9 (nI at9)) R Z B J K.1 (fun q99 x99 => x99 = rep G a K q99) w := hO.to rfl
  obtain ⟨_, qr228, hqr229⟩ := hO.2.1 23 _ (sg_23 G h0 a _ _ _ _ _)
  refine pn_V0 (G := G) (As := []) (rest := []) hx hb hml hown hq hE hX pX0_al hP hD hS hA hl.1 (P_refuse l G h0 a (upd (upd (upd (upd F 2 (nI sz)) 9 (nI at9)) 10 (nI dp)) 11 (nI sg)) R Z B J K.1 (fun q99 x99 => x99 = rep G a K q99) w at9 sz (by omega) (by omega) hO hl0) (gV pw_806 pw_807 pw_808 pw_796 pw_778) hV_X8_refuse qr228 5 hqr229 rfl rfl rfl (Nat.le_of_ble_eq_true rfl) dX8_operand_200 ⟨(by show 0 + 1 ≤ (2 * (sz - at9) + 19); omega), (by show 0 + 6 ≤ (11 * (2 * (sz - at9) + 19)); omega)⟩ ⟨(by show 7 + 1 ≤ (40 * n + 16); omega), (by show 8 + (1 + 11) + 122 ≤ (1300 * n + 480); omega)⟩ (fun v227 u225 H locs hw226 hP hD hS => hw226.elim) (fun ux ce9 q9 H9 locs9 hux hP9 hD9 hS9 hce hcv hcl => pb_out ux (ThQ.up (Thx.same (Thx.same Thx.rfl rfl) rfl) RhX.rfl hux) hnt hlocks hce hcv hcl hP9 hD9 hS9 (by show 0 + 1 ≤ (2 * (sz - at9) + 19); omega) (by show 0 + 6 ≤ (11 * (2 * (sz - at9) + 19)); omega))
