def PSg (l : Launch) (G : pT) (n : Nat) (d9 : Nat) : Prop := ∀ (h0 : Nat) (a : Nat → Nat) (F : Nat → Int32) (R : Nat → Value) (Z : Int64) (B : Nat → Nat → Int32) (J : Nat → Nat → Int64) (K : PK) (w : va_W) (ls9 : Nat) (at9 : Nat) (sz : Nat) (dp : Nat) (sg : Nat) (O : Nat) (g : Nat → Nat → Nat), (sz ≤ 5000) → (at9 ≤ sz) → (dp + n = 20) → (sg ≤ 60) → (WN K g) → (∀ o : Nat, O = o + 1 → K.1 o = 1 ∧ g 0 o = 0 ∧ ¬ K.2.1 0 o = 32) → (1 ≤ ls9 ∧ ls9 + d9 = 11) → (OKP G h0 a (upd (upd (upd (upd F 2 (nI sz)) 9 (nI at9)) 10 (nI dp)) 11 (nI sg)) R Z B J K w) → (l.stackTraces = false) → PBn l G pX0 yX8_signed cX8_signed 7 (some (.object "JinjaTongue$Node")) ({ frames := (40 * n + 24 + d9), cells := (2 * (sz - at9) + 20), slots := (11 * (2 * (sz - at9) + 20)), locals := (1300 * n + 600 + 30 * d9) }) [.ref (a 3), .int (nI ls9)] w (fun (v : Option Value) (u : va_W × (Nat × PK × (Nat → Nat → Nat) × Nat × Nat × (Nat → Int32))) => v = some (.ref u.2.1) ∧ (NwR K u.2.2.1 g u.2.2.2.1 u.2.1 O at9 ((5 * (20 - dp) + 4 + (u.2.2.2.2.2.1 - sg)))) ∧ (at9 + 1 ≤ u.2.2.2.2.1 ∧ u.2.2.2.2.1 ≤ sz) ∧ (sg ≤ u.2.2.2.2.2.1 ∧ u.2.2.2.2.2.1 ≤ 60) ∧ (OKP G h0 a (upd (upd (upd (upd F 2 (nI sz)) 9 (nI u.2.2.2.2.1)) 10 (nI dp)) 11 (nI u.2.2.2.2.2.1)) R Z (updA B 10 u.2.2.2.2.2.2) J u.2.2.1 u.1)) (fun u => u.1) (fun (u : va_W × (Nat × PK × (Nat → Nat → Nat) × Nat × Nat × (Nat → Int32))) => (2 * (u.2.2.2.2.1 - at9) - 1)) (fun (u : va_W × (Nat × PK × (Nat → Nat → Nat) × Nat × Nat × (Nat → Int32))) => (11 * (2 * (u.2.2.2.2.1 - at9) - 1))) (fun (u : va_W × (Nat → Int32) × (Nat → Value) × (Nat → Nat → Int32)) => ThQ G h0 a (upd (upd (upd (upd F 2 (nI sz)) 9 (nI at9)) 10 (nI dp)) 11 (nI sg)) R Z B J u) (fun u => u.1)
def IhS (l : Launch) (G : pT) (n d9 : Nat) : Prop := ∀ d : Nat, d < d9 → PSg l G n d
theorem PwT.of {x : Int32} {r at9 sz : Nat} (h : PwQ x r) (hr : x = 67 ∨ ∃ t : Nat, nI at9 = nI t ∧ t < sz) (h1 : at9 ≤ 6000) (h2 : sz ≤ 5000) : PwT r at9 sz := by
  rcases h with h | h
  · exact Or.inl h
  · exact Or.inr (tok_in hr rfl h h1 h2)
theorem PwT.lt {r at9 sz : Nat} (h : PwT r at9 sz) (hr : 1 ≤ r) : at9 < sz := by
  rcases h with h | h
  · omega
  · exact h
theorem SgK.of {r : Int32} (h : SgK r) (hn : ¬ r = 19) : r = 17 ∨ r = 18 := by
  rcases h with h | h | h
  · exact Or.inl h
  · exact Or.inr h
  · exact absurd h hn
theorem dX8_signed_0 : decode cX8_signed 0 = .ok (.aload_n 0, 1) := by decide +kernel
theorem dX8_signed_1 : decode cX8_signed 1 = .ok (.invokevirtual 251, 3) := by decide +kernel
theorem dX8_signed_4 : decode cX8_signed 4 = .ok (.astore_n 2, 1) := by decide +kernel
theorem dX8_signed_5 : decode cX8_signed 5 = .ok (.aload_n 0, 1) := by decide +kernel
theorem dX8_signed_6 : decode cX8_signed 6 = .ok (.getfield 7, 3) := by decide +kernel
theorem dX8_signed_9 : decode cX8_signed 9 = .ok (.aload_n 0, 1) := by decide +kernel
theorem dX8_signed_10 : decode cX8_signed 10 = .ok (.getfield 17, 3) := by decide +kernel
theorem dX8_signed_13 : decode cX8_signed 13 = .ok (.invokevirtual 57, 3) := by decide +kernel
theorem dX8_signed_16 : decode cX8_signed 16 = .ok (.invokestatic 254, 3) := by decide +kernel
theorem dX8_signed_19 : decode cX8_signed 19 = .ok (.istore_n 3, 1) := by decide +kernel
theorem dX8_signed_20 : decode cX8_signed 20 = .ok (.bipush 10, 2) := by decide +kernel
theorem dX8_signed_22 : decode cX8_signed 22 = .ok (.istore 4, 2) := by decide +kernel
theorem dX8_signed_24 : decode cX8_signed 24 = .ok (.iconst 0, 1) := by decide +kernel
theorem dX8_signed_25 : decode cX8_signed 25 = .ok (.istore 5, 2) := by decide +kernel
theorem dX8_signed_27 : decode cX8_signed 27 = .ok (.iload 5, 2) := by decide +kernel
theorem dX8_signed_29 : decode cX8_signed 29 = .ok (.aload_n 0, 1) := by decide +kernel
theorem dX8_signed_30 : decode cX8_signed 30 = .ok (.getfield 7, 3) := by decide +kernel
theorem dX8_signed_33 : decode cX8_signed 33 = .ok (.getfield 27, 3) := by decide +kernel
theorem dX8_signed_36 : decode cX8_signed 36 = .ok (.if_icmp .ge 123, 3) := by decide +kernel
theorem dX8_signed_159 : decode cX8_signed 159 = .ok (.aload_n 2, 1) := by decide +kernel
theorem dX8_signed_160 : decode cX8_signed 160 = .ok (.areturn, 1) := by decide +kernel
theorem dX8_signed_39 : decode cX8_signed 39 = .ok (.iload_n 3, 1) := by decide +kernel
theorem dX8_signed_40 : decode cX8_signed 40 = .ok (.iload_n 1, 1) := by decide +kernel
theorem dX8_signed_41 : decode cX8_signed 41 = .ok (.if_icmp .lt 118, 3) := by decide +kernel
theorem dX8_signed_44 : decode cX8_signed 44 = .ok (.iload_n 3, 1) := by decide +kernel
theorem dX8_signed_45 : decode cX8_signed 45 = .ok (.iload 4, 2) := by decide +kernel
theorem dX8_signed_47 : decode cX8_signed 47 = .ok (.if_icmp .gt 112, 3) := by decide +kernel
theorem dX8_signed_50 : decode cX8_signed 50 = .ok (.aload_n 0, 1) := by decide +kernel
theorem dX8_signed_51 : decode cX8_signed 51 = .ok (.invokevirtual 257, 3) := by decide +kernel
theorem dX8_signed_54 : decode cX8_signed 54 = .ok (.new 143, 3) := by decide +kernel
theorem dX8_signed_57 : decode cX8_signed 57 = .ok (.dup, 1) := by decide +kernel
theorem dX8_signed_58 : decode cX8_signed 58 = .ok (.aload_n 0, 1) := by decide +kernel
theorem dX8_signed_59 : decode cX8_signed 59 = .ok (.getfield 7, 3) := by decide +kernel
theorem dX8_signed_62 : decode cX8_signed 62 = .ok (.aload_n 0, 1) := by decide +kernel
theorem dX8_signed_63 : decode cX8_signed 63 = .ok (.getfield 17, 3) := by decide +kernel
theorem dX8_signed_66 : decode cX8_signed 66 = .ok (.invokevirtual 57, 3) := by decide +kernel
theorem dX8_signed_69 : decode cX8_signed 69 = .ok (.invokestatic 260, 3) := by decide +kernel
theorem dX8_signed_72 : decode cX8_signed 72 = .ok (.aload_n 0, 1) := by decide +kernel
theorem dX8_signed_73 : decode cX8_signed 73 = .ok (.getfield 17, 3) := by decide +kernel
theorem dX8_signed_76 : decode cX8_signed 76 = .ok (.aload_n 2, 1) := by decide +kernel
theorem dX8_signed_77 : decode cX8_signed 77 = .ok (.getfield 248, 3) := by decide +kernel
theorem dX8_signed_80 : decode cX8_signed 80 = .ok (.invokespecial 145, 3) := by decide +kernel
theorem dX8_signed_83 : decode cX8_signed 83 = .ok (.astore 6, 2) := by decide +kernel
theorem dX8_signed_85 : decode cX8_signed 85 = .ok (.aload_n 0, 1) := by decide +kernel
theorem dX8_signed_86 : decode cX8_signed 86 = .ok (.dup, 1) := by decide +kernel
theorem dX8_signed_87 : decode cX8_signed 87 = .ok (.getfield 17, 3) := by decide +kernel
theorem dX8_signed_90 : decode cX8_signed 90 = .ok (.iconst 1, 1) := by decide +kernel
theorem dX8_signed_91 : decode cX8_signed 91 = .ok (.iadd, 1) := by decide +kernel
theorem dX8_signed_92 : decode cX8_signed 92 = .ok (.putfield 17, 3) := by decide +kernel
theorem dX8_signed_95 : decode cX8_signed 95 = .ok (.aload 6, 2) := by decide +kernel
theorem dX8_signed_97 : decode cX8_signed 97 = .ok (.aload_n 2, 1) := by decide +kernel
theorem dX8_signed_98 : decode cX8_signed 98 = .ok (.putfield 165, 3) := by decide +kernel
theorem dX8_signed_101 : decode cX8_signed 101 = .ok (.aload 6, 2) := by decide +kernel
theorem dX8_signed_103 : decode cX8_signed 103 = .ok (.getfield 263, 3) := by decide +kernel
theorem dX8_signed_106 : decode cX8_signed 106 = .ok (.bipush 19, 2) := by decide +kernel
theorem dX8_signed_108 : decode cX8_signed 108 = .ok (.if_icmp .ne 12, 3) := by decide +kernel
theorem dX8_signed_120 : decode cX8_signed 120 = .ok (.aload 6, 2) := by decide +kernel
theorem dX8_signed_122 : decode cX8_signed 122 = .ok (.aload_n 0, 1) := by decide +kernel
theorem dX8_signed_123 : decode cX8_signed 123 = .ok (.iload_n 3, 1) := by decide +kernel
theorem dX8_signed_124 : decode cX8_signed 124 = .ok (.iconst 1, 1) := by decide +kernel
theorem dX8_signed_125 : decode cX8_signed 125 = .ok (.iadd, 1) := by decide +kernel
theorem dX8_signed_126 : decode cX8_signed 126 = .ok (.invokevirtual 245, 3) := by decide +kernel
theorem dX8_signed_129 : decode cX8_signed 129 = .ok (.putfield 230, 3) := by decide +kernel
theorem dX8_signed_132 : decode cX8_signed 132 = .ok (.aload 6, 2) := by decide +kernel
theorem dX8_signed_134 : decode cX8_signed 134 = .ok (.astore_n 2, 1) := by decide +kernel
theorem dX8_signed_135 : decode cX8_signed 135 = .ok (.iload_n 3, 1) := by decide +kernel
theorem dX8_signed_136 : decode cX8_signed 136 = .ok (.istore 4, 2) := by decide +kernel
theorem dX8_signed_138 : decode cX8_signed 138 = .ok (.aload_n 0, 1) := by decide +kernel
theorem dX8_signed_139 : decode cX8_signed 139 = .ok (.getfield 7, 3) := by decide +kernel
theorem dX8_signed_142 : decode cX8_signed 142 = .ok (.aload_n 0, 1) := by decide +kernel
theorem dX8_signed_143 : decode cX8_signed 143 = .ok (.getfield 17, 3) := by decide +kernel
theorem dX8_signed_146 : decode cX8_signed 146 = .ok (.invokevirtual 57, 3) := by decide +kernel
theorem dX8_signed_149 : decode cX8_signed 149 = .ok (.invokestatic 254, 3) := by decide +kernel
theorem dX8_signed_152 : decode cX8_signed 152 = .ok (.istore_n 3, 1) := by decide +kernel
theorem dX8_signed_153 : decode cX8_signed 153 = .ok (.iinc 5 1, 3) := by decide +kernel
theorem dX8_signed_156 : decode cX8_signed 156 = .ok (.goto (-129), 3) := by decide +kernel
theorem dX8_signed_111 : decode cX8_signed 111 = .ok (.aload_n 0, 1) := by decide +kernel
theorem dX8_signed_112 : decode cX8_signed 112 = .ok (.iconst 1, 1) := by decide +kernel
theorem dX8_signed_113 : decode cX8_signed 113 = .ok (.invokevirtual 132, 3) := by decide +kernel
theorem dX8_signed_116 : decode cX8_signed 116 = .ok (.pop, 1) := by decide +kernel
theorem dX8_signed_117 : decode cX8_signed 117 = .ok (.goto 15, 3) := by decide +kernel
theorem hS_X8_power : yX8_power.cls ≠ "java/lang/invoke/MethodHandle" ∧ yX8_power.cls ≠ "java/lang/invoke/VarHandle" ∧ (parseMethodDescriptor yX8_power.desc).map (fun d => d.parameters.length) = some 1 := by decide +kernel
theorem hS_X8_signNode : yX8_signNode.cls ≠ "java/lang/invoke/MethodHandle" ∧ yX8_signNode.cls ≠ "java/lang/invoke/VarHandle" ∧ (parseMethodDescriptor yX8_signNode.desc).map (fun d => d.parameters.length) = some 1 := by decide +kernel
theorem hV_X8_signed : yX8_signed.cls = RX8 ∧ yX8_signed.cls ≠ "java/lang/invoke/MethodHandle" ∧ yX8_signed.cls ≠ "java/lang/invoke/VarHandle" ∧ (parseMethodDescriptor yX8_signed.desc).map (fun d => d.parameters.length) = some 1 := by decide +kernel
set_option maxHeartbeats 40000000 in
set_option maxRecDepth 100000 in
theorem P_signed (l : Launch) (G : pT) (h0 : Nat) (a : Nat → Nat) (F : Nat → Int32) (R : Nat → Value) (Z : Int64) (B : Nat → Nat → Int32) (J : Nat → Nat → Int64) (K : PK) (w : va_W) (ls9 : Nat) (d9 : Nat) (n : Nat) (at9 : Nat) (sz : Nat) (dp : Nat) (sg : Nat) (O : Nat) (g : Nat → Nat → Nat) (hsz : sz ≤ 5000) (hat : at9 ≤ sz) (hdp : dp + n = 20) (hsg : sg ≤ 60) (hwn : WN K g) (how : ∀ o : Nat, O = o + 1 → K.1 o = 1 ∧ g 0 o = 0 ∧ ¬ K.2.1 0 o = 32) (hls : 1 ≤ ls9 ∧ ls9 + d9 = 11) (hpf : PPf l G n) (ihs : IhS l G n d9) (hO : OKP G h0 a (upd (upd (upd (upd F 2 (nI sz)) 9 (nI at9)) 10 (nI dp)) 11 (nI sg)) R Z B J K w) (hl0 : l.stackTraces = false) : PBn l G pX0 yX8_signed cX8_signed 7 (some (.object "JinjaTongue$Node")) ({ frames := (40 * n + 24 + d9), cells := (2 * (sz - at9) + 20), slots := (11 * (2 * (sz - at9) + 20)), locals := (1300 * n + 600 + 30 * d9) }) [.ref (a 3), .int (nI ls9)] w (fun (v : Option Value) (u : va_W × (Nat × PK × (Nat → Nat → Nat) × Nat × Nat × (Nat → Int32))) => v = some (.ref u.2.1) ∧ (NwR K u.2.2.1 g u.2.2.2.1 u.2.1 O at9 ((5 * (20 - dp) + 4 + (u.2.2.2.2.2.1 - sg)))) ∧ (at9 + 1 ≤ u.2.2.2.2.1 ∧ u.2.2.2.2.1 ≤ sz) ∧ (sg ≤ u.2.2.2.2.2.1 ∧ u.2.2.2.2.2.1 ≤ 60) ∧ (OKP G h0 a (upd (upd (upd (upd F 2 (nI sz)) 9 (nI u.2.2.2.2.1)) 10 (nI dp)) 11 (nI u.2.2.2.2.2.1)) R Z (updA B 10 u.2.2.2.2.2.2) J u.2.2.1 u.1)) (fun u => u.1) (fun (u : va_W × (Nat × PK × (Nat → Nat → Nat) × Nat × Nat × (Nat → Int32))) => (2 * (u.2.2.2.2.1 - at9) - 1)) (fun (u : va_W × (Nat × PK × (Nat → Nat → Nat) × Nat × Nat × (Nat → Int32))) => (11 * (2 * (u.2.2.2.2.1 - at9) - 1))) (fun (u : va_W × (Nat → Int32) × (Nat → Value) × (Nat → Nat → Int32)) => ThQ G h0 a (upd (upd (upd (upd F 2 (nI sz)) 9 (nI at9)) 10 (nI dp)) 11 (nI sg)) R Z B J u) (fun u => u.1) := by
  intro sz
  refine vx_ofW (cc := cX8_signed) (maxL := 7) (ret := (some (.object "JinjaTongue$Node"))) (by decide) rfl ?_
  intro p e s m args below meth c s₁ B9 hml hnt hv
  obtain ⟨rfl, hsz, hP, hD0, hE, hX⟩ := hv
  have hx := B9.exec
  have hb := B9.bytes
  have hr := B9.returns
  have hts := atoms_spec (ws := Cond.code yX8_signed cX8_signed 7 (some (.object "JinjaTongue$Node")) :: pw) B9.pre
  have hq : ∀ w ∈ pw, w.before _ s = true := fun w h => hts w (List.mem_cons_of_mem _ h)
  have hown : s.vm.findClass RX8 = some m.cls := findClass_of_methodNamed B9.named
  have hlocks := B9.notSynchronized
  subst hsz
  have hD := hD0.self (sz := s.heap.size)
  have hA : ∀ q : Nat, s.heap.size ≤ q → va_A w s.heap.size q := fun q h => Or.inr h
  generalize va_A w s.heap.size = A at hD hE hA ⊢
  have hS : va_S A s.heap s.heap [] := va_S.rf
  have hl := lv_entry ([.ref (a 3), .int (nI ls9)]) (n := 7) (Nat.le_of_ble_eq_true rfl)
  rw [lg_entry_eq]
  generalize (lg_sl ([.ref (a 3), .int (nI ls9)]) ++ List.replicate (7 - (lg_sl ([.ref (a 3), .int (nI ls9)])).length) Slot.unset).toArray = ls at hl ⊢
  have hl : lv_has ls 7 [(0, .ref (a 3)), (1, .int (nI ls9))] := hl
  refine lv_aload_n hx hb dX8_signed_0 rfl (lv_at hl 0 rfl) ?_
  have hO : OKP G h0 a (upd (upd (upd (upd (upd (upd (upd (upd F 2 (nI sz)) 9 (nI at9)) 10 (nI dp)) 11 (nI sg)) 2 (nI sz)) 9 (nI at9)) 10 (nI dp)) 11 (nI sg)) R Z B J K w := hO.to rfl
  obtain ⟨_, qr4, hqr5⟩ := hO.2.1 23 _ (sg_23 G h0 a _ _ _ _ _)
  refine pn_V0 (G := G) (As := []) (rest := []) hx hb hml hown hq hE hX pX0_al hP hD hS hA hl.1 (hpf h0 a (upd (upd (upd (upd F 2 (nI sz)) 9 (nI at9)) 10 (nI dp)) 11 (nI sg)) R Z B J K w at9 sz dp sg 0 g (by omega) (by omega) (by omega) (by omega) hwn (fun o9 h9 => absurd h9 (by omega)) hO hl0) (gV pw_976 pw_977 pw_978 pw_796 pw_972) hV_X8_prefixed qr4 5 hqr5 rfl rfl rfl (Nat.le_of_ble_eq_true rfl) dX8_signed_1 ⟨(by show 0 + (2 * (sz - at9) + 19) ≤ (2 * (sz - at9) + 20); omega), (by show 0 + (11 * (2 * (sz - at9) + 19)) ≤ (11 * (2 * (sz - at9) + 20)); omega)⟩ ⟨(by show (40 * n + 22) + 1 ≤ (40 * n + 24 + d9); omega), (by show 8 + (2 + 11) + (1300 * n + 560) ≤ (1300 * n + 600 + 30 * d9); omega)⟩ (fun v3 u1 H locs hw2 hP hD hS => ?_) (fun ux ce9 q9 H9 locs9 hux hP9 hD9 hS9 hce hcv hcl => pb_out ux (ThQ.up (Thx.same (Thx.same (Thx.same (Thx.same Thx.rfl rfl) rfl) rfl) rfl) RhX.rfl hux) hnt hlocks hce hcv hcl hP9 hD9 hS9 (by show 0 + (2 * (sz - at9) + 19) ≤ (2 * (sz - at9) + 20); omega) (by show 0 + (11 * (2 * (sz - at9) + 19)) ≤ (11 * (2 * (sz - at9) + 20)); omega))
  obtain ⟨w, r6, K7, g8, at10, sg11, f12⟩ := u1
  obtain ⟨hw2, h13, h14, h15, hO⟩ := hw2
  have h13 : NwR K K7 g g8 r6 0 at9 ((5 * (20 - dp) + 4 + (sg11 - sg))) := h13
  have h14 : at9 + 1 ≤ at10 ∧ at10 ≤ sz := h14
  have h15 : sg ≤ sg11 ∧ sg11 ≤ 60 := h15
  obtain rfl : v3 = some (.ref r6) := hw2
  have hO : OKP G h0 a (upd (upd (upd (upd F 2 (nI sz)) 9 (nI at10)) 10 (nI dp)) 11 (nI sg11)) R Z (updA B 10 f12) J K7 w := hO.to rfl
  refine W.widen (k := (2 * (at10 - at9) - 1)) (n := (11 * (2 * (at10 - at9) - 1))) (by show 0 + (2 * (at10 - at9) - 1) ≤ (2 * (at10 - at9) - 1); omega) (by show 0 + (11 * (2 * (at10 - at9) - 1)) ≤ (11 * (2 * (at10 - at9) - 1)); omega) ?_
  refine W.eq (g2 := F0 m 4 ls [.ref r6]) rfl ?_
  refine lv_astore_n (lv' := [(2, .ref r6), (0, .ref (a 3)), (1, .int (nI ls9))]) hx hb dX8_signed_4 rfl hl (by decide) rfl (fun ls hl => ?_)
  refine lv_aload_n hx hb dX8_signed_5 rfl (lv_at hl 1 rfl) ?_
  refine c_get (v := .ref (a 1)) (C := RX8) (Tc := TX8) (N := 5) (ci := 5) hx hb hq pin_wsX80 hown hE hP hO 23 (sg_23 G h0 a _ _ _ _ _) rfl 0 (by decide) (hq _ pw_774) (fun _ h9 => h9) rfl dX8_signed_6 ?_
  refine lv_aload_n hx hb dX8_signed_9 rfl (lv_at hl 1 rfl) ?_
  refine c_get (v := .int (nI at10)) (C := RX8) (Tc := TX8) (N := 5) (ci := 5) hx hb hq pin_wsX80 hown hE hP hO 23 (sg_23 G h0 a _ _ _ _ _) rfl 2 (by decide) (hq _ pw_776) (fun _ h9 => h9) rfl dX8_signed_10 ?_
  have hO : OKW G h0 a (upd (upd (upd (upd (upd F 2 (nI sz)) 9 (nI at10)) 10 (nI dp)) 11 (nI sg11)) 2 (nI sz)) R Z (updA B 10 f12) J K7.1 (fun q99 x99 => x99 = rep G a K7 q99) w := hO.to rfl
  obtain ⟨_, qr19, hqr20⟩ := hO.2.1 2 _ (sg_2 G h0 a _ _ _ _ _)
  refine pc_V0 (G := G) (As := [.int (nI at10)]) (rest := []) hx hb hml hown hq hE hX pX0_al hP hD hS hA hl.1 (K_kindAt l G h0 a (upd (upd (upd (upd F 2 (nI sz)) 9 (nI at10)) 10 (nI dp)) 11 (nI sg11)) R Z (updA B 10 f12) J K7.1 (fun q99 x99 => x99 = rep G a K7 q99) w (nI at10) sz (by omega) hO) (gV pw_777 pw_193 pw_194 pw_59 pw_126) hV_X10_kindAt qr19 7 hqr20 rfl rfl rfl (Nat.le_of_ble_eq_true rfl) dX8_signed_13 ⟨(by show (2 * (at10 - at9) - 1) + 0 ≤ (2 * (sz - at9) + 20); omega), (by show (11 * (2 * (at10 - at9) - 1)) + 0 ≤ (11 * (2 * (sz - at9) + 20)); omega)⟩ ⟨(by show 2 + 1 ≤ (40 * n + 24 + d9); omega), (by show 8 + (2 + 11) + 60 ≤ (1300 * n + 600 + 30 * d9); omega)⟩ (fun v18 u16 H locs hw17 hP hD hS => ?_)
  obtain ⟨w, r21⟩ := u16
  obtain ⟨hw17, h22, hO⟩ := hw17
  have h22 : r21 = 67 ∨ ∃ t : Nat, (nI at10) = nI t ∧ t < sz := h22
  obtain rfl : v18 = some (.int r21) := hw17
  have hO : OKP G h0 a (upd (upd (upd (upd F 2 (nI sz)) 9 (nI at10)) 10 (nI dp)) 11 (nI sg11)) R Z (updA B 10 f12) J K7 w := hO.to rfl
  refine W.widen (k := (2 * (at10 - at9) - 1)) (n := (11 * (2 * (at10 - at9) - 1))) (by show (2 * (at10 - at9) - 1) + 0 ≤ (2 * (at10 - at9) - 1); omega) (by show (11 * (2 * (at10 - at9) - 1)) + 0 ≤ (11 * (2 * (at10 - at9) - 1)); omega) ?_
  refine W.eq (g2 := F0 m 16 ls [.int r21]) rfl ?_
  have hO : OKW G h0 a (upd (upd (upd (upd F 2 (nI sz)) 9 (nI at10)) 10 (nI dp)) 11 (nI sg11)) R Z (updA B 10 f12) J K7.1 (fun q99 x99 => x99 = rep G a K7 q99) w := hO.to rfl
  refine pc_S0 (G := G) (As := [.int r21]) (rest := []) hx hb hml hown hq hE hX pX0_al hP hD hS hA hl.1 (P_power l G h0 a (upd (upd (upd (upd F 2 (nI sz)) 9 (nI at10)) 10 (nI dp)) 11 (nI sg11)) R Z (updA B 10 f12) J K7.1 (fun q99 x99 => x99 = rep G a K7 q99) w r21 hO) (gS pw_981 pw_982 pw_796 pw_908) hS_X8_power rfl (Nat.le_of_ble_eq_true rfl) dX8_signed_16 ⟨(by show (2 * (at10 - at9) - 1) + 0 ≤ (2 * (sz - at9) + 20); omega), (by show (11 * (2 * (at10 - at9) - 1)) + 0 ≤ (11 * (2 * (sz - at9) + 20)); omega)⟩ ⟨(by show 2 + 1 ≤ (40 * n + 24 + d9); omega), (by show 8 + (1 + 11) + 60 ≤ (1300 * n + 600 + 30 * d9); omega)⟩ (fun v25 u23 H locs hw24 hP hD hS => ?_)
  obtain ⟨w, r26⟩ := u23
  obtain ⟨hw24, h27, h28, hO⟩ := hw24
  have h27 : r26 ≤ 10 := h27
  have h28 : PwQ r21 r26 := h28
  obtain rfl : v25 = some (.int (nI r26)) := hw24
  have hO : OKP G h0 a (upd (upd (upd (upd F 2 (nI sz)) 9 (nI at10)) 10 (nI dp)) 11 (nI sg11)) R Z (updA B 10 f12) J K7 w := hO.to rfl
  refine W.widen (k := (2 * (at10 - at9) - 1)) (n := (11 * (2 * (at10 - at9) - 1))) (by show (2 * (at10 - at9) - 1) + 0 ≤ (2 * (at10 - at9) - 1); omega) (by show (11 * (2 * (at10 - at9) - 1)) + 0 ≤ (11 * (2 * (at10 - at9) - 1)); omega) ?_
  refine W.eq (g2 := F0 m 19 ls [.int (nI r26)]) rfl ?_
  have hpw29 := PwT.of h28 h22 (by omega) hsz
  refine lv_istore_n (lv' := [(3, .int (nI r26)), (2, .ref r6), (0, .ref (a 3)), (1, .int (nI ls9))]) hx hb dX8_signed_19 rfl hl (by decide) rfl (fun ls hl => ?_)
  refine lv_bipush (v := 10) hx hb dX8_signed_20 (by decide) ?_
  refine lv_istore (lv' := [(4, .int 10), (3, .int (nI r26)), (2, .ref r6), (0, .ref (a 3)), (1, .int (nI ls9))]) hx hb dX8_signed_22 hl (by decide) rfl (fun ls hl => ?_)
  refine lv_iconst (v := 0) hx hb dX8_signed_24 (by decide) ?_
  refine lv_istore (lv' := [(5, .int 0), (4, .int 10), (3, .int (nI r26)), (2, .ref r6), (0, .ref (a 3)), (1, .int (nI ls9))]) hx hb dX8_signed_25 hl (by decide) rfl (fun ls hl => ?_)
  have loop_i : ∀ (n_i : Nat) (i2 : Nat) (at2 : Nat) (sg2 : Nat) (f2 : Nat → Int32) (K2 : PK) (g2 : Nat → Nat → Nat) (x2 : Nat) (p2 : Nat) (m2 : Nat) (H : Heap) (locs : List Loc) (ls : Array Slot) (w : va_W), i2 ≤ sz → sz + 1 ≤ i2 + n_i → (at9 + 1 ≤ at2 ∧ at2 ≤ sz) → (sg ≤ sg2 ∧ sg2 ≤ 60) → (p2 ≤ 10 ∧ m2 ≤ 10) → (NwR K K2 g g2 x2 0 at9 (5 * (20 - dp) + 4 + (sg2 - sg))) → (PwT p2 at2 sz) → va_P G.1 pCl w H → va_D A w → va_S A s.heap H locs → OKP G h0 a (upd (upd (upd (upd F 2 (nI sz)) 9 (nI at2)) 10 (nI dp)) 11 (nI sg2)) R Z (updA B 10 f2) J K2 w → lv_has ls 7 [(5, .int (nI i2)), (4, .int (nI m2)), (3, .int (nI p2)), (2, .ref x2), (1, .int (nI ls9)), (0, .ref (a 3))] → W p l e (headSpec (Cond.code yX8_signed cX8_signed 7 (some (.object "JinjaTongue$Node")) :: pw) ({ frames := (40 * n + 24 + d9), cells := (2 * (sz - at9) + 20), slots := (11 * (2 * (sz - at9) + 20)), locals := (1300 * n + 600 + 30 * d9) } : Room)).room s m ([.ref (a 3), .int (nI ls9)] : List Value).toArray below meth c H locs (2 * (at2 - at9) - 1) (11 * (2 * (at2 - at9) - 1)) (vx_MQ below (pQn G A (fun (v : Option Value) (u : va_W × (Nat × PK × (Nat → Nat → Nat) × Nat × Nat × (Nat → Int32))) => v = some (.ref u.2.1) ∧ (NwR K u.2.2.1 g u.2.2.2.1 u.2.1 O at9 ((5 * (20 - dp) + 4 + (u.2.2.2.2.2.1 - sg)))) ∧ (at9 + 1 ≤ u.2.2.2.2.1 ∧ u.2.2.2.2.1 ≤ sz) ∧ (sg ≤ u.2.2.2.2.2.1 ∧ u.2.2.2.2.2.1 ≤ 60) ∧ (OKP G h0 a (upd (upd (upd (upd F 2 (nI sz)) 9 (nI u.2.2.2.2.1)) 10 (nI dp)) 11 (nI u.2.2.2.2.2.1)) R Z (updA B 10 u.2.2.2.2.2.2) J u.2.2.1 u.1)) (fun u => u.1) (fun (u : va_W × (Nat × PK × (Nat → Nat → Nat) × Nat × Nat × (Nat → Int32))) => (2 * (u.2.2.2.2.1 - at9) - 1)) (fun (u : va_W × (Nat × PK × (Nat → Nat → Nat) × Nat × Nat × (Nat → Int32))) => (11 * (2 * (u.2.2.2.2.1 - at9) - 1)))) (pXX G A (fun (u : va_W × (Nat → Int32) × (Nat → Value) × (Nat → Nat → Int32)) => ThQ G h0 a (upd (upd (upd (upd F 2 (nI sz)) 9 (nI at9)) 10 (nI dp)) 11 (nI sg)) R Z B J u) (fun u => u.1)) ([.ref (a 3), .int (nI ls9)] : List Value).toArray s ({ frames := (40 * n + 24 + d9), cells := (2 * (sz - at9) + 20), slots := (11 * (2 * (sz - at9) + 20)), locals := (1300 * n + 600 + 30 * d9) } : Room).cells ({ frames := (40 * n + 24 + d9), cells := (2 * (sz - at9) + 20), slots := (11 * (2 * (sz - at9) + 20)), locals := (1300 * n + 600 + 30 * d9) } : Room).slots A) (F0 m 27 ls []) := by
    intro n_i
    induction n_i with
    | zero => intro i2 at2 sg2 f2 K2 g2 x2 p2 m2 H locs ls w hk_i hn_i; omega
    | succ n_i ih_i =>
      intro i2 at2 sg2 f2 K2 g2 x2 p2 m2 H locs ls w hk_i hn_i hat2 hsg2 hp2 hnr hpw hP hD hS hO hl
      have hr2 := hnr.2.2.1
      have hr21 := hr2.2.1
      have hr22 := hr2.2.2.1
      have hr23 := hr2.2.2.2.1
      have hns2 := NwR.toS hnr
      refine lv_iload hx hb dX8_signed_27 (lv_at hl 0 rfl) ?_
      refine lv_aload_n hx hb dX8_signed_29 rfl (lv_at hl 5 rfl) ?_
      refine c_get (v := .ref (a 1)) (C := RX8) (Tc := TX8) (N := 5) (ci := 5) hx hb hq pin_wsX80 hown hE hP hO 23 (sg_23 G h0 a _ _ _ _ _) rfl 0 (by decide) (hq _ pw_774) (fun _ h9 => h9) rfl dX8_signed_30 ?_
      refine c_get (v := .int (nI sz)) (C := RX10) (Tc := TX10) (N := 15) (ci := 7) hx hb hq pin_wsX100 hown hE hP hO 2 (sg_2 G h0 a _ _ _ _ _) rfl 8 (by decide) (hq _ pw_792) (fun _ h9 => h9) rfl dX8_signed_33 ?_
      refine lv_icmp_ge (tgt := 159) hx hb dX8_signed_36 (by decide) (fun c30 => ?_) (fun c30 => ?_)
      · have n31 : sz ≤ i2 := (nI_leI (a := sz) (b := i2) (by omega) (by omega)).mp c30
        refine lv_aload_n hx hb dX8_signed_159 rfl (lv_at hl 3 rfl) ?_
        refine W_size (fun hz1 hz2 => ?_)
        refine vx_ret ?_
        have how9 := NwR.own (O2 := O) (k2 := at9) hnr (by omega) (by omega) how
        have hz32 : NwR K K2 g (gset g2 x2 (g2 0 x2) O at9) x2 O at9 ((5 * (20 - dp) + 4 + (sg2 - sg))) := how9
        have hz33 : at9 + 1 ≤ at2 ∧ at2 ≤ sz := (by omega)
        have hz34 : sg ≤ sg2 ∧ sg2 ≤ 60 := (by omega)
        have hO : OKP G h0 a (upd (upd (upd (upd F 2 (nI sz)) 9 (nI at2)) 10 (nI dp)) 11 (nI sg2)) R Z (updA B 10 f2) J K2 w := hO.to rfl
        refine W.widen (k := (2 * (sz - at9) + 20)) (n := (11 * (2 * (sz - at9) + 20))) (by omega) (by omega) ?_
        have hzz1 : H.size ≤ s.heap.size + ((2 * (at2 - at9) - 1)) := (by have z : (2 * (at2 - at9) - 1) ≤ (2 * (at2 - at9) - 1) := (by omega); omega)
        have hzz2 : hSl H ≤ hSl s.heap + ((11 * (2 * (at2 - at9) - 1))) := (by have z : (11 * (2 * (at2 - at9) - 1)) ≤ (11 * (2 * (at2 - at9) - 1)) := (by omega); omega)
        exact W.aret (v := .ref x2) hx hb hr (Or.inl ⟨_, rfl⟩) (Or.inr ⟨_, rfl⟩) (fun t99 ht99 hW99 => ⟨⟨_, (w, (x2, K2, (gset g2 x2 (g2 0 x2) O at9), at2, sg2, f2)), rfl, ⟨rfl, hz32, hz33, hz34, hO⟩, by rw [ht99]; exact hP, hD, by rw [ht99]; exact hzz1, by rw [ht99]; exact hzz2⟩, hS.F ht99⟩) hS.2.2 dX8_signed_160
      · have n35 : ¬ (sz ≤ i2) := fun h9 => c30 ((nI_leI (a := sz) (b := i2) (by omega) (by omega)).mpr h9)
        refine lv_iload_n hx hb dX8_signed_39 rfl (lv_at hl 2 rfl) ?_
        refine lv_iload_n hx hb dX8_signed_40 rfl (lv_at hl 4 rfl) ?_
        refine lv_icmp_lt (tgt := 159) hx hb dX8_signed_41 (by decide) (fun c36 => ?_) (fun c36 => ?_)
        · have n37 : p2 < ls9 := (nI_ltI (a := p2) (b := ls9) (by omega) (by omega)).mp c36
          refine lv_aload_n hx hb dX8_signed_159 rfl (lv_at hl 3 rfl) ?_
          refine W_size (fun hz1 hz2 => ?_)
          refine vx_ret ?_
          have how9 := NwR.own (O2 := O) (k2 := at9) hnr (by omega) (by omega) how
          have hz38 : NwR K K2 g (gset g2 x2 (g2 0 x2) O at9) x2 O at9 ((5 * (20 - dp) + 4 + (sg2 - sg))) := how9
          have hz39 : at9 + 1 ≤ at2 ∧ at2 ≤ sz := (by omega)
          have hz40 : sg ≤ sg2 ∧ sg2 ≤ 60 := (by omega)
          have hO : OKP G h0 a (upd (upd (upd (upd F 2 (nI sz)) 9 (nI at2)) 10 (nI dp)) 11 (nI sg2)) R Z (updA B 10 f2) J K2 w := hO.to rfl
          refine W.widen (k := (2 * (sz - at9) + 20)) (n := (11 * (2 * (sz - at9) + 20))) (by omega) (by omega) ?_
          have hzz1 : H.size ≤ s.heap.size + ((2 * (at2 - at9) - 1)) := (by have z : (2 * (at2 - at9) - 1) ≤ (2 * (at2 - at9) - 1) := (by omega); omega)
          have hzz2 : hSl H ≤ hSl s.heap + ((11 * (2 * (at2 - at9) - 1))) := (by have z : (11 * (2 * (at2 - at9) - 1)) ≤ (11 * (2 * (at2 - at9) - 1)) := (by omega); omega)
          exact W.aret (v := .ref x2) hx hb hr (Or.inl ⟨_, rfl⟩) (Or.inr ⟨_, rfl⟩) (fun t99 ht99 hW99 => ⟨⟨_, (w, (x2, K2, (gset g2 x2 (g2 0 x2) O at9), at2, sg2, f2)), rfl, ⟨rfl, hz38, hz39, hz40, hO⟩, by rw [ht99]; exact hP, hD, by rw [ht99]; exact hzz1, by rw [ht99]; exact hzz2⟩, hS.F ht99⟩) hS.2.2 dX8_signed_160
        · have n41 : ¬ (p2 < ls9) := fun h9 => c36 ((nI_ltI (a := p2) (b := ls9) (by omega) (by omega)).mpr h9)
          refine lv_iload_n hx hb dX8_signed_44 rfl (lv_at hl 2 rfl) ?_
          refine lv_iload hx hb dX8_signed_45 (lv_at hl 1 rfl) ?_
          refine lv_icmp_gt (tgt := 159) hx hb dX8_signed_47 (by decide) (fun c42 => ?_) (fun c42 => ?_)
          · have n43 : m2 < p2 := (nI_ltI (a := m2) (b := p2) (by omega) (by omega)).mp c42
            refine lv_aload_n hx hb dX8_signed_159 rfl (lv_at hl 3 rfl) ?_
            refine W_size (fun hz1 hz2 => ?_)
            refine vx_ret ?_
            have how9 := NwR.own (O2 := O) (k2 := at9) hnr (by omega) (by omega) how
            have hz44 : NwR K K2 g (gset g2 x2 (g2 0 x2) O at9) x2 O at9 ((5 * (20 - dp) + 4 + (sg2 - sg))) := how9
            have hz45 : at9 + 1 ≤ at2 ∧ at2 ≤ sz := (by omega)
            have hz46 : sg ≤ sg2 ∧ sg2 ≤ 60 := (by omega)
            have hO : OKP G h0 a (upd (upd (upd (upd F 2 (nI sz)) 9 (nI at2)) 10 (nI dp)) 11 (nI sg2)) R Z (updA B 10 f2) J K2 w := hO.to rfl
            refine W.widen (k := (2 * (sz - at9) + 20)) (n := (11 * (2 * (sz - at9) + 20))) (by omega) (by omega) ?_
            have hzz1 : H.size ≤ s.heap.size + ((2 * (at2 - at9) - 1)) := (by have z : (2 * (at2 - at9) - 1) ≤ (2 * (at2 - at9) - 1) := (by omega); omega)
            have hzz2 : hSl H ≤ hSl s.heap + ((11 * (2 * (at2 - at9) - 1))) := (by have z : (11 * (2 * (at2 - at9) - 1)) ≤ (11 * (2 * (at2 - at9) - 1)) := (by omega); omega)
            exact W.aret (v := .ref x2) hx hb hr (Or.inl ⟨_, rfl⟩) (Or.inr ⟨_, rfl⟩) (fun t99 ht99 hW99 => ⟨⟨_, (w, (x2, K2, (gset g2 x2 (g2 0 x2) O at9), at2, sg2, f2)), rfl, ⟨rfl, hz44, hz45, hz46, hO⟩, by rw [ht99]; exact hP, hD, by rw [ht99]; exact hzz1, by rw [ht99]; exact hzz2⟩, hS.F ht99⟩) hS.2.2 dX8_signed_160
          · have n47 : ¬ (m2 < p2) := fun h9 => c42 ((nI_ltI (a := m2) (b := p2) (by omega) (by omega)).mpr h9)
            have hlt9 := PwT.lt hpw (by omega)
            refine lv_aload_n hx hb dX8_signed_50 rfl (lv_at hl 5 rfl) ?_
            have hO : OKW G h0 a (upd (upd (upd (upd (upd (upd (upd (upd (upd F 2 (nI sz)) 9 (nI at9)) 10 (nI dp)) 11 (nI sg)) 9 (nI at2)) 11 (nI sg2)) 2 (nI sz)) 9 (nI at2)) 11 (nI sg2)) R Z (updA B 10 f2) J K2.1 (fun q99 x99 => x99 = rep G a K2 q99) w := hO.to rfl
            obtain ⟨_, qr51, hqr52⟩ := hO.2.1 23 _ (sg_23 G h0 a _ _ _ _ _)
            refine pn_V0 (G := G) (As := []) (rest := []) hx hb hml hown hq hE hX pX0_al hP hD hS hA hl.1 (P_countSign l G h0 a (upd (upd (upd (upd (upd (upd F 2 (nI sz)) 9 (nI at9)) 10 (nI dp)) 11 (nI sg)) 9 (nI at2)) 11 (nI sg2)) R Z (updA B 10 f2) J K2.1 (fun q99 x99 => x99 = rep G a K2 q99) w sg2 at2 sz (by omega) (by omega) (by omega) hO hl0) (gV pw_927 pw_928 pw_929 pw_796 pw_903) hV_X8_countSign qr51 5 hqr52 rfl rfl rfl (Nat.le_of_ble_eq_true rfl) dX8_signed_51 ⟨(by show (2 * (at2 - at9) - 1) + 1 ≤ (2 * (sz - at9) + 20); omega), (by show (11 * (2 * (at2 - at9) - 1)) + 6 ≤ (11 * (2 * (sz - at9) + 20)); omega)⟩ ⟨(by show 7 + 1 ≤ (40 * n + 24 + d9); omega), (by show 8 + (1 + 11) + 122 ≤ (1300 * n + 600 + 30 * d9); omega)⟩ (fun v50 u48 H locs hw49 hP hD hS => ?_) (fun ux ce9 q9 H9 locs9 hux hP9 hD9 hS9 hce hcv hcl => pb_out ux (ThQ.up (Thx.same (Thx.same (Thx.same (Thx.b (Thx.f (Thx.f Thx.rfl (by omega)) (by omega)) (by omega) (by decide)) rfl) rfl) rfl) RhX.rfl hux) hnt hlocks hce hcv hcl hP9 hD9 hS9 (by show (2 * (at2 - at9) - 1) + 1 ≤ (2 * (sz - at9) + 20); omega) (by show (11 * (2 * (at2 - at9) - 1)) + 6 ≤ (11 * (2 * (sz - at9) + 20)); omega))
            obtain ⟨w, _⟩ := u48
            obtain ⟨hw49, h53, hO⟩ := hw49
            have h53 : sg2 + 1 ≤ 60 := h53
            obtain rfl : v50 = none := hw49
            have hO : OKP G h0 a (upd (upd (upd (upd F 2 (nI sz)) 9 (nI at2)) 10 (nI dp)) 11 (nI (sg2 + 1))) R Z (updA B 10 f2) J K2 w := hO.to rfl
            refine W.widen (k := (2 * (at2 - at9) - 1)) (n := (11 * (2 * (at2 - at9) - 1))) (by show (2 * (at2 - at9) - 1) + 0 ≤ (2 * (at2 - at9) - 1); omega) (by show (11 * (2 * (at2 - at9) - 1)) + 0 ≤ (11 * (2 * (at2 - at9) - 1)); omega) ?_
            refine W.eq (g2 := F0 m 54 ls []) rfl ?_
            refine p_new (s9 := 1) (C := RX7) (T := TX7) (N := 11) (ci := 13) (fs := [.int 0, .int 0, .int 0, .int 0, .int 0, .int 0, .null, .null, .null, .null, .null]) hx hb hq pin_wsX70 tyX7 tyX7_ok hown (hq _ pw_870) (hq _ pw_871) (hq _ pw_872) hE hP hD hS hA hO rfl nw_X7 (by decide) (fun q => by rw [rep_1 (show (kN K2 q 1 0).1 q = 1 from if_pos rfl)]; unfold fsNode kN; simp only [if_true]; rfl) (by show (2 * (at2 - at9) - 1) + 1 ≤ (2 * (sz - at9) + 20); omega) (by show (11 * (2 * (at2 - at9) - 1)) + 11 ≤ (11 * (2 * (sz - at9) + 20)); omega) dX8_signed_54 (fun q54 H w hq55 hP hD hS hO => ?_)
            have hf56 : (kN K2 q54 1 0).1 x2 = 1 := (if_neg (fun z => by have z2 := hr21; rw [z, hq55] at z2; exact absurd z2 (by decide))).trans hr21
            have hf57 : (kN K2 q54 1 0).1 q54 = 1 := if_pos rfl
            refine W.widen (k := ((2 * (at2 - at9) - 1) + 1)) (n := ((11 * (2 * (at2 - at9) - 1)) + 11)) (by show (2 * (at2 - at9) - 1) + 1 ≤ ((2 * (at2 - at9) - 1) + 1); omega) (by show (11 * (2 * (at2 - at9) - 1)) + 11 ≤ ((11 * (2 * (at2 - at9) - 1)) + 11); omega) ?_
            refine lv_dup hx hb dX8_signed_57 rfl ?_
            refine lv_aload_n hx hb dX8_signed_58 rfl (lv_at hl 5 rfl) ?_
            refine c_get (v := .ref (a 1)) (C := RX8) (Tc := TX8) (N := 5) (ci := 5) hx hb hq pin_wsX80 hown hE hP hO 23 (sg_23 G h0 a _ _ _ _ _) rfl 0 (by decide) (hq _ pw_774) (fun _ h9 => h9) rfl dX8_signed_59 ?_
            refine lv_aload_n hx hb dX8_signed_62 rfl (lv_at hl 5 rfl) ?_
            refine c_get (v := .int (nI at2)) (C := RX8) (Tc := TX8) (N := 5) (ci := 5) hx hb hq pin_wsX80 hown hE hP hO 23 (sg_23 G h0 a _ _ _ _ _) rfl 2 (by decide) (hq _ pw_776) (fun _ h9 => h9) rfl dX8_signed_63 ?_
            have hO : OKW G h0 a (upd (upd (upd (upd (upd F 2 (nI sz)) 9 (nI at2)) 10 (nI dp)) 11 (nI (sg2 + 1))) 2 (nI sz)) R Z (updA B 10 f2) J ((kN K2 q54 1 0).1) (fun q99 x99 => x99 = rep G a (kN K2 q54 1 0) q99) w := hO.to rfl
            obtain ⟨_, qr61, hqr62⟩ := hO.2.1 2 _ (sg_2 G h0 a _ _ _ _ _)
            refine pc_V0 (G := G) (As := [.int (nI at2)]) (rest := [.ref q54, .ref q54]) hx hb hml hown hq hE hX pX0_al hP hD hS hA hl.1 (K_kindAt l G h0 a (upd (upd (upd (upd F 2 (nI sz)) 9 (nI at2)) 10 (nI dp)) 11 (nI (sg2 + 1))) R Z (updA B 10 f2) J ((kN K2 q54 1 0).1) (fun q99 x99 => x99 = rep G a (kN K2 q54 1 0) q99) w (nI at2) sz (by omega) hO) (gV pw_777 pw_193 pw_194 pw_59 pw_126) hV_X10_kindAt qr61 7 hqr62 rfl rfl rfl (Nat.le_of_ble_eq_true rfl) dX8_signed_66 ⟨(by show ((2 * (at2 - at9) - 1) + 1) + 0 ≤ (2 * (sz - at9) + 20); omega), (by show ((11 * (2 * (at2 - at9) - 1)) + 11) + 0 ≤ (11 * (2 * (sz - at9) + 20)); omega)⟩ ⟨(by show 2 + 1 ≤ (40 * n + 24 + d9); omega), (by show 8 + (2 + 11) + 60 ≤ (1300 * n + 600 + 30 * d9); omega)⟩ (fun v60 u58 H locs hw59 hP hD hS => ?_)
            obtain ⟨w, r63⟩ := u58
            obtain ⟨hw59, h64, hO⟩ := hw59
            have h64 : r63 = 67 ∨ ∃ t : Nat, (nI at2) = nI t ∧ t < sz := h64
            obtain rfl : v60 = some (.int r63) := hw59
            have hO : OKP G h0 a (upd (upd (upd (upd F 2 (nI sz)) 9 (nI at2)) 10 (nI dp)) 11 (nI (sg2 + 1))) R Z (updA B 10 f2) J (kN K2 q54 1 0) w := hO.to rfl
            refine W.widen (k := ((2 * (at2 - at9) - 1) + 1)) (n := ((11 * (2 * (at2 - at9) - 1)) + 11)) (by show ((2 * (at2 - at9) - 1) + 1) + 0 ≤ ((2 * (at2 - at9) - 1) + 1); omega) (by show ((11 * (2 * (at2 - at9) - 1)) + 11) + 0 ≤ ((11 * (2 * (at2 - at9) - 1)) + 11); omega) ?_
            refine W.eq (g2 := F0 m 69 ls [.int r63, .ref q54, .ref q54]) rfl ?_
            have hO : OKW G h0 a (upd (upd (upd (upd F 2 (nI sz)) 9 (nI at2)) 10 (nI dp)) 11 (nI (sg2 + 1))) R Z (updA B 10 f2) J ((kN K2 q54 1 0).1) (fun q99 x99 => x99 = rep G a (kN K2 q54 1 0) q99) w := hO.to rfl
            refine pc_S0 (G := G) (As := [.int r63]) (rest := [.ref q54, .ref q54]) hx hb hml hown hq hE hX pX0_al hP hD hS hA hl.1 (P_signNode l G h0 a (upd (upd (upd (upd F 2 (nI sz)) 9 (nI at2)) 10 (nI dp)) 11 (nI (sg2 + 1))) R Z (updA B 10 f2) J ((kN K2 q54 1 0).1) (fun q99 x99 => x99 = rep G a (kN K2 q54 1 0) q99) w r63 hO) (gS pw_983 pw_984 pw_796 pw_909) hS_X8_signNode rfl (Nat.le_of_ble_eq_true rfl) dX8_signed_69 ⟨(by show ((2 * (at2 - at9) - 1) + 1) + 0 ≤ (2 * (sz - at9) + 20); omega), (by show ((11 * (2 * (at2 - at9) - 1)) + 11) + 0 ≤ (11 * (2 * (sz - at9) + 20)); omega)⟩ ⟨(by show 2 + 1 ≤ (40 * n + 24 + d9); omega), (by show 8 + (1 + 11) + 60 ≤ (1300 * n + 600 + 30 * d9); omega)⟩ (fun v67 u65 H locs hw66 hP hD hS => ?_)
            obtain ⟨w, r68⟩ := u65
            obtain ⟨hw66, h69, hO⟩ := hw66
            have h69 : SgK r68 := h69
            obtain rfl : v67 = some (.int r68) := hw66
            have hO : OKP G h0 a (upd (upd (upd (upd F 2 (nI sz)) 9 (nI at2)) 10 (nI dp)) 11 (nI (sg2 + 1))) R Z (updA B 10 f2) J (kN K2 q54 1 0) w := hO.to rfl
            refine W.widen (k := ((2 * (at2 - at9) - 1) + 1)) (n := ((11 * (2 * (at2 - at9) - 1)) + 11)) (by show ((2 * (at2 - at9) - 1) + 1) + 0 ≤ ((2 * (at2 - at9) - 1) + 1); omega) (by show ((11 * (2 * (at2 - at9) - 1)) + 11) + 0 ≤ ((11 * (2 * (at2 - at9) - 1)) + 11); omega) ?_
            refine W.eq (g2 := F0 m 72 ls [.int r68, .ref q54, .ref q54]) rfl ?_
            refine lv_aload_n hx hb dX8_signed_72 rfl (lv_at hl 5 rfl) ?_
            refine c_get (v := .int (nI at2)) (C := RX8) (Tc := TX8) (N := 5) (ci := 5) hx hb hq pin_wsX80 hown hE hP hO 23 (sg_23 G h0 a _ _ _ _ _) rfl 2 (by decide) (hq _ pw_776) (fun _ h9 => h9) rfl dX8_signed_73 ?_
            refine lv_aload_n hx hb dX8_signed_76 rfl (lv_at hl 3 rfl) ?_
            refine p_get (v := .int ((kN K2 q54 1 0).2.1 2 x2)) (C := RX7) (Tc := TX7) (N := 11) (ci := 13) hx hb hq pin_wsX70 hown hE hP hO (by rw [hf56]; decide) (rep_1 hf56) rfl 2 (by decide) (hq _ pw_937) (fun _ h9 => h9) rfl dX8_signed_77 ?_
            have hO : OKP G h0 a (upd (upd (upd (upd F 2 (nI sz)) 9 (nI at2)) 10 (nI dp)) 11 (nI (sg2 + 1))) R Z (updA B 10 f2) J (kN K2 q54 1 0) w := hO.to rfl
            obtain ⟨qr73, hqr74⟩ := p_recv hO (by rw [hf57]; decide) (rep_1 hf57)
            refine pc_I0 (G := G) (As := [.int r68, .int (nI at2), .int ((kN K2 q54 1 0).2.1 2 x2)]) (rest := [.ref q54]) hx hb hml hown hq hE hX pX0_al hP hD hS hA hl.1 (N_init l G h0 a (upd (upd (upd (upd F 2 (nI sz)) 9 (nI at2)) 10 (nI dp)) 11 (nI (sg2 + 1))) R Z (updA B 10 f2) J (kN K2 q54 1 0) w q54 r68 (nI at2) ((kN K2 q54 1 0).2.1 2 x2) (by omega) hO) pw_874 pw_875 pw_872 pw_765 rfl hS_X7_init rfl (Nat.le_of_ble_eq_true rfl) dX8_signed_80 ⟨(by show ((2 * (at2 - at9) - 1) + 1) + 0 ≤ (2 * (sz - at9) + 20); omega), (by show ((11 * (2 * (at2 - at9) - 1)) + 11) + 0 ≤ (11 * (2 * (sz - at9) + 20)); omega)⟩ ⟨(by show 2 + 1 ≤ (40 * n + 24 + d9); omega), (by show 8 + (4 + 11) + 60 ≤ (1300 * n + 600 + 30 * d9); omega)⟩ (fun v72 u70 H locs hw71 hP hD hS => ?_)
            obtain ⟨w, _⟩ := u70
            obtain ⟨hw71, hO⟩ := hw71
            obtain rfl : v72 = none := hw71
            have hf75 : (kI (kI (kI (kN K2 q54 1 0) 0 q54 r68) 1 q54 (nI at2)) 2 q54 ((kN K2 q54 1 0).2.1 2 x2)).1 x2 = 1 := hf56
            have hf76 : (kI (kI (kI (kN K2 q54 1 0) 0 q54 r68) 1 q54 (nI at2)) 2 q54 ((kN K2 q54 1 0).2.1 2 x2)).1 q54 = 1 := hf57
            have hO : OKP G h0 a (upd (upd (upd (upd F 2 (nI sz)) 9 (nI at2)) 10 (nI dp)) 11 (nI (sg2 + 1))) R Z (updA B 10 f2) J (kI (kI (kI (kN K2 q54 1 0) 0 q54 r68) 1 q54 (nI at2)) 2 q54 ((kN K2 q54 1 0).2.1 2 x2)) w := hO.to rfl
            refine W.widen (k := ((2 * (at2 - at9) - 1) + 1)) (n := ((11 * (2 * (at2 - at9) - 1)) + 11)) (by show ((2 * (at2 - at9) - 1) + 1) + 0 ≤ ((2 * (at2 - at9) - 1) + 1); omega) (by show ((11 * (2 * (at2 - at9) - 1)) + 11) + 0 ≤ ((11 * (2 * (at2 - at9) - 1)) + 11); omega) ?_
            refine W.eq (g2 := F0 m 83 ls [.ref q54]) rfl ?_
            change OKP G h0 a (upd (upd (upd (upd F 2 (nI sz)) 9 (nI at2)) 10 (nI dp)) 11 (nI (sg2 + 1))) R Z (updA B 10 f2) J (mkN K2 q54 r68 (nI at2) ((kN K2 q54 1 0).2.1 2 x2)) w at hO
            obtain ⟨K77, hK78⟩ : ∃ z : PK, z = (mkN K2 q54 r68 (nI at2) ((kN K2 q54 1 0).2.1 2 x2)) := ⟨_, rfl⟩
            rw [← hK78] at hO
            have hf79 : K77.1 q54 = 1 := by rw [hK78]; exact mkN_T
            have hf80 : K77.2.1 0 q54 = r68 := by rw [hK78]; exact mkN_0
            have hf81 : K77.2.1 2 q54 = ((kN K2 q54 1 0).2.1 2 x2) := by rw [hK78]; exact mkN_2
            have hf82 : K77.2.2.1 0 q54 = none := by rw [hK78]; exact mkN_C
            have hf83 : K77.2.2.1 1 q54 = none := by rw [hK78]; exact mkN_C
            have hf84 : K77.2.2.1 2 q54 = none := by rw [hK78]; exact mkN_C
            have hf85 : K77.2.2.1 3 q54 = none := by rw [hK78]; exact mkN_C
            have hf86 : K77.2.2.1 4 q54 = none := by rw [hK78]; exact mkN_C
            have hf87 : K77.1 x2 = 1 := by rw [hK78]; exact ((mkN_ext hq55 x2 (by rw [hr21]; decide)).1).trans hr21
            have hns88 : NwS K K77 g (gset g2 q54 0 0 0) := by rw [hK78]; exact NwS.node hns2 hq55
            have hq89 : K.1 q54 = 0 := old_T hns2.2.1 hq55
            have hg90 : (gset g2 q54 0 0 0) 0 q54 = 0 := gset_0
            have hno91 : NoO K77 (gset g2 q54 0 0 0) q54 := by rw [hK78]; exact NoO.new hns2.1 hq55
            refine lv_astore (lv' := [(6, .ref q54), (5, .int (nI i2)), (4, .int (nI m2)), (3, .int (nI p2)), (2, .ref x2), (1, .int (nI ls9)), (0, .ref (a 3))]) hx hb dX8_signed_83 hl (by decide) rfl (fun ls hl => ?_)
            refine lv_aload_n hx hb dX8_signed_85 rfl (lv_at hl 6 rfl) ?_
            refine lv_dup hx hb dX8_signed_86 rfl ?_
            refine c_get (v := .int (nI at2)) (C := RX8) (Tc := TX8) (N := 5) (ci := 5) hx hb hq pin_wsX80 hown hE hP hO 23 (sg_23 G h0 a _ _ _ _ _) rfl 2 (by decide) (hq _ pw_776) (fun _ h9 => h9) rfl dX8_signed_87 ?_
            refine lv_iconst (v := 1) hx hb dX8_signed_90 (by decide) ?_
            refine lv_iadd hx hb dX8_signed_91 ?_
            refine lv_topi (fun x92 e93 => ?_)
            obtain rfl : x92 = nI (at2 + 1) := e93.trans (nI_add (at2) (1))
            refine c_put (v := .int (nI (at2 + 1))) (ty := .int) (C := RX8) (Tc := TX8) (N := 5) (ci := 5) hx hb hq pin_wsX80 tyX8 tyX8_ok nmX8 hown hE hP hD hS hO 23 (sg_23 G h0 a _ _ _ _ _) rfl 2 (by decide) (hq _ pw_776) (fun _ h9 => h9) rfl (by decide +kernel) rfl rfl (Nat.le_of_ble_eq_true rfl) (sf_9 G h0 a _ _ _ _ _ (nI (at2 + 1))) dX8_signed_92 (fun H locs w hP hD hS hO => ?_)
            refine lv_aload hx hb dX8_signed_95 (lv_at hl 0 rfl) ?_
            refine lv_aload_n hx hb dX8_signed_97 rfl (lv_at hl 4 rfl) ?_
            refine p_put (v := .ref x2) (ty := (.object "JinjaTongue$Node")) (C := RX7) (Tc := TX7) (N := 11) (ci := 13) (K' := (kC K77 0 q54 (some x2))) hx hb hq pin_wsX70 tyX7 tyX7_ok nmX7 hown hE hP hD hS hO (by rw [hf79]; decide) (rep_1 hf79) rfl 6 (by decide) (hq _ pw_938) (fun _ h9 => h9) rfl (by decide +kernel) rfl rfl (Nat.le_of_ble_eq_true rfl) rfl (by rw [rep_1 (show (kC K77 0 q54 (some x2)).1 q54 = 1 from hf79), pc_0] <;> rfl) (fun p9 hp9 => rep_kC hp9) dX8_signed_98 (fun H locs w hP hD hS hO => ?_)
            obtain ⟨K94, hK95⟩ : ∃ z : PK, z = (kC K77 0 q54 (some x2)) := ⟨_, rfl⟩
            rw [← hK95] at hO
            have hf96 : K94.1 q54 = 1 := (by rw [hK95]; exact hf79)
            have hf97 : K94.2.1 0 q54 = r68 := (by rw [hK95]; exact hf80)
            have hf98 : K94.2.1 2 q54 = ((kN K2 q54 1 0).2.1 2 x2) := (by rw [hK95]; exact hf81)
            have hf99 : K94.2.2.1 1 q54 = none := (by rw [hK95]; exact (kC_of (by decide)).trans hf83)
            have hf100 : K94.2.2.1 2 q54 = none := (by rw [hK95]; exact (kC_of (by decide)).trans hf84)
            have hf101 : K94.2.2.1 3 q54 = none := (by rw [hK95]; exact (kC_of (by decide)).trans hf85)
            have hf102 : K94.2.2.1 4 q54 = none := (by rw [hK95]; exact (kC_of (by decide)).trans hf86)
            have hf103 : K94.1 x2 = 1 := (by rw [hK95]; exact hf87)
            have hf104 : K94.2.2.1 0 q54 = some x2 := by rw [hK95]; exact kC_eq
            have hns105 : NwS K K94 g (gset g2 q54 0 0 0) := by rw [hK95]; exact NwS.put hns88 hq89 hg90
            have hno106 : NoO K94 (gset g2 q54 0 0 0) q54 := by rw [hK95]; exact hno91
            refine lv_aload hx hb dX8_signed_101 (lv_at hl 0 rfl) ?_
            refine p_get (v := .int r68) (C := RX7) (Tc := TX7) (N := 11) (ci := 13) hx hb hq pin_wsX70 hown hE hP hO (by rw [hf96]; decide) (rep_1 hf96) rfl 0 (by decide) (hq _ pw_980) (fun _ h9 => h9) (congrArg (fun z => some (Value.int z)) hf97) dX8_signed_103 ?_
            refine lv_bipush (v := 19) hx hb dX8_signed_106 (by decide) ?_
            refine lv_icmp_ne (tgt := 120) hx hb dX8_signed_108 (by decide) (fun c107 => ?_) (fun c107 => ?_)
            · refine lv_aload hx hb dX8_signed_120 (lv_at hl 0 rfl) ?_
              refine lv_aload_n hx hb dX8_signed_122 rfl (lv_at hl 6 rfl) ?_
              refine lv_iload_n hx hb dX8_signed_123 rfl (lv_at hl 3 rfl) ?_
              refine lv_iconst (v := 1) hx hb dX8_signed_124 (by decide) ?_
              refine lv_iadd hx hb dX8_signed_125 ?_
              refine lv_topi (fun x108 e109 => ?_)
              obtain rfl : x108 = nI (p2 + 1) := e109.trans (nI_add (p2) (1))
              have hO : OKP G h0 a (upd (upd (upd (upd (upd (upd (upd (upd (upd (upd F 2 (nI sz)) 9 (nI at9)) 10 (nI dp)) 11 (nI sg)) 9 (nI (at2 + 1))) 11 (nI (sg2 + 1))) 2 (nI sz)) 9 (nI (at2 + 1))) 10 (nI dp)) 11 (nI (sg2 + 1))) R Z (updA B 10 f2) J K94 w := hO.to rfl
              obtain ⟨_, qr113, hqr114⟩ := hO.2.1 23 _ (sg_23 G h0 a _ _ _ _ _)
              refine pn_V0 (G := G) (As := [.int (nI (p2 + 1))]) (rest := [.ref q54]) hx hb hml hown hq hE hX pX0_al hP hD hS hA hl.1 ((ihs (11 - (p2 + 1)) (by omega)) h0 a (upd (upd (upd (upd (upd (upd F 2 (nI sz)) 9 (nI at9)) 10 (nI dp)) 11 (nI sg)) 9 (nI (at2 + 1))) 11 (nI (sg2 + 1))) R Z (updA B 10 f2) J K94 w (p2 + 1) (at2 + 1) sz dp (sg2 + 1) 0 (gset g2 q54 0 0 0) (by omega) (by omega) (by omega) (by omega) hns105.1 (fun o9 h9 => absurd h9 (by omega)) (by omega) hO hl0) (gV pw_944 pw_945 pw_946 pw_796 pw_979) hV_X8_signed qr113 5 hqr114 rfl rfl rfl (Nat.le_of_ble_eq_true rfl) dX8_signed_126 ⟨(by show ((2 * (at2 - at9) - 1) + 1) + (2 * (sz - (at2 + 1)) + 20) ≤ (2 * (sz - at9) + 20); omega), (by show ((11 * (2 * (at2 - at9) - 1)) + 11) + (11 * (2 * (sz - (at2 + 1)) + 20)) ≤ (11 * (2 * (sz - at9) + 20)); omega)⟩ ⟨(by show (40 * n + 24 + (11 - (p2 + 1))) + 1 ≤ (40 * n + 24 + d9); omega), (by show 8 + (7 + 11) + (1300 * n + 600 + 30 * (11 - (p2 + 1))) ≤ (1300 * n + 600 + 30 * d9); omega)⟩ (fun v112 u110 H locs hw111 hP hD hS => ?_) (fun ux ce9 q9 H9 locs9 hux hP9 hD9 hS9 hce hcv hcl => pb_out ux (ThQ.up (Thx.same (Thx.same (Thx.same (Thx.same (Thx.b (Thx.f (Thx.f Thx.rfl (by omega)) (by omega)) (by omega) (by decide)) rfl) rfl) rfl) rfl) RhX.rfl hux) hnt hlocks hce hcv hcl hP9 hD9 hS9 (by show ((2 * (at2 - at9) - 1) + 1) + (2 * (sz - (at2 + 1)) + 20) ≤ (2 * (sz - at9) + 20); omega) (by show ((11 * (2 * (at2 - at9) - 1)) + 11) + (11 * (2 * (sz - (at2 + 1)) + 20)) ≤ (11 * (2 * (sz - at9) + 20)); omega))
              obtain ⟨w, r115, K116, g117, at118, sg119, f120⟩ := u110
              obtain ⟨hw111, h121, h122, h123, hO⟩ := hw111
              have h121 : NwR K94 K116 (gset g2 q54 0 0 0) g117 r115 0 (at2 + 1) ((5 * (20 - dp) + 4 + (sg119 - (sg2 + 1)))) := h121
              have h122 : (at2 + 1) + 1 ≤ at118 ∧ at118 ≤ sz := h122
              have h123 : (sg2 + 1) ≤ sg119 ∧ sg119 ≤ 60 := h123
              obtain rfl : v112 = some (.ref r115) := hw111
              have hf124 : K116.1 q54 = 1 := (((h121).2.1.1 q54 (by rw [hf96]; decide)).1).trans hf96
              have hf125 : K116.2.1 0 q54 = r68 := (((h121).2.1.1 q54 (by rw [hf96]; decide)).2.1 0).trans hf97
              have hf126 : K116.2.1 2 q54 = ((kN K2 q54 1 0).2.1 2 x2) := (((h121).2.1.1 q54 (by rw [hf96]; decide)).2.1 2).trans hf98
              have hf127 : K116.2.2.1 1 q54 = none := (((h121).2.1.1 q54 (by rw [hf96]; decide)).2.2.1 1).trans hf99
              have hf128 : K116.2.2.1 2 q54 = none := (((h121).2.1.1 q54 (by rw [hf96]; decide)).2.2.1 2).trans hf100
              have hf129 : K116.2.2.1 3 q54 = none := (((h121).2.1.1 q54 (by rw [hf96]; decide)).2.2.1 3).trans hf101
              have hf130 : K116.2.2.1 4 q54 = none := (((h121).2.1.1 q54 (by rw [hf96]; decide)).2.2.1 4).trans hf102
              have hf131 : K116.1 x2 = 1 := (((h121).2.1.1 x2 (by rw [hf103]; decide)).1).trans hf103
              have hf132 : K116.2.2.1 0 q54 = some x2 := (((h121).2.1.1 q54 (by rw [hf96]; decide)).2.2.1 0).trans hf104
              have hO : OKP G h0 a (upd (upd (upd (upd F 2 (nI sz)) 9 (nI at118)) 10 (nI dp)) 11 (nI sg119)) R Z (updA B 10 f120) J K116 w := hO.to rfl
              refine W.widen (k := (((2 * (at2 - at9) - 1) + 1) + (2 * (at118 - (at2 + 1)) - 1))) (n := (((11 * (2 * (at2 - at9) - 1)) + 11) + (11 * (2 * (at118 - (at2 + 1)) - 1)))) (by show ((2 * (at2 - at9) - 1) + 1) + (2 * (at118 - (at2 + 1)) - 1) ≤ (((2 * (at2 - at9) - 1) + 1) + (2 * (at118 - (at2 + 1)) - 1)); omega) (by show ((11 * (2 * (at2 - at9) - 1)) + 11) + (11 * (2 * (at118 - (at2 + 1)) - 1)) ≤ (((11 * (2 * (at2 - at9) - 1)) + 11) + (11 * (2 * (at118 - (at2 + 1)) - 1))); omega) ?_
              refine W.eq (g2 := F0 m 129 ls [.ref r115, .ref q54]) rfl ?_
              have hns133 : NwS K K116 g g117 := NwS.call hns105 h121 (fun o9 h9 => absurd h9 (by omega))
              have hf134 : K116.1 r115 = 1 := h121.2.2.1.2.1
              have hg135 : g117 0 q54 = 0 := (h121.2.1.2 q54 (by rw [hf96]; decide) 0).trans hg90
              have hno136 : NoO K116 g117 q54 := NoO.call hno106 h121 hf96 (by omega)
              refine p_put (v := .ref r115) (ty := (.object "JinjaTongue$Node")) (C := RX7) (Tc := TX7) (N := 11) (ci := 13) (K' := (kC K116 1 q54 (some r115))) hx hb hq pin_wsX70 tyX7 tyX7_ok nmX7 hown hE hP hD hS hO (by rw [hf124]; decide) (rep_1 hf124) rfl 7 (by decide) (hq _ pw_910) (fun _ h9 => h9) rfl (by decide +kernel) rfl rfl (Nat.le_of_ble_eq_true rfl) rfl (by rw [rep_1 (show (kC K116 1 q54 (some r115)).1 q54 = 1 from hf124), pc_1] <;> rfl) (fun p9 hp9 => rep_kC hp9) dX8_signed_129 (fun H locs w hP hD hS hO => ?_)
              obtain ⟨K137, hK138⟩ : ∃ z : PK, z = (kC K116 1 q54 (some r115)) := ⟨_, rfl⟩
              rw [← hK138] at hO
              have hf139 : K137.1 q54 = 1 := (by rw [hK138]; exact hf124)
              have hf140 : K137.2.1 0 q54 = r68 := (by rw [hK138]; exact hf125)
              have hf141 : K137.2.1 2 q54 = ((kN K2 q54 1 0).2.1 2 x2) := (by rw [hK138]; exact hf126)
              have hf142 : K137.2.2.1 2 q54 = none := (by rw [hK138]; exact (kC_of (by decide)).trans hf128)
              have hf143 : K137.2.2.1 3 q54 = none := (by rw [hK138]; exact (kC_of (by decide)).trans hf129)
              have hf144 : K137.2.2.1 4 q54 = none := (by rw [hK138]; exact (kC_of (by decide)).trans hf130)
              have hf145 : K137.1 x2 = 1 := (by rw [hK138]; exact hf131)
              have hf146 : K137.2.2.1 0 q54 = some x2 := (by rw [hK138]; exact (kC_of (by decide)).trans hf132)
              have hf147 : K137.1 r115 = 1 := (by rw [hK138]; exact hf134)
              have hf148 : K137.2.2.1 1 q54 = some r115 := by rw [hK138]; exact kC_eq
              have hns149 : NwS K K137 g g117 := by rw [hK138]; exact NwS.put hns133 hq89 hg135
              have hno150 : NoO K137 g117 q54 := by rw [hK138]; exact hno136
              refine lv_aload hx hb dX8_signed_132 (lv_at hl 0 rfl) ?_
              refine lv_astore_n (lv' := [(2, .ref q54), (6, .ref q54), (5, .int (nI i2)), (4, .int (nI m2)), (3, .int (nI p2)), (1, .int (nI ls9)), (0, .ref (a 3))]) hx hb dX8_signed_134 rfl hl (by decide) rfl (fun ls hl => ?_)
              refine lv_iload_n hx hb dX8_signed_135 rfl (lv_at hl 4 rfl) ?_
              refine lv_istore (lv' := [(4, .int (nI p2)), (2, .ref q54), (6, .ref q54), (5, .int (nI i2)), (3, .int (nI p2)), (1, .int (nI ls9)), (0, .ref (a 3))]) hx hb dX8_signed_136 hl (by decide) rfl (fun ls hl => ?_)
              refine lv_aload_n hx hb dX8_signed_138 rfl (lv_at hl 6 rfl) ?_
              refine c_get (v := .ref (a 1)) (C := RX8) (Tc := TX8) (N := 5) (ci := 5) hx hb hq pin_wsX80 hown hE hP hO 23 (sg_23 G h0 a _ _ _ _ _) rfl 0 (by decide) (hq _ pw_774) (fun _ h9 => h9) rfl dX8_signed_139 ?_
              refine lv_aload_n hx hb dX8_signed_142 rfl (lv_at hl 6 rfl) ?_
              refine c_get (v := .int (nI at118)) (C := RX8) (Tc := TX8) (N := 5) (ci := 5) hx hb hq pin_wsX80 hown hE hP hO 23 (sg_23 G h0 a _ _ _ _ _) rfl 2 (by decide) (hq _ pw_776) (fun _ h9 => h9) rfl dX8_signed_143 ?_
              have hO : OKW G h0 a (upd (upd (upd (upd (upd F 2 (nI sz)) 9 (nI at118)) 10 (nI dp)) 11 (nI sg119)) 2 (nI sz)) R Z (updA B 10 f120) J K137.1 (fun q99 x99 => x99 = rep G a K137 q99) w := hO.to rfl
              obtain ⟨_, qr154, hqr155⟩ := hO.2.1 2 _ (sg_2 G h0 a _ _ _ _ _)
              refine pc_V0 (G := G) (As := [.int (nI at118)]) (rest := []) hx hb hml hown hq hE hX pX0_al hP hD hS hA hl.1 (K_kindAt l G h0 a (upd (upd (upd (upd F 2 (nI sz)) 9 (nI at118)) 10 (nI dp)) 11 (nI sg119)) R Z (updA B 10 f120) J K137.1 (fun q99 x99 => x99 = rep G a K137 q99) w (nI at118) sz (by omega) hO) (gV pw_777 pw_193 pw_194 pw_59 pw_126) hV_X10_kindAt qr154 7 hqr155 rfl rfl rfl (Nat.le_of_ble_eq_true rfl) dX8_signed_146 ⟨(by show (((2 * (at2 - at9) - 1) + 1) + (2 * (at118 - (at2 + 1)) - 1)) + 0 ≤ (2 * (sz - at9) + 20); omega), (by show (((11 * (2 * (at2 - at9) - 1)) + 11) + (11 * (2 * (at118 - (at2 + 1)) - 1))) + 0 ≤ (11 * (2 * (sz - at9) + 20)); omega)⟩ ⟨(by show 2 + 1 ≤ (40 * n + 24 + d9); omega), (by show 8 + (2 + 11) + 60 ≤ (1300 * n + 600 + 30 * d9); omega)⟩ (fun v153 u151 H locs hw152 hP hD hS => ?_)
              obtain ⟨w, r156⟩ := u151
              obtain ⟨hw152, h157, hO⟩ := hw152
              have h157 : r156 = 67 ∨ ∃ t : Nat, (nI at118) = nI t ∧ t < sz := h157
              obtain rfl : v153 = some (.int r156) := hw152
              have hO : OKP G h0 a (upd (upd (upd (upd F 2 (nI sz)) 9 (nI at118)) 10 (nI dp)) 11 (nI sg119)) R Z (updA B 10 f120) J K137 w := hO.to rfl
              refine W.widen (k := (((2 * (at2 - at9) - 1) + 1) + (2 * (at118 - (at2 + 1)) - 1))) (n := (((11 * (2 * (at2 - at9) - 1)) + 11) + (11 * (2 * (at118 - (at2 + 1)) - 1)))) (by show (((2 * (at2 - at9) - 1) + 1) + (2 * (at118 - (at2 + 1)) - 1)) + 0 ≤ (((2 * (at2 - at9) - 1) + 1) + (2 * (at118 - (at2 + 1)) - 1)); omega) (by show (((11 * (2 * (at2 - at9) - 1)) + 11) + (11 * (2 * (at118 - (at2 + 1)) - 1))) + 0 ≤ (((11 * (2 * (at2 - at9) - 1)) + 11) + (11 * (2 * (at118 - (at2 + 1)) - 1))); omega) ?_
              refine W.eq (g2 := F0 m 149 ls [.int r156]) rfl ?_
              have hO : OKW G h0 a (upd (upd (upd (upd F 2 (nI sz)) 9 (nI at118)) 10 (nI dp)) 11 (nI sg119)) R Z (updA B 10 f120) J K137.1 (fun q99 x99 => x99 = rep G a K137 q99) w := hO.to rfl
              refine pc_S0 (G := G) (As := [.int r156]) (rest := []) hx hb hml hown hq hE hX pX0_al hP hD hS hA hl.1 (P_power l G h0 a (upd (upd (upd (upd F 2 (nI sz)) 9 (nI at118)) 10 (nI dp)) 11 (nI sg119)) R Z (updA B 10 f120) J K137.1 (fun q99 x99 => x99 = rep G a K137 q99) w r156 hO) (gS pw_981 pw_982 pw_796 pw_908) hS_X8_power rfl (Nat.le_of_ble_eq_true rfl) dX8_signed_149 ⟨(by show (((2 * (at2 - at9) - 1) + 1) + (2 * (at118 - (at2 + 1)) - 1)) + 0 ≤ (2 * (sz - at9) + 20); omega), (by show (((11 * (2 * (at2 - at9) - 1)) + 11) + (11 * (2 * (at118 - (at2 + 1)) - 1))) + 0 ≤ (11 * (2 * (sz - at9) + 20)); omega)⟩ ⟨(by show 2 + 1 ≤ (40 * n + 24 + d9); omega), (by show 8 + (1 + 11) + 60 ≤ (1300 * n + 600 + 30 * d9); omega)⟩ (fun v160 u158 H locs hw159 hP hD hS => ?_)
              obtain ⟨w, r161⟩ := u158
              obtain ⟨hw159, h162, h163, hO⟩ := hw159
              have h162 : r161 ≤ 10 := h162
              have h163 : PwQ r156 r161 := h163
              obtain rfl : v160 = some (.int (nI r161)) := hw159
              have hO : OKP G h0 a (upd (upd (upd (upd F 2 (nI sz)) 9 (nI at118)) 10 (nI dp)) 11 (nI sg119)) R Z (updA B 10 f120) J K137 w := hO.to rfl
              refine W.widen (k := (((2 * (at2 - at9) - 1) + 1) + (2 * (at118 - (at2 + 1)) - 1))) (n := (((11 * (2 * (at2 - at9) - 1)) + 11) + (11 * (2 * (at118 - (at2 + 1)) - 1)))) (by show (((2 * (at2 - at9) - 1) + 1) + (2 * (at118 - (at2 + 1)) - 1)) + 0 ≤ (((2 * (at2 - at9) - 1) + 1) + (2 * (at118 - (at2 + 1)) - 1)); omega) (by show (((11 * (2 * (at2 - at9) - 1)) + 11) + (11 * (2 * (at118 - (at2 + 1)) - 1))) + 0 ≤ (((11 * (2 * (at2 - at9) - 1)) + 11) + (11 * (2 * (at118 - (at2 + 1)) - 1))); omega) ?_
              refine W.eq (g2 := F0 m 152 ls [.int (nI r161)]) rfl ?_
              have hpw164 := PwT.of h163 h157 (by omega) hsz
              refine lv_istore_n (lv' := [(3, .int (nI r161)), (4, .int (nI p2)), (2, .ref q54), (6, .ref q54), (5, .int (nI i2)), (1, .int (nI ls9)), (0, .ref (a 3))]) hx hb dX8_signed_152 rfl hl (by decide) rfl (fun ls hl => ?_)
              refine lv_iinc (v := (nI (i2 + 1))) (lv' := [(5, .int (nI (i2 + 1))), (3, .int (nI r161)), (4, .int (nI p2)), (2, .ref q54), (6, .ref q54), (1, .int (nI ls9)), (0, .ref (a 3))]) hx hb dX8_signed_153 hl (k := 4) rfl (nI_1 i2) (by decide) rfl (fun ls hl => ?_)
              refine lv_goto (tgt := 27) hx hb dX8_signed_156 (by decide) ?_
              have hxq : ¬ x2 = q54 := fun z => by have z2 := hr21; rw [z, hq55] at z2; exact absurd z2 (by decide)
              have hg8 : g117 0 x2 = g2 0 x2 := (h121.2.1.2 x2 (by rw [hf103]; decide) 0).trans (gset_ne hxq)
              have hlr := h121.2.2.1
              have hlr1 := hlr.2.2.1
              have hlr2 := hlr.2.2.2.1
              have hk8 : r68 = 17 ∨ r68 = 18 := SgK.of h69 c107
              have hkid : ∀ f9 y9 : Nat, f9 ≤ 3 → K137.2.2.1 f9 q54 = some y9 → K137.1 y9 = 1 ∧ 1 ≤ g117 0 y9 ∧ g117 0 y9 < (5 * (20 - dp) + 4 + (sg119 - sg)) := by
                intro f9 y9 hf9 hy9
                rcases (show f9 = 0 ∨ f9 = 1 ∨ f9 = 2 ∨ f9 = 3 by omega) with rfl | rfl | rfl | rfl
                · rw [hf146] at hy9; cases hy9; exact ⟨hf145, (by omega), by omega⟩
                · rw [hf148] at hy9; cases hy9; exact ⟨hf147, hlr1, by omega⟩
                · rw [hf142] at hy9; cases hy9
                · rw [hf143] at hy9; cases hy9
              have hdn := NwS.done1 (q := q54) (L := (5 * (20 - dp) + 4 + (sg119 - sg))) (O := 0) (k := at9) hns149 hq89 hf139 hg135 (by omega) (by omega) (by rw [hf140]; rcases hk8 with e9 | e9 <;> rw [e9] <;> exact ⟨fun z => absurd z (by decide), fun _ => ⟨(by show ¬ K137.2.2.1 0 q54 = none; rw [hf146]; intro z; cases z), (by show ¬ K137.2.2.1 1 q54 = none; rw [hf148]; intro z; cases z)⟩, fun z => absurd z (by decide), fun z => absurd z (by decide), fun z => absurd z (by decide)⟩) (fun f9 z => by rw [hf140] at z; rcases hk8 with e9 | e9 <;> rw [e9] at z <;> rcases z with ⟨z, _⟩ | ⟨z | z | z, _⟩ <;> exact absurd z (by decide)) hkid hf144 hno150 (fun f9 x9 _ _ => Kch.no (by rw [hf140]; rcases hk8 with e9 | e9 <;> rw [e9] <;> decide)) (fun o9 h9 => absurd h9 (by omega))
              refine W.widen (k := (2 * (at118 - at9) - 1)) (n := (11 * (2 * (at118 - at9) - 1))) (by show (((2 * (at2 - at9) - 1) + 1) + (2 * (at118 - (at2 + 1)) - 1)) ≤ _; omega) (by show (((11 * (2 * (at2 - at9) - 1)) + 11) + (11 * (2 * (at118 - (at2 + 1)) - 1))) ≤ _; omega) ?_
              have hO : OKP G h0 a (upd (upd (upd (upd F 2 (nI sz)) 9 (nI at118)) 10 (nI dp)) 11 (nI sg119)) R Z (updA B 10 f120) J K137 w := hO.to rfl
              exact ih_i (i2 + 1) at118 sg119 f120 K137 (gset g117 q54 (5 * (20 - dp) + 4 + (sg119 - sg)) 0 at9) q54 r161 p2 _ _ _ _ (by omega) (by omega) (by omega) (by omega) (by omega) hdn hpw164 hP hD hS hO (lv_sub hl [0, 2, 1, 3, 5, 6] rfl)
            · refine lv_aload_n hx hb dX8_signed_111 rfl (lv_at hl 6 rfl) ?_
              refine lv_iconst (v := 1) hx hb dX8_signed_112 (by decide) ?_
              have hO : OKW G h0 a (upd (upd (upd (upd (upd (upd (upd (upd F 2 (nI sz)) 9 (nI at9)) 10 (nI dp)) 11 (nI sg)) 9 (nI (at2 + 1))) 11 (nI (sg2 + 1))) 2 (nI sz)) 9 (nI (at2 + 1))) R Z (updA B 10 f2) J K94.1 (fun q99 x99 => x99 = rep G a K94 q99) w := hO.to rfl
              obtain ⟨_, qr168, hqr169⟩ := hO.2.1 23 _ (sg_23 G h0 a _ _ _ _ _)
              refine pn_V0 (G := G) (As := [.int 1]) (rest := []) hx hb hml hown hq hE hX pX0_al hP hD hS hA hl.1 (P_takeType l G h0 a (upd (upd (upd (upd (upd (upd F 2 (nI sz)) 9 (nI at9)) 10 (nI dp)) 11 (nI sg)) 9 (nI (at2 + 1))) 11 (nI (sg2 + 1))) R Z (updA B 10 f2) J K94.1 (fun q99 x99 => x99 = rep G a K94 q99) w 1 (at2 + 1) sz (by omega) (by omega) hO hl0) (gV pw_825 pw_826 pw_827 pw_796 pw_821) hV_X8_takeType qr168 5 hqr169 rfl rfl rfl (Nat.le_of_ble_eq_true rfl) dX8_signed_113 ⟨(by show ((2 * (at2 - at9) - 1) + 1) + 1 ≤ (2 * (sz - at9) + 20); omega), (by show ((11 * (2 * (at2 - at9) - 1)) + 11) + 6 ≤ (11 * (2 * (sz - at9) + 20)); omega)⟩ ⟨(by show 7 + 1 ≤ (40 * n + 24 + d9); omega), (by show 8 + (4 + 11) + 122 ≤ (1300 * n + 600 + 30 * d9); omega)⟩ (fun v167 u165 H locs hw166 hP hD hS => ?_) (fun ux ce9 q9 H9 locs9 hux hP9 hD9 hS9 hce hcv hcl => pb_out ux (ThQ.up (Thx.same (Thx.same (Thx.b (Thx.f (Thx.f Thx.rfl (by omega)) (by omega)) (by omega) (by decide)) rfl) rfl) RhX.rfl hux) hnt hlocks hce hcv hcl hP9 hD9 hS9 (by show ((2 * (at2 - at9) - 1) + 1) + 1 ≤ (2 * (sz - at9) + 20); omega) (by show ((11 * (2 * (at2 - at9) - 1)) + 11) + 6 ≤ (11 * (2 * (sz - at9) + 20)); omega))
              obtain ⟨w, at170, f171⟩ := u165
              obtain ⟨hw166, h172, hO⟩ := hw166
              have h172 : (at2 + 1) + 1 ≤ at170 ∧ at170 ≤ sz := h172
              obtain rfl : v167 = some (.int (nI (at2 + 1))) := hw166
              have hO : OKP G h0 a (upd (upd (upd (upd F 2 (nI sz)) 9 (nI at170)) 10 (nI dp)) 11 (nI (sg2 + 1))) R Z (updA B 10 f171) J K94 w := hO.to rfl
              refine W.widen (k := ((2 * (at2 - at9) - 1) + 1)) (n := ((11 * (2 * (at2 - at9) - 1)) + 11)) (by show ((2 * (at2 - at9) - 1) + 1) + 0 ≤ ((2 * (at2 - at9) - 1) + 1); omega) (by show ((11 * (2 * (at2 - at9) - 1)) + 11) + 0 ≤ ((11 * (2 * (at2 - at9) - 1)) + 11); omega) ?_
              refine W.eq (g2 := F0 m 116 ls [.int (nI (at2 + 1))]) rfl ?_
              refine lv_pop hx hb dX8_signed_116 rfl ?_
              refine lv_goto (tgt := 132) hx hb dX8_signed_117 (by decide) ?_
              refine lv_aload hx hb dX8_signed_132 (lv_at hl 0 rfl) ?_
              refine lv_astore_n (lv' := [(2, .ref q54), (6, .ref q54), (5, .int (nI i2)), (4, .int (nI m2)), (3, .int (nI p2)), (1, .int (nI ls9)), (0, .ref (a 3))]) hx hb dX8_signed_134 rfl hl (by decide) rfl (fun ls hl => ?_)
              refine lv_iload_n hx hb dX8_signed_135 rfl (lv_at hl 4 rfl) ?_
              refine lv_istore (lv' := [(4, .int (nI p2)), (2, .ref q54), (6, .ref q54), (5, .int (nI i2)), (3, .int (nI p2)), (1, .int (nI ls9)), (0, .ref (a 3))]) hx hb dX8_signed_136 hl (by decide) rfl (fun ls hl => ?_)
              refine lv_aload_n hx hb dX8_signed_138 rfl (lv_at hl 6 rfl) ?_
              refine c_get (v := .ref (a 1)) (C := RX8) (Tc := TX8) (N := 5) (ci := 5) hx hb hq pin_wsX80 hown hE hP hO 23 (sg_23 G h0 a _ _ _ _ _) rfl 0 (by decide) (hq _ pw_774) (fun _ h9 => h9) rfl dX8_signed_139 ?_
              refine lv_aload_n hx hb dX8_signed_142 rfl (lv_at hl 6 rfl) ?_
              refine c_get (v := .int (nI at170)) (C := RX8) (Tc := TX8) (N := 5) (ci := 5) hx hb hq pin_wsX80 hown hE hP hO 23 (sg_23 G h0 a _ _ _ _ _) rfl 2 (by decide) (hq _ pw_776) (fun _ h9 => h9) rfl dX8_signed_143 ?_
              have hO : OKW G h0 a (upd (upd (upd (upd (upd F 2 (nI sz)) 9 (nI at170)) 10 (nI dp)) 11 (nI (sg2 + 1))) 2 (nI sz)) R Z (updA B 10 f171) J K94.1 (fun q99 x99 => x99 = rep G a K94 q99) w := hO.to rfl
              obtain ⟨_, qr176, hqr177⟩ := hO.2.1 2 _ (sg_2 G h0 a _ _ _ _ _)
              refine pc_V0 (G := G) (As := [.int (nI at170)]) (rest := []) hx hb hml hown hq hE hX pX0_al hP hD hS hA hl.1 (K_kindAt l G h0 a (upd (upd (upd (upd F 2 (nI sz)) 9 (nI at170)) 10 (nI dp)) 11 (nI (sg2 + 1))) R Z (updA B 10 f171) J K94.1 (fun q99 x99 => x99 = rep G a K94 q99) w (nI at170) sz (by omega) hO) (gV pw_777 pw_193 pw_194 pw_59 pw_126) hV_X10_kindAt qr176 7 hqr177 rfl rfl rfl (Nat.le_of_ble_eq_true rfl) dX8_signed_146 ⟨(by show ((2 * (at2 - at9) - 1) + 1) + 0 ≤ (2 * (sz - at9) + 20); omega), (by show ((11 * (2 * (at2 - at9) - 1)) + 11) + 0 ≤ (11 * (2 * (sz - at9) + 20)); omega)⟩ ⟨(by show 2 + 1 ≤ (40 * n + 24 + d9); omega), (by show 8 + (2 + 11) + 60 ≤ (1300 * n + 600 + 30 * d9); omega)⟩ (fun v175 u173 H locs hw174 hP hD hS => ?_)
              obtain ⟨w, r178⟩ := u173
              obtain ⟨hw174, h179, hO⟩ := hw174
              have h179 : r178 = 67 ∨ ∃ t : Nat, (nI at170) = nI t ∧ t < sz := h179
              obtain rfl : v175 = some (.int r178) := hw174
              have hO : OKP G h0 a (upd (upd (upd (upd F 2 (nI sz)) 9 (nI at170)) 10 (nI dp)) 11 (nI (sg2 + 1))) R Z (updA B 10 f171) J K94 w := hO.to rfl
              refine W.widen (k := ((2 * (at2 - at9) - 1) + 1)) (n := ((11 * (2 * (at2 - at9) - 1)) + 11)) (by show ((2 * (at2 - at9) - 1) + 1) + 0 ≤ ((2 * (at2 - at9) - 1) + 1); omega) (by show ((11 * (2 * (at2 - at9) - 1)) + 11) + 0 ≤ ((11 * (2 * (at2 - at9) - 1)) + 11); omega) ?_
              refine W.eq (g2 := F0 m 149 ls [.int r178]) rfl ?_
              have hO : OKW G h0 a (upd (upd (upd (upd F 2 (nI sz)) 9 (nI at170)) 10 (nI dp)) 11 (nI (sg2 + 1))) R Z (updA B 10 f171) J K94.1 (fun q99 x99 => x99 = rep G a K94 q99) w := hO.to rfl
              refine pc_S0 (G := G) (As := [.int r178]) (rest := []) hx hb hml hown hq hE hX pX0_al hP hD hS hA hl.1 (P_power l G h0 a (upd (upd (upd (upd F 2 (nI sz)) 9 (nI at170)) 10 (nI dp)) 11 (nI (sg2 + 1))) R Z (updA B 10 f171) J K94.1 (fun q99 x99 => x99 = rep G a K94 q99) w r178 hO) (gS pw_981 pw_982 pw_796 pw_908) hS_X8_power rfl (Nat.le_of_ble_eq_true rfl) dX8_signed_149 ⟨(by show ((2 * (at2 - at9) - 1) + 1) + 0 ≤ (2 * (sz - at9) + 20); omega), (by show ((11 * (2 * (at2 - at9) - 1)) + 11) + 0 ≤ (11 * (2 * (sz - at9) + 20)); omega)⟩ ⟨(by show 2 + 1 ≤ (40 * n + 24 + d9); omega), (by show 8 + (1 + 11) + 60 ≤ (1300 * n + 600 + 30 * d9); omega)⟩ (fun v182 u180 H locs hw181 hP hD hS => ?_)
              obtain ⟨w, r183⟩ := u180
              obtain ⟨hw181, h184, h185, hO⟩ := hw181
              have h184 : r183 ≤ 10 := h184
              have h185 : PwQ r178 r183 := h185
              obtain rfl : v182 = some (.int (nI r183)) := hw181
              have hO : OKP G h0 a (upd (upd (upd (upd F 2 (nI sz)) 9 (nI at170)) 10 (nI dp)) 11 (nI (sg2 + 1))) R Z (updA B 10 f171) J K94 w := hO.to rfl
              refine W.widen (k := ((2 * (at2 - at9) - 1) + 1)) (n := ((11 * (2 * (at2 - at9) - 1)) + 11)) (by show ((2 * (at2 - at9) - 1) + 1) + 0 ≤ ((2 * (at2 - at9) - 1) + 1); omega) (by show ((11 * (2 * (at2 - at9) - 1)) + 11) + 0 ≤ ((11 * (2 * (at2 - at9) - 1)) + 11); omega) ?_
              refine W.eq (g2 := F0 m 152 ls [.int (nI r183)]) rfl ?_
              have hpw186 := PwT.of h185 h179 (by omega) hsz
              refine lv_istore_n (lv' := [(3, .int (nI r183)), (4, .int (nI p2)), (2, .ref q54), (6, .ref q54), (5, .int (nI i2)), (1, .int (nI ls9)), (0, .ref (a 3))]) hx hb dX8_signed_152 rfl hl (by decide) rfl (fun ls hl => ?_)
              refine lv_iinc (v := (nI (i2 + 1))) (lv' := [(5, .int (nI (i2 + 1))), (3, .int (nI r183)), (4, .int (nI p2)), (2, .ref q54), (6, .ref q54), (1, .int (nI ls9)), (0, .ref (a 3))]) hx hb dX8_signed_153 hl (k := 4) rfl (nI_1 i2) (by decide) rfl (fun ls hl => ?_)
              refine lv_goto (tgt := 27) hx hb dX8_signed_156 (by decide) ?_
              have hxq : ¬ x2 = q54 := fun z => by have z2 := hr21; rw [z, hq55] at z2; exact absurd z2 (by decide)
              have hg8 : (gset g2 q54 0 0 0) 0 x2 = g2 0 x2 := gset_ne hxq
              have hkid : ∀ f9 y9 : Nat, f9 ≤ 3 → K94.2.2.1 f9 q54 = some y9 → K94.1 y9 = 1 ∧ 1 ≤ (gset g2 q54 0 0 0) 0 y9 ∧ (gset g2 q54 0 0 0) 0 y9 < (5 * (20 - dp) + 4 + ((sg2 + 1) - sg)) := by
                intro f9 y9 hf9 hy9
                rcases (show f9 = 0 ∨ f9 = 1 ∨ f9 = 2 ∨ f9 = 3 by omega) with rfl | rfl | rfl | rfl
                · rw [hf104] at hy9; cases hy9; exact ⟨hf103, (by omega), by omega⟩
                · rw [hf99] at hy9; cases hy9
                · rw [hf100] at hy9; cases hy9
                · rw [hf101] at hy9; cases hy9
              have hdn := NwS.done1 (q := q54) (L := (5 * (20 - dp) + 4 + ((sg2 + 1) - sg))) (O := 0) (k := at9) hns105 hq89 hf96 hg90 (by omega) (by omega) (by rw [hf97, c107]; exact ⟨fun _ => (by show ¬ K94.2.2.1 0 q54 = none; rw [hf104]; intro z; cases z), fun z => absurd z (by decide), fun z => absurd z (by decide), fun z => absurd z (by decide), fun z => absurd z (by decide)⟩) (fun f9 z => by rw [hf97, c107] at z; rcases z with ⟨z, _⟩ | ⟨z | z | z, _⟩ <;> exact absurd z (by decide)) hkid hf102 hno106 (fun f9 x9 _ _ => Kch.no (by rw [hf97, c107]; decide)) (fun o9 h9 => absurd h9 (by omega))
              refine W.widen (k := (2 * (at170 - at9) - 1)) (n := (11 * (2 * (at170 - at9) - 1))) (by show ((2 * (at2 - at9) - 1) + 1) ≤ _; omega) (by show ((11 * (2 * (at2 - at9) - 1)) + 11) ≤ _; omega) ?_
              have hO : OKP G h0 a (upd (upd (upd (upd F 2 (nI sz)) 9 (nI at170)) 10 (nI dp)) 11 (nI (sg2 + 1))) R Z (updA B 10 f171) J K94 w := hO.to rfl
              exact ih_i (i2 + 1) at170 (sg2 + 1) f171 K94 (gset (gset g2 q54 0 0 0) q54 (5 * (20 - dp) + 4 + ((sg2 + 1) - sg)) 0 at9) q54 r183 p2 _ _ _ _ (by omega) (by omega) (by omega) (by omega) (by omega) hdn hpw186 hP hD hS hO (lv_sub hl [0, 2, 1, 3, 5, 6] rfl)
  refine W.widen (k := (2 * (at10 - at9) - 1)) (n := (11 * (2 * (at10 - at9) - 1))) (by show (2 * (at10 - at9) - 1) ≤ _; omega) (by show (11 * (2 * (at10 - at9) - 1)) ≤ _; omega) ?_
  have hO : OKP G h0 a (upd (upd (upd (upd F 2 (nI sz)) 9 (nI at10)) 10 (nI dp)) 11 (nI sg11)) R Z (updA B 10 f12) J K7 w := hO.to rfl
  exact loop_i (sz + 1) 0 at10 sg11 f12 K7 g8 r6 r26 10 _ _ _ _ (by omega) (by omega) (by omega) (by omega) (by omega) h13 hpw29 hP hD hS hO (lv_sub hl [0, 1, 2, 3, 5, 4] rfl)
