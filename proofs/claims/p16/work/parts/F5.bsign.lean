def PSg (l : Launch) (G : pT) (n : Nat) (d9 : Nat) : Prop := ∀ (h0 : Nat) (a : Nat → Nat) (F : Nat → Int32) (R : Nat → Value) (Z : Int64) (B : Nat → Nat → Int32) (J : Nat → Nat → Int64) (K : PK) (w : va_W) (ls9 : Nat) (at9 : Nat) (sz : Nat) (dp : Nat) (sg : Nat) (O : Nat) (g : Nat → Nat → Nat), (sz ≤ 5000) → (at9 ≤ sz) → (dp + n = 20) → (sg ≤ 60) → (WN K g) → (∀ o : Nat, O = o + 1 → K.1 o = 1 ∧ g 0 o = 0 ∧ ¬ K.2.1 0 o = 32) → (1 ≤ ls9 ∧ ls9 + d9 = 11) → (OKP G h0 a (upd (upd (upd (upd F 2 (nI sz)) 9 (nI at9)) 10 (nI dp)) 11 (nI sg)) R Z B J K w) → (l.stackTraces = false) → PBn l G pX0 yX8_signed cX8_signed 7 (some (.object "JinjaTongue$Node")) ({ frames := (40 * n + 24 + d9), cells := (2 * (sz - at9) + 20), slots := (11 * (2 * (sz - at9) + 20)), locals := (1300 * n + 600 + 30 * d9) }) [.ref (a 3), .int (nI ls9)] w (fun (v : Option Value) (u : va_W × (Nat × PK × (Nat → Nat → Nat) × Nat × Nat × (Nat → Int32) × Nat)) => v = some (.ref u.2.1) ∧ (NwR K u.2.2.1 g u.2.2.2.1 u.2.1 O u.2.2.2.2.2.2.2 ((5 * (20 - dp) + 4 + (u.2.2.2.2.2.1 - sg)))) ∧ (at9 ≤ rS u.2.2.2.2.2.2.2 ∧ rS u.2.2.2.2.2.2.2 + 1 ≤ rE u.2.2.2.2.2.2.2 ∧ rE u.2.2.2.2.2.2.2 ≤ u.2.2.2.2.1 ∧ 1 ≤ rD u.2.2.2.2.2.2.2 ∧ rD u.2.2.2.2.2.2.2 ≤ 9 * (20 - dp) + (u.2.2.2.2.2.1 - sg) + 1) ∧ (at9 + 1 ≤ u.2.2.2.2.1 ∧ u.2.2.2.2.1 ≤ sz) ∧ (sg ≤ u.2.2.2.2.2.1 ∧ u.2.2.2.2.2.1 ≤ 60) ∧ (¬ tkN (B 7) sz 67 (nI at9) = 37) ∧ (NwT (B 7) sz (B 10) u.2.2.2.2.2.2.1 K u.2.2.1 at9 u.2.2.2.2.1) ∧ (OKP G h0 a (upd (upd (upd (upd F 2 (nI sz)) 9 (nI u.2.2.2.2.1)) 10 (nI dp)) 11 (nI u.2.2.2.2.2.1)) R Z (updA B 10 u.2.2.2.2.2.2.1) J u.2.2.1 u.1)) (fun u => u.1) (fun (u : va_W × (Nat × PK × (Nat → Nat → Nat) × Nat × Nat × (Nat → Int32) × Nat)) => (2 * (u.2.2.2.2.1 - at9) - 1)) (fun (u : va_W × (Nat × PK × (Nat → Nat → Nat) × Nat × Nat × (Nat → Int32) × Nat)) => (11 * (2 * (u.2.2.2.2.1 - at9) - 1))) (fun (u : va_W × (Nat → Int32) × (Nat → Value) × (Nat → Nat → Int32)) => ThQ G h0 a (upd (upd (upd (upd F 2 (nI sz)) 9 (nI at9)) 10 (nI dp)) 11 (nI sg)) R Z B J u) (fun u => u.1)
def IhS (l : Launch) (G : pT) (n d9 : Nat) : Prop := ∀ d : Nat, d < d9 → PSg l G n d
theorem PwT.of {x : Int32} {r at9 sz : Nat} (h : PwQ x r) (hr : x = 67 ∨ ∃ t : Nat, nI at9 = nI t ∧ t < sz) (h1 : at9 ≤ 6000) (h2 : sz ≤ 5000) : PwT r at9 sz := by
  rcases h with h | h
  · exact Or.inl h
  · exact Or.inr (tok_in hr rfl h h1 h2)
theorem PwT.lt {r at9 sz : Nat} (h : PwT r at9 sz) (hr : 1 ≤ r) : at9 < sz := by
  rcases h with h | h
  · omega
  · exact h
theorem SgK.of {r : Int32} (h : SgK r) (hn : ¬ r = 19) : r = 17 ∨ r = 18 := by
  rcases h with h | h | h
  · exact Or.inl h
  · exact Or.inr h
  · exact absurd h hn
theorem PwR.sg {x : Int32} {r : Nat} (h : PwR x r) (hr : 1 ≤ r) (n : NsS x) : SgN x := by
  rcases h with h | h
  · omega
  · exact h.sg n
theorem TkP.sig {kd ro : Nat → Int32} {sz a : Nat} {k t f : Int32} (h : SgK k) (h17 : k = 17 → SgN (tkN kd sz 67 t)) : TkP kd sz ro a k t f := by
  refine ⟨fun e => ?_, h17, fun e => ?_, fun e => ?_, fun e => ?_⟩ <;> (rcases h with h | h | h <;> rw [h] at e <;> exact absurd e (by decide))
theorem dX8_signed_0 : decode cX8_signed 0 = .ok (.aload_n 0, 1) := by decide +kernel
theorem dX8_signed_1 : decode cX8_signed 1 = .ok (.invokevirtual 251, 3) := by decide +kernel
theorem dX8_signed_4 : decode cX8_signed 4 = .ok (.astore_n 2, 1) := by decide +kernel
theorem dX8_signed_5 : decode cX8_signed 5 = .ok (.aload_n 0, 1) := by decide +kernel
theorem dX8_signed_6 : decode cX8_signed 6 = .ok (.getfield 7, 3) := by decide +kernel
theorem dX8_signed_9 : decode cX8_signed 9 = .ok (.aload_n 0, 1) := by decide +kernel
theorem dX8_signed_10 : decode cX8_signed 10 = .ok (.getfield 17, 3) := by decide +kernel
theorem dX8_signed_13 : decode cX8_signed 13 = .ok (.invokevirtual 57, 3) := by decide +kernel
theorem dX8_signed_16 : decode cX8_signed 16 = .ok (.invokestatic 254, 3) := by decide +kernel
theorem dX8_signed_19 : decode cX8_signed 19 = .ok (.istore_n 3, 1) := by decide +kernel
theorem dX8_signed_20 : decode cX8_signed 20 = .ok (.bipush 10, 2) := by decide +kernel
theorem dX8_signed_22 : decode cX8_signed 22 = .ok (.istore 4, 2) := by decide +kernel
theorem dX8_signed_24 : decode cX8_signed 24 = .ok (.iconst 0, 1) := by decide +kernel
theorem dX8_signed_25 : decode cX8_signed 25 = .ok (.istore 5, 2) := by decide +kernel
theorem dX8_signed_27 : decode cX8_signed 27 = .ok (.iload 5, 2) := by decide +kernel
theorem dX8_signed_29 : decode cX8_signed 29 = .ok (.aload_n 0, 1) := by decide +kernel
theorem dX8_signed_30 : decode cX8_signed 30 = .ok (.getfield 7, 3) := by decide +kernel
theorem dX8_signed_33 : decode cX8_signed 33 = .ok (.getfield 27, 3) := by decide +kernel
theorem dX8_signed_36 : decode cX8_signed 36 = .ok (.if_icmp .ge 123, 3) := by decide +kernel
theorem dX8_signed_159 : decode cX8_signed 159 = .ok (.aload_n 2, 1) := by decide +kernel
theorem dX8_signed_160 : decode cX8_signed 160 = .ok (.areturn, 1) := by decide +kernel
theorem dX8_signed_39 : decode cX8_signed 39 = .ok (.iload_n 3, 1) := by decide +kernel
theorem dX8_signed_40 : decode cX8_signed 40 = .ok (.iload_n 1, 1) := by decide +kernel
theorem dX8_signed_41 : decode cX8_signed 41 = .ok (.if_icmp .lt 118, 3) := by decide +kernel
theorem dX8_signed_44 : decode cX8_signed 44 = .ok (.iload_n 3, 1) := by decide +kernel
theorem dX8_signed_45 : decode cX8_signed 45 = .ok (.iload 4, 2) := by decide +kernel
theorem dX8_signed_47 : decode cX8_signed 47 = .ok (.if_icmp .gt 112, 3) := by decide +kernel
theorem dX8_signed_50 : decode cX8_signed 50 = .ok (.aload_n 0, 1) := by decide +kernel
theorem dX8_signed_51 : decode cX8_signed 51 = .ok (.invokevirtual 257, 3) := by decide +kernel
theorem dX8_signed_54 : decode cX8_signed 54 = .ok (.new 143, 3) := by decide +kernel
theorem dX8_signed_57 : decode cX8_signed 57 = .ok (.dup, 1) := by decide +kernel
theorem dX8_signed_58 : decode cX8_signed 58 = .ok (.aload_n 0, 1) := by decide +kernel
theorem dX8_signed_59 : decode cX8_signed 59 = .ok (.getfield 7, 3) := by decide +kernel
theorem dX8_signed_62 : decode cX8_signed 62 = .ok (.aload_n 0, 1) := by decide +kernel
theorem dX8_signed_63 : decode cX8_signed 63 = .ok (.getfield 17, 3) := by decide +kernel
theorem dX8_signed_66 : decode cX8_signed 66 = .ok (.invokevirtual 57, 3) := by decide +kernel
theorem dX8_signed_69 : decode cX8_signed 69 = .ok (.invokestatic 260, 3) := by decide +kernel
theorem dX8_signed_72 : decode cX8_signed 72 = .ok (.aload_n 0, 1) := by decide +kernel
theorem dX8_signed_73 : decode cX8_signed 73 = .ok (.getfield 17, 3) := by decide +kernel
theorem dX8_signed_76 : decode cX8_signed 76 = .ok (.aload_n 2, 1) := by decide +kernel
theorem dX8_signed_77 : decode cX8_signed 77 = .ok (.getfield 248, 3) := by decide +kernel
theorem dX8_signed_80 : decode cX8_signed 80 = .ok (.invokespecial 145, 3) := by decide +kernel
theorem dX8_signed_83 : decode cX8_signed 83 = .ok (.astore 6, 2) := by decide +kernel
theorem dX8_signed_85 : decode cX8_signed 85 = .ok (.aload_n 0, 1) := by decide +kernel
theorem dX8_signed_86 : decode cX8_signed 86 = .ok (.dup, 1) := by decide +kernel
theorem dX8_signed_87 : decode cX8_signed 87 = .ok (.getfield 17, 3) := by decide +kernel
theorem dX8_signed_90 : decode cX8_signed 90 = .ok (.iconst 1, 1) := by decide +kernel
theorem dX8_signed_91 : decode cX8_signed 91 = .ok (.iadd, 1) := by decide +kernel
theorem dX8_signed_92 : decode cX8_signed 92 = .ok (.putfield 17, 3) := by decide +kernel
theorem dX8_signed_95 : decode cX8_signed 95 = .ok (.aload 6, 2) := by decide +kernel
theorem dX8_signed_97 : decode cX8_signed 97 = .ok (.aload_n 2, 1) := by decide +kernel
theorem dX8_signed_98 : decode cX8_signed 98 = .ok (.putfield 165, 3) := by decide +kernel
theorem dX8_signed_101 : decode cX8_signed 101 = .ok (.aload 6, 2) := by decide +kernel
theorem dX8_signed_103 : decode cX8_signed 103 = .ok (.getfield 263, 3) := by decide +kernel
theorem dX8_signed_106 : decode cX8_signed 106 = .ok (.bipush 19, 2) := by decide +kernel
theorem dX8_signed_108 : decode cX8_signed 108 = .ok (.if_icmp .ne 12, 3) := by decide +kernel
theorem dX8_signed_120 : decode cX8_signed 120 = .ok (.aload 6, 2) := by decide +kernel
theorem dX8_signed_122 : decode cX8_signed 122 = .ok (.aload_n 0, 1) := by decide +kernel
theorem dX8_signed_123 : decode cX8_signed 123 = .ok (.iload_n 3, 1) := by decide +kernel
theorem dX8_signed_124 : decode cX8_signed 124 = .ok (.iconst 1, 1) := by decide +kernel
theorem dX8_signed_125 : decode cX8_signed 125 = .ok (.iadd, 1) := by decide +kernel
theorem dX8_signed_126 : decode cX8_signed 126 = .ok (.invokevirtual 245, 3) := by decide +kernel
theorem dX8_signed_129 : decode cX8_signed 129 = .ok (.putfield 230, 3) := by decide +kernel
theorem dX8_signed_132 : decode cX8_signed 132 = .ok (.aload 6, 2) := by decide +kernel
theorem dX8_signed_134 : decode cX8_signed 134 = .ok (.astore_n 2, 1) := by decide +kernel
theorem dX8_signed_135 : decode cX8_signed 135 = .ok (.iload_n 3, 1) := by decide +kernel
theorem dX8_signed_136 : decode cX8_signed 136 = .ok (.istore 4, 2) := by decide +kernel
theorem dX8_signed_138 : decode cX8_signed 138 = .ok (.aload_n 0, 1) := by decide +kernel
theorem dX8_signed_139 : decode cX8_signed 139 = .ok (.getfield 7, 3) := by decide +kernel
theorem dX8_signed_142 : decode cX8_signed 142 = .ok (.aload_n 0, 1) := by decide +kernel
theorem dX8_signed_143 : decode cX8_signed 143 = .ok (.getfield 17, 3) := by decide +kernel
theorem dX8_signed_146 : decode cX8_signed 146 = .ok (.invokevirtual 57, 3) := by decide +kernel
theorem dX8_signed_149 : decode cX8_signed 149 = .ok (.invokestatic 254, 3) := by decide +kernel
theorem dX8_signed_152 : decode cX8_signed 152 = .ok (.istore_n 3, 1) := by decide +kernel
theorem dX8_signed_153 : decode cX8_signed 153 = .ok (.iinc 5 1, 3) := by decide +kernel
theorem dX8_signed_156 : decode cX8_signed 156 = .ok (.goto (-129), 3) := by decide +kernel
theorem dX8_signed_111 : decode cX8_signed 111 = .ok (.aload_n 0, 1) := by decide +kernel
theorem dX8_signed_112 : decode cX8_signed 112 = .ok (.iconst 1, 1) := by decide +kernel
theorem dX8_signed_113 : decode cX8_signed 113 = .ok (.invokevirtual 132, 3) := by decide +kernel
theorem dX8_signed_116 : decode cX8_signed 116 = .ok (.pop, 1) := by decide +kernel
theorem dX8_signed_117 : decode cX8_signed 117 = .ok (.goto 15, 3) := by decide +kernel
theorem hS_X8_power : yX8_power.cls ≠ "java/lang/invoke/MethodHandle" ∧ yX8_power.cls ≠ "java/lang/invoke/VarHandle" ∧ (parseMethodDescriptor yX8_power.desc).map (fun d => d.parameters.length) = some 1 := by decide +kernel
theorem hS_X8_signNode : yX8_signNode.cls ≠ "java/lang/invoke/MethodHandle" ∧ yX8_signNode.cls ≠ "java/lang/invoke/VarHandle" ∧ (parseMethodDescriptor yX8_signNode.desc).map (fun d => d.parameters.length) = some 1 := by decide +kernel
theorem hV_X8_signed : yX8_signed.cls = RX8 ∧ yX8_signed.cls ≠ "java/lang/invoke/MethodHandle" ∧ yX8_signed.cls ≠ "java/lang/invoke/VarHandle" ∧ (parseMethodDescriptor yX8_signed.desc).map (fun d => d.parameters.length) = some 1 := by decide +kernel
set_option maxHeartbeats 40000000 in
set_option maxRecDepth 100000 in
theorem P_signed (l : Launch) (G : pT) (h0 : Nat) (a : Nat → Nat) (F : Nat → Int32) (R : Nat → Value) (Z : Int64) (B : Nat → Nat → Int32) (J : Nat → Nat → Int64) (K : PK) (w : va_W) (ls9 : Nat) (d9 : Nat) (n : Nat) (at9 : Nat) (sz : Nat) (dp : Nat) (sg : Nat) (O : Nat) (g : Nat → Nat → Nat) (hsz : sz ≤ 5000) (hat : at9 ≤ sz) (hdp : dp + n = 20) (hsg : sg ≤ 60) (hwn : WN K g) (how : ∀ o : Nat, O = o + 1 → K.1 o = 1 ∧ g 0 o = 0 ∧ ¬ K.2.1 0 o = 32) (hls : 1 ≤ ls9 ∧ ls9 + d9 = 11) (hpf : PPf l G n) (ihs : IhS l G n d9) (hO : OKP G h0 a (upd (upd (upd (upd F 2 (nI sz)) 9 (nI at9)) 10 (nI dp)) 11 (nI sg)) R Z B J K w) (hl0 : l.stackTraces = false) : PBn l G pX0 yX8_signed cX8_signed 7 (some (.object "JinjaTongue$Node")) ({ frames := (40 * n + 24 + d9), cells := (2 * (sz - at9) + 20), slots := (11 * (2 * (sz - at9) + 20)), locals := (1300 * n + 600 + 30 * d9) }) [.ref (a 3), .int (nI ls9)] w (fun (v : Option Value) (u : va_W × (Nat × PK × (Nat → Nat → Nat) × Nat × Nat × (Nat → Int32) × Nat)) => v = some (.ref u.2.1) ∧ (NwR K u.2.2.1 g u.2.2.2.1 u.2.1 O u.2.2.2.2.2.2.2 ((5 * (20 - dp) + 4 + (u.2.2.2.2.2.1 - sg)))) ∧ (at9 ≤ rS u.2.2.2.2.2.2.2 ∧ rS u.2.2.2.2.2.2.2 + 1 ≤ rE u.2.2.2.2.2.2.2 ∧ rE u.2.2.2.2.2.2.2 ≤ u.2.2.2.2.1 ∧ 1 ≤ rD u.2.2.2.2.2.2.2 ∧ rD u.2.2.2.2.2.2.2 ≤ 9 * (20 - dp) + (u.2.2.2.2.2.1 - sg) + 1) ∧ (at9 + 1 ≤ u.2.2.2.2.1 ∧ u.2.2.2.2.1 ≤ sz) ∧ (sg ≤ u.2.2.2.2.2.1 ∧ u.2.2.2.2.2.1 ≤ 60) ∧ (¬ tkN (B 7) sz 67 (nI at9) = 37) ∧ (NwT (B 7) sz (B 10) u.2.2.2.2.2.2.1 K u.2.2.1 at9 u.2.2.2.2.1) ∧ (OKP G h0 a (upd (upd (upd (upd F 2 (nI sz)) 9 (nI u.2.2.2.2.1)) 10 (nI dp)) 11 (nI u.2.2.2.2.2.1)) R Z (updA B 10 u.2.2.2.2.2.2.1) J u.2.2.1 u.1)) (fun u => u.1) (fun (u : va_W × (Nat × PK × (Nat → Nat → Nat) × Nat × Nat × (Nat → Int32) × Nat)) => (2 * (u.2.2.2.2.1 - at9) - 1)) (fun (u : va_W × (Nat × PK × (Nat → Nat → Nat) × Nat × Nat × (Nat → Int32) × Nat)) => (11 * (2 * (u.2.2.2.2.1 - at9) - 1))) (fun (u : va_W × (Nat → Int32) × (Nat → Value) × (Nat → Nat → Int32)) => ThQ G h0 a (upd (upd (upd (upd F 2 (nI sz)) 9 (nI at9)) 10 (nI dp)) 11 (nI sg)) R Z B J u) (fun u => u.1) := by
  intro sz
  refine vx_ofW (cc := cX8_signed) (maxL := 7) (ret := (some (.object "JinjaTongue$Node"))) (by decide) rfl ?_
  intro p e s m args below meth c s₁ B9 hml hnt hv
  obtain ⟨rfl, hsz, hP, hD0, hE, hX⟩ := hv
  have hx := B9.exec
  have hb := B9.bytes
  have hr := B9.returns
  have hts := atoms_spec (ws := Cond.code yX8_signed cX8_signed 7 (some (.object "JinjaTongue$Node")) :: pw) B9.pre
  have hq : ∀ w ∈ pw, w.before _ s = true := fun w h => hts w (List.mem_cons_of_mem _ h)
  have hown : s.vm.findClass RX8 = some m.cls := findClass_of_methodNamed B9.named
  have hlocks := B9.notSynchronized
  subst hsz
  have hD := hD0.self (sz := s.heap.size)
  have hA : ∀ q : Nat, s.heap.size ≤ q → va_A w s.heap.size q := fun q h => Or.inr h
  generalize va_A w s.heap.size = A at hD hE hA ⊢
  have hS : va_S A s.heap s.heap [] := va_S.rf
  have hl := lv_entry ([.ref (a 3), .int (nI ls9)]) (n := 7) (Nat.le_of_ble_eq_true rfl)
  rw [lg_entry_eq]
  generalize (lg_sl ([.ref (a 3), .int (nI ls9)]) ++ List.replicate (7 - (lg_sl ([.ref (a 3), .int (nI ls9)])).length) Slot.unset).toArray = ls at hl ⊢
  have hl : lv_has ls 7 [(0, .ref (a 3)), (1, .int (nI ls9))] := hl
  have htk0 : NwT (B 7) sz (B 10) (B 10) K K at9 at9 := NwT.nil
  refine lv_aload_n hx hb dX8_signed_0 rfl (lv_at hl 0 rfl) ?_
  have hO : OKP G h0 a (upd (upd (upd (upd (upd (upd (upd (upd F 2 (nI sz)) 9 (nI at9)) 10 (nI dp)) 11 (nI sg)) 2 (nI sz)) 9 (nI at9)) 10 (nI dp)) 11 (nI sg)) R Z B J K w := hO.to rfl
  obtain ⟨_, qr4, hqr5⟩ := hO.2.1 23 _ (sg_23 G h0 a _ _ _ _ _)
  refine pn_V0 (G := G) (As := []) (rest := []) hx hb hml hown hq hE hX pX0_al hP hD hS hA hl.1 (hpf h0 a (upd (upd (upd (upd F 2 (nI sz)) 9 (nI at9)) 10 (nI dp)) 11 (nI sg)) R Z B J K w at9 sz dp sg 0 g (by omega) (by omega) (by omega) (by omega) hwn (fun o9 h9 => absurd h9 (by omega)) hO hl0) (gV pw_976 pw_977 pw_978 pw_796 pw_972) hV_X8_prefixed qr4 5 hqr5 rfl rfl rfl (Nat.le_of_ble_eq_true rfl) dX8_signed_1 ⟨(by show 0 + (2 * (sz - at9) + 19) ≤ (2 * (sz - at9) + 20); omega), (by show 0 + (11 * (2 * (sz - at9) + 19)) ≤ (11 * (2 * (sz - at9) + 20)); omega)⟩ ⟨(by show (40 * n + 22) + 1 ≤ (40 * n + 24 + d9); omega), (by show 8 + (2 + 11) + (1300 * n + 560) ≤ (1300 * n + 600 + 30 * d9); omega)⟩ (fun v3 u1 H locs hw2 hP hD hS => ?_) (fun ux ce9 q9 H9 locs9 hux hP9 hD9 hS9 hce hcv hcl => pb_out ux (ThQ.up (Thx.same (Thx.same (Thx.same (Thx.same Thx.rfl rfl) rfl) rfl) rfl) RhX.rfl hux) hnt hlocks hce hcv hcl hP9 hD9 hS9 (by show 0 + (2 * (sz - at9) + 19) ≤ (2 * (sz - at9) + 20); omega) (by show 0 + (11 * (2 * (sz - at9) + 19)) ≤ (11 * (2 * (sz - at9) + 20)); omega))
  obtain ⟨w, r6, K7, g8, at10, sg11, f12, k13⟩ := u1
  obtain ⟨hw2, h14, h15, h16, h17, h18, h19, hO⟩ := hw2
  have h14 : NwR K K7 g g8 r6 0 k13 ((5 * (20 - dp) + 4 + (sg11 - sg))) := h14
  have h15 : at9 ≤ rS k13 ∧ rS k13 + 1 ≤ rE k13 ∧ rE k13 ≤ at10 ∧ 1 ≤ rD k13 ∧ rD k13 ≤ 9 * (20 - dp) + (sg11 - sg) + 1 := h15
  have h16 : at9 + 1 ≤ at10 ∧ at10 ≤ sz := h16
  have h17 : sg ≤ sg11 ∧ sg11 ≤ 60 := h17
  have h18 : ¬ tkN ((B 7)) sz 67 (nI at9) = 37 := h18
  have h19 : NwT ((B 7)) sz ((B 10)) f12 K K7 at9 at10 := h19
  obtain rfl : v3 = some (.ref r6) := hw2
  have hO : OKP G h0 a (upd (upd (upd (upd F 2 (nI sz)) 9 (nI at10)) 10 (nI dp)) 11 (nI sg11)) R Z (updA B 10 f12) J K7 w := hO.to rfl
  refine W.widen (k := (2 * (at10 - at9) - 1)) (n := (11 * (2 * (at10 - at9) - 1))) (by show 0 + (2 * (at10 - at9) - 1) ≤ (2 * (at10 - at9) - 1); omega) (by show 0 + (11 * (2 * (at10 - at9) - 1)) ≤ (11 * (2 * (at10 - at9) - 1)); omega) ?_
  refine W.eq (g2 := F0 m 4 ls [.ref r6]) rfl ?_
  have htk20 : NwT (B 7) sz (B 10) f12 K K7 at9 at10 := (NwT.call htk0 h19 (by omega))
  refine lv_astore_n (lv' := [(2, .ref r6), (0, .ref (a 3)), (1, .int (nI ls9))]) hx hb dX8_signed_4 rfl hl (by decide) rfl (fun ls hl => ?_)
  refine lv_aload_n hx hb dX8_signed_5 rfl (lv_at hl 1 rfl) ?_
  refine c_get (v := .ref (a 1)) (C := RX8) (Tc := TX8) (N := 5) (ci := 5) hx hb hq pin_wsX80 hown hE hP hO 23 (sg_23 G h0 a _ _ _ _ _) rfl 0 (by decide) (hq _ pw_774) (fun _ h9 => h9) rfl dX8_signed_6 ?_
  refine lv_aload_n hx hb dX8_signed_9 rfl (lv_at hl 1 rfl) ?_
  refine c_get (v := .int (nI at10)) (C := RX8) (Tc := TX8) (N := 5) (ci := 5) hx hb hq pin_wsX80 hown hE hP hO 23 (sg_23 G h0 a _ _ _ _ _) rfl 2 (by decide) (hq _ pw_776) (fun _ h9 => h9) rfl dX8_signed_10 ?_
  have hO : OKW G h0 a (upd (upd (upd (upd (upd F 2 (nI sz)) 9 (nI at10)) 10 (nI dp)) 11 (nI sg11)) 2 (nI sz)) R Z (updA B 10 f12) J K7.1 (fun q99 x99 => x99 = rep G a K7 q99) w := hO.to rfl
  obtain ⟨_, qr24, hqr25⟩ := hO.2.1 2 _ (sg_2 G h0 a _ _ _ _ _)
  refine pc_V0 (G := G) (As := [.int (nI at10)]) (rest := []) hx hb hml hown hq hE hX pX0_al hP hD hS hA hl.1 (K_kindX l G h0 a (upd (upd (upd (upd F 2 (nI sz)) 9 (nI at10)) 10 (nI dp)) 11 (nI sg11)) R Z (updA B 10 f12) J K7.1 (fun q99 x99 => x99 = rep G a K7 q99) w (nI at10) sz (by omega) hO) (gV pw_777 pw_193 pw_194 pw_59 pw_126) hV_X10_kindAt qr24 7 hqr25 rfl rfl rfl (Nat.le_of_ble_eq_true rfl) dX8_signed_13 ⟨(by show (2 * (at10 - at9) - 1) + 0 ≤ (2 * (sz - at9) + 20); omega), (by show (11 * (2 * (at10 - at9) - 1)) + 0 ≤ (11 * (2 * (sz - at9) + 20)); omega)⟩ ⟨(by show 2 + 1 ≤ (40 * n + 24 + d9); omega), (by show 8 + (2 + 11) + 60 ≤ (1300 * n + 600 + 30 * d9); omega)⟩ (fun v23 u21 H locs hw22 hP hD hS => ?_)
  obtain ⟨w, r26⟩ := u21
  obtain ⟨hw22, h27, h28, hO⟩ := hw22
  have h27 : r26 = 67 ∨ ∃ t : Nat, (nI at10) = nI t ∧ t < sz := h27
  have h28 : r26 = tkN ((B 7)) sz 67 (nI at10) := h28
  obtain rfl : v23 = some (.int r26) := hw22
  have hO : OKP G h0 a (upd (upd (upd (upd F 2 (nI sz)) 9 (nI at10)) 10 (nI dp)) 11 (nI sg11)) R Z (updA B 10 f12) J K7 w := hO.to rfl
  refine W.widen (k := (2 * (at10 - at9) - 1)) (n := (11 * (2 * (at10 - at9) - 1))) (by show (2 * (at10 - at9) - 1) + 0 ≤ (2 * (at10 - at9) - 1); omega) (by show (11 * (2 * (at10 - at9) - 1)) + 0 ≤ (11 * (2 * (at10 - at9) - 1)); omega) ?_
  refine W.eq (g2 := F0 m 16 ls [.int r26]) rfl ?_
  have hO : OKW G h0 a (upd (upd (upd (upd F 2 (nI sz)) 9 (nI at10)) 10 (nI dp)) 11 (nI sg11)) R Z (updA B 10 f12) J K7.1 (fun q99 x99 => x99 = rep G a K7 q99) w := hO.to rfl
  refine pc_S0 (G := G) (As := [.int r26]) (rest := []) hx hb hml hown hq hE hX pX0_al hP hD hS hA hl.1 (P_power l G h0 a (upd (upd (upd (upd F 2 (nI sz)) 9 (nI at10)) 10 (nI dp)) 11 (nI sg11)) R Z (updA B 10 f12) J K7.1 (fun q99 x99 => x99 = rep G a K7 q99) w r26 hO) (gS pw_981 pw_982 pw_796 pw_908) hS_X8_power rfl (Nat.le_of_ble_eq_true rfl) dX8_signed_16 ⟨(by show (2 * (at10 - at9) - 1) + 0 ≤ (2 * (sz - at9) + 20); omega), (by show (11 * (2 * (at10 - at9) - 1)) + 0 ≤ (11 * (2 * (sz - at9) + 20)); omega)⟩ ⟨(by show 2 + 1 ≤ (40 * n + 24 + d9); omega), (by show 8 + (1 + 11) + 60 ≤ (1300 * n + 600 + 30 * d9); omega)⟩ (fun v31 u29 H locs hw30 hP hD hS => ?_)
  obtain ⟨w, r32⟩ := u29
  obtain ⟨hw30, h33, h34, h35, hO⟩ := hw30
  have h33 : r32 ≤ 10 := h33
  have h34 : PwQ r26 r32 := h34
  have h35 : PwR r26 r32 := h35
  obtain rfl : v31 = some (.int (nI r32)) := hw30
  have hO : OKP G h0 a (upd (upd (upd (upd F 2 (nI sz)) 9 (nI at10)) 10 (nI dp)) 11 (nI sg11)) R Z (updA B 10 f12) J K7 w := hO.to rfl
  refine W.widen (k := (2 * (at10 - at9) - 1)) (n := (11 * (2 * (at10 - at9) - 1))) (by show (2 * (at10 - at9) - 1) + 0 ≤ (2 * (at10 - at9) - 1); omega) (by show (11 * (2 * (at10 - at9) - 1)) + 0 ≤ (11 * (2 * (at10 - at9) - 1)); omega) ?_
  refine W.eq (g2 := F0 m 19 ls [.int (nI r32)]) rfl ?_
  have hpw36 := PwT.of h34 h27 (by omega) hsz
  have hpx37 : PwR (tkN (B 7) sz 67 (nI at10)) r32 := by have z9 := h35; rw [h28] at z9; exact z9
  refine lv_istore_n (lv' := [(3, .int (nI r32)), (2, .ref r6), (0, .ref (a 3)), (1, .int (nI ls9))]) hx hb dX8_signed_19 rfl hl (by decide) rfl (fun ls hl => ?_)
  refine lv_bipush (v := 10) hx hb dX8_signed_20 (by decide) ?_
  refine lv_istore (lv' := [(4, .int 10), (3, .int (nI r32)), (2, .ref r6), (0, .ref (a 3)), (1, .int (nI ls9))]) hx hb dX8_signed_22 hl (by decide) rfl (fun ls hl => ?_)
  refine lv_iconst (v := 0) hx hb dX8_signed_24 (by decide) ?_
  refine lv_istore (lv' := [(5, .int 0), (4, .int 10), (3, .int (nI r32)), (2, .ref r6), (0, .ref (a 3)), (1, .int (nI ls9))]) hx hb dX8_signed_25 hl (by decide) rfl (fun ls hl => ?_)
  have loop_i : ∀ (n_i : Nat) (i2 : Nat) (at2 : Nat) (sg2 : Nat) (f2 : Nat → Int32) (K2 : PK) (g2 : Nat → Nat → Nat) (x2 : Nat) (p2 : Nat) (m2 : Nat) (k2 : Nat) (H : Heap) (locs : List Loc) (ls : Array Slot) (w : va_W), i2 ≤ sz → sz + 1 ≤ i2 + n_i → (at9 ≤ rS k2 ∧ rS k2 + 1 ≤ rE k2 ∧ rE k2 ≤ at2 ∧ 1 ≤ rD k2 ∧ rD k2 ≤ 9 * (20 - dp) + (sg2 - sg) + 1) → (at9 + 1 ≤ at2 ∧ at2 ≤ sz) → (sg ≤ sg2 ∧ sg2 ≤ 60) → (p2 ≤ 10 ∧ m2 ≤ 10) → (NwR K K2 g g2 x2 0 k2 (5 * (20 - dp) + 4 + (sg2 - sg))) → (PwT p2 at2 sz) → (PwR (tkN (B 7) sz 67 (nI at2)) p2) → (NwT (B 7) sz (B 10) f2 K K2 at9 at2) → va_P G.1 pCl w H → va_D A w → va_S A s.heap H locs → OKP G h0 a (upd (upd (upd (upd F 2 (nI sz)) 9 (nI at2)) 10 (nI dp)) 11 (nI sg2)) R Z (updA B 10 f2) J K2 w → lv_has ls 7 [(5, .int (nI i2)), (4, .int (nI m2)), (3, .int (nI p2)), (2, .ref x2), (1, .int (nI ls9)), (0, .ref (a 3))] → W p l e (headSpec (Cond.code yX8_signed cX8_signed 7 (some (.object "JinjaTongue$Node")) :: pw) ({ frames := (40 * n + 24 + d9), cells := (2 * (sz - at9) + 20), slots := (11 * (2 * (sz - at9) + 20)), locals := (1300 * n + 600 + 30 * d9) } : Room)).room s m ([.ref (a 3), .int (nI ls9)] : List Value).toArray below meth c H locs (2 * (at2 - at9) - 1) (11 * (2 * (at2 - at9) - 1)) (vx_MQ below (pQn G A (fun (v : Option Value) (u : va_W × (Nat × PK × (Nat → Nat → Nat) × Nat × Nat × (Nat → Int32) × Nat)) => v = some (.ref u.2.1) ∧ (NwR K u.2.2.1 g u.2.2.2.1 u.2.1 O u.2.2.2.2.2.2.2 ((5 * (20 - dp) + 4 + (u.2.2.2.2.2.1 - sg)))) ∧ (at9 ≤ rS u.2.2.2.2.2.2.2 ∧ rS u.2.2.2.2.2.2.2 + 1 ≤ rE u.2.2.2.2.2.2.2 ∧ rE u.2.2.2.2.2.2.2 ≤ u.2.2.2.2.1 ∧ 1 ≤ rD u.2.2.2.2.2.2.2 ∧ rD u.2.2.2.2.2.2.2 ≤ 9 * (20 - dp) + (u.2.2.2.2.2.1 - sg) + 1) ∧ (at9 + 1 ≤ u.2.2.2.2.1 ∧ u.2.2.2.2.1 ≤ sz) ∧ (sg ≤ u.2.2.2.2.2.1 ∧ u.2.2.2.2.2.1 ≤ 60) ∧ (¬ tkN (B 7) sz 67 (nI at9) = 37) ∧ (NwT (B 7) sz (B 10) u.2.2.2.2.2.2.1 K u.2.2.1 at9 u.2.2.2.2.1) ∧ (OKP G h0 a (upd (upd (upd (upd F 2 (nI sz)) 9 (nI u.2.2.2.2.1)) 10 (nI dp)) 11 (nI u.2.2.2.2.2.1)) R Z (updA B 10 u.2.2.2.2.2.2.1) J u.2.2.1 u.1)) (fun u => u.1) (fun (u : va_W × (Nat × PK × (Nat → Nat → Nat) × Nat × Nat × (Nat → Int32) × Nat)) => (2 * (u.2.2.2.2.1 - at9) - 1)) (fun (u : va_W × (Nat × PK × (Nat → Nat → Nat) × Nat × Nat × (Nat → Int32) × Nat)) => (11 * (2 * (u.2.2.2.2.1 - at9) - 1)))) (pXX G A (fun (u : va_W × (Nat → Int32) × (Nat → Value) × (Nat → Nat → Int32)) => ThQ G h0 a (upd (upd (upd (upd F 2 (nI sz)) 9 (nI at9)) 10 (nI dp)) 11 (nI sg)) R Z B J u) (fun u => u.1)) ([.ref (a 3), .int (nI ls9)] : List Value).toArray s ({ frames := (40 * n + 24 + d9), cells := (2 * (sz - at9) + 20), slots := (11 * (2 * (sz - at9) + 20)), locals := (1300 * n + 600 + 30 * d9) } : Room).cells ({ frames := (40 * n + 24 + d9), cells := (2 * (sz - at9) + 20), slots := (11 * (2 * (sz - at9) + 20)), locals := (1300 * n + 600 + 30 * d9) } : Room).slots A) (F0 m 27 ls []) := by
    intro n_i
    induction n_i with
    | zero => intro i2 at2 sg2 f2 K2 g2 x2 p2 m2 k2 H locs ls w hk_i hn_i; omega
    | succ n_i ih_i =>
      intro i2 at2 sg2 f2 K2 g2 x2 p2 m2 k2 H locs ls w hk_i hn_i hk2 hat2 hsg2 hp2 hnr hpw hpx htki hP hD hS hO hl
      have hr2 := hnr.2.2.1
      have hr21 := hr2.2.1
      have hr22 := hr2.2.2.1
      have hr23 := hr2.2.2.2.1
      have hns2 := NwR.toS hnr
      have hr26 := hr2.2.2.2.2.2.1
      refine lv_iload hx hb dX8_signed_27 (lv_at hl 0 rfl) ?_
      refine lv_aload_n hx hb dX8_signed_29 rfl (lv_at hl 5 rfl) ?_
      refine c_get (v := .ref (a 1)) (C := RX8) (Tc := TX8) (N := 5) (ci := 5) hx hb hq pin_wsX80 hown hE hP hO 23 (sg_23 G h0 a _ _ _ _ _) rfl 0 (by decide) (hq _ pw_774) (fun _ h9 => h9) rfl dX8_signed_30 ?_
      refine c_get (v := .int (nI sz)) (C := RX10) (Tc := TX10) (N := 15) (ci := 7) hx hb hq pin_wsX100 hown hE hP hO 2 (sg_2 G h0 a _ _ _ _ _) rfl 8 (by decide) (hq _ pw_792) (fun _ h9 => h9) rfl dX8_signed_33 ?_
      refine lv_icmp_ge (tgt := 159) hx hb dX8_signed_36 (by decide) (fun c38 => ?_) (fun c38 => ?_)
      · have n39 : sz ≤ i2 := (nI_leI (a := sz) (b := i2) (by omega) (by omega)).mp c38
        refine lv_aload_n hx hb dX8_signed_159 rfl (lv_at hl 3 rfl) ?_
        refine W_size (fun hz1 hz2 => ?_)
        refine vx_ret ?_
        have how9 := NwR.own (O2 := O) hnr how
        have hz40 : NwR K K2 g (gset g2 x2 (g2 0 x2) O k2) x2 O k2 ((5 * (20 - dp) + 4 + (sg2 - sg))) := how9
        have hz41 : at9 ≤ rS k2 ∧ rS k2 + 1 ≤ rE k2 ∧ rE k2 ≤ at2 ∧ 1 ≤ rD k2 ∧ rD k2 ≤ 9 * (20 - dp) + (sg2 - sg) + 1 := (by omega)
        have hz42 : at9 + 1 ≤ at2 ∧ at2 ≤ sz := (by omega)
        have hz43 : sg ≤ sg2 ∧ sg2 ≤ 60 := (by omega)
        have hz44 : ¬ tkN (B 7) sz 67 (nI at9) = 37 := h18
        have hz45 : NwT (B 7) sz (B 10) f2 K K2 at9 at2 := (NwT.le htki (by omega))
        have hO : OKP G h0 a (upd (upd (upd (upd F 2 (nI sz)) 9 (nI at2)) 10 (nI dp)) 11 (nI sg2)) R Z (updA B 10 f2) J K2 w := hO.to rfl
        refine W.widen (k := (2 * (sz - at9) + 20)) (n := (11 * (2 * (sz - at9) + 20))) (by omega) (by omega) ?_
        have hzz1 : H.size ≤ s.heap.size + ((2 * (at2 - at9) - 1)) := (by have z : (2 * (at2 - at9) - 1) ≤ (2 * (at2 - at9) - 1) := (by omega); omega)
        have hzz2 : hSl H ≤ hSl s.heap + ((11 * (2 * (at2 - at9) - 1))) := (by have z : (11 * (2 * (at2 - at9) - 1)) ≤ (11 * (2 * (at2 - at9) - 1)) := (by omega); omega)
        exact W.aret (v := .ref x2) hx hb hr (Or.inl ⟨_, rfl⟩) (Or.inr ⟨_, rfl⟩) (fun t99 ht99 hW99 => ⟨⟨_, (w, (x2, K2, (gset g2 x2 (g2 0 x2) O k2), at2, sg2, f2, k2)), rfl, ⟨rfl, hz40, hz41, hz42, hz43, hz44, hz45, hO⟩, by rw [ht99]; exact hP, hD, by rw [ht99]; exact hzz1, by rw [ht99]; exact hzz2⟩, hS.F ht99⟩) hS.2.2 dX8_signed_160
      · have n46 : ¬ (sz ≤ i2) := fun h9 => c38 ((nI_leI (a := sz) (b := i2) (by omega) (by omega)).mpr h9)
        refine lv_iload_n hx hb dX8_signed_39 rfl (lv_at hl 2 rfl) ?_
        refine lv_iload_n hx hb dX8_signed_40 rfl (lv_at hl 4 rfl) ?_
        refine lv_icmp_lt (tgt := 159) hx hb dX8_signed_41 (by decide) (fun c47 => ?_) (fun c47 => ?_)
        · have n48 : p2 < ls9 := (nI_ltI (a := p2) (b := ls9) (by omega) (by omega)).mp c47
          refine lv_aload_n hx hb dX8_signed_159 rfl (lv_at hl 3 rfl) ?_
          refine W_size (fun hz1 hz2 => ?_)
          refine vx_ret ?_
          have how9 := NwR.own (O2 := O) hnr how
          have hz49 : NwR K K2 g (gset g2 x2 (g2 0 x2) O k2) x2 O k2 ((5 * (20 - dp) + 4 + (sg2 - sg))) := how9
          have hz50 : at9 ≤ rS k2 ∧ rS k2 + 1 ≤ rE k2 ∧ rE k2 ≤ at2 ∧ 1 ≤ rD k2 ∧ rD k2 ≤ 9 * (20 - dp) + (sg2 - sg) + 1 := (by omega)
          have hz51 : at9 + 1 ≤ at2 ∧ at2 ≤ sz := (by omega)
          have hz52 : sg ≤ sg2 ∧ sg2 ≤ 60 := (by omega)
          have hz53 : ¬ tkN (B 7) sz 67 (nI at9) = 37 := h18
          have hz54 : NwT (B 7) sz (B 10) f2 K K2 at9 at2 := (NwT.le htki (by omega))
          have hO : OKP G h0 a (upd (upd (upd (upd F 2 (nI sz)) 9 (nI at2)) 10 (nI dp)) 11 (nI sg2)) R Z (updA B 10 f2) J K2 w := hO.to rfl
          refine W.widen (k := (2 * (sz - at9) + 20)) (n := (11 * (2 * (sz - at9) + 20))) (by omega) (by omega) ?_
          have hzz1 : H.size ≤ s.heap.size + ((2 * (at2 - at9) - 1)) := (by have z : (2 * (at2 - at9) - 1) ≤ (2 * (at2 - at9) - 1) := (by omega); omega)
          have hzz2 : hSl H ≤ hSl s.heap + ((11 * (2 * (at2 - at9) - 1))) := (by have z : (11 * (2 * (at2 - at9) - 1)) ≤ (11 * (2 * (at2 - at9) - 1)) := (by omega); omega)
          exact W.aret (v := .ref x2) hx hb hr (Or.inl ⟨_, rfl⟩) (Or.inr ⟨_, rfl⟩) (fun t99 ht99 hW99 => ⟨⟨_, (w, (x2, K2, (gset g2 x2 (g2 0 x2) O k2), at2, sg2, f2, k2)), rfl, ⟨rfl, hz49, hz50, hz51, hz52, hz53, hz54, hO⟩, by rw [ht99]; exact hP, hD, by rw [ht99]; exact hzz1, by rw [ht99]; exact hzz2⟩, hS.F ht99⟩) hS.2.2 dX8_signed_160
        · have n55 : ¬ (p2 < ls9) := fun h9 => c47 ((nI_ltI (a := p2) (b := ls9) (by omega) (by omega)).mpr h9)
          refine lv_iload_n hx hb dX8_signed_44 rfl (lv_at hl 2 rfl) ?_
          refine lv_iload hx hb dX8_signed_45 (lv_at hl 1 rfl) ?_
          refine lv_icmp_gt (tgt := 159) hx hb dX8_signed_47 (by decide) (fun c56 => ?_) (fun c56 => ?_)
          · have n57 : m2 < p2 := (nI_ltI (a := m2) (b := p2) (by omega) (by omega)).mp c56
            refine lv_aload_n hx hb dX8_signed_159 rfl (lv_at hl 3 rfl) ?_
            refine W_size (fun hz1 hz2 => ?_)
            refine vx_ret ?_
            have how9 := NwR.own (O2 := O) hnr how
            have hz58 : NwR K K2 g (gset g2 x2 (g2 0 x2) O k2) x2 O k2 ((5 * (20 - dp) + 4 + (sg2 - sg))) := how9
            have hz59 : at9 ≤ rS k2 ∧ rS k2 + 1 ≤ rE k2 ∧ rE k2 ≤ at2 ∧ 1 ≤ rD k2 ∧ rD k2 ≤ 9 * (20 - dp) + (sg2 - sg) + 1 := (by omega)
            have hz60 : at9 + 1 ≤ at2 ∧ at2 ≤ sz := (by omega)
            have hz61 : sg ≤ sg2 ∧ sg2 ≤ 60 := (by omega)
            have hz62 : ¬ tkN (B 7) sz 67 (nI at9) = 37 := h18
            have hz63 : NwT (B 7) sz (B 10) f2 K K2 at9 at2 := (NwT.le htki (by omega))
            have hO : OKP G h0 a (upd (upd (upd (upd F 2 (nI sz)) 9 (nI at2)) 10 (nI dp)) 11 (nI sg2)) R Z (updA B 10 f2) J K2 w := hO.to rfl
            refine W.widen (k := (2 * (sz - at9) + 20)) (n := (11 * (2 * (sz - at9) + 20))) (by omega) (by omega) ?_
            have hzz1 : H.size ≤ s.heap.size + ((2 * (at2 - at9) - 1)) := (by have z : (2 * (at2 - at9) - 1) ≤ (2 * (at2 - at9) - 1) := (by omega); omega)
            have hzz2 : hSl H ≤ hSl s.heap + ((11 * (2 * (at2 - at9) - 1))) := (by have z : (11 * (2 * (at2 - at9) - 1)) ≤ (11 * (2 * (at2 - at9) - 1)) := (by omega); omega)
            exact W.aret (v := .ref x2) hx hb hr (Or.inl ⟨_, rfl⟩) (Or.inr ⟨_, rfl⟩) (fun t99 ht99 hW99 => ⟨⟨_, (w, (x2, K2, (gset g2 x2 (g2 0 x2) O k2), at2, sg2, f2, k2)), rfl, ⟨rfl, hz58, hz59, hz60, hz61, hz62, hz63, hO⟩, by rw [ht99]; exact hP, hD, by rw [ht99]; exact hzz1, by rw [ht99]; exact hzz2⟩, hS.F ht99⟩) hS.2.2 dX8_signed_160
          · have n64 : ¬ (m2 < p2) := fun h9 => c56 ((nI_ltI (a := m2) (b := p2) (by omega) (by omega)).mpr h9)
            have hlt9 := PwT.lt hpw (by omega)
            refine lv_aload_n hx hb dX8_signed_50 rfl (lv_at hl 5 rfl) ?_
            have hO : OKW G h0 a (upd (upd (upd (upd (upd (upd (upd (upd (upd F 2 (nI sz)) 9 (nI at9)) 10 (nI dp)) 11 (nI sg)) 9 (nI at2)) 11 (nI sg2)) 2 (nI sz)) 9 (nI at2)) 11 (nI sg2)) R Z (updA B 10 f2) J K2.1 (fun q99 x99 => x99 = rep G a K2 q99) w := hO.to rfl
            obtain ⟨_, qr68, hqr69⟩ := hO.2.1 23 _ (sg_23 G h0 a _ _ _ _ _)
            refine pn_V0 (G := G) (As := []) (rest := []) hx hb hml hown hq hE hX pX0_al hP hD hS hA hl.1 (P_countSign l G h0 a (upd (upd (upd (upd (upd (upd F 2 (nI sz)) 9 (nI at9)) 10 (nI dp)) 11 (nI sg)) 9 (nI at2)) 11 (nI sg2)) R Z (updA B 10 f2) J K2.1 (fun q99 x99 => x99 = rep G a K2 q99) w sg2 at2 sz (by omega) (by omega) (by omega) hO hl0) (gV pw_927 pw_928 pw_929 pw_796 pw_903) hV_X8_countSign qr68 5 hqr69 rfl rfl rfl (Nat.le_of_ble_eq_true rfl) dX8_signed_51 ⟨(by show (2 * (at2 - at9) - 1) + 1 ≤ (2 * (sz - at9) + 20); omega), (by show (11 * (2 * (at2 - at9) - 1)) + 6 ≤ (11 * (2 * (sz - at9) + 20)); omega)⟩ ⟨(by show 7 + 1 ≤ (40 * n + 24 + d9); omega), (by show 8 + (1 + 11) + 122 ≤ (1300 * n + 600 + 30 * d9); omega)⟩ (fun v67 u65 H locs hw66 hP hD hS => ?_) (fun ux ce9 q9 H9 locs9 hux hP9 hD9 hS9 hce hcv hcl => pb_out ux (ThQ.up (Thx.same (Thx.same (Thx.same (Thx.b (Thx.f (Thx.f Thx.rfl (by omega)) (by omega)) (by omega) (by decide)) rfl) rfl) rfl) RhX.rfl hux) hnt hlocks hce hcv hcl hP9 hD9 hS9 (by show (2 * (at2 - at9) - 1) + 1 ≤ (2 * (sz - at9) + 20); omega) (by show (11 * (2 * (at2 - at9) - 1)) + 6 ≤ (11 * (2 * (sz - at9) + 20)); omega))
            obtain ⟨w, _⟩ := u65
            obtain ⟨hw66, h70, hO⟩ := hw66
            have h70 : sg2 + 1 ≤ 60 := h70
            obtain rfl : v67 = none := hw66
            have hO : OKP G h0 a (upd (upd (upd (upd F 2 (nI sz)) 9 (nI at2)) 10 (nI dp)) 11 (nI (sg2 + 1))) R Z (updA B 10 f2) J K2 w := hO.to rfl
            refine W.widen (k := (2 * (at2 - at9) - 1)) (n := (11 * (2 * (at2 - at9) - 1))) (by show (2 * (at2 - at9) - 1) + 0 ≤ (2 * (at2 - at9) - 1); omega) (by show (11 * (2 * (at2 - at9) - 1)) + 0 ≤ (11 * (2 * (at2 - at9) - 1)); omega) ?_
            refine W.eq (g2 := F0 m 54 ls []) rfl ?_
            refine p_new (s9 := 1) (C := RX7) (T := TX7) (N := 11) (ci := 13) (fs := [.int 0, .int 0, .int 0, .int 0, .int 0, .int 0, .null, .null, .null, .null, .null]) hx hb hq pin_wsX70 tyX7 tyX7_ok hown (hq _ pw_870) (hq _ pw_871) (hq _ pw_872) hE hP hD hS hA hO rfl nw_X7 (by decide) (fun q => by rw [rep_1 (show (kN K2 q 1 0).1 q = 1 from if_pos rfl)]; unfold fsNode kN; simp only [if_true]; rfl) (by show (2 * (at2 - at9) - 1) + 1 ≤ (2 * (sz - at9) + 20); omega) (by show (11 * (2 * (at2 - at9) - 1)) + 11 ≤ (11 * (2 * (sz - at9) + 20)); omega) dX8_signed_54 (fun q71 H w hq72 hP hD hS hO => ?_)
            have hf73 : (kN K2 q71 1 0).1 x2 = 1 := (if_neg (fun z => by have z2 := hr21; rw [z, hq72] at z2; exact absurd z2 (by decide))).trans hr21
            have hf74 : (kN K2 q71 1 0).1 q71 = 1 := if_pos rfl
            refine W.widen (k := ((2 * (at2 - at9) - 1) + 1)) (n := ((11 * (2 * (at2 - at9) - 1)) + 11)) (by show (2 * (at2 - at9) - 1) + 1 ≤ ((2 * (at2 - at9) - 1) + 1); omega) (by show (11 * (2 * (at2 - at9) - 1)) + 11 ≤ ((11 * (2 * (at2 - at9) - 1)) + 11); omega) ?_
            refine lv_dup hx hb dX8_signed_57 rfl ?_
            refine lv_aload_n hx hb dX8_signed_58 rfl (lv_at hl 5 rfl) ?_
            refine c_get (v := .ref (a 1)) (C := RX8) (Tc := TX8) (N := 5) (ci := 5) hx hb hq pin_wsX80 hown hE hP hO 23 (sg_23 G h0 a _ _ _ _ _) rfl 0 (by decide) (hq _ pw_774) (fun _ h9 => h9) rfl dX8_signed_59 ?_
            refine lv_aload_n hx hb dX8_signed_62 rfl (lv_at hl 5 rfl) ?_
            refine c_get (v := .int (nI at2)) (C := RX8) (Tc := TX8) (N := 5) (ci := 5) hx hb hq pin_wsX80 hown hE hP hO 23 (sg_23 G h0 a _ _ _ _ _) rfl 2 (by decide) (hq _ pw_776) (fun _ h9 => h9) rfl dX8_signed_63 ?_
            have hO : OKW G h0 a (upd (upd (upd (upd (upd F 2 (nI sz)) 9 (nI at2)) 10 (nI dp)) 11 (nI (sg2 + 1))) 2 (nI sz)) R Z (updA B 10 f2) J ((kN K2 q71 1 0).1) (fun q99 x99 => x99 = rep G a (kN K2 q71 1 0) q99) w := hO.to rfl
            obtain ⟨_, qr78, hqr79⟩ := hO.2.1 2 _ (sg_2 G h0 a _ _ _ _ _)
            refine pc_V0 (G := G) (As := [.int (nI at2)]) (rest := [.ref q71, .ref q71]) hx hb hml hown hq hE hX pX0_al hP hD hS hA hl.1 (K_kindX l G h0 a (upd (upd (upd (upd F 2 (nI sz)) 9 (nI at2)) 10 (nI dp)) 11 (nI (sg2 + 1))) R Z (updA B 10 f2) J ((kN K2 q71 1 0).1) (fun q99 x99 => x99 = rep G a (kN K2 q71 1 0) q99) w (nI at2) sz (by omega) hO) (gV pw_777 pw_193 pw_194 pw_59 pw_126) hV_X10_kindAt qr78 7 hqr79 rfl rfl rfl (Nat.le_of_ble_eq_true rfl) dX8_signed_66 ⟨(by show ((2 * (at2 - at9) - 1) + 1) + 0 ≤ (2 * (sz - at9) + 20); omega), (by show ((11 * (2 * (at2 - at9) - 1)) + 11) + 0 ≤ (11 * (2 * (sz - at9) + 20)); omega)⟩ ⟨(by show 2 + 1 ≤ (40 * n + 24 + d9); omega), (by show 8 + (2 + 11) + 60 ≤ (1300 * n + 600 + 30 * d9); omega)⟩ (fun v77 u75 H locs hw76 hP hD hS => ?_)
            obtain ⟨w, r80⟩ := u75
            obtain ⟨hw76, h81, h82, hO⟩ := hw76
            have h81 : r80 = 67 ∨ ∃ t : Nat, (nI at2) = nI t ∧ t < sz := h81
            have h82 : r80 = tkN ((B 7)) sz 67 (nI at2) := h82
            obtain rfl : v77 = some (.int r80) := hw76
            have hO : OKP G h0 a (upd (upd (upd (upd F 2 (nI sz)) 9 (nI at2)) 10 (nI dp)) 11 (nI (sg2 + 1))) R Z (updA B 10 f2) J (kN K2 q71 1 0) w := hO.to rfl
            refine W.widen (k := ((2 * (at2 - at9) - 1) + 1)) (n := ((11 * (2 * (at2 - at9) - 1)) + 11)) (by show ((2 * (at2 - at9) - 1) + 1) + 0 ≤ ((2 * (at2 - at9) - 1) + 1); omega) (by show ((11 * (2 * (at2 - at9) - 1)) + 11) + 0 ≤ ((11 * (2 * (at2 - at9) - 1)) + 11); omega) ?_
            refine W.eq (g2 := F0 m 69 ls [.int r80, .ref q71, .ref q71]) rfl ?_
            have hO : OKW G h0 a (upd (upd (upd (upd F 2 (nI sz)) 9 (nI at2)) 10 (nI dp)) 11 (nI (sg2 + 1))) R Z (updA B 10 f2) J ((kN K2 q71 1 0).1) (fun q99 x99 => x99 = rep G a (kN K2 q71 1 0) q99) w := hO.to rfl
            refine pc_S0 (G := G) (As := [.int r80]) (rest := [.ref q71, .ref q71]) hx hb hml hown hq hE hX pX0_al hP hD hS hA hl.1 (P_signNode l G h0 a (upd (upd (upd (upd F 2 (nI sz)) 9 (nI at2)) 10 (nI dp)) 11 (nI (sg2 + 1))) R Z (updA B 10 f2) J ((kN K2 q71 1 0).1) (fun q99 x99 => x99 = rep G a (kN K2 q71 1 0) q99) w r80 hO) (gS pw_983 pw_984 pw_796 pw_909) hS_X8_signNode rfl (Nat.le_of_ble_eq_true rfl) dX8_signed_69 ⟨(by show ((2 * (at2 - at9) - 1) + 1) + 0 ≤ (2 * (sz - at9) + 20); omega), (by show ((11 * (2 * (at2 - at9) - 1)) + 11) + 0 ≤ (11 * (2 * (sz - at9) + 20)); omega)⟩ ⟨(by show 2 + 1 ≤ (40 * n + 24 + d9); omega), (by show 8 + (1 + 11) + 60 ≤ (1300 * n + 600 + 30 * d9); omega)⟩ (fun v85 u83 H locs hw84 hP hD hS => ?_)
            obtain ⟨w, r86⟩ := u83
            obtain ⟨hw84, h87, h88, hO⟩ := hw84
            have h87 : SgK r86 := h87
            have h88 : SnR r80 r86 := h88
            obtain rfl : v85 = some (.int r86) := hw84
            have hO : OKP G h0 a (upd (upd (upd (upd F 2 (nI sz)) 9 (nI at2)) 10 (nI dp)) 11 (nI (sg2 + 1))) R Z (updA B 10 f2) J (kN K2 q71 1 0) w := hO.to rfl
            refine W.widen (k := ((2 * (at2 - at9) - 1) + 1)) (n := ((11 * (2 * (at2 - at9) - 1)) + 11)) (by show ((2 * (at2 - at9) - 1) + 1) + 0 ≤ ((2 * (at2 - at9) - 1) + 1); omega) (by show ((11 * (2 * (at2 - at9) - 1)) + 11) + 0 ≤ ((11 * (2 * (at2 - at9) - 1)) + 11); omega) ?_
            refine W.eq (g2 := F0 m 72 ls [.int r86, .ref q71, .ref q71]) rfl ?_
            refine lv_aload_n hx hb dX8_signed_72 rfl (lv_at hl 5 rfl) ?_
            refine c_get (v := .int (nI at2)) (C := RX8) (Tc := TX8) (N := 5) (ci := 5) hx hb hq pin_wsX80 hown hE hP hO 23 (sg_23 G h0 a _ _ _ _ _) rfl 2 (by decide) (hq _ pw_776) (fun _ h9 => h9) rfl dX8_signed_73 ?_
            refine lv_aload_n hx hb dX8_signed_76 rfl (lv_at hl 3 rfl) ?_
            refine p_get (v := .int ((kN K2 q71 1 0).2.1 2 x2)) (C := RX7) (Tc := TX7) (N := 11) (ci := 13) hx hb hq pin_wsX70 hown hE hP hO (by rw [hf73]; decide) (rep_1 hf73) rfl 2 (by decide) (hq _ pw_937) (fun _ h9 => h9) rfl dX8_signed_77 ?_
            have hO : OKP G h0 a (upd (upd (upd (upd F 2 (nI sz)) 9 (nI at2)) 10 (nI dp)) 11 (nI (sg2 + 1))) R Z (updA B 10 f2) J (kN K2 q71 1 0) w := hO.to rfl
            obtain ⟨qr92, hqr93⟩ := p_recv hO (by rw [hf74]; decide) (rep_1 hf74)
            refine pc_I0 (G := G) (As := [.int r86, .int (nI at2), .int ((kN K2 q71 1 0).2.1 2 x2)]) (rest := [.ref q71]) hx hb hml hown hq hE hX pX0_al hP hD hS hA hl.1 (N_init l G h0 a (upd (upd (upd (upd F 2 (nI sz)) 9 (nI at2)) 10 (nI dp)) 11 (nI (sg2 + 1))) R Z (updA B 10 f2) J (kN K2 q71 1 0) w q71 r86 (nI at2) ((kN K2 q71 1 0).2.1 2 x2) (by omega) hO) pw_874 pw_875 pw_872 pw_765 rfl hS_X7_init rfl (Nat.le_of_ble_eq_true rfl) dX8_signed_80 ⟨(by show ((2 * (at2 - at9) - 1) + 1) + 0 ≤ (2 * (sz - at9) + 20); omega), (by show ((11 * (2 * (at2 - at9) - 1)) + 11) + 0 ≤ (11 * (2 * (sz - at9) + 20)); omega)⟩ ⟨(by show 2 + 1 ≤ (40 * n + 24 + d9); omega), (by show 8 + (4 + 11) + 60 ≤ (1300 * n + 600 + 30 * d9); omega)⟩ (fun v91 u89 H locs hw90 hP hD hS => ?_)
            obtain ⟨w, _⟩ := u89
            obtain ⟨hw90, hO⟩ := hw90
            obtain rfl : v91 = none := hw90
            have hf94 : (kI (kI (kI (kN K2 q71 1 0) 0 q71 r86) 1 q71 (nI at2)) 2 q71 ((kN K2 q71 1 0).2.1 2 x2)).1 x2 = 1 := hf73
            have hf95 : (kI (kI (kI (kN K2 q71 1 0) 0 q71 r86) 1 q71 (nI at2)) 2 q71 ((kN K2 q71 1 0).2.1 2 x2)).1 q71 = 1 := hf74
            have hO : OKP G h0 a (upd (upd (upd (upd F 2 (nI sz)) 9 (nI at2)) 10 (nI dp)) 11 (nI (sg2 + 1))) R Z (updA B 10 f2) J (kI (kI (kI (kN K2 q71 1 0) 0 q71 r86) 1 q71 (nI at2)) 2 q71 ((kN K2 q71 1 0).2.1 2 x2)) w := hO.to rfl
            refine W.widen (k := ((2 * (at2 - at9) - 1) + 1)) (n := ((11 * (2 * (at2 - at9) - 1)) + 11)) (by show ((2 * (at2 - at9) - 1) + 1) + 0 ≤ ((2 * (at2 - at9) - 1) + 1); omega) (by show ((11 * (2 * (at2 - at9) - 1)) + 11) + 0 ≤ ((11 * (2 * (at2 - at9) - 1)) + 11); omega) ?_
            refine W.eq (g2 := F0 m 83 ls [.ref q71]) rfl ?_
            change OKP G h0 a (upd (upd (upd (upd F 2 (nI sz)) 9 (nI at2)) 10 (nI dp)) 11 (nI (sg2 + 1))) R Z (updA B 10 f2) J (mkN K2 q71 r86 (nI at2) ((kN K2 q71 1 0).2.1 2 x2)) w at hO
            obtain ⟨K96, hK97⟩ : ∃ z : PK, z = (mkN K2 q71 r86 (nI at2) ((kN K2 q71 1 0).2.1 2 x2)) := ⟨_, rfl⟩
            rw [← hK97] at hO
            have htk98 : NwT (B 7) sz (B 10) f2 K K96 at9 at2 := by rw [hK97]; exact NwT.new (NwT.le htki (show _ ≤ at2 by omega)) hq72 (TkP.sig h87 (fun z9 => by have y9 := h88 z9; rw [h82] at y9; exact PwR.sg hpx (by omega) y9))
            have hf99 : K96.1 q71 = 1 := by rw [hK97]; exact mkN_T
            have hf100 : K96.2.1 0 q71 = r86 := by rw [hK97]; exact mkN_0
            have hf101 : K96.2.1 2 q71 = ((kN K2 q71 1 0).2.1 2 x2) := by rw [hK97]; exact mkN_2
            have hf102 : K96.2.2.1 0 q71 = none := by rw [hK97]; exact mkN_C
            have hf103 : K96.2.2.1 1 q71 = none := by rw [hK97]; exact mkN_C
            have hf104 : K96.2.2.1 2 q71 = none := by rw [hK97]; exact mkN_C
            have hf105 : K96.2.2.1 3 q71 = none := by rw [hK97]; exact mkN_C
            have hf106 : K96.2.2.1 4 q71 = none := by rw [hK97]; exact mkN_C
            have hf107 : K96.1 x2 = 1 := by rw [hK97]; exact ((mkN_ext hq72 x2 (by rw [hr21]; decide)).1).trans hr21
            have hns108 : NwS K K96 g (gset g2 q71 0 0 0) := by rw [hK97]; exact NwS.node hns2 hq72
            have hq109 : K.1 q71 = 0 := old_T hns2.2.1 hq72
            have hg110 : (gset g2 q71 0 0 0) 0 q71 = 0 := gset_0
            have hno111 : NoO K96 (gset g2 q71 0 0 0) q71 := by rw [hK97]; exact NoO.new hns2.1 hq72
            have hxq112 : ¬ x2 = q71 := fun z => by have z2 := hr21; rw [z, hq72] at z2; exact absurd z2 (by decide)
            have hrk113 : (gset g2 q71 0 0 0) 2 x2 = k2 := (gset_ne hxq112).trans hr26
            refine lv_astore (lv' := [(6, .ref q71), (5, .int (nI i2)), (4, .int (nI m2)), (3, .int (nI p2)), (2, .ref x2), (1, .int (nI ls9)), (0, .ref (a 3))]) hx hb dX8_signed_83 hl (by decide) rfl (fun ls hl => ?_)
            refine lv_aload_n hx hb dX8_signed_85 rfl (lv_at hl 6 rfl) ?_
            refine lv_dup hx hb dX8_signed_86 rfl ?_
            refine c_get (v := .int (nI at2)) (C := RX8) (Tc := TX8) (N := 5) (ci := 5) hx hb hq pin_wsX80 hown hE hP hO 23 (sg_23 G h0 a _ _ _ _ _) rfl 2 (by decide) (hq _ pw_776) (fun _ h9 => h9) rfl dX8_signed_87 ?_
            refine lv_iconst (v := 1) hx hb dX8_signed_90 (by decide) ?_
            refine lv_iadd hx hb dX8_signed_91 ?_
            refine lv_topi (fun x114 e115 => ?_)
            obtain rfl : x114 = nI (at2 + 1) := e115.trans (nI_add (at2) (1))
            refine c_put (v := .int (nI (at2 + 1))) (ty := .int) (C := RX8) (Tc := TX8) (N := 5) (ci := 5) hx hb hq pin_wsX80 tyX8 tyX8_ok nmX8 hown hE hP hD hS hO 23 (sg_23 G h0 a _ _ _ _ _) rfl 2 (by decide) (hq _ pw_776) (fun _ h9 => h9) rfl (by decide +kernel) rfl rfl (Nat.le_of_ble_eq_true rfl) (sf_9 G h0 a _ _ _ _ _ (nI (at2 + 1))) dX8_signed_92 (fun H locs w hP hD hS hO => ?_)
            refine lv_aload hx hb dX8_signed_95 (lv_at hl 0 rfl) ?_
            refine lv_aload_n hx hb dX8_signed_97 rfl (lv_at hl 4 rfl) ?_
            refine p_put (v := .ref x2) (ty := (.object "JinjaTongue$Node")) (C := RX7) (Tc := TX7) (N := 11) (ci := 13) (K' := (kC K96 0 q71 (some x2))) hx hb hq pin_wsX70 tyX7 tyX7_ok nmX7 hown hE hP hD hS hO (by rw [hf99]; decide) (rep_1 hf99) rfl 6 (by decide) (hq _ pw_938) (fun _ h9 => h9) rfl (by decide +kernel) rfl rfl (Nat.le_of_ble_eq_true rfl) rfl (by rw [rep_1 (show (kC K96 0 q71 (some x2)).1 q71 = 1 from hf99), pc_0] <;> rfl) (fun p9 hp9 => rep_kC hp9) dX8_signed_98 (fun H locs w hP hD hS hO => ?_)
            obtain ⟨K116, hK117⟩ : ∃ z : PK, z = (kC K96 0 q71 (some x2)) := ⟨_, rfl⟩
            rw [← hK117] at hO
            have hf118 : K116.1 q71 = 1 := (by rw [hK117]; exact hf99)
            have hf119 : K116.2.1 0 q71 = r86 := (by rw [hK117]; exact hf100)
            have hf120 : K116.2.1 2 q71 = ((kN K2 q71 1 0).2.1 2 x2) := (by rw [hK117]; exact hf101)
            have hf121 : K116.2.2.1 1 q71 = none := (by rw [hK117]; exact (kC_of (by decide)).trans hf103)
            have hf122 : K116.2.2.1 2 q71 = none := (by rw [hK117]; exact (kC_of (by decide)).trans hf104)
            have hf123 : K116.2.2.1 3 q71 = none := (by rw [hK117]; exact (kC_of (by decide)).trans hf105)
            have hf124 : K116.2.2.1 4 q71 = none := (by rw [hK117]; exact (kC_of (by decide)).trans hf106)
            have hf125 : K116.1 x2 = 1 := (by rw [hK117]; exact hf107)
            have hf126 : K116.2.2.1 0 q71 = some x2 := by rw [hK117]; exact kC_eq
            have htk127 : NwT (B 7) sz (B 10) f2 K K116 at9 at2 := by rw [hK117]; exact NwT.put htk98
            have hns128 : NwS K K116 g (gset g2 q71 0 0 0) := by rw [hK117]; exact NwS.put hns108 hq109 hg110
            have hno129 : NoO K116 (gset g2 q71 0 0 0) q71 := by rw [hK117]; exact hno111
            refine lv_aload hx hb dX8_signed_101 (lv_at hl 0 rfl) ?_
            refine p_get (v := .int r86) (C := RX7) (Tc := TX7) (N := 11) (ci := 13) hx hb hq pin_wsX70 hown hE hP hO (by rw [hf118]; decide) (rep_1 hf118) rfl 0 (by decide) (hq _ pw_980) (fun _ h9 => h9) (congrArg (fun z => some (Value.int z)) hf119) dX8_signed_103 ?_
            refine lv_bipush (v := 19) hx hb dX8_signed_106 (by decide) ?_
            refine lv_icmp_ne (tgt := 120) hx hb dX8_signed_108 (by decide) (fun c130 => ?_) (fun c130 => ?_)
            · refine lv_aload hx hb dX8_signed_120 (lv_at hl 0 rfl) ?_
              refine lv_aload_n hx hb dX8_signed_122 rfl (lv_at hl 6 rfl) ?_
              refine lv_iload_n hx hb dX8_signed_123 rfl (lv_at hl 3 rfl) ?_
              refine lv_iconst (v := 1) hx hb dX8_signed_124 (by decide) ?_
              refine lv_iadd hx hb dX8_signed_125 ?_
              refine lv_topi (fun x131 e132 => ?_)
              obtain rfl : x131 = nI (p2 + 1) := e132.trans (nI_add (p2) (1))
              have hO : OKP G h0 a (upd (upd (upd (upd (upd (upd (upd (upd (upd (upd F 2 (nI sz)) 9 (nI at9)) 10 (nI dp)) 11 (nI sg)) 9 (nI (at2 + 1))) 11 (nI (sg2 + 1))) 2 (nI sz)) 9 (nI (at2 + 1))) 10 (nI dp)) 11 (nI (sg2 + 1))) R Z (updA B 10 f2) J K116 w := hO.to rfl
              obtain ⟨_, qr136, hqr137⟩ := hO.2.1 23 _ (sg_23 G h0 a _ _ _ _ _)
              refine pn_V0 (G := G) (As := [.int (nI (p2 + 1))]) (rest := [.ref q71]) hx hb hml hown hq hE hX pX0_al hP hD hS hA hl.1 ((ihs (11 - (p2 + 1)) (by omega)) h0 a (upd (upd (upd (upd (upd (upd F 2 (nI sz)) 9 (nI at9)) 10 (nI dp)) 11 (nI sg)) 9 (nI (at2 + 1))) 11 (nI (sg2 + 1))) R Z (updA B 10 f2) J K116 w (p2 + 1) (at2 + 1) sz dp (sg2 + 1) 0 (gset g2 q71 0 0 0) (by omega) (by omega) (by omega) (by omega) hns128.1 (fun o9 h9 => absurd h9 (by omega)) (by omega) hO hl0) (gV pw_944 pw_945 pw_946 pw_796 pw_979) hV_X8_signed qr136 5 hqr137 rfl rfl rfl (Nat.le_of_ble_eq_true rfl) dX8_signed_126 ⟨(by show ((2 * (at2 - at9) - 1) + 1) + (2 * (sz - (at2 + 1)) + 20) ≤ (2 * (sz - at9) + 20); omega), (by show ((11 * (2 * (at2 - at9) - 1)) + 11) + (11 * (2 * (sz - (at2 + 1)) + 20)) ≤ (11 * (2 * (sz - at9) + 20)); omega)⟩ ⟨(by show (40 * n + 24 + (11 - (p2 + 1))) + 1 ≤ (40 * n + 24 + d9); omega), (by show 8 + (7 + 11) + (1300 * n + 600 + 30 * (11 - (p2 + 1))) ≤ (1300 * n + 600 + 30 * d9); omega)⟩ (fun v135 u133 H locs hw134 hP hD hS => ?_) (fun ux ce9 q9 H9 locs9 hux hP9 hD9 hS9 hce hcv hcl => pb_out ux (ThQ.up (Thx.same (Thx.same (Thx.same (Thx.same (Thx.b (Thx.f (Thx.f Thx.rfl (by omega)) (by omega)) (by omega) (by decide)) rfl) rfl) rfl) rfl) RhX.rfl hux) hnt hlocks hce hcv hcl hP9 hD9 hS9 (by show ((2 * (at2 - at9) - 1) + 1) + (2 * (sz - (at2 + 1)) + 20) ≤ (2 * (sz - at9) + 20); omega) (by show ((11 * (2 * (at2 - at9) - 1)) + 11) + (11 * (2 * (sz - (at2 + 1)) + 20)) ≤ (11 * (2 * (sz - at9) + 20)); omega))
              obtain ⟨w, r138, K139, g140, at141, sg142, f143, k144⟩ := u133
              obtain ⟨hw134, h145, h146, h147, h148, h149, h150, hO⟩ := hw134
              have h145 : NwR K116 K139 (gset g2 q71 0 0 0) g140 r138 0 k144 ((5 * (20 - dp) + 4 + (sg142 - (sg2 + 1)))) := h145
              have h146 : (at2 + 1) ≤ rS k144 ∧ rS k144 + 1 ≤ rE k144 ∧ rE k144 ≤ at141 ∧ 1 ≤ rD k144 ∧ rD k144 ≤ 9 * (20 - dp) + (sg142 - (sg2 + 1)) + 1 := h146
              have h147 : (at2 + 1) + 1 ≤ at141 ∧ at141 ≤ sz := h147
              have h148 : (sg2 + 1) ≤ sg142 ∧ sg142 ≤ 60 := h148
              have h149 : ¬ tkN ((B 7)) sz 67 (nI (at2 + 1)) = 37 := h149
              have h150 : NwT ((B 7)) sz (f2) f143 K116 K139 (at2 + 1) at141 := h150
              obtain rfl : v135 = some (.ref r138) := hw134
              have hf151 : K139.1 q71 = 1 := (((h145).2.1.1 q71 (by rw [hf118]; decide)).1).trans hf118
              have hf152 : K139.2.1 0 q71 = r86 := (((h145).2.1.1 q71 (by rw [hf118]; decide)).2.1 0).trans hf119
              have hf153 : K139.2.1 2 q71 = ((kN K2 q71 1 0).2.1 2 x2) := (((h145).2.1.1 q71 (by rw [hf118]; decide)).2.1 2).trans hf120
              have hf154 : K139.2.2.1 1 q71 = none := (((h145).2.1.1 q71 (by rw [hf118]; decide)).2.2.1 1).trans hf121
              have hf155 : K139.2.2.1 2 q71 = none := (((h145).2.1.1 q71 (by rw [hf118]; decide)).2.2.1 2).trans hf122
              have hf156 : K139.2.2.1 3 q71 = none := (((h145).2.1.1 q71 (by rw [hf118]; decide)).2.2.1 3).trans hf123
              have hf157 : K139.2.2.1 4 q71 = none := (((h145).2.1.1 q71 (by rw [hf118]; decide)).2.2.1 4).trans hf124
              have hf158 : K139.1 x2 = 1 := (((h145).2.1.1 x2 (by rw [hf125]; decide)).1).trans hf125
              have hf159 : K139.2.2.1 0 q71 = some x2 := (((h145).2.1.1 q71 (by rw [hf118]; decide)).2.2.1 0).trans hf126
              have hO : OKP G h0 a (upd (upd (upd (upd F 2 (nI sz)) 9 (nI at141)) 10 (nI dp)) 11 (nI sg142)) R Z (updA B 10 f143) J K139 w := hO.to rfl
              refine W.widen (k := (((2 * (at2 - at9) - 1) + 1) + (2 * (at141 - (at2 + 1)) - 1))) (n := (((11 * (2 * (at2 - at9) - 1)) + 11) + (11 * (2 * (at141 - (at2 + 1)) - 1)))) (by show ((2 * (at2 - at9) - 1) + 1) + (2 * (at141 - (at2 + 1)) - 1) ≤ (((2 * (at2 - at9) - 1) + 1) + (2 * (at141 - (at2 + 1)) - 1)); omega) (by show ((11 * (2 * (at2 - at9) - 1)) + 11) + (11 * (2 * (at141 - (at2 + 1)) - 1)) ≤ (((11 * (2 * (at2 - at9) - 1)) + 11) + (11 * (2 * (at141 - (at2 + 1)) - 1))); omega) ?_
              refine W.eq (g2 := F0 m 129 ls [.ref r138, .ref q71]) rfl ?_
              have htk160 : NwT (B 7) sz (B 10) f143 K K139 at9 at141 := (NwT.call htk127 h150 (by omega))
              have hns161 : NwS K K139 g g140 := NwS.call hns128 h145 (fun o9 h9 => absurd h9 (by omega))
              have hrk162 : g140 2 x2 = k2 := (h145.2.1.2 x2 (by rw [hf125]; decide) 2).trans hrk113
              have hrk163 : g140 2 r138 = k144 := h145.2.2.1.2.2.2.2.2.1
              have hf164 : K139.1 r138 = 1 := h145.2.2.1.2.1
              have hg165 : g140 0 q71 = 0 := (h145.2.1.2 q71 (by rw [hf118]; decide) 0).trans hg110
              have hno166 : NoO K139 g140 q71 := NoO.call hno129 h145 hf118 (by omega)
              refine p_put (v := .ref r138) (ty := (.object "JinjaTongue$Node")) (C := RX7) (Tc := TX7) (N := 11) (ci := 13) (K' := (kC K139 1 q71 (some r138))) hx hb hq pin_wsX70 tyX7 tyX7_ok nmX7 hown hE hP hD hS hO (by rw [hf151]; decide) (rep_1 hf151) rfl 7 (by decide) (hq _ pw_910) (fun _ h9 => h9) rfl (by decide +kernel) rfl rfl (Nat.le_of_ble_eq_true rfl) rfl (by rw [rep_1 (show (kC K139 1 q71 (some r138)).1 q71 = 1 from hf151), pc_1] <;> rfl) (fun p9 hp9 => rep_kC hp9) dX8_signed_129 (fun H locs w hP hD hS hO => ?_)
              obtain ⟨K167, hK168⟩ : ∃ z : PK, z = (kC K139 1 q71 (some r138)) := ⟨_, rfl⟩
              rw [← hK168] at hO
              have hf169 : K167.1 q71 = 1 := (by rw [hK168]; exact hf151)
              have hf170 : K167.2.1 0 q71 = r86 := (by rw [hK168]; exact hf152)
              have hf171 : K167.2.1 2 q71 = ((kN K2 q71 1 0).2.1 2 x2) := (by rw [hK168]; exact hf153)
              have hf172 : K167.2.2.1 2 q71 = none := (by rw [hK168]; exact (kC_of (by decide)).trans hf155)
              have hf173 : K167.2.2.1 3 q71 = none := (by rw [hK168]; exact (kC_of (by decide)).trans hf156)
              have hf174 : K167.2.2.1 4 q71 = none := (by rw [hK168]; exact (kC_of (by decide)).trans hf157)
              have hf175 : K167.1 x2 = 1 := (by rw [hK168]; exact hf158)
              have hf176 : K167.2.2.1 0 q71 = some x2 := (by rw [hK168]; exact (kC_of (by decide)).trans hf159)
              have hf177 : K167.1 r138 = 1 := (by rw [hK168]; exact hf164)
              have hf178 : K167.2.2.1 1 q71 = some r138 := by rw [hK168]; exact kC_eq
              have htk179 : NwT (B 7) sz (B 10) f143 K K167 at9 at141 := by rw [hK168]; exact NwT.put htk160
              have hns180 : NwS K K167 g g140 := by rw [hK168]; exact NwS.put hns161 hq109 hg165
              have hno181 : NoO K167 g140 q71 := by rw [hK168]; exact hno166
              refine lv_aload hx hb dX8_signed_132 (lv_at hl 0 rfl) ?_
              refine lv_astore_n (lv' := [(2, .ref q71), (6, .ref q71), (5, .int (nI i2)), (4, .int (nI m2)), (3, .int (nI p2)), (1, .int (nI ls9)), (0, .ref (a 3))]) hx hb dX8_signed_134 rfl hl (by decide) rfl (fun ls hl => ?_)
              refine lv_iload_n hx hb dX8_signed_135 rfl (lv_at hl 4 rfl) ?_
              refine lv_istore (lv' := [(4, .int (nI p2)), (2, .ref q71), (6, .ref q71), (5, .int (nI i2)), (3, .int (nI p2)), (1, .int (nI ls9)), (0, .ref (a 3))]) hx hb dX8_signed_136 hl (by decide) rfl (fun ls hl => ?_)
              refine lv_aload_n hx hb dX8_signed_138 rfl (lv_at hl 6 rfl) ?_
              refine c_get (v := .ref (a 1)) (C := RX8) (Tc := TX8) (N := 5) (ci := 5) hx hb hq pin_wsX80 hown hE hP hO 23 (sg_23 G h0 a _ _ _ _ _) rfl 0 (by decide) (hq _ pw_774) (fun _ h9 => h9) rfl dX8_signed_139 ?_
              refine lv_aload_n hx hb dX8_signed_142 rfl (lv_at hl 6 rfl) ?_
              refine c_get (v := .int (nI at141)) (C := RX8) (Tc := TX8) (N := 5) (ci := 5) hx hb hq pin_wsX80 hown hE hP hO 23 (sg_23 G h0 a _ _ _ _ _) rfl 2 (by decide) (hq _ pw_776) (fun _ h9 => h9) rfl dX8_signed_143 ?_
              have hO : OKW G h0 a (upd (upd (upd (upd (upd F 2 (nI sz)) 9 (nI at141)) 10 (nI dp)) 11 (nI sg142)) 2 (nI sz)) R Z (updA B 10 f143) J K167.1 (fun q99 x99 => x99 = rep G a K167 q99) w := hO.to rfl
              obtain ⟨_, qr185, hqr186⟩ := hO.2.1 2 _ (sg_2 G h0 a _ _ _ _ _)
              refine pc_V0 (G := G) (As := [.int (nI at141)]) (rest := []) hx hb hml hown hq hE hX pX0_al hP hD hS hA hl.1 (K_kindX l G h0 a (upd (upd (upd (upd F 2 (nI sz)) 9 (nI at141)) 10 (nI dp)) 11 (nI sg142)) R Z (updA B 10 f143) J K167.1 (fun q99 x99 => x99 = rep G a K167 q99) w (nI at141) sz (by omega) hO) (gV pw_777 pw_193 pw_194 pw_59 pw_126) hV_X10_kindAt qr185 7 hqr186 rfl rfl rfl (Nat.le_of_ble_eq_true rfl) dX8_signed_146 ⟨(by show (((2 * (at2 - at9) - 1) + 1) + (2 * (at141 - (at2 + 1)) - 1)) + 0 ≤ (2 * (sz - at9) + 20); omega), (by show (((11 * (2 * (at2 - at9) - 1)) + 11) + (11 * (2 * (at141 - (at2 + 1)) - 1))) + 0 ≤ (11 * (2 * (sz - at9) + 20)); omega)⟩ ⟨(by show 2 + 1 ≤ (40 * n + 24 + d9); omega), (by show 8 + (2 + 11) + 60 ≤ (1300 * n + 600 + 30 * d9); omega)⟩ (fun v184 u182 H locs hw183 hP hD hS => ?_)
              obtain ⟨w, r187⟩ := u182
              obtain ⟨hw183, h188, h189, hO⟩ := hw183
              have h188 : r187 = 67 ∨ ∃ t : Nat, (nI at141) = nI t ∧ t < sz := h188
              have h189 : r187 = tkN ((B 7)) sz 67 (nI at141) := h189
              obtain rfl : v184 = some (.int r187) := hw183
              have hO : OKP G h0 a (upd (upd (upd (upd F 2 (nI sz)) 9 (nI at141)) 10 (nI dp)) 11 (nI sg142)) R Z (updA B 10 f143) J K167 w := hO.to rfl
              refine W.widen (k := (((2 * (at2 - at9) - 1) + 1) + (2 * (at141 - (at2 + 1)) - 1))) (n := (((11 * (2 * (at2 - at9) - 1)) + 11) + (11 * (2 * (at141 - (at2 + 1)) - 1)))) (by show (((2 * (at2 - at9) - 1) + 1) + (2 * (at141 - (at2 + 1)) - 1)) + 0 ≤ (((2 * (at2 - at9) - 1) + 1) + (2 * (at141 - (at2 + 1)) - 1)); omega) (by show (((11 * (2 * (at2 - at9) - 1)) + 11) + (11 * (2 * (at141 - (at2 + 1)) - 1))) + 0 ≤ (((11 * (2 * (at2 - at9) - 1)) + 11) + (11 * (2 * (at141 - (at2 + 1)) - 1))); omega) ?_
              refine W.eq (g2 := F0 m 149 ls [.int r187]) rfl ?_
              have hO : OKW G h0 a (upd (upd (upd (upd F 2 (nI sz)) 9 (nI at141)) 10 (nI dp)) 11 (nI sg142)) R Z (updA B 10 f143) J K167.1 (fun q99 x99 => x99 = rep G a K167 q99) w := hO.to rfl
              refine pc_S0 (G := G) (As := [.int r187]) (rest := []) hx hb hml hown hq hE hX pX0_al hP hD hS hA hl.1 (P_power l G h0 a (upd (upd (upd (upd F 2 (nI sz)) 9 (nI at141)) 10 (nI dp)) 11 (nI sg142)) R Z (updA B 10 f143) J K167.1 (fun q99 x99 => x99 = rep G a K167 q99) w r187 hO) (gS pw_981 pw_982 pw_796 pw_908) hS_X8_power rfl (Nat.le_of_ble_eq_true rfl) dX8_signed_149 ⟨(by show (((2 * (at2 - at9) - 1) + 1) + (2 * (at141 - (at2 + 1)) - 1)) + 0 ≤ (2 * (sz - at9) + 20); omega), (by show (((11 * (2 * (at2 - at9) - 1)) + 11) + (11 * (2 * (at141 - (at2 + 1)) - 1))) + 0 ≤ (11 * (2 * (sz - at9) + 20)); omega)⟩ ⟨(by show 2 + 1 ≤ (40 * n + 24 + d9); omega), (by show 8 + (1 + 11) + 60 ≤ (1300 * n + 600 + 30 * d9); omega)⟩ (fun v192 u190 H locs hw191 hP hD hS => ?_)
              obtain ⟨w, r193⟩ := u190
              obtain ⟨hw191, h194, h195, h196, hO⟩ := hw191
              have h194 : r193 ≤ 10 := h194
              have h195 : PwQ r187 r193 := h195
              have h196 : PwR r187 r193 := h196
              obtain rfl : v192 = some (.int (nI r193)) := hw191
              have hO : OKP G h0 a (upd (upd (upd (upd F 2 (nI sz)) 9 (nI at141)) 10 (nI dp)) 11 (nI sg142)) R Z (updA B 10 f143) J K167 w := hO.to rfl
              refine W.widen (k := (((2 * (at2 - at9) - 1) + 1) + (2 * (at141 - (at2 + 1)) - 1))) (n := (((11 * (2 * (at2 - at9) - 1)) + 11) + (11 * (2 * (at141 - (at2 + 1)) - 1)))) (by show (((2 * (at2 - at9) - 1) + 1) + (2 * (at141 - (at2 + 1)) - 1)) + 0 ≤ (((2 * (at2 - at9) - 1) + 1) + (2 * (at141 - (at2 + 1)) - 1)); omega) (by show (((11 * (2 * (at2 - at9) - 1)) + 11) + (11 * (2 * (at141 - (at2 + 1)) - 1))) + 0 ≤ (((11 * (2 * (at2 - at9) - 1)) + 11) + (11 * (2 * (at141 - (at2 + 1)) - 1))); omega) ?_
              refine W.eq (g2 := F0 m 152 ls [.int (nI r193)]) rfl ?_
              have hpw197 := PwT.of h195 h188 (by omega) hsz
              have hpx198 : PwR (tkN (B 7) sz 67 (nI at141)) r193 := by have z9 := h196; rw [h189] at z9; exact z9
              refine lv_istore_n (lv' := [(3, .int (nI r193)), (4, .int (nI p2)), (2, .ref q71), (6, .ref q71), (5, .int (nI i2)), (1, .int (nI ls9)), (0, .ref (a 3))]) hx hb dX8_signed_152 rfl hl (by decide) rfl (fun ls hl => ?_)
              refine lv_iinc (v := (nI (i2 + 1))) (lv' := [(5, .int (nI (i2 + 1))), (3, .int (nI r193)), (4, .int (nI p2)), (2, .ref q71), (6, .ref q71), (1, .int (nI ls9)), (0, .ref (a 3))]) hx hb dX8_signed_153 hl (k := 4) rfl (nI_1 i2) (by decide) rfl (fun ls hl => ?_)
              refine lv_goto (tgt := 27) hx hb dX8_signed_156 (by decide) ?_
              have hxq : ¬ x2 = q71 := fun z => by have z2 := hr21; rw [z, hq72] at z2; exact absurd z2 (by decide)
              have hg8 : g140 0 x2 = g2 0 x2 := (h145.2.1.2 x2 (by rw [hf125]; decide) 0).trans (gset_ne hxq)
              have hlr := h145.2.2.1
              have hlr1 := hlr.2.2.1
              have hlr2 := hlr.2.2.2.1
              have hk8 : r86 = 17 ∨ r86 = 18 := SgK.of h87 c130
              obtain ⟨k9199, k9199I, k9199S, k9199E, k9199M, k9199N, k9199X, k9199D⟩ := rk_ex (s := at9) (e := at141) (m := (rE k2)) (n := at141) (x := 0) (d := (9 * (20 - dp) + (sg142 - sg) + 1)) (by omega)
              have hkid : ∀ f9 y9 : Nat, f9 ≤ 3 → K167.2.2.1 f9 q71 = some y9 → K167.1 y9 = 1 ∧ 1 ≤ g140 0 y9 ∧ g140 0 y9 < (5 * (20 - dp) + 4 + (sg142 - sg)) := by
                intro f9 y9 hf9 hy9
                rcases (show f9 = 0 ∨ f9 = 1 ∨ f9 = 2 ∨ f9 = 3 by omega) with rfl | rfl | rfl | rfl
                · rw [hf176] at hy9; cases hy9; exact ⟨hf175, (by omega), by omega⟩
                · rw [hf178] at hy9; cases hy9; exact ⟨hf177, hlr1, by omega⟩
                · rw [hf172] at hy9; cases hy9
                · rw [hf173] at hy9; cases hy9
              have hkc200 : ∀ f9 y9 : Nat, f9 ≤ 3 → K167.2.2.1 f9 q71 = some y9 → Kch (K167.2.1 0 q71) f9 (K167.2.1 0 y9) k9199 (g140 2 y9) := by
                intro f9 y9 hf9 hy9
                rcases (show f9 = 0 ∨ f9 = 1 ∨ f9 = 2 ∨ f9 = 3 by omega) with rfl | rfl | rfl | rfl
                · rw [hf176] at hy9; cases hy9; rw [hrk162]; rw [hf170]; rcases hk8 with e9 | e9 <;> rw [e9] <;> exact ⟨(fun z => absurd z (by decide)), (fun z => absurd z (by decide)), (fun z => absurd z (by decide)), (fun z => absurd z (by decide)), (fun _ _ => (by omega)), (fun _ z => absurd z (by decide)), (fun z => absurd z (by decide)), (fun z => absurd z (by decide)), (fun z => absurd z (by decide)), (fun z => absurd z (by decide)), (fun z => absurd z (by decide)), (fun z => absurd z (by decide)), (fun z => absurd z (by decide)), (fun z => absurd z (by decide)), (fun z => absurd z (by decide)), (fun z => absurd z (by decide)), (fun z => absurd z (by decide)), (fun z => absurd z (by decide)), (fun z => absurd z (by decide)), (fun z => absurd z (by decide)), (fun z => absurd z (by decide)), (fun z => absurd z (by decide)), (fun z => absurd z (by decide)), (fun z => absurd z (by decide))⟩
                · rw [hf178] at hy9; cases hy9; rw [hrk163]; rw [hf170]; rcases hk8 with e9 | e9 <;> rw [e9] <;> exact ⟨(fun z => absurd z (by decide)), (fun z => absurd z (by decide)), (fun z => absurd z (by decide)), (fun z => absurd z (by decide)), (fun _ z => absurd z (by decide)), (fun _ _ => (by omega)), (fun z => absurd z (by decide)), (fun z => absurd z (by decide)), (fun z => absurd z (by decide)), (fun z => absurd z (by decide)), (fun z => absurd z (by decide)), (fun z => absurd z (by decide)), (fun z => absurd z (by decide)), (fun z => absurd z (by decide)), (fun z => absurd z (by decide)), (fun z => absurd z (by decide)), (fun z => absurd z (by decide)), (fun z => absurd z (by decide)), (fun z => absurd z (by decide)), (fun z => absurd z (by decide)), (fun z => absurd z (by decide)), (fun z => absurd z (by decide)), (fun z => absurd z (by decide)), (fun z => absurd z (by decide))⟩
                · rw [hf172] at hy9; cases hy9
                · rw [hf173] at hy9; cases hy9
              have hdn := NwS.done1I (q := q71) (L := (5 * (20 - dp) + 4 + (sg142 - sg))) (O := 0) (k := k9199) hns180 hq109 hf169 hg165 (by omega) ⟨k9199I, (by rw [hf170]; rcases hk8 with e9 | e9 <;> rw [e9] <;> exact ⟨(fun z => absurd z (by decide)), (fun z => absurd z (by decide)), (fun z => absurd z (by decide))⟩)⟩ (by rw [hf170]; rcases hk8 with e9 | e9 <;> rw [e9] <;> exact ⟨fun z => absurd z (by decide), fun _ => ⟨(by show ¬ K167.2.2.1 0 q71 = none; rw [hf176]; intro z; cases z), (by show ¬ K167.2.2.1 1 q71 = none; rw [hf178]; intro z; cases z)⟩, fun z => absurd z (by decide), fun z => absurd z (by decide), fun z => absurd z (by decide)⟩) (fun f9 z => by rw [hf170] at z; rcases hk8 with e9 | e9 <;> rw [e9] at z <;> rcases z with ⟨z, _⟩ | ⟨z | z | z, _⟩ <;> exact absurd z (by decide)) hkid hf174 hno181 hkc200 (fun o9 h9 => absurd h9 (by omega))
              refine W.widen (k := (2 * (at141 - at9) - 1)) (n := (11 * (2 * (at141 - at9) - 1))) (by show (((2 * (at2 - at9) - 1) + 1) + (2 * (at141 - (at2 + 1)) - 1)) ≤ _; omega) (by show (((11 * (2 * (at2 - at9) - 1)) + 11) + (11 * (2 * (at141 - (at2 + 1)) - 1))) ≤ _; omega) ?_
              have hO : OKP G h0 a (upd (upd (upd (upd F 2 (nI sz)) 9 (nI at141)) 10 (nI dp)) 11 (nI sg142)) R Z (updA B 10 f143) J K167 w := hO.to rfl
              exact ih_i (i2 + 1) at141 sg142 f143 K167 (gset g140 q71 (5 * (20 - dp) + 4 + (sg142 - sg)) 0 k9199) q71 r193 p2 k9199 _ _ _ _ (by omega) (by omega) (by omega) (by omega) (by omega) (by omega) hdn hpw197 hpx198 (NwT.le htk179 (by omega)) hP hD hS hO (lv_sub hl [0, 2, 1, 3, 5, 6] rfl)
            · refine lv_aload_n hx hb dX8_signed_111 rfl (lv_at hl 6 rfl) ?_
              refine lv_iconst (v := 1) hx hb dX8_signed_112 (by decide) ?_
              have hO : OKW G h0 a (upd (upd (upd (upd (upd (upd (upd (upd F 2 (nI sz)) 9 (nI at9)) 10 (nI dp)) 11 (nI sg)) 9 (nI (at2 + 1))) 11 (nI (sg2 + 1))) 2 (nI sz)) 9 (nI (at2 + 1))) R Z (updA B 10 f2) J K116.1 (fun q99 x99 => x99 = rep G a K116 q99) w := hO.to rfl
              obtain ⟨_, qr204, hqr205⟩ := hO.2.1 23 _ (sg_23 G h0 a _ _ _ _ _)
              refine pn_V0 (G := G) (As := [.int 1]) (rest := []) hx hb hml hown hq hE hX pX0_al hP hD hS hA hl.1 (P_takeType l G h0 a (upd (upd (upd (upd (upd (upd F 2 (nI sz)) 9 (nI at9)) 10 (nI dp)) 11 (nI sg)) 9 (nI (at2 + 1))) 11 (nI (sg2 + 1))) R Z (updA B 10 f2) J K116.1 (fun q99 x99 => x99 = rep G a K116 q99) w 1 (at2 + 1) sz (by omega) (by omega) hO hl0) (gV pw_825 pw_826 pw_827 pw_796 pw_821) hV_X8_takeType qr204 5 hqr205 rfl rfl rfl (Nat.le_of_ble_eq_true rfl) dX8_signed_113 ⟨(by show ((2 * (at2 - at9) - 1) + 1) + 1 ≤ (2 * (sz - at9) + 20); omega), (by show ((11 * (2 * (at2 - at9) - 1)) + 11) + 6 ≤ (11 * (2 * (sz - at9) + 20)); omega)⟩ ⟨(by show 7 + 1 ≤ (40 * n + 24 + d9); omega), (by show 8 + (4 + 11) + 122 ≤ (1300 * n + 600 + 30 * d9); omega)⟩ (fun v203 u201 H locs hw202 hP hD hS => ?_) (fun ux ce9 q9 H9 locs9 hux hP9 hD9 hS9 hce hcv hcl => pb_out ux (ThQ.up (Thx.same (Thx.same (Thx.b (Thx.f (Thx.f Thx.rfl (by omega)) (by omega)) (by omega) (by decide)) rfl) rfl) RhX.rfl hux) hnt hlocks hce hcv hcl hP9 hD9 hS9 (by show ((2 * (at2 - at9) - 1) + 1) + 1 ≤ (2 * (sz - at9) + 20); omega) (by show ((11 * (2 * (at2 - at9) - 1)) + 11) + 6 ≤ (11 * (2 * (sz - at9) + 20)); omega))
              obtain ⟨w, at206, f207⟩ := u201
              obtain ⟨hw202, h208, h209, h210, h211, hO⟩ := hw202
              have h208 : (at2 + 1) + 1 ≤ at206 ∧ at206 ≤ sz := h208
              have h209 : RoS (f2) f207 (at2 + 1) := h209
              have h210 : TtQ ((B 7)) sz f207 (at2 + 1) := h210
              have h211 : (1 : Int32) = 0 → at206 = (at2 + 1) + 1 := h211
              obtain rfl : v203 = some (.int (nI (at2 + 1))) := hw202
              have hO : OKP G h0 a (upd (upd (upd (upd F 2 (nI sz)) 9 (nI at206)) 10 (nI dp)) 11 (nI (sg2 + 1))) R Z (updA B 10 f207) J K116 w := hO.to rfl
              refine W.widen (k := ((2 * (at2 - at9) - 1) + 1)) (n := ((11 * (2 * (at2 - at9) - 1)) + 11)) (by show ((2 * (at2 - at9) - 1) + 1) + 0 ≤ ((2 * (at2 - at9) - 1) + 1); omega) (by show ((11 * (2 * (at2 - at9) - 1)) + 11) + 0 ≤ ((11 * (2 * (at2 - at9) - 1)) + 11); omega) ?_
              refine W.eq (g2 := F0 m 116 ls [.int (nI (at2 + 1))]) rfl ?_
              have htk212 : NwT (B 7) sz (B 10) f207 K K116 at9 (at2 + 1) := (NwT.role htk127 h209 (by omega))
              refine lv_pop hx hb dX8_signed_116 rfl ?_
              refine lv_goto (tgt := 132) hx hb dX8_signed_117 (by decide) ?_
              refine lv_aload hx hb dX8_signed_132 (lv_at hl 0 rfl) ?_
              refine lv_astore_n (lv' := [(2, .ref q71), (6, .ref q71), (5, .int (nI i2)), (4, .int (nI m2)), (3, .int (nI p2)), (1, .int (nI ls9)), (0, .ref (a 3))]) hx hb dX8_signed_134 rfl hl (by decide) rfl (fun ls hl => ?_)
              refine lv_iload_n hx hb dX8_signed_135 rfl (lv_at hl 4 rfl) ?_
              refine lv_istore (lv' := [(4, .int (nI p2)), (2, .ref q71), (6, .ref q71), (5, .int (nI i2)), (3, .int (nI p2)), (1, .int (nI ls9)), (0, .ref (a 3))]) hx hb dX8_signed_136 hl (by decide) rfl (fun ls hl => ?_)
              refine lv_aload_n hx hb dX8_signed_138 rfl (lv_at hl 6 rfl) ?_
              refine c_get (v := .ref (a 1)) (C := RX8) (Tc := TX8) (N := 5) (ci := 5) hx hb hq pin_wsX80 hown hE hP hO 23 (sg_23 G h0 a _ _ _ _ _) rfl 0 (by decide) (hq _ pw_774) (fun _ h9 => h9) rfl dX8_signed_139 ?_
              refine lv_aload_n hx hb dX8_signed_142 rfl (lv_at hl 6 rfl) ?_
              refine c_get (v := .int (nI at206)) (C := RX8) (Tc := TX8) (N := 5) (ci := 5) hx hb hq pin_wsX80 hown hE hP hO 23 (sg_23 G h0 a _ _ _ _ _) rfl 2 (by decide) (hq _ pw_776) (fun _ h9 => h9) rfl dX8_signed_143 ?_
              have hO : OKW G h0 a (upd (upd (upd (upd (upd F 2 (nI sz)) 9 (nI at206)) 10 (nI dp)) 11 (nI (sg2 + 1))) 2 (nI sz)) R Z (updA B 10 f207) J K116.1 (fun q99 x99 => x99 = rep G a K116 q99) w := hO.to rfl
              obtain ⟨_, qr216, hqr217⟩ := hO.2.1 2 _ (sg_2 G h0 a _ _ _ _ _)
              refine pc_V0 (G := G) (As := [.int (nI at206)]) (rest := []) hx hb hml hown hq hE hX pX0_al hP hD hS hA hl.1 (K_kindX l G h0 a (upd (upd (upd (upd F 2 (nI sz)) 9 (nI at206)) 10 (nI dp)) 11 (nI (sg2 + 1))) R Z (updA B 10 f207) J K116.1 (fun q99 x99 => x99 = rep G a K116 q99) w (nI at206) sz (by omega) hO) (gV pw_777 pw_193 pw_194 pw_59 pw_126) hV_X10_kindAt qr216 7 hqr217 rfl rfl rfl (Nat.le_of_ble_eq_true rfl) dX8_signed_146 ⟨(by show ((2 * (at2 - at9) - 1) + 1) + 0 ≤ (2 * (sz - at9) + 20); omega), (by show ((11 * (2 * (at2 - at9) - 1)) + 11) + 0 ≤ (11 * (2 * (sz - at9) + 20)); omega)⟩ ⟨(by show 2 + 1 ≤ (40 * n + 24 + d9); omega), (by show 8 + (2 + 11) + 60 ≤ (1300 * n + 600 + 30 * d9); omega)⟩ (fun v215 u213 H locs hw214 hP hD hS => ?_)
              obtain ⟨w, r218⟩ := u213
              obtain ⟨hw214, h219, h220, hO⟩ := hw214
              have h219 : r218 = 67 ∨ ∃ t : Nat, (nI at206) = nI t ∧ t < sz := h219
              have h220 : r218 = tkN ((B 7)) sz 67 (nI at206) := h220
              obtain rfl : v215 = some (.int r218) := hw214
              have hO : OKP G h0 a (upd (upd (upd (upd F 2 (nI sz)) 9 (nI at206)) 10 (nI dp)) 11 (nI (sg2 + 1))) R Z (updA B 10 f207) J K116 w := hO.to rfl
              refine W.widen (k := ((2 * (at2 - at9) - 1) + 1)) (n := ((11 * (2 * (at2 - at9) - 1)) + 11)) (by show ((2 * (at2 - at9) - 1) + 1) + 0 ≤ ((2 * (at2 - at9) - 1) + 1); omega) (by show ((11 * (2 * (at2 - at9) - 1)) + 11) + 0 ≤ ((11 * (2 * (at2 - at9) - 1)) + 11); omega) ?_
              refine W.eq (g2 := F0 m 149 ls [.int r218]) rfl ?_
              have hO : OKW G h0 a (upd (upd (upd (upd F 2 (nI sz)) 9 (nI at206)) 10 (nI dp)) 11 (nI (sg2 + 1))) R Z (updA B 10 f207) J K116.1 (fun q99 x99 => x99 = rep G a K116 q99) w := hO.to rfl
              refine pc_S0 (G := G) (As := [.int r218]) (rest := []) hx hb hml hown hq hE hX pX0_al hP hD hS hA hl.1 (P_power l G h0 a (upd (upd (upd (upd F 2 (nI sz)) 9 (nI at206)) 10 (nI dp)) 11 (nI (sg2 + 1))) R Z (updA B 10 f207) J K116.1 (fun q99 x99 => x99 = rep G a K116 q99) w r218 hO) (gS pw_981 pw_982 pw_796 pw_908) hS_X8_power rfl (Nat.le_of_ble_eq_true rfl) dX8_signed_149 ⟨(by show ((2 * (at2 - at9) - 1) + 1) + 0 ≤ (2 * (sz - at9) + 20); omega), (by show ((11 * (2 * (at2 - at9) - 1)) + 11) + 0 ≤ (11 * (2 * (sz - at9) + 20)); omega)⟩ ⟨(by show 2 + 1 ≤ (40 * n + 24 + d9); omega), (by show 8 + (1 + 11) + 60 ≤ (1300 * n + 600 + 30 * d9); omega)⟩ (fun v223 u221 H locs hw222 hP hD hS => ?_)
              obtain ⟨w, r224⟩ := u221
              obtain ⟨hw222, h225, h226, h227, hO⟩ := hw222
              have h225 : r224 ≤ 10 := h225
              have h226 : PwQ r218 r224 := h226
              have h227 : PwR r218 r224 := h227
              obtain rfl : v223 = some (.int (nI r224)) := hw222
              have hO : OKP G h0 a (upd (upd (upd (upd F 2 (nI sz)) 9 (nI at206)) 10 (nI dp)) 11 (nI (sg2 + 1))) R Z (updA B 10 f207) J K116 w := hO.to rfl
              refine W.widen (k := ((2 * (at2 - at9) - 1) + 1)) (n := ((11 * (2 * (at2 - at9) - 1)) + 11)) (by show ((2 * (at2 - at9) - 1) + 1) + 0 ≤ ((2 * (at2 - at9) - 1) + 1); omega) (by show ((11 * (2 * (at2 - at9) - 1)) + 11) + 0 ≤ ((11 * (2 * (at2 - at9) - 1)) + 11); omega) ?_
              refine W.eq (g2 := F0 m 152 ls [.int (nI r224)]) rfl ?_
              have hpw228 := PwT.of h226 h219 (by omega) hsz
              have hpx229 : PwR (tkN (B 7) sz 67 (nI at206)) r224 := by have z9 := h227; rw [h220] at z9; exact z9
              refine lv_istore_n (lv' := [(3, .int (nI r224)), (4, .int (nI p2)), (2, .ref q71), (6, .ref q71), (5, .int (nI i2)), (1, .int (nI ls9)), (0, .ref (a 3))]) hx hb dX8_signed_152 rfl hl (by decide) rfl (fun ls hl => ?_)
              refine lv_iinc (v := (nI (i2 + 1))) (lv' := [(5, .int (nI (i2 + 1))), (3, .int (nI r224)), (4, .int (nI p2)), (2, .ref q71), (6, .ref q71), (1, .int (nI ls9)), (0, .ref (a 3))]) hx hb dX8_signed_153 hl (k := 4) rfl (nI_1 i2) (by decide) rfl (fun ls hl => ?_)
              refine lv_goto (tgt := 27) hx hb dX8_signed_156 (by decide) ?_
              have hxq : ¬ x2 = q71 := fun z => by have z2 := hr21; rw [z, hq72] at z2; exact absurd z2 (by decide)
              have hg8 : (gset g2 q71 0 0 0) 0 x2 = g2 0 x2 := gset_ne hxq
              obtain ⟨k9230, k9230I, k9230S, k9230E, k9230M, k9230N, k9230X, k9230D⟩ := rk_ex (s := at9) (e := at206) (m := (rE k2)) (n := at206) (x := 0) (d := (9 * (20 - dp) + ((sg2 + 1) - sg) + 1)) (by omega)
              have hkid : ∀ f9 y9 : Nat, f9 ≤ 3 → K116.2.2.1 f9 q71 = some y9 → K116.1 y9 = 1 ∧ 1 ≤ (gset g2 q71 0 0 0) 0 y9 ∧ (gset g2 q71 0 0 0) 0 y9 < (5 * (20 - dp) + 4 + ((sg2 + 1) - sg)) := by
                intro f9 y9 hf9 hy9
                rcases (show f9 = 0 ∨ f9 = 1 ∨ f9 = 2 ∨ f9 = 3 by omega) with rfl | rfl | rfl | rfl
                · rw [hf126] at hy9; cases hy9; exact ⟨hf125, (by omega), by omega⟩
                · rw [hf121] at hy9; cases hy9
                · rw [hf122] at hy9; cases hy9
                · rw [hf123] at hy9; cases hy9
              have hkc231 : ∀ f9 y9 : Nat, f9 ≤ 3 → K116.2.2.1 f9 q71 = some y9 → Kch (K116.2.1 0 q71) f9 (K116.2.1 0 y9) k9230 ((gset g2 q71 0 0 0) 2 y9) := by
                intro f9 y9 hf9 hy9
                rcases (show f9 = 0 ∨ f9 = 1 ∨ f9 = 2 ∨ f9 = 3 by omega) with rfl | rfl | rfl | rfl
                · rw [hf126] at hy9; cases hy9; rw [hrk113]; rw [hf119, c130] <;> exact ⟨(fun z => absurd z (by decide)), (fun z => absurd z (by decide)), (fun z => absurd z (by decide)), (fun _ _ => (by omega)), (fun z => absurd z (by decide)), (fun z => absurd z (by decide)), (fun z => absurd z (by decide)), (fun z => absurd z (by decide)), (fun z => absurd z (by decide)), (fun z => absurd z (by decide)), (fun z => absurd z (by decide)), (fun z => absurd z (by decide)), (fun z => absurd z (by decide)), (fun z => absurd z (by decide)), (fun z => absurd z (by decide)), (fun z => absurd z (by decide)), (fun z => absurd z (by decide)), (fun z => absurd z (by decide)), (fun z => absurd z (by decide)), (fun z => absurd z (by decide)), (fun z => absurd z (by decide)), (fun z => absurd z (by decide)), (fun z => absurd z (by decide)), (fun z => absurd z (by decide))⟩
                · rw [hf121] at hy9; cases hy9
                · rw [hf122] at hy9; cases hy9
                · rw [hf123] at hy9; cases hy9
              have hdn := NwS.done1I (q := q71) (L := (5 * (20 - dp) + 4 + ((sg2 + 1) - sg))) (O := 0) (k := k9230) hns128 hq109 hf118 hg110 (by omega) ⟨k9230I, (by rw [hf119, c130] <;> exact ⟨(fun z => absurd z (by decide)), (fun z => absurd z (by decide)), (fun z => absurd z (by decide))⟩)⟩ (by rw [hf119, c130]; exact ⟨fun _ => (by show ¬ K116.2.2.1 0 q71 = none; rw [hf126]; intro z; cases z), fun z => absurd z (by decide), fun z => absurd z (by decide), fun z => absurd z (by decide), fun z => absurd z (by decide)⟩) (fun f9 z => by rw [hf119, c130] at z; rcases z with ⟨z, _⟩ | ⟨z | z | z, _⟩ <;> exact absurd z (by decide)) hkid hf124 hno129 hkc231 (fun o9 h9 => absurd h9 (by omega))
              refine W.widen (k := (2 * (at206 - at9) - 1)) (n := (11 * (2 * (at206 - at9) - 1))) (by show ((2 * (at2 - at9) - 1) + 1) ≤ _; omega) (by show ((11 * (2 * (at2 - at9) - 1)) + 11) ≤ _; omega) ?_
              have hO : OKP G h0 a (upd (upd (upd (upd F 2 (nI sz)) 9 (nI at206)) 10 (nI dp)) 11 (nI (sg2 + 1))) R Z (updA B 10 f207) J K116 w := hO.to rfl
              exact ih_i (i2 + 1) at206 (sg2 + 1) f207 K116 (gset (gset g2 q71 0 0 0) q71 (5 * (20 - dp) + 4 + ((sg2 + 1) - sg)) 0 k9230) q71 r224 p2 k9230 _ _ _ _ (by omega) (by omega) (by omega) (by omega) (by omega) (by omega) hdn hpw228 hpx229 (NwT.le htk212 (by omega)) hP hD hS hO (lv_sub hl [0, 2, 1, 3, 5, 6] rfl)
  refine W.widen (k := (2 * (at10 - at9) - 1)) (n := (11 * (2 * (at10 - at9) - 1))) (by show (2 * (at10 - at9) - 1) ≤ _; omega) (by show (11 * (2 * (at10 - at9) - 1)) ≤ _; omega) ?_
  have hO : OKP G h0 a (upd (upd (upd (upd F 2 (nI sz)) 9 (nI at10)) 10 (nI dp)) 11 (nI sg11)) R Z (updA B 10 f12) J K7 w := hO.to rfl
  exact loop_i (sz + 1) 0 at10 sg11 f12 K7 g8 r6 r32 10 k13 _ _ _ _ (by omega) (by omega) (by omega) (by omega) (by omega) (by omega) h14 hpw36 hpx37 (NwT.le htk20 (by omega)) hP hD hS hO (lv_sub hl [0, 1, 2, 3, 5, 4] rfl)
