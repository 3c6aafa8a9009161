theorem NwR.toS {K K1 : PK} {g g1 : Nat → Nat → Nat} {r k L : Nat} (h : NwR K K1 g g1 r 0 k L) : NwS K K1 g g1 := ⟨h.1, h.2.1, fun x hx hn => ⟨(h.2.2.2 x hx hn).1, fun o ho => by
  by_cases z : x = r
  · subst z; rw [h.2.2.1.2.2.2.2.1] at ho; omega
  · exact (h.2.2.2 x hx hn).2 z o ho⟩⟩
theorem NwS.toR {K K1 K2 : PK} {g g1 g2 : Nat → Nat → Nat} {r k L : Nat} (h : NwS K K1 g g1) (h2 : NwR K1 K2 g1 g2 r 0 k L) : NwR K K2 g g2 r 0 k L := by
  have h3 := NwS.call h h2 (fun o ho => absurd ho (by omega))
  exact ⟨h3.1, h3.2.1, ⟨old_T h.2.1 h2.2.2.1.1, h2.2.2.1.2⟩, fun x hx hn => ⟨(h3.2.2 x hx hn).1, fun _ => (h3.2.2 x hx hn).2⟩⟩
theorem dX8_chain_0 : decode cX8_chain 0 = .ok (.aload_n 0, 1) := by decide +kernel
theorem dX8_chain_1 : decode cX8_chain 1 = .ok (.invokevirtual 266, 3) := by decide +kernel
theorem dX8_chain_4 : decode cX8_chain 4 = .ok (.astore_n 1, 1) := by decide +kernel
theorem dX8_chain_5 : decode cX8_chain 5 = .ok (.iconst 0, 1) := by decide +kernel
theorem dX8_chain_6 : decode cX8_chain 6 = .ok (.istore_n 2, 1) := by decide +kernel
theorem dX8_chain_7 : decode cX8_chain 7 = .ok (.iload_n 2, 1) := by decide +kernel
theorem dX8_chain_8 : decode cX8_chain 8 = .ok (.aload_n 0, 1) := by decide +kernel
theorem dX8_chain_9 : decode cX8_chain 9 = .ok (.getfield 7, 3) := by decide +kernel
theorem dX8_chain_12 : decode cX8_chain 12 = .ok (.getfield 27, 3) := by decide +kernel
theorem dX8_chain_15 : decode cX8_chain 15 = .ok (.if_icmp .ge 54, 3) := by decide +kernel
theorem dX8_chain_69 : decode cX8_chain 69 = .ok (.aload_n 1, 1) := by decide +kernel
theorem dX8_chain_70 : decode cX8_chain 70 = .ok (.areturn, 1) := by decide +kernel
theorem dX8_chain_18 : decode cX8_chain 18 = .ok (.aload_n 0, 1) := by decide +kernel
theorem dX8_chain_19 : decode cX8_chain 19 = .ok (.bipush 40, 2) := by decide +kernel
theorem dX8_chain_21 : decode cX8_chain 21 = .ok (.invokevirtual 36, 3) := by decide +kernel
theorem dX8_chain_24 : decode cX8_chain 24 = .ok (.ifCond .ne 12, 3) := by decide +kernel
theorem dX8_chain_36 : decode cX8_chain 36 = .ok (.aload_n 0, 1) := by decide +kernel
theorem dX8_chain_37 : decode cX8_chain 37 = .ok (.invokevirtual 257, 3) := by decide +kernel
theorem dX8_chain_40 : decode cX8_chain 40 = .ok (.aload_n 0, 1) := by decide +kernel
theorem dX8_chain_41 : decode cX8_chain 41 = .ok (.bipush 40, 2) := by decide +kernel
theorem dX8_chain_43 : decode cX8_chain 43 = .ok (.invokevirtual 36, 3) := by decide +kernel
theorem dX8_chain_46 : decode cX8_chain 46 = .ok (.ifCond .eq 11, 3) := by decide +kernel
theorem dX8_chain_57 : decode cX8_chain 57 = .ok (.aload_n 0, 1) := by decide +kernel
theorem dX8_chain_58 : decode cX8_chain 58 = .ok (.aload_n 1, 1) := by decide +kernel
theorem dX8_chain_59 : decode cX8_chain 59 = .ok (.invokevirtual 273, 3) := by decide +kernel
theorem dX8_chain_62 : decode cX8_chain 62 = .ok (.astore_n 1, 1) := by decide +kernel
theorem dX8_chain_63 : decode cX8_chain 63 = .ok (.iinc 2 1, 3) := by decide +kernel
theorem dX8_chain_66 : decode cX8_chain 66 = .ok (.goto (-59), 3) := by decide +kernel
theorem dX8_chain_49 : decode cX8_chain 49 = .ok (.aload_n 0, 1) := by decide +kernel
theorem dX8_chain_50 : decode cX8_chain 50 = .ok (.aload_n 1, 1) := by decide +kernel
theorem dX8_chain_51 : decode cX8_chain 51 = .ok (.invokevirtual 269, 3) := by decide +kernel
theorem dX8_chain_54 : decode cX8_chain 54 = .ok (.goto 8, 3) := by decide +kernel
theorem dX8_chain_27 : decode cX8_chain 27 = .ok (.aload_n 0, 1) := by decide +kernel
theorem dX8_chain_28 : decode cX8_chain 28 = .ok (.bipush 36, 2) := by decide +kernel
theorem dX8_chain_30 : decode cX8_chain 30 = .ok (.invokevirtual 36, 3) := by decide +kernel
theorem dX8_chain_33 : decode cX8_chain 33 = .ok (.ifCond .eq 36, 3) := by decide +kernel
theorem hV_X8_operand : yX8_operand.cls = RX8 ∧ yX8_operand.cls ≠ "java/lang/invoke/MethodHandle" ∧ yX8_operand.cls ≠ "java/lang/invoke/VarHandle" ∧ (parseMethodDescriptor yX8_operand.desc).map (fun d => d.parameters.length) = some 0 := by decide +kernel
theorem hV_X8_countSign : yX8_countSign.cls = RX8 ∧ yX8_countSign.cls ≠ "java/lang/invoke/MethodHandle" ∧ yX8_countSign.cls ≠ "java/lang/invoke/VarHandle" ∧ (parseMethodDescriptor yX8_countSign.desc).map (fun d => d.parameters.length) = some 0 := by decide +kernel
theorem hV_X8_indexed : yX8_indexed.cls = RX8 ∧ yX8_indexed.cls ≠ "java/lang/invoke/MethodHandle" ∧ yX8_indexed.cls ≠ "java/lang/invoke/VarHandle" ∧ (parseMethodDescriptor yX8_indexed.desc).map (fun d => d.parameters.length) = some 1 := by decide +kernel
theorem hV_X8_dotted : yX8_dotted.cls = RX8 ∧ yX8_dotted.cls ≠ "java/lang/invoke/MethodHandle" ∧ yX8_dotted.cls ≠ "java/lang/invoke/VarHandle" ∧ (parseMethodDescriptor yX8_dotted.desc).map (fun d => d.parameters.length) = some 1 := by decide +kernel
set_option maxHeartbeats 16000000 in
set_option maxRecDepth 100000 in
theorem P_chain (l : Launch) (G : pT) (h0 : Nat) (a : Nat → Nat) (F : Nat → Int32) (R : Nat → Value) (Z : Int64) (B : Nat → Nat → Int32) (J : Nat → Nat → Int64) (K : PK) (w : va_W) (n : Nat) (at9 : Nat) (sz : Nat) (dp : Nat) (sg : Nat) (O : Nat) (g : Nat → Nat → Nat) (hsz : sz ≤ 5000) (hat : at9 ≤ sz) (hdp : dp + n = 20) (hsg : sg ≤ 60) (hwn : WN K g) (how : ∀ o : Nat, O = o + 1 → K.1 o = 1 ∧ g 0 o = 0 ∧ ¬ K.2.1 0 o = 32) (ihe : IhE l G n) (hO : OKP G h0 a (upd (upd (upd (upd F 2 (nI sz)) 9 (nI at9)) 10 (nI dp)) 11 (nI sg)) R Z B J K w) (hl0 : l.stackTraces = false) : PBn l G pX0 yX8_chain cX8_chain 3 (some (.object "JinjaTongue$Node")) ({ frames := (40 * n + 20), cells := (2 * (sz - at9) + 19), slots := (11 * (2 * (sz - at9) + 19)), locals := (1300 * n + 520) }) [.ref (a 3)] w (fun (v : Option Value) (u : va_W × (Nat × PK × (Nat → Nat → Nat) × Nat × Nat × (Nat → Int32) × Nat)) => v = some (.ref u.2.1) ∧ (NwR K u.2.2.1 g u.2.2.2.1 u.2.1 O u.2.2.2.2.2.2.2 ((5 * (20 - dp) + 3 + (u.2.2.2.2.2.1 - sg)))) ∧ (at9 ≤ rS u.2.2.2.2.2.2.2 ∧ rS u.2.2.2.2.2.2.2 + 1 ≤ rE u.2.2.2.2.2.2.2 ∧ rE u.2.2.2.2.2.2.2 ≤ u.2.2.2.2.1 ∧ 1 ≤ rD u.2.2.2.2.2.2.2 ∧ rD u.2.2.2.2.2.2.2 ≤ 9 * (20 - dp) + (u.2.2.2.2.2.1 - sg) + 1) ∧ (at9 + 1 ≤ u.2.2.2.2.1 ∧ u.2.2.2.2.1 ≤ sz) ∧ (sg ≤ u.2.2.2.2.2.1 ∧ u.2.2.2.2.2.1 ≤ 60) ∧ (¬ tkN (B 7) sz 67 (nI at9) = 37) ∧ (NwT (B 7) sz (B 10) u.2.2.2.2.2.2.1 K u.2.2.1 at9 u.2.2.2.2.1) ∧ (OKP G h0 a (upd (upd (upd (upd F 2 (nI sz)) 9 (nI u.2.2.2.2.1)) 10 (nI dp)) 11 (nI u.2.2.2.2.2.1)) R Z (updA B 10 u.2.2.2.2.2.2.1) J u.2.2.1 u.1)) (fun u => u.1) (fun (u : va_W × (Nat × PK × (Nat → Nat → Nat) × Nat × Nat × (Nat → Int32) × Nat)) => (2 * (u.2.2.2.2.1 - at9) - 1)) (fun (u : va_W × (Nat × PK × (Nat → Nat → Nat) × Nat × Nat × (Nat → Int32) × Nat)) => (11 * (2 * (u.2.2.2.2.1 - at9) - 1))) (fun (u : va_W × (Nat → Int32) × (Nat → Value) × (Nat → Nat → Int32)) => ThQ G h0 a (upd (upd (upd (upd F 2 (nI sz)) 9 (nI at9)) 10 (nI dp)) 11 (nI sg)) R Z B J u) (fun u => u.1) := by
  intro sz
  refine vx_ofW (cc := cX8_chain) (maxL := 3) (ret := (some (.object "JinjaTongue$Node"))) (by decide) rfl ?_
  intro p e s m args below meth c s₁ B9 hml hnt hv
  obtain ⟨rfl, hsz, hP, hD0, hE, hX⟩ := hv
  have hx := B9.exec
  have hb := B9.bytes
  have hr := B9.returns
  have hts := atoms_spec (ws := Cond.code yX8_chain cX8_chain 3 (some (.object "JinjaTongue$Node")) :: pw) B9.pre
  have hq : ∀ w ∈ pw, w.before _ s = true := fun w h => hts w (List.mem_cons_of_mem _ h)
  have hown : s.vm.findClass RX8 = some m.cls := findClass_of_methodNamed B9.named
  have hlocks := B9.notSynchronized
  subst hsz
  have hD := hD0.self (sz := s.heap.size)
  have hA : ∀ q : Nat, s.heap.size ≤ q → va_A w s.heap.size q := fun q h => Or.inr h
  generalize va_A w s.heap.size = A at hD hE hA ⊢
  have hS : va_S A s.heap s.heap [] := va_S.rf
  have hl := lv_entry ([.ref (a 3)]) (n := 3) (Nat.le_of_ble_eq_true rfl)
  rw [lg_entry_eq]
  generalize (lg_sl ([.ref (a 3)]) ++ List.replicate (3 - (lg_sl ([.ref (a 3)])).length) Slot.unset).toArray = ls at hl ⊢
  have hl : lv_has ls 3 [(0, .ref (a 3))] := hl
  have htk0 : NwT (B 7) sz (B 10) (B 10) K K at9 at9 := NwT.nil
  refine lv_aload_n hx hb dX8_chain_0 rfl (lv_at hl 0 rfl) ?_
  have hO : OKP G h0 a (upd (upd (upd (upd (upd (upd (upd (upd F 2 (nI sz)) 9 (nI at9)) 10 (nI dp)) 11 (nI sg)) 2 (nI sz)) 9 (nI at9)) 10 (nI dp)) 11 (nI sg)) R Z B J K w := hO.to rfl
  obtain ⟨_, qr4, hqr5⟩ := hO.2.1 23 _ (sg_23 G h0 a _ _ _ _ _)
  refine pn_V0 (G := G) (As := []) (rest := []) hx hb hml hown hq hE hX pX0_al hP hD hS hA hl.1 (P_operand l G h0 a (upd (upd (upd (upd F 2 (nI sz)) 9 (nI at9)) 10 (nI dp)) 11 (nI sg)) R Z B J K w n at9 sz dp sg 0 g (by omega) (by omega) (by omega) (by omega) hwn (fun o9 h9 => absurd h9 (by omega)) ihe hO hl0) (gV pw_924 pw_925 pw_926 pw_796 pw_962) hV_X8_operand qr4 5 hqr5 rfl rfl rfl (Nat.le_of_ble_eq_true rfl) dX8_chain_1 ⟨(by show 0 + (2 * (sz - at9) + 19) ≤ (2 * (sz - at9) + 19); omega), (by show 0 + (11 * (2 * (sz - at9) + 19)) ≤ (11 * (2 * (sz - at9) + 19)); omega)⟩ ⟨(by show (40 * n + 16) + 1 ≤ (40 * n + 20); omega), (by show 8 + (3 + 11) + (1300 * n + 480) ≤ (1300 * n + 520); omega)⟩ (fun v3 u1 H locs hw2 hP hD hS => ?_) (fun ux ce9 q9 H9 locs9 hux hP9 hD9 hS9 hce hcv hcl => pb_out ux (ThQ.up (Thx.same (Thx.same (Thx.same (Thx.same Thx.rfl rfl) rfl) rfl) rfl) RhX.rfl hux) hnt hlocks hce hcv hcl hP9 hD9 hS9 (by show 0 + (2 * (sz - at9) + 19) ≤ (2 * (sz - at9) + 19); omega) (by show 0 + (11 * (2 * (sz - at9) + 19)) ≤ (11 * (2 * (sz - at9) + 19)); omega))
  obtain ⟨w, r6, K7, g8, at10, sg11, f12, k13⟩ := u1
  obtain ⟨hw2, h14, h15, h16, h17, h18, h19, hO⟩ := hw2
  have h14 : NwR K K7 g g8 r6 0 k13 ((5 * (20 - dp) + 2 + (sg11 - sg))) := h14
  have h15 : at9 ≤ rS k13 ∧ rS k13 + 1 ≤ rE k13 ∧ rE k13 ≤ at10 ∧ 1 ≤ rD k13 ∧ rD k13 ≤ 9 * (20 - dp) + (sg11 - sg) + 1 := h15
  have h16 : at9 + 1 ≤ at10 ∧ at10 ≤ sz := h16
  have h17 : sg ≤ sg11 ∧ sg11 ≤ 60 := h17
  have h18 : ¬ tkN ((B 7)) sz 67 (nI at9) = 37 := h18
  have h19 : NwT ((B 7)) sz ((B 10)) f12 K K7 at9 at10 := h19
  obtain rfl : v3 = some (.ref r6) := hw2
  have hO : OKP G h0 a (upd (upd (upd (upd F 2 (nI sz)) 9 (nI at10)) 10 (nI dp)) 11 (nI sg11)) R Z (updA B 10 f12) J K7 w := hO.to rfl
  refine W.widen (k := (2 * (at10 - at9) - 1)) (n := (11 * (2 * (at10 - at9) - 1))) (by show 0 + (2 * (at10 - at9) - 1) ≤ (2 * (at10 - at9) - 1); omega) (by show 0 + (11 * (2 * (at10 - at9) - 1)) ≤ (11 * (2 * (at10 - at9) - 1)); omega) ?_
  refine W.eq (g2 := F0 m 4 ls [.ref r6]) rfl ?_
  have htk20 : NwT (B 7) sz (B 10) f12 K K7 at9 at10 := (NwT.call htk0 h19 (by omega))
  refine lv_astore_n (lv' := [(1, .ref r6), (0, .ref (a 3))]) hx hb dX8_chain_4 rfl hl (by decide) rfl (fun ls hl => ?_)
  refine lv_iconst (v := 0) hx hb dX8_chain_5 (by decide) ?_
  refine lv_istore_n (lv' := [(2, .int 0), (1, .ref r6), (0, .ref (a 3))]) hx hb dX8_chain_6 rfl hl (by decide) rfl (fun ls hl => ?_)
  have hnr0 := NwR.up (L' := (5 * (20 - dp) + 3 + (sg11 - sg))) h14 (by omega)
  have loop_i : ∀ (n_i : Nat) (i2 : Nat) (at2 : Nat) (sg2 : Nat) (f2 : Nat → Int32) (K2 : PK) (g2 : Nat → Nat → Nat) (x2 : Nat) (k2 : Nat) (H : Heap) (locs : List Loc) (ls : Array Slot) (w : va_W), i2 ≤ sz → sz + 1 ≤ i2 + n_i → (at9 + 1 ≤ at2 ∧ at2 ≤ sz) → (sg ≤ sg2 ∧ sg2 ≤ 60) → (at9 ≤ rS k2 ∧ rS k2 + 1 ≤ rE k2 ∧ rE k2 ≤ at2 ∧ 1 ≤ rD k2 ∧ rD k2 ≤ 9 * (20 - dp) + (sg2 - sg) + 1) → (NwR K K2 g g2 x2 0 k2 (5 * (20 - dp) + 3 + (sg2 - sg))) → (NwT (B 7) sz (B 10) f2 K K2 at9 at2) → va_P G.1 pCl w H → va_D A w → va_S A s.heap H locs → OKP G h0 a (upd (upd (upd (upd F 2 (nI sz)) 9 (nI at2)) 10 (nI dp)) 11 (nI sg2)) R Z (updA B 10 f2) J K2 w → lv_has ls 3 [(2, .int (nI i2)), (1, .ref x2), (0, .ref (a 3))] → W p l e (headSpec (Cond.code yX8_chain cX8_chain 3 (some (.object "JinjaTongue$Node")) :: pw) ({ frames := (40 * n + 20), cells := (2 * (sz - at9) + 19), slots := (11 * (2 * (sz - at9) + 19)), locals := (1300 * n + 520) } : Room)).room s m ([.ref (a 3)] : List Value).toArray below meth c H locs (2 * (at2 - at9) - 1) (11 * (2 * (at2 - at9) - 1)) (vx_MQ below (pQn G A (fun (v : Option Value) (u : va_W × (Nat × PK × (Nat → Nat → Nat) × Nat × Nat × (Nat → Int32) × Nat)) => v = some (.ref u.2.1) ∧ (NwR K u.2.2.1 g u.2.2.2.1 u.2.1 O u.2.2.2.2.2.2.2 ((5 * (20 - dp) + 3 + (u.2.2.2.2.2.1 - sg)))) ∧ (at9 ≤ rS u.2.2.2.2.2.2.2 ∧ rS u.2.2.2.2.2.2.2 + 1 ≤ rE u.2.2.2.2.2.2.2 ∧ rE u.2.2.2.2.2.2.2 ≤ u.2.2.2.2.1 ∧ 1 ≤ rD u.2.2.2.2.2.2.2 ∧ rD u.2.2.2.2.2.2.2 ≤ 9 * (20 - dp) + (u.2.2.2.2.2.1 - sg) + 1) ∧ (at9 + 1 ≤ u.2.2.2.2.1 ∧ u.2.2.2.2.1 ≤ sz) ∧ (sg ≤ u.2.2.2.2.2.1 ∧ u.2.2.2.2.2.1 ≤ 60) ∧ (¬ tkN (B 7) sz 67 (nI at9) = 37) ∧ (NwT (B 7) sz (B 10) u.2.2.2.2.2.2.1 K u.2.2.1 at9 u.2.2.2.2.1) ∧ (OKP G h0 a (upd (upd (upd (upd F 2 (nI sz)) 9 (nI u.2.2.2.2.1)) 10 (nI dp)) 11 (nI u.2.2.2.2.2.1)) R Z (updA B 10 u.2.2.2.2.2.2.1) J u.2.2.1 u.1)) (fun u => u.1) (fun (u : va_W × (Nat × PK × (Nat → Nat → Nat) × Nat × Nat × (Nat → Int32) × Nat)) => (2 * (u.2.2.2.2.1 - at9) - 1)) (fun (u : va_W × (Nat × PK × (Nat → Nat → Nat) × Nat × Nat × (Nat → Int32) × Nat)) => (11 * (2 * (u.2.2.2.2.1 - at9) - 1)))) (pXX G A (fun (u : va_W × (Nat → Int32) × (Nat → Value) × (Nat → Nat → Int32)) => ThQ G h0 a (upd (upd (upd (upd F 2 (nI sz)) 9 (nI at9)) 10 (nI dp)) 11 (nI sg)) R Z B J u) (fun u => u.1)) ([.ref (a 3)] : List Value).toArray s ({ frames := (40 * n + 20), cells := (2 * (sz - at9) + 19), slots := (11 * (2 * (sz - at9) + 19)), locals := (1300 * n + 520) } : Room).cells ({ frames := (40 * n + 20), cells := (2 * (sz - at9) + 19), slots := (11 * (2 * (sz - at9) + 19)), locals := (1300 * n + 520) } : Room).slots A) (F0 m 7 ls []) := by
    intro n_i
    induction n_i with
    | zero => intro i2 at2 sg2 f2 K2 g2 x2 k2 H locs ls w hk_i hn_i; omega
    | succ n_i ih_i =>
      intro i2 at2 sg2 f2 K2 g2 x2 k2 H locs ls w hk_i hn_i hat2 hsg2 hk2 hnr htki hP hD hS hO hl
      have hr2 := hnr.2.2.1
      have hr21 := hr2.2.1
      have hr22 := hr2.2.2.1
      have hr23 := hr2.2.2.2.1
      refine lv_iload_n hx hb dX8_chain_7 rfl (lv_at hl 0 rfl) ?_
      refine lv_aload_n hx hb dX8_chain_8 rfl (lv_at hl 2 rfl) ?_
      refine c_get (v := .ref (a 1)) (C := RX8) (Tc := TX8) (N := 5) (ci := 5) hx hb hq pin_wsX80 hown hE hP hO 23 (sg_23 G h0 a _ _ _ _ _) rfl 0 (by decide) (hq _ pw_774) (fun _ h9 => h9) rfl dX8_chain_9 ?_
      refine c_get (v := .int (nI sz)) (C := RX10) (Tc := TX10) (N := 15) (ci := 7) hx hb hq pin_wsX100 hown hE hP hO 2 (sg_2 G h0 a _ _ _ _ _) rfl 8 (by decide) (hq _ pw_792) (fun _ h9 => h9) rfl dX8_chain_12 ?_
      refine lv_icmp_ge (tgt := 69) hx hb dX8_chain_15 (by decide) (fun c21 => ?_) (fun c21 => ?_)
      · have n22 : sz ≤ i2 := (nI_leI (a := sz) (b := i2) (by omega) (by omega)).mp c21
        refine lv_aload_n hx hb dX8_chain_69 rfl (lv_at hl 1 rfl) ?_
        refine W_size (fun hz1 hz2 => ?_)
        refine vx_ret ?_
        have how9 := NwR.own (O2 := O) hnr how
        have hz23 : NwR K K2 g (gset g2 x2 (g2 0 x2) O k2) x2 O k2 ((5 * (20 - dp) + 3 + (sg2 - sg))) := how9
        have hz24 : at9 ≤ rS k2 ∧ rS k2 + 1 ≤ rE k2 ∧ rE k2 ≤ at2 ∧ 1 ≤ rD k2 ∧ rD k2 ≤ 9 * (20 - dp) + (sg2 - sg) + 1 := (by omega)
        have hz25 : at9 + 1 ≤ at2 ∧ at2 ≤ sz := (by omega)
        have hz26 : sg ≤ sg2 ∧ sg2 ≤ 60 := (by omega)
        have hz27 : ¬ tkN (B 7) sz 67 (nI at9) = 37 := h18
        have hz28 : NwT (B 7) sz (B 10) f2 K K2 at9 at2 := (NwT.le htki (by omega))
        have hO : OKP G h0 a (upd (upd (upd (upd F 2 (nI sz)) 9 (nI at2)) 10 (nI dp)) 11 (nI sg2)) R Z (updA B 10 f2) J K2 w := hO.to rfl
        refine W.widen (k := (2 * (sz - at9) + 19)) (n := (11 * (2 * (sz - at9) + 19))) (by omega) (by omega) ?_
        have hzz1 : H.size ≤ s.heap.size + ((2 * (at2 - at9) - 1)) := (by have z : (2 * (at2 - at9) - 1) ≤ (2 * (at2 - at9) - 1) := (by omega); omega)
        have hzz2 : hSl H ≤ hSl s.heap + ((11 * (2 * (at2 - at9) - 1))) := (by have z : (11 * (2 * (at2 - at9) - 1)) ≤ (11 * (2 * (at2 - at9) - 1)) := (by omega); omega)
        exact W.aret (v := .ref x2) hx hb hr (Or.inl ⟨_, rfl⟩) (Or.inr ⟨_, rfl⟩) (fun t99 ht99 hW99 => ⟨⟨_, (w, (x2, K2, (gset g2 x2 (g2 0 x2) O k2), at2, sg2, f2, k2)), rfl, ⟨rfl, hz23, hz24, hz25, hz26, hz27, hz28, hO⟩, by rw [ht99]; exact hP, hD, by rw [ht99]; exact hzz1, by rw [ht99]; exact hzz2⟩, hS.F ht99⟩) hS.2.2 dX8_chain_70
      · have n29 : ¬ (sz ≤ i2) := fun h9 => c21 ((nI_leI (a := sz) (b := i2) (by omega) (by omega)).mpr h9)
        refine lv_aload_n hx hb dX8_chain_18 rfl (lv_at hl 2 rfl) ?_
        refine lv_bipush (v := 40) hx hb dX8_chain_19 (by decide) ?_
        have hO : OKW G h0 a (upd (upd (upd (upd (upd (upd F 2 (nI sz)) 9 (nI at2)) 10 (nI dp)) 11 (nI sg2)) 2 (nI sz)) 9 (nI at2)) R Z (updA B 10 f2) J K2.1 (fun q99 x99 => x99 = rep G a K2 q99) w := hO.to rfl
        obtain ⟨_, qr33, hqr34⟩ := hO.2.1 23 _ (sg_23 G h0 a _ _ _ _ _)
        refine pc_V0 (G := G) (As := [.int 40]) (rest := []) hx hb hml hown hq hE hX pX0_al hP hD hS hA hl.1 (P_sees l G h0 a (upd (upd (upd (upd F 2 (nI sz)) 9 (nI at2)) 10 (nI dp)) 11 (nI sg2)) R Z (updA B 10 f2) J K2.1 (fun q99 x99 => x99 = rep G a K2 q99) w 40 at2 sz (by omega) (by omega) hO) (gV pw_803 pw_804 pw_805 pw_796 pw_775) hV_X8_sees qr33 5 hqr34 rfl rfl rfl (Nat.le_of_ble_eq_true rfl) dX8_chain_21 ⟨(by show (2 * (at2 - at9) - 1) + 0 ≤ (2 * (sz - at9) + 19); omega), (by show (11 * (2 * (at2 - at9) - 1)) + 0 ≤ (11 * (2 * (sz - at9) + 19)); omega)⟩ ⟨(by show 3 + 1 ≤ (40 * n + 20); omega), (by show 8 + (2 + 11) + 81 ≤ (1300 * n + 520); omega)⟩ (fun v32 u30 H locs hw31 hP hD hS => ?_)
        obtain ⟨w, r35⟩ := u30
        obtain ⟨hw31, h36, h37, hO⟩ := hw31
        have h36 : r35 ≤ 1 := h36
        have h37 : SeQ ((B 7)) sz at2 40 r35 := h37
        obtain rfl : v32 = some (.int (nI r35)) := hw31
        have hO : OKP G h0 a (upd (upd (upd (upd F 2 (nI sz)) 9 (nI at2)) 10 (nI dp)) 11 (nI sg2)) R Z (updA B 10 f2) J K2 w := hO.to rfl
        refine W.widen (k := (2 * (at2 - at9) - 1)) (n := (11 * (2 * (at2 - at9) - 1))) (by show (2 * (at2 - at9) - 1) + 0 ≤ (2 * (at2 - at9) - 1); omega) (by show (11 * (2 * (at2 - at9) - 1)) + 0 ≤ (11 * (2 * (at2 - at9) - 1)); omega) ?_
        refine W.eq (g2 := F0 m 24 ls [.int (nI r35)]) rfl ?_
        refine lv_if_ne (tgt := 36) hx hb dX8_chain_24 (by decide) (fun c38 => ?_) (fun c38 => ?_)
        · have n39 : ¬ (r35 = 0) := fun h9 => c38 ((nI_eq (a := r35) (b := 0) (by omega) (by omega)).mpr h9)
          refine lv_aload_n hx hb dX8_chain_36 rfl (lv_at hl 2 rfl) ?_
          have hO : OKW G h0 a (upd (upd (upd (upd (upd (upd (upd (upd (upd F 2 (nI sz)) 9 (nI at9)) 10 (nI dp)) 11 (nI sg)) 9 (nI at2)) 11 (nI sg2)) 2 (nI sz)) 9 (nI at2)) 11 (nI sg2)) R Z (updA B 10 f2) J K2.1 (fun q99 x99 => x99 = rep G a K2 q99) w := hO.to rfl
          obtain ⟨_, qr43, hqr44⟩ := hO.2.1 23 _ (sg_23 G h0 a _ _ _ _ _)
          refine pn_V0 (G := G) (As := []) (rest := []) hx hb hml hown hq hE hX pX0_al hP hD hS hA hl.1 (P_countSign l G h0 a (upd (upd (upd (upd (upd (upd F 2 (nI sz)) 9 (nI at9)) 10 (nI dp)) 11 (nI sg)) 9 (nI at2)) 11 (nI sg2)) R Z (updA B 10 f2) J K2.1 (fun q99 x99 => x99 = rep G a K2 q99) w sg2 at2 sz (by omega) (by omega) (by omega) hO hl0) (gV pw_927 pw_928 pw_929 pw_796 pw_903) hV_X8_countSign qr43 5 hqr44 rfl rfl rfl (Nat.le_of_ble_eq_true rfl) dX8_chain_37 ⟨(by show (2 * (at2 - at9) - 1) + 1 ≤ (2 * (sz - at9) + 19); omega), (by show (11 * (2 * (at2 - at9) - 1)) + 6 ≤ (11 * (2 * (sz - at9) + 19)); omega)⟩ ⟨(by show 7 + 1 ≤ (40 * n + 20); omega), (by show 8 + (1 + 11) + 122 ≤ (1300 * n + 520); omega)⟩ (fun v42 u40 H locs hw41 hP hD hS => ?_) (fun ux ce9 q9 H9 locs9 hux hP9 hD9 hS9 hce hcv hcl => pb_out ux (ThQ.up (Thx.same (Thx.same (Thx.same (Thx.b (Thx.f (Thx.f Thx.rfl (by omega)) (by omega)) (by omega) (by decide)) rfl) rfl) rfl) RhX.rfl hux) hnt hlocks hce hcv hcl hP9 hD9 hS9 (by show (2 * (at2 - at9) - 1) + 1 ≤ (2 * (sz - at9) + 19); omega) (by show (11 * (2 * (at2 - at9) - 1)) + 6 ≤ (11 * (2 * (sz - at9) + 19)); omega))
          obtain ⟨w, _⟩ := u40
          obtain ⟨hw41, h45, hO⟩ := hw41
          have h45 : sg2 + 1 ≤ 60 := h45
          obtain rfl : v42 = none := hw41
          have hO : OKP G h0 a (upd (upd (upd (upd F 2 (nI sz)) 9 (nI at2)) 10 (nI dp)) 11 (nI (sg2 + 1))) R Z (updA B 10 f2) J K2 w := hO.to rfl
          refine W.widen (k := (2 * (at2 - at9) - 1)) (n := (11 * (2 * (at2 - at9) - 1))) (by show (2 * (at2 - at9) - 1) + 0 ≤ (2 * (at2 - at9) - 1); omega) (by show (11 * (2 * (at2 - at9) - 1)) + 0 ≤ (11 * (2 * (at2 - at9) - 1)); omega) ?_
          refine W.eq (g2 := F0 m 40 ls []) rfl ?_
          refine lv_aload_n hx hb dX8_chain_40 rfl (lv_at hl 2 rfl) ?_
          refine lv_bipush (v := 40) hx hb dX8_chain_41 (by decide) ?_
          have hO : OKW G h0 a (upd (upd (upd (upd (upd (upd F 2 (nI sz)) 9 (nI at2)) 10 (nI dp)) 11 (nI (sg2 + 1))) 2 (nI sz)) 9 (nI at2)) R Z (updA B 10 f2) J K2.1 (fun q99 x99 => x99 = rep G a K2 q99) w := hO.to rfl
          obtain ⟨_, qr49, hqr50⟩ := hO.2.1 23 _ (sg_23 G h0 a _ _ _ _ _)
          refine pc_V0 (G := G) (As := [.int 40]) (rest := []) hx hb hml hown hq hE hX pX0_al hP hD hS hA hl.1 (P_sees l G h0 a (upd (upd (upd (upd F 2 (nI sz)) 9 (nI at2)) 10 (nI dp)) 11 (nI (sg2 + 1))) R Z (updA B 10 f2) J K2.1 (fun q99 x99 => x99 = rep G a K2 q99) w 40 at2 sz (by omega) (by omega) hO) (gV pw_803 pw_804 pw_805 pw_796 pw_775) hV_X8_sees qr49 5 hqr50 rfl rfl rfl (Nat.le_of_ble_eq_true rfl) dX8_chain_43 ⟨(by show (2 * (at2 - at9) - 1) + 0 ≤ (2 * (sz - at9) + 19); omega), (by show (11 * (2 * (at2 - at9) - 1)) + 0 ≤ (11 * (2 * (sz - at9) + 19)); omega)⟩ ⟨(by show 3 + 1 ≤ (40 * n + 20); omega), (by show 8 + (2 + 11) + 81 ≤ (1300 * n + 520); omega)⟩ (fun v48 u46 H locs hw47 hP hD hS => ?_)
          obtain ⟨w, r51⟩ := u46
          obtain ⟨hw47, h52, h53, hO⟩ := hw47
          have h52 : r51 ≤ 1 := h52
          have h53 : SeQ ((B 7)) sz at2 40 r51 := h53
          obtain rfl : v48 = some (.int (nI r51)) := hw47
          have hO : OKP G h0 a (upd (upd (upd (upd F 2 (nI sz)) 9 (nI at2)) 10 (nI dp)) 11 (nI (sg2 + 1))) R Z (updA B 10 f2) J K2 w := hO.to rfl
          refine W.widen (k := (2 * (at2 - at9) - 1)) (n := (11 * (2 * (at2 - at9) - 1))) (by show (2 * (at2 - at9) - 1) + 0 ≤ (2 * (at2 - at9) - 1); omega) (by show (11 * (2 * (at2 - at9) - 1)) + 0 ≤ (11 * (2 * (at2 - at9) - 1)); omega) ?_
          refine W.eq (g2 := F0 m 46 ls [.int (nI r51)]) rfl ?_
          refine lv_if_eq (tgt := 57) hx hb dX8_chain_46 (by decide) (fun c54 => ?_) (fun c54 => ?_)
          · have n55 : r51 = 0 := (nI_eq (a := r51) (b := 0) (by omega) (by omega)).mp c54
            refine lv_aload_n hx hb dX8_chain_57 rfl (lv_at hl 2 rfl) ?_
            refine lv_aload_n hx hb dX8_chain_58 rfl (lv_at hl 1 rfl) ?_
            have hO : OKP G h0 a (upd (upd (upd (upd (upd (upd (upd (upd (upd (upd F 2 (nI sz)) 9 (nI at9)) 10 (nI dp)) 11 (nI sg)) 9 (nI at2)) 11 (nI (sg2 + 1))) 2 (nI sz)) 9 (nI at2)) 10 (nI dp)) 11 (nI (sg2 + 1))) R Z (updA B 10 f2) J K2 w := hO.to rfl
            obtain ⟨_, qr59, hqr60⟩ := hO.2.1 23 _ (sg_23 G h0 a _ _ _ _ _)
            refine pn_V0 (G := G) (As := [.ref x2]) (rest := []) hx hb hml hown hq hE hX pX0_al hP hD hS hA hl.1 (P_indexed l G h0 a (upd (upd (upd (upd (upd (upd F 2 (nI sz)) 9 (nI at9)) 10 (nI dp)) 11 (nI sg)) 9 (nI at2)) 11 (nI (sg2 + 1))) R Z (updA B 10 f2) J K2 w x2 sg k2 at9 n at2 sz dp (sg2 + 1) 0 g2 (by omega) (by omega) (by omega) (by omega) hnr.1 (fun o9 h9 => absurd h9 (by omega)) hr21 hr22 (by omega) hr2.2.2.2.2.2.1 (by omega) ihe hO hl0) (gV pw_933 pw_934 pw_935 pw_796 pw_953) hV_X8_indexed qr59 5 hqr60 rfl rfl rfl (Nat.le_of_ble_eq_true rfl) dX8_chain_59 ⟨(by show (2 * (at2 - at9) - 1) + (2 * (sz - at2) + 19) ≤ (2 * (sz - at9) + 19); omega), (by show (11 * (2 * (at2 - at9) - 1)) + (11 * (2 * (sz - at2) + 19)) ≤ (11 * (2 * (sz - at9) + 19)); omega)⟩ ⟨(by show (40 * n + 16) + 1 ≤ (40 * n + 20); omega), (by show 8 + (3 + 11) + (1300 * n + 480) ≤ (1300 * n + 520); omega)⟩ (fun v58 u56 H locs hw57 hP hD hS => ?_) (fun ux ce9 q9 H9 locs9 hux hP9 hD9 hS9 hce hcv hcl => pb_out ux (ThQ.up (Thx.same (Thx.same (Thx.same (Thx.same (Thx.b (Thx.f (Thx.f Thx.rfl (by omega)) (by omega)) (by omega) (by decide)) rfl) rfl) rfl) rfl) RhX.rfl hux) hnt hlocks hce hcv hcl hP9 hD9 hS9 (by show (2 * (at2 - at9) - 1) + (2 * (sz - at2) + 19) ≤ (2 * (sz - at9) + 19); omega) (by show (11 * (2 * (at2 - at9) - 1)) + (11 * (2 * (sz - at2) + 19)) ≤ (11 * (2 * (sz - at9) + 19)); omega))
            obtain ⟨w, r61, K62, g63, at64, sg65, f66, k67⟩ := u56
            obtain ⟨hw57, h68, h69, h70, h71, h72, hO⟩ := hw57
            have h68 : NwR K2 K62 g2 g63 r61 0 k67 (5 * (20 - dp) + 3 + (sg65 - sg)) := h68
            have h69 : rS k67 = at9 ∧ rS k67 + 1 ≤ rE k67 ∧ rE k67 ≤ at64 ∧ 1 ≤ rD k67 ∧ rD k67 ≤ 9 * (20 - dp) + (sg65 - sg) + 1 := h69
            have h70 : at2 + 3 ≤ at64 ∧ at64 ≤ sz := h70
            have h71 : (sg2 + 1) ≤ sg65 ∧ sg65 ≤ 60 := h71
            have h72 : NwT ((B 7)) sz (f2) f66 K2 K62 at2 at64 := h72
            obtain rfl : v58 = some (.ref r61) := hw57
            have hO : OKP G h0 a (upd (upd (upd (upd F 2 (nI sz)) 9 (nI at64)) 10 (nI dp)) 11 (nI sg65)) R Z (updA B 10 f66) J K62 w := hO.to rfl
            refine W.widen (k := ((2 * (at2 - at9) - 1) + (2 * (at64 - at2) - 4))) (n := ((11 * (2 * (at2 - at9) - 1)) + (11 * (2 * (at64 - at2) - 4)))) (by show (2 * (at2 - at9) - 1) + (2 * (at64 - at2) - 4) ≤ ((2 * (at2 - at9) - 1) + (2 * (at64 - at2) - 4)); omega) (by show (11 * (2 * (at2 - at9) - 1)) + (11 * (2 * (at64 - at2) - 4)) ≤ ((11 * (2 * (at2 - at9) - 1)) + (11 * (2 * (at64 - at2) - 4))); omega) ?_
            refine W.eq (g2 := F0 m 62 ls [.ref r61]) rfl ?_
            have htk73 : NwT (B 7) sz (B 10) f66 K K62 at9 at64 := (NwT.call htki h72 (by omega))
            refine lv_astore_n (lv' := [(1, .ref r61), (2, .int (nI i2)), (0, .ref (a 3))]) hx hb dX8_chain_62 rfl hl (by decide) rfl (fun ls hl => ?_)
            refine lv_iinc (v := (nI (i2 + 1))) (lv' := [(2, .int (nI (i2 + 1))), (1, .ref r61), (0, .ref (a 3))]) hx hb dX8_chain_63 hl (k := 1) rfl (nI_1 i2) (by decide) rfl (fun ls hl => ?_)
            refine lv_goto (tgt := 7) hx hb dX8_chain_66 (by decide) ?_
            refine W.widen (k := (2 * (at64 - at9) - 1)) (n := (11 * (2 * (at64 - at9) - 1))) (by show ((2 * (at2 - at9) - 1) + (2 * (at64 - at2) - 4)) ≤ _; omega) (by show ((11 * (2 * (at2 - at9) - 1)) + (11 * (2 * (at64 - at2) - 4))) ≤ _; omega) ?_
            have hO : OKP G h0 a (upd (upd (upd (upd F 2 (nI sz)) 9 (nI at64)) 10 (nI dp)) 11 (nI sg65)) R Z (updA B 10 f66) J K62 w := hO.to rfl
            exact ih_i (i2 + 1) at64 sg65 f66 K62 g63 r61 k67 _ _ _ _ (by omega) (by omega) (by omega) (by omega) (by omega) (NwS.toR (NwR.toS hnr) h68) (NwT.le htk73 (by omega)) hP hD hS hO (lv_sub hl [0, 1, 2] rfl)
          · have n74 : ¬ (r51 = 0) := fun h9 => c54 ((nI_eq (a := r51) (b := 0) (by omega) (by omega)).mpr h9)
            refine lv_aload_n hx hb dX8_chain_49 rfl (lv_at hl 2 rfl) ?_
            refine lv_aload_n hx hb dX8_chain_50 rfl (lv_at hl 1 rfl) ?_
            have hO : OKP G h0 a (upd (upd (upd (upd (upd (upd (upd (upd (upd (upd F 2 (nI sz)) 9 (nI at9)) 10 (nI dp)) 11 (nI sg)) 9 (nI at2)) 11 (nI (sg2 + 1))) 2 (nI sz)) 9 (nI at2)) 10 (nI dp)) 11 (nI (sg2 + 1))) R Z (updA B 10 f2) J K2 w := hO.to rfl
            obtain ⟨_, qr78, hqr79⟩ := hO.2.1 23 _ (sg_23 G h0 a _ _ _ _ _)
            refine pn_V0 (G := G) (As := [.ref x2]) (rest := []) hx hb hml hown hq hE hX pX0_al hP hD hS hA hl.1 (P_dotted l G h0 a (upd (upd (upd (upd (upd (upd F 2 (nI sz)) 9 (nI at9)) 10 (nI dp)) 11 (nI sg)) 9 (nI at2)) 11 (nI (sg2 + 1))) R Z (updA B 10 f2) J K2 w x2 sg k2 at9 n at2 sz dp (sg2 + 1) 0 g2 (by omega) (by omega) (by omega) (by omega) hnr.1 (fun o9 h9 => absurd h9 (by omega)) hr21 hr22 (by omega) hr2.2.2.2.2.2.1 (by omega) ihe hO hl0) (gV pw_930 pw_931 pw_932 pw_796 pw_936) hV_X8_dotted qr78 5 hqr79 rfl rfl rfl (Nat.le_of_ble_eq_true rfl) dX8_chain_51 ⟨(by show (2 * (at2 - at9) - 1) + (2 * (sz - at2) + 19) ≤ (2 * (sz - at9) + 19); omega), (by show (11 * (2 * (at2 - at9) - 1)) + (11 * (2 * (sz - at2) + 19)) ≤ (11 * (2 * (sz - at9) + 19)); omega)⟩ ⟨(by show (40 * n + 16) + 1 ≤ (40 * n + 20); omega), (by show 8 + (6 + 11) + (1300 * n + 480) ≤ (1300 * n + 520); omega)⟩ (fun v77 u75 H locs hw76 hP hD hS => ?_) (fun ux ce9 q9 H9 locs9 hux hP9 hD9 hS9 hce hcv hcl => pb_out ux (ThQ.up (Thx.same (Thx.same (Thx.same (Thx.same (Thx.b (Thx.f (Thx.f Thx.rfl (by omega)) (by omega)) (by omega) (by decide)) rfl) rfl) rfl) rfl) RhX.rfl hux) hnt hlocks hce hcv hcl hP9 hD9 hS9 (by show (2 * (at2 - at9) - 1) + (2 * (sz - at2) + 19) ≤ (2 * (sz - at9) + 19); omega) (by show (11 * (2 * (at2 - at9) - 1)) + (11 * (2 * (sz - at2) + 19)) ≤ (11 * (2 * (sz - at9) + 19)); omega))
            obtain ⟨w, r80, K81, g82, at83, sg84, f85, k86⟩ := u75
            obtain ⟨hw76, h87, h88, h89, h90, h91, hO⟩ := hw76
            have h87 : NwR K2 K81 g2 g82 r80 0 k86 ((5 * (20 - dp) + 3 + (sg84 - sg))) := h87
            have h88 : rS k86 = at9 ∧ rS k86 + 1 ≤ rE k86 ∧ rE k86 ≤ at83 ∧ 1 ≤ rD k86 ∧ rD k86 ≤ 9 * (20 - dp) + (sg84 - sg) + 1 := h88
            have h89 : at2 + 2 ≤ at83 ∧ at83 ≤ sz := h89
            have h90 : (sg2 + 1) ≤ sg84 ∧ sg84 ≤ 60 := h90
            have h91 : NwT ((B 7)) sz (f2) f85 K2 K81 at2 at83 := h91
            obtain rfl : v77 = some (.ref r80) := hw76
            have hO : OKP G h0 a (upd (upd (upd (upd F 2 (nI sz)) 9 (nI at83)) 10 (nI dp)) 11 (nI sg84)) R Z (updA B 10 f85) J K81 w := hO.to rfl
            refine W.widen (k := ((2 * (at2 - at9) - 1) + (2 * (at83 - at2) - 3))) (n := ((11 * (2 * (at2 - at9) - 1)) + (11 * (2 * (at83 - at2) - 3)))) (by show (2 * (at2 - at9) - 1) + (2 * (at83 - at2) - 3) ≤ ((2 * (at2 - at9) - 1) + (2 * (at83 - at2) - 3)); omega) (by show (11 * (2 * (at2 - at9) - 1)) + (11 * (2 * (at83 - at2) - 3)) ≤ ((11 * (2 * (at2 - at9) - 1)) + (11 * (2 * (at83 - at2) - 3))); omega) ?_
            refine W.eq (g2 := F0 m 54 ls [.ref r80]) rfl ?_
            have htk92 : NwT (B 7) sz (B 10) f85 K K81 at9 at83 := (NwT.call htki h91 (by omega))
            refine lv_goto (tgt := 62) hx hb dX8_chain_54 (by decide) ?_
            refine lv_astore_n (lv' := [(1, .ref r80), (2, .int (nI i2)), (0, .ref (a 3))]) hx hb dX8_chain_62 rfl hl (by decide) rfl (fun ls hl => ?_)
            refine lv_iinc (v := (nI (i2 + 1))) (lv' := [(2, .int (nI (i2 + 1))), (1, .ref r80), (0, .ref (a 3))]) hx hb dX8_chain_63 hl (k := 1) rfl (nI_1 i2) (by decide) rfl (fun ls hl => ?_)
            refine lv_goto (tgt := 7) hx hb dX8_chain_66 (by decide) ?_
            refine W.widen (k := (2 * (at83 - at9) - 1)) (n := (11 * (2 * (at83 - at9) - 1))) (by show ((2 * (at2 - at9) - 1) + (2 * (at83 - at2) - 3)) ≤ _; omega) (by show ((11 * (2 * (at2 - at9) - 1)) + (11 * (2 * (at83 - at2) - 3))) ≤ _; omega) ?_
            have hO : OKP G h0 a (upd (upd (upd (upd F 2 (nI sz)) 9 (nI at83)) 10 (nI dp)) 11 (nI sg84)) R Z (updA B 10 f85) J K81 w := hO.to rfl
            exact ih_i (i2 + 1) at83 sg84 f85 K81 g82 r80 k86 _ _ _ _ (by omega) (by omega) (by omega) (by omega) (by omega) (NwS.toR (NwR.toS hnr) h87) (NwT.le htk92 (by omega)) hP hD hS hO (lv_sub hl [0, 1, 2] rfl)
        · have n93 : r35 = 0 := (nI_eq (a := r35) (b := 0) (by omega) (by omega)).mp c38
          refine lv_aload_n hx hb dX8_chain_27 rfl (lv_at hl 2 rfl) ?_
          refine lv_bipush (v := 36) hx hb dX8_chain_28 (by decide) ?_
          have hO : OKW G h0 a (upd (upd (upd (upd (upd (upd F 2 (nI sz)) 9 (nI at2)) 10 (nI dp)) 11 (nI sg2)) 2 (nI sz)) 9 (nI at2)) R Z (updA B 10 f2) J K2.1 (fun q99 x99 => x99 = rep G a K2 q99) w := hO.to rfl
          obtain ⟨_, qr97, hqr98⟩ := hO.2.1 23 _ (sg_23 G h0 a _ _ _ _ _)
          refine pc_V0 (G := G) (As := [.int 36]) (rest := []) hx hb hml hown hq hE hX pX0_al hP hD hS hA hl.1 (P_sees l G h0 a (upd (upd (upd (upd F 2 (nI sz)) 9 (nI at2)) 10 (nI dp)) 11 (nI sg2)) R Z (updA B 10 f2) J K2.1 (fun q99 x99 => x99 = rep G a K2 q99) w 36 at2 sz (by omega) (by omega) hO) (gV pw_803 pw_804 pw_805 pw_796 pw_775) hV_X8_sees qr97 5 hqr98 rfl rfl rfl (Nat.le_of_ble_eq_true rfl) dX8_chain_30 ⟨(by show (2 * (at2 - at9) - 1) + 0 ≤ (2 * (sz - at9) + 19); omega), (by show (11 * (2 * (at2 - at9) - 1)) + 0 ≤ (11 * (2 * (sz - at9) + 19)); omega)⟩ ⟨(by show 3 + 1 ≤ (40 * n + 20); omega), (by show 8 + (2 + 11) + 81 ≤ (1300 * n + 520); omega)⟩ (fun v96 u94 H locs hw95 hP hD hS => ?_)
          obtain ⟨w, r99⟩ := u94
          obtain ⟨hw95, h100, h101, hO⟩ := hw95
          have h100 : r99 ≤ 1 := h100
          have h101 : SeQ ((B 7)) sz at2 36 r99 := h101
          obtain rfl : v96 = some (.int (nI r99)) := hw95
          have hO : OKP G h0 a (upd (upd (upd (upd F 2 (nI sz)) 9 (nI at2)) 10 (nI dp)) 11 (nI sg2)) R Z (updA B 10 f2) J K2 w := hO.to rfl
          refine W.widen (k := (2 * (at2 - at9) - 1)) (n := (11 * (2 * (at2 - at9) - 1))) (by show (2 * (at2 - at9) - 1) + 0 ≤ (2 * (at2 - at9) - 1); omega) (by show (11 * (2 * (at2 - at9) - 1)) + 0 ≤ (11 * (2 * (at2 - at9) - 1)); omega) ?_
          refine W.eq (g2 := F0 m 33 ls [.int (nI r99)]) rfl ?_
          refine lv_if_eq (tgt := 69) hx hb dX8_chain_33 (by decide) (fun c102 => ?_) (fun c102 => ?_)
          · have n103 : r99 = 0 := (nI_eq (a := r99) (b := 0) (by omega) (by omega)).mp c102
            refine lv_aload_n hx hb dX8_chain_69 rfl (lv_at hl 1 rfl) ?_
            refine W_size (fun hz1 hz2 => ?_)
            refine vx_ret ?_
            have how9 := NwR.own (O2 := O) hnr how
            have hz104 : NwR K K2 g (gset g2 x2 (g2 0 x2) O k2) x2 O k2 ((5 * (20 - dp) + 3 + (sg2 - sg))) := how9
            have hz105 : at9 ≤ rS k2 ∧ rS k2 + 1 ≤ rE k2 ∧ rE k2 ≤ at2 ∧ 1 ≤ rD k2 ∧ rD k2 ≤ 9 * (20 - dp) + (sg2 - sg) + 1 := (by omega)
            have hz106 : at9 + 1 ≤ at2 ∧ at2 ≤ sz := (by omega)
            have hz107 : sg ≤ sg2 ∧ sg2 ≤ 60 := (by omega)
            have hz108 : ¬ tkN (B 7) sz 67 (nI at9) = 37 := h18
            have hz109 : NwT (B 7) sz (B 10) f2 K K2 at9 at2 := (NwT.le htki (by omega))
            have hO : OKP G h0 a (upd (upd (upd (upd F 2 (nI sz)) 9 (nI at2)) 10 (nI dp)) 11 (nI sg2)) R Z (updA B 10 f2) J K2 w := hO.to rfl
            refine W.widen (k := (2 * (sz - at9) + 19)) (n := (11 * (2 * (sz - at9) + 19))) (by omega) (by omega) ?_
            have hzz1 : H.size ≤ s.heap.size + ((2 * (at2 - at9) - 1)) := (by have z : (2 * (at2 - at9) - 1) ≤ (2 * (at2 - at9) - 1) := (by omega); omega)
            have hzz2 : hSl H ≤ hSl s.heap + ((11 * (2 * (at2 - at9) - 1))) := (by have z : (11 * (2 * (at2 - at9) - 1)) ≤ (11 * (2 * (at2 - at9) - 1)) := (by omega); omega)
            exact W.aret (v := .ref x2) hx hb hr (Or.inl ⟨_, rfl⟩) (Or.inr ⟨_, rfl⟩) (fun t99 ht99 hW99 => ⟨⟨_, (w, (x2, K2, (gset g2 x2 (g2 0 x2) O k2), at2, sg2, f2, k2)), rfl, ⟨rfl, hz104, hz105, hz106, hz107, hz108, hz109, hO⟩, by rw [ht99]; exact hP, hD, by rw [ht99]; exact hzz1, by rw [ht99]; exact hzz2⟩, hS.F ht99⟩) hS.2.2 dX8_chain_70
          · have n110 : ¬ (r99 = 0) := fun h9 => c102 ((nI_eq (a := r99) (b := 0) (by omega) (by omega)).mpr h9)
            refine lv_aload_n hx hb dX8_chain_36 rfl (lv_at hl 2 rfl) ?_
            have hO : OKW G h0 a (upd (upd (upd (upd (upd (upd (upd (upd (upd F 2 (nI sz)) 9 (nI at9)) 10 (nI dp)) 11 (nI sg)) 9 (nI at2)) 11 (nI sg2)) 2 (nI sz)) 9 (nI at2)) 11 (nI sg2)) R Z (updA B 10 f2) J K2.1 (fun q99 x99 => x99 = rep G a K2 q99) w := hO.to rfl
            obtain ⟨_, qr114, hqr115⟩ := hO.2.1 23 _ (sg_23 G h0 a _ _ _ _ _)
            refine pn_V0 (G := G) (As := []) (rest := []) hx hb hml hown hq hE hX pX0_al hP hD hS hA hl.1 (P_countSign l G h0 a (upd (upd (upd (upd (upd (upd F 2 (nI sz)) 9 (nI at9)) 10 (nI dp)) 11 (nI sg)) 9 (nI at2)) 11 (nI sg2)) R Z (updA B 10 f2) J K2.1 (fun q99 x99 => x99 = rep G a K2 q99) w sg2 at2 sz (by omega) (by omega) (by omega) hO hl0) (gV pw_927 pw_928 pw_929 pw_796 pw_903) hV_X8_countSign qr114 5 hqr115 rfl rfl rfl (Nat.le_of_ble_eq_true rfl) dX8_chain_37 ⟨(by show (2 * (at2 - at9) - 1) + 1 ≤ (2 * (sz - at9) + 19); omega), (by show (11 * (2 * (at2 - at9) - 1)) + 6 ≤ (11 * (2 * (sz - at9) + 19)); omega)⟩ ⟨(by show 7 + 1 ≤ (40 * n + 20); omega), (by show 8 + (1 + 11) + 122 ≤ (1300 * n + 520); omega)⟩ (fun v113 u111 H locs hw112 hP hD hS => ?_) (fun ux ce9 q9 H9 locs9 hux hP9 hD9 hS9 hce hcv hcl => pb_out ux (ThQ.up (Thx.same (Thx.same (Thx.same (Thx.b (Thx.f (Thx.f Thx.rfl (by omega)) (by omega)) (by omega) (by decide)) rfl) rfl) rfl) RhX.rfl hux) hnt hlocks hce hcv hcl hP9 hD9 hS9 (by show (2 * (at2 - at9) - 1) + 1 ≤ (2 * (sz - at9) + 19); omega) (by show (11 * (2 * (at2 - at9) - 1)) + 6 ≤ (11 * (2 * (sz - at9) + 19)); omega))
            obtain ⟨w, _⟩ := u111
            obtain ⟨hw112, h116, hO⟩ := hw112
            have h116 : sg2 + 1 ≤ 60 := h116
            obtain rfl : v113 = none := hw112
            have hO : OKP G h0 a (upd (upd (upd (upd F 2 (nI sz)) 9 (nI at2)) 10 (nI dp)) 11 (nI (sg2 + 1))) R Z (updA B 10 f2) J K2 w := hO.to rfl
            refine W.widen (k := (2 * (at2 - at9) - 1)) (n := (11 * (2 * (at2 - at9) - 1))) (by show (2 * (at2 - at9) - 1) + 0 ≤ (2 * (at2 - at9) - 1); omega) (by show (11 * (2 * (at2 - at9) - 1)) + 0 ≤ (11 * (2 * (at2 - at9) - 1)); omega) ?_
            refine W.eq (g2 := F0 m 40 ls []) rfl ?_
            refine lv_aload_n hx hb dX8_chain_40 rfl (lv_at hl 2 rfl) ?_
            refine lv_bipush (v := 40) hx hb dX8_chain_41 (by decide) ?_
            have hO : OKW G h0 a (upd (upd (upd (upd (upd (upd F 2 (nI sz)) 9 (nI at2)) 10 (nI dp)) 11 (nI (sg2 + 1))) 2 (nI sz)) 9 (nI at2)) R Z (updA B 10 f2) J K2.1 (fun q99 x99 => x99 = rep G a K2 q99) w := hO.to rfl
            obtain ⟨_, qr120, hqr121⟩ := hO.2.1 23 _ (sg_23 G h0 a _ _ _ _ _)
            refine pc_V0 (G := G) (As := [.int 40]) (rest := []) hx hb hml hown hq hE hX pX0_al hP hD hS hA hl.1 (P_sees l G h0 a (upd (upd (upd (upd F 2 (nI sz)) 9 (nI at2)) 10 (nI dp)) 11 (nI (sg2 + 1))) R Z (updA B 10 f2) J K2.1 (fun q99 x99 => x99 = rep G a K2 q99) w 40 at2 sz (by omega) (by omega) hO) (gV pw_803 pw_804 pw_805 pw_796 pw_775) hV_X8_sees qr120 5 hqr121 rfl rfl rfl (Nat.le_of_ble_eq_true rfl) dX8_chain_43 ⟨(by show (2 * (at2 - at9) - 1) + 0 ≤ (2 * (sz - at9) + 19); omega), (by show (11 * (2 * (at2 - at9) - 1)) + 0 ≤ (11 * (2 * (sz - at9) + 19)); omega)⟩ ⟨(by show 3 + 1 ≤ (40 * n + 20); omega), (by show 8 + (2 + 11) + 81 ≤ (1300 * n + 520); omega)⟩ (fun v119 u117 H locs hw118 hP hD hS => ?_)
            obtain ⟨w, r122⟩ := u117
            obtain ⟨hw118, h123, h124, hO⟩ := hw118
            have h123 : r122 ≤ 1 := h123
            have h124 : SeQ ((B 7)) sz at2 40 r122 := h124
            obtain rfl : v119 = some (.int (nI r122)) := hw118
            have hO : OKP G h0 a (upd (upd (upd (upd F 2 (nI sz)) 9 (nI at2)) 10 (nI dp)) 11 (nI (sg2 + 1))) R Z (updA B 10 f2) J K2 w := hO.to rfl
            refine W.widen (k := (2 * (at2 - at9) - 1)) (n := (11 * (2 * (at2 - at9) - 1))) (by show (2 * (at2 - at9) - 1) + 0 ≤ (2 * (at2 - at9) - 1); omega) (by show (11 * (2 * (at2 - at9) - 1)) + 0 ≤ (11 * (2 * (at2 - at9) - 1)); omega) ?_
            refine W.eq (g2 := F0 m 46 ls [.int (nI r122)]) rfl ?_
            refine lv_if_eq (tgt := 57) hx hb dX8_chain_46 (by decide) (fun c125 => ?_) (fun c125 => ?_)
            · have n126 : r122 = 0 := (nI_eq (a := r122) (b := 0) (by omega) (by omega)).mp c125
              refine lv_aload_n hx hb dX8_chain_57 rfl (lv_at hl 2 rfl) ?_
              refine lv_aload_n hx hb dX8_chain_58 rfl (lv_at hl 1 rfl) ?_
              have hO : OKP G h0 a (upd (upd (upd (upd (upd (upd (upd (upd (upd (upd F 2 (nI sz)) 9 (nI at9)) 10 (nI dp)) 11 (nI sg)) 9 (nI at2)) 11 (nI (sg2 + 1))) 2 (nI sz)) 9 (nI at2)) 10 (nI dp)) 11 (nI (sg2 + 1))) R Z (updA B 10 f2) J K2 w := hO.to rfl
              obtain ⟨_, qr130, hqr131⟩ := hO.2.1 23 _ (sg_23 G h0 a _ _ _ _ _)
              refine pn_V0 (G := G) (As := [.ref x2]) (rest := []) hx hb hml hown hq hE hX pX0_al hP hD hS hA hl.1 (P_indexed l G h0 a (upd (upd (upd (upd (upd (upd F 2 (nI sz)) 9 (nI at9)) 10 (nI dp)) 11 (nI sg)) 9 (nI at2)) 11 (nI (sg2 + 1))) R Z (updA B 10 f2) J K2 w x2 sg k2 at9 n at2 sz dp (sg2 + 1) 0 g2 (by omega) (by omega) (by omega) (by omega) hnr.1 (fun o9 h9 => absurd h9 (by omega)) hr21 hr22 (by omega) hr2.2.2.2.2.2.1 (by omega) ihe hO hl0) (gV pw_933 pw_934 pw_935 pw_796 pw_953) hV_X8_indexed qr130 5 hqr131 rfl rfl rfl (Nat.le_of_ble_eq_true rfl) dX8_chain_59 ⟨(by show (2 * (at2 - at9) - 1) + (2 * (sz - at2) + 19) ≤ (2 * (sz - at9) + 19); omega), (by show (11 * (2 * (at2 - at9) - 1)) + (11 * (2 * (sz - at2) + 19)) ≤ (11 * (2 * (sz - at9) + 19)); omega)⟩ ⟨(by show (40 * n + 16) + 1 ≤ (40 * n + 20); omega), (by show 8 + (3 + 11) + (1300 * n + 480) ≤ (1300 * n + 520); omega)⟩ (fun v129 u127 H locs hw128 hP hD hS => ?_) (fun ux ce9 q9 H9 locs9 hux hP9 hD9 hS9 hce hcv hcl => pb_out ux (ThQ.up (Thx.same (Thx.same (Thx.same (Thx.same (Thx.b (Thx.f (Thx.f Thx.rfl (by omega)) (by omega)) (by omega) (by decide)) rfl) rfl) rfl) rfl) RhX.rfl hux) hnt hlocks hce hcv hcl hP9 hD9 hS9 (by show (2 * (at2 - at9) - 1) + (2 * (sz - at2) + 19) ≤ (2 * (sz - at9) + 19); omega) (by show (11 * (2 * (at2 - at9) - 1)) + (11 * (2 * (sz - at2) + 19)) ≤ (11 * (2 * (sz - at9) + 19)); omega))
              obtain ⟨w, r132, K133, g134, at135, sg136, f137, k138⟩ := u127
              obtain ⟨hw128, h139, h140, h141, h142, h143, hO⟩ := hw128
              have h139 : NwR K2 K133 g2 g134 r132 0 k138 (5 * (20 - dp) + 3 + (sg136 - sg)) := h139
              have h140 : rS k138 = at9 ∧ rS k138 + 1 ≤ rE k138 ∧ rE k138 ≤ at135 ∧ 1 ≤ rD k138 ∧ rD k138 ≤ 9 * (20 - dp) + (sg136 - sg) + 1 := h140
              have h141 : at2 + 3 ≤ at135 ∧ at135 ≤ sz := h141
              have h142 : (sg2 + 1) ≤ sg136 ∧ sg136 ≤ 60 := h142
              have h143 : NwT ((B 7)) sz (f2) f137 K2 K133 at2 at135 := h143
              obtain rfl : v129 = some (.ref r132) := hw128
              have hO : OKP G h0 a (upd (upd (upd (upd F 2 (nI sz)) 9 (nI at135)) 10 (nI dp)) 11 (nI sg136)) R Z (updA B 10 f137) J K133 w := hO.to rfl
              refine W.widen (k := ((2 * (at2 - at9) - 1) + (2 * (at135 - at2) - 4))) (n := ((11 * (2 * (at2 - at9) - 1)) + (11 * (2 * (at135 - at2) - 4)))) (by show (2 * (at2 - at9) - 1) + (2 * (at135 - at2) - 4) ≤ ((2 * (at2 - at9) - 1) + (2 * (at135 - at2) - 4)); omega) (by show (11 * (2 * (at2 - at9) - 1)) + (11 * (2 * (at135 - at2) - 4)) ≤ ((11 * (2 * (at2 - at9) - 1)) + (11 * (2 * (at135 - at2) - 4))); omega) ?_
              refine W.eq (g2 := F0 m 62 ls [.ref r132]) rfl ?_
              have htk144 : NwT (B 7) sz (B 10) f137 K K133 at9 at135 := (NwT.call htki h143 (by omega))
              refine lv_astore_n (lv' := [(1, .ref r132), (2, .int (nI i2)), (0, .ref (a 3))]) hx hb dX8_chain_62 rfl hl (by decide) rfl (fun ls hl => ?_)
              refine lv_iinc (v := (nI (i2 + 1))) (lv' := [(2, .int (nI (i2 + 1))), (1, .ref r132), (0, .ref (a 3))]) hx hb dX8_chain_63 hl (k := 1) rfl (nI_1 i2) (by decide) rfl (fun ls hl => ?_)
              refine lv_goto (tgt := 7) hx hb dX8_chain_66 (by decide) ?_
              refine W.widen (k := (2 * (at135 - at9) - 1)) (n := (11 * (2 * (at135 - at9) - 1))) (by show ((2 * (at2 - at9) - 1) + (2 * (at135 - at2) - 4)) ≤ _; omega) (by show ((11 * (2 * (at2 - at9) - 1)) + (11 * (2 * (at135 - at2) - 4))) ≤ _; omega) ?_
              have hO : OKP G h0 a (upd (upd (upd (upd F 2 (nI sz)) 9 (nI at135)) 10 (nI dp)) 11 (nI sg136)) R Z (updA B 10 f137) J K133 w := hO.to rfl
              exact ih_i (i2 + 1) at135 sg136 f137 K133 g134 r132 k138 _ _ _ _ (by omega) (by omega) (by omega) (by omega) (by omega) (NwS.toR (NwR.toS hnr) h139) (NwT.le htk144 (by omega)) hP hD hS hO (lv_sub hl [0, 1, 2] rfl)
            · have n145 : ¬ (r122 = 0) := fun h9 => c125 ((nI_eq (a := r122) (b := 0) (by omega) (by omega)).mpr h9)
              refine lv_aload_n hx hb dX8_chain_49 rfl (lv_at hl 2 rfl) ?_
              refine lv_aload_n hx hb dX8_chain_50 rfl (lv_at hl 1 rfl) ?_
              have hO : OKP G h0 a (upd (upd (upd (upd (upd (upd (upd (upd (upd (upd F 2 (nI sz)) 9 (nI at9)) 10 (nI dp)) 11 (nI sg)) 9 (nI at2)) 11 (nI (sg2 + 1))) 2 (nI sz)) 9 (nI at2)) 10 (nI dp)) 11 (nI (sg2 + 1))) R Z (updA B 10 f2) J K2 w := hO.to rfl
              obtain ⟨_, qr149, hqr150⟩ := hO.2.1 23 _ (sg_23 G h0 a _ _ _ _ _)
              refine pn_V0 (G := G) (As := [.ref x2]) (rest := []) hx hb hml hown hq hE hX pX0_al hP hD hS hA hl.1 (P_dotted l G h0 a (upd (upd (upd (upd (upd (upd F 2 (nI sz)) 9 (nI at9)) 10 (nI dp)) 11 (nI sg)) 9 (nI at2)) 11 (nI (sg2 + 1))) R Z (updA B 10 f2) J K2 w x2 sg k2 at9 n at2 sz dp (sg2 + 1) 0 g2 (by omega) (by omega) (by omega) (by omega) hnr.1 (fun o9 h9 => absurd h9 (by omega)) hr21 hr22 (by omega) hr2.2.2.2.2.2.1 (by omega) ihe hO hl0) (gV pw_930 pw_931 pw_932 pw_796 pw_936) hV_X8_dotted qr149 5 hqr150 rfl rfl rfl (Nat.le_of_ble_eq_true rfl) dX8_chain_51 ⟨(by show (2 * (at2 - at9) - 1) + (2 * (sz - at2) + 19) ≤ (2 * (sz - at9) + 19); omega), (by show (11 * (2 * (at2 - at9) - 1)) + (11 * (2 * (sz - at2) + 19)) ≤ (11 * (2 * (sz - at9) + 19)); omega)⟩ ⟨(by show (40 * n + 16) + 1 ≤ (40 * n + 20); omega), (by show 8 + (6 + 11) + (1300 * n + 480) ≤ (1300 * n + 520); omega)⟩ (fun v148 u146 H locs hw147 hP hD hS => ?_) (fun ux ce9 q9 H9 locs9 hux hP9 hD9 hS9 hce hcv hcl => pb_out ux (ThQ.up (Thx.same (Thx.same (Thx.same (Thx.same (Thx.b (Thx.f (Thx.f Thx.rfl (by omega)) (by omega)) (by omega) (by decide)) rfl) rfl) rfl) rfl) RhX.rfl hux) hnt hlocks hce hcv hcl hP9 hD9 hS9 (by show (2 * (at2 - at9) - 1) + (2 * (sz - at2) + 19) ≤ (2 * (sz - at9) + 19); omega) (by show (11 * (2 * (at2 - at9) - 1)) + (11 * (2 * (sz - at2) + 19)) ≤ (11 * (2 * (sz - at9) + 19)); omega))
              obtain ⟨w, r151, K152, g153, at154, sg155, f156, k157⟩ := u146
              obtain ⟨hw147, h158, h159, h160, h161, h162, hO⟩ := hw147
              have h158 : NwR K2 K152 g2 g153 r151 0 k157 ((5 * (20 - dp) + 3 + (sg155 - sg))) := h158
              have h159 : rS k157 = at9 ∧ rS k157 + 1 ≤ rE k157 ∧ rE k157 ≤ at154 ∧ 1 ≤ rD k157 ∧ rD k157 ≤ 9 * (20 - dp) + (sg155 - sg) + 1 := h159
              have h160 : at2 + 2 ≤ at154 ∧ at154 ≤ sz := h160
              have h161 : (sg2 + 1) ≤ sg155 ∧ sg155 ≤ 60 := h161
              have h162 : NwT ((B 7)) sz (f2) f156 K2 K152 at2 at154 := h162
              obtain rfl : v148 = some (.ref r151) := hw147
              have hO : OKP G h0 a (upd (upd (upd (upd F 2 (nI sz)) 9 (nI at154)) 10 (nI dp)) 11 (nI sg155)) R Z (updA B 10 f156) J K152 w := hO.to rfl
              refine W.widen (k := ((2 * (at2 - at9) - 1) + (2 * (at154 - at2) - 3))) (n := ((11 * (2 * (at2 - at9) - 1)) + (11 * (2 * (at154 - at2) - 3)))) (by show (2 * (at2 - at9) - 1) + (2 * (at154 - at2) - 3) ≤ ((2 * (at2 - at9) - 1) + (2 * (at154 - at2) - 3)); omega) (by show (11 * (2 * (at2 - at9) - 1)) + (11 * (2 * (at154 - at2) - 3)) ≤ ((11 * (2 * (at2 - at9) - 1)) + (11 * (2 * (at154 - at2) - 3))); omega) ?_
              refine W.eq (g2 := F0 m 54 ls [.ref r151]) rfl ?_
              have htk163 : NwT (B 7) sz (B 10) f156 K K152 at9 at154 := (NwT.call htki h162 (by omega))
              refine lv_goto (tgt := 62) hx hb dX8_chain_54 (by decide) ?_
              refine lv_astore_n (lv' := [(1, .ref r151), (2, .int (nI i2)), (0, .ref (a 3))]) hx hb dX8_chain_62 rfl hl (by decide) rfl (fun ls hl => ?_)
              refine lv_iinc (v := (nI (i2 + 1))) (lv' := [(2, .int (nI (i2 + 1))), (1, .ref r151), (0, .ref (a 3))]) hx hb dX8_chain_63 hl (k := 1) rfl (nI_1 i2) (by decide) rfl (fun ls hl => ?_)
              refine lv_goto (tgt := 7) hx hb dX8_chain_66 (by decide) ?_
              refine W.widen (k := (2 * (at154 - at9) - 1)) (n := (11 * (2 * (at154 - at9) - 1))) (by show ((2 * (at2 - at9) - 1) + (2 * (at154 - at2) - 3)) ≤ _; omega) (by show ((11 * (2 * (at2 - at9) - 1)) + (11 * (2 * (at154 - at2) - 3))) ≤ _; omega) ?_
              have hO : OKP G h0 a (upd (upd (upd (upd F 2 (nI sz)) 9 (nI at154)) 10 (nI dp)) 11 (nI sg155)) R Z (updA B 10 f156) J K152 w := hO.to rfl
              exact ih_i (i2 + 1) at154 sg155 f156 K152 g153 r151 k157 _ _ _ _ (by omega) (by omega) (by omega) (by omega) (by omega) (NwS.toR (NwR.toS hnr) h158) (NwT.le htk163 (by omega)) hP hD hS hO (lv_sub hl [0, 1, 2] rfl)
  refine W.widen (k := (2 * (at10 - at9) - 1)) (n := (11 * (2 * (at10 - at9) - 1))) (by show (2 * (at10 - at9) - 1) ≤ _; omega) (by show (11 * (2 * (at10 - at9) - 1)) ≤ _; omega) ?_
  have hO : OKP G h0 a (upd (upd (upd (upd F 2 (nI sz)) 9 (nI at10)) 10 (nI dp)) 11 (nI sg11)) R Z (updA B 10 f12) J K7 w := hO.to rfl
  exact loop_i (sz + 1) 0 at10 sg11 f12 K7 g8 r6 k13 _ _ _ _ (by omega) (by omega) (by omega) (by omega) (by omega) hnr0 (NwT.le htk20 (by omega)) hP hD hS hO (lv_sub hl [0, 1, 2] rfl)
