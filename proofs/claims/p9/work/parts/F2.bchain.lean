theorem NwR.toS {K K1 : PK} {g g1 : Nat → Nat → Nat} {r k L : Nat} (h : NwR K K1 g g1 r 0 k L) : NwS K K1 g g1 := ⟨h.1, h.2.1, fun x hx hn => ⟨(h.2.2.2 x hx hn).1, fun o ho => by
  by_cases z : x = r
  · subst z; rw [h.2.2.1.2.2.2.2.1] at ho; omega
  · exact (h.2.2.2 x hx hn).2 z o ho⟩⟩
theorem NwS.toR {K K1 K2 : PK} {g g1 g2 : Nat → Nat → Nat} {r k L : Nat} (h : NwS K K1 g g1) (h2 : NwR K1 K2 g1 g2 r 0 k L) : NwR K K2 g g2 r 0 k L := by
  have h3 := NwS.call h h2 (fun o ho => absurd ho (by omega))
  exact ⟨h3.1, h3.2.1, ⟨old_T h.2.1 h2.2.2.1.1, h2.2.2.1.2⟩, fun x hx hn => ⟨(h3.2.2 x hx hn).1, fun _ => (h3.2.2 x hx hn).2⟩⟩
theorem dX8_chain_0 : decode cX8_chain 0 = .ok (.aload_n 0, 1) := by decide +kernel
theorem dX8_chain_1 : decode cX8_chain 1 = .ok (.invokevirtual 266, 3) := by decide +kernel
theorem dX8_chain_4 : decode cX8_chain 4 = .ok (.astore_n 1, 1) := by decide +kernel
theorem dX8_chain_5 : decode cX8_chain 5 = .ok (.iconst 0, 1) := by decide +kernel
theorem dX8_chain_6 : decode cX8_chain 6 = .ok (.istore_n 2, 1) := by decide +kernel
theorem dX8_chain_7 : decode cX8_chain 7 = .ok (.iload_n 2, 1) := by decide +kernel
theorem dX8_chain_8 : decode cX8_chain 8 = .ok (.aload_n 0, 1) := by decide +kernel
theorem dX8_chain_9 : decode cX8_chain 9 = .ok (.getfield 7, 3) := by decide +kernel
theorem dX8_chain_12 : decode cX8_chain 12 = .ok (.getfield 27, 3) := by decide +kernel
theorem dX8_chain_15 : decode cX8_chain 15 = .ok (.if_icmp .ge 54, 3) := by decide +kernel
theorem dX8_chain_69 : decode cX8_chain 69 = .ok (.aload_n 1, 1) := by decide +kernel
theorem dX8_chain_70 : decode cX8_chain 70 = .ok (.areturn, 1) := by decide +kernel
theorem dX8_chain_18 : decode cX8_chain 18 = .ok (.aload_n 0, 1) := by decide +kernel
theorem dX8_chain_19 : decode cX8_chain 19 = .ok (.bipush 40, 2) := by decide +kernel
theorem dX8_chain_21 : decode cX8_chain 21 = .ok (.invokevirtual 36, 3) := by decide +kernel
theorem dX8_chain_24 : decode cX8_chain 24 = .ok (.ifCond .ne 12, 3) := by decide +kernel
theorem dX8_chain_36 : decode cX8_chain 36 = .ok (.aload_n 0, 1) := by decide +kernel
theorem dX8_chain_37 : decode cX8_chain 37 = .ok (.invokevirtual 257, 3) := by decide +kernel
theorem dX8_chain_40 : decode cX8_chain 40 = .ok (.aload_n 0, 1) := by decide +kernel
theorem dX8_chain_41 : decode cX8_chain 41 = .ok (.bipush 40, 2) := by decide +kernel
theorem dX8_chain_43 : decode cX8_chain 43 = .ok (.invokevirtual 36, 3) := by decide +kernel
theorem dX8_chain_46 : decode cX8_chain 46 = .ok (.ifCond .eq 11, 3) := by decide +kernel
theorem dX8_chain_57 : decode cX8_chain 57 = .ok (.aload_n 0, 1) := by decide +kernel
theorem dX8_chain_58 : decode cX8_chain 58 = .ok (.aload_n 1, 1) := by decide +kernel
theorem dX8_chain_59 : decode cX8_chain 59 = .ok (.invokevirtual 273, 3) := by decide +kernel
theorem dX8_chain_62 : decode cX8_chain 62 = .ok (.astore_n 1, 1) := by decide +kernel
theorem dX8_chain_63 : decode cX8_chain 63 = .ok (.iinc 2 1, 3) := by decide +kernel
theorem dX8_chain_66 : decode cX8_chain 66 = .ok (.goto (-59), 3) := by decide +kernel
theorem dX8_chain_49 : decode cX8_chain 49 = .ok (.aload_n 0, 1) := by decide +kernel
theorem dX8_chain_50 : decode cX8_chain 50 = .ok (.aload_n 1, 1) := by decide +kernel
theorem dX8_chain_51 : decode cX8_chain 51 = .ok (.invokevirtual 269, 3) := by decide +kernel
theorem dX8_chain_54 : decode cX8_chain 54 = .ok (.goto 8, 3) := by decide +kernel
theorem dX8_chain_27 : decode cX8_chain 27 = .ok (.aload_n 0, 1) := by decide +kernel
theorem dX8_chain_28 : decode cX8_chain 28 = .ok (.bipush 36, 2) := by decide +kernel
theorem dX8_chain_30 : decode cX8_chain 30 = .ok (.invokevirtual 36, 3) := by decide +kernel
theorem dX8_chain_33 : decode cX8_chain 33 = .ok (.ifCond .eq 36, 3) := by decide +kernel
theorem hV_X8_operand : yX8_operand.cls = RX8 ∧ yX8_operand.cls ≠ "java/lang/invoke/MethodHandle" ∧ yX8_operand.cls ≠ "java/lang/invoke/VarHandle" ∧ (parseMethodDescriptor yX8_operand.desc).map (fun d => d.parameters.length) = some 0 := by decide +kernel
theorem hV_X8_countSign : yX8_countSign.cls = RX8 ∧ yX8_countSign.cls ≠ "java/lang/invoke/MethodHandle" ∧ yX8_countSign.cls ≠ "java/lang/invoke/VarHandle" ∧ (parseMethodDescriptor yX8_countSign.desc).map (fun d => d.parameters.length) = some 0 := by decide +kernel
theorem hV_X8_indexed : yX8_indexed.cls = RX8 ∧ yX8_indexed.cls ≠ "java/lang/invoke/MethodHandle" ∧ yX8_indexed.cls ≠ "java/lang/invoke/VarHandle" ∧ (parseMethodDescriptor yX8_indexed.desc).map (fun d => d.parameters.length) = some 1 := by decide +kernel
theorem hV_X8_dotted : yX8_dotted.cls = RX8 ∧ yX8_dotted.cls ≠ "java/lang/invoke/MethodHandle" ∧ yX8_dotted.cls ≠ "java/lang/invoke/VarHandle" ∧ (parseMethodDescriptor yX8_dotted.desc).map (fun d => d.parameters.length) = some 1 := by decide +kernel
set_option maxHeartbeats 16000000 in
set_option maxRecDepth 100000 in
theorem P_chain (l : Launch) (G : pT) (h0 : Nat) (a : Nat → Nat) (F : Nat → Int32) (R : Nat → Value) (Z : Int64) (B : Nat → Nat → Int32) (J : Nat → Nat → Int64) (K : PK) (w : va_W) (n : Nat) (at9 : Nat) (sz : Nat) (dp : Nat) (sg : Nat) (O : Nat) (g : Nat → Nat → Nat) (hsz : sz ≤ 5000) (hat : at9 ≤ sz) (hdp : dp + n = 20) (hsg : sg ≤ 60) (hwn : WN K g) (how : ∀ o : Nat, O = o + 1 → K.1 o = 1 ∧ g 0 o = 0 ∧ ¬ K.2.1 0 o = 32) (ihe : IhE l G n) (hO : OKP G h0 a (upd (upd (upd (upd F 2 (nI sz)) 9 (nI at9)) 10 (nI dp)) 11 (nI sg)) R Z B J K w) (hl0 : l.stackTraces = false) : PBn l G pX0 yX8_chain cX8_chain 3 (some (.object "JinjaTongue$Node")) ({ frames := (40 * n + 20), cells := (2 * (sz - at9) + 19), slots := (11 * (2 * (sz - at9) + 19)), locals := (1300 * n + 520) }) [.ref (a 3)] w (fun (v : Option Value) (u : va_W × (Nat × PK × (Nat → Nat → Nat) × Nat × Nat × (Nat → Int32))) => v = some (.ref u.2.1) ∧ (NwR K u.2.2.1 g u.2.2.2.1 u.2.1 O at9 ((5 * (20 - dp) + 3 + (u.2.2.2.2.2.1 - sg)))) ∧ (at9 + 1 ≤ u.2.2.2.2.1 ∧ u.2.2.2.2.1 ≤ sz) ∧ (sg ≤ u.2.2.2.2.2.1 ∧ u.2.2.2.2.2.1 ≤ 60) ∧ (OKP G h0 a (upd (upd (upd (upd F 2 (nI sz)) 9 (nI u.2.2.2.2.1)) 10 (nI dp)) 11 (nI u.2.2.2.2.2.1)) R Z (updA B 10 u.2.2.2.2.2.2) J u.2.2.1 u.1)) (fun u => u.1) (fun (u : va_W × (Nat × PK × (Nat → Nat → Nat) × Nat × Nat × (Nat → Int32))) => (2 * (u.2.2.2.2.1 - at9) - 1)) (fun (u : va_W × (Nat × PK × (Nat → Nat → Nat) × Nat × Nat × (Nat → Int32))) => (11 * (2 * (u.2.2.2.2.1 - at9) - 1))) (fun (u : va_W × (Nat → Int32) × (Nat → Value) × (Nat → Nat → Int32)) => ThQ G h0 a (upd (upd (upd (upd F 2 (nI sz)) 9 (nI at9)) 10 (nI dp)) 11 (nI sg)) R Z B J u) (fun u => u.1) := by
  intro sz
  refine vx_ofW (cc := cX8_chain) (maxL := 3) (ret := (some (.object "JinjaTongue$Node"))) (by decide) rfl ?_
  intro p e s m args below meth c s₁ B9 hml hnt hv
  obtain ⟨rfl, hsz, hP, hD0, hE, hX⟩ := hv
  have hx := B9.exec
  have hb := B9.bytes
  have hr := B9.returns
  have hts := atoms_spec (ws := Cond.code yX8_chain cX8_chain 3 (some (.object "JinjaTongue$Node")) :: pw) B9.pre
  have hq : ∀ w ∈ pw, w.before _ s = true := fun w h => hts w (List.mem_cons_of_mem _ h)
  have hown : s.vm.findClass RX8 = some m.cls := findClass_of_methodNamed B9.named
  have hlocks := B9.notSynchronized
  subst hsz
  have hD := hD0.self (sz := s.heap.size)
  have hA : ∀ q : Nat, s.heap.size ≤ q → va_A w s.heap.size q := fun q h => Or.inr h
  generalize va_A w s.heap.size = A at hD hE hA ⊢
  have hS : va_S A s.heap s.heap [] := va_S.rf
  have hl := lv_entry ([.ref (a 3)]) (n := 3) (Nat.le_of_ble_eq_true rfl)
  rw [lg_entry_eq]
  generalize (lg_sl ([.ref (a 3)]) ++ List.replicate (3 - (lg_sl ([.ref (a 3)])).length) Slot.unset).toArray = ls at hl ⊢
  have hl : lv_has ls 3 [(0, .ref (a 3))] := hl
  refine lv_aload_n hx hb dX8_chain_0 rfl (lv_at hl 0 rfl) ?_
  have hO : OKP G h0 a (upd (upd (upd (upd (upd (upd (upd (upd F 2 (nI sz)) 9 (nI at9)) 10 (nI dp)) 11 (nI sg)) 2 (nI sz)) 9 (nI at9)) 10 (nI dp)) 11 (nI sg)) R Z B J K w := hO.to rfl
  obtain ⟨_, qr4, hqr5⟩ := hO.2.1 23 _ (sg_23 G h0 a _ _ _ _ _)
  refine pn_V0 (G := G) (As := []) (rest := []) hx hb hml hown hq hE hX pX0_al hP hD hS hA hl.1 (P_operand l G h0 a (upd (upd (upd (upd F 2 (nI sz)) 9 (nI at9)) 10 (nI dp)) 11 (nI sg)) R Z B J K w n at9 sz dp sg 0 g (by omega) (by omega) (by omega) (by omega) hwn (fun o9 h9 => absurd h9 (by omega)) ihe hO hl0) (gV pw_924 pw_925 pw_926 pw_796 pw_962) hV_X8_operand qr4 5 hqr5 rfl rfl rfl (Nat.le_of_ble_eq_true rfl) dX8_chain_1 ⟨(by show 0 + (2 * (sz - at9) + 19) ≤ (2 * (sz - at9) + 19); omega), (by show 0 + (11 * (2 * (sz - at9) + 19)) ≤ (11 * (2 * (sz - at9) + 19)); omega)⟩ ⟨(by show (40 * n + 16) + 1 ≤ (40 * n + 20); omega), (by show 8 + (3 + 11) + (1300 * n + 480) ≤ (1300 * n + 520); omega)⟩ (fun v3 u1 H locs hw2 hP hD hS => ?_) (fun ux ce9 q9 H9 locs9 hux hP9 hD9 hS9 hce hcv hcl => pb_out ux (ThQ.up (Thx.same (Thx.same (Thx.same (Thx.same Thx.rfl rfl) rfl) rfl) rfl) RhX.rfl hux) hnt hlocks hce hcv hcl hP9 hD9 hS9 (by show 0 + (2 * (sz - at9) + 19) ≤ (2 * (sz - at9) + 19); omega) (by show 0 + (11 * (2 * (sz - at9) + 19)) ≤ (11 * (2 * (sz - at9) + 19)); omega))
  obtain ⟨w, r6, K7, g8, at10, sg11, f12⟩ := u1
  obtain ⟨hw2, h13, h14, h15, hO⟩ := hw2
  have h13 : NwR K K7 g g8 r6 0 at9 ((5 * (20 - dp) + 2 + (sg11 - sg))) := h13
  have h14 : at9 + 1 ≤ at10 ∧ at10 ≤ sz := h14
  have h15 : sg ≤ sg11 ∧ sg11 ≤ 60 := h15
  obtain rfl : v3 = some (.ref r6) := hw2
  have hO : OKP G h0 a (upd (upd (upd (upd F 2 (nI sz)) 9 (nI at10)) 10 (nI dp)) 11 (nI sg11)) R Z (updA B 10 f12) J K7 w := hO.to rfl
  refine W.widen (k := (2 * (at10 - at9) - 1)) (n := (11 * (2 * (at10 - at9) - 1))) (by show 0 + (2 * (at10 - at9) - 1) ≤ (2 * (at10 - at9) - 1); omega) (by show 0 + (11 * (2 * (at10 - at9) - 1)) ≤ (11 * (2 * (at10 - at9) - 1)); omega) ?_
  refine W.eq (g2 := F0 m 4 ls [.ref r6]) rfl ?_
  refine lv_astore_n (lv' := [(1, .ref r6), (0, .ref (a 3))]) hx hb dX8_chain_4 rfl hl (by decide) rfl (fun ls hl => ?_)
  refine lv_iconst (v := 0) hx hb dX8_chain_5 (by decide) ?_
  refine lv_istore_n (lv' := [(2, .int 0), (1, .ref r6), (0, .ref (a 3))]) hx hb dX8_chain_6 rfl hl (by decide) rfl (fun ls hl => ?_)
  have hnr0 := NwR.up (L' := (5 * (20 - dp) + 3 + (sg11 - sg))) h13 (by omega)
  have loop_i : ∀ (n_i : Nat) (i2 : Nat) (at2 : Nat) (sg2 : Nat) (f2 : Nat → Int32) (K2 : PK) (g2 : Nat → Nat → Nat) (x2 : Nat) (k2 : Nat) (H : Heap) (locs : List Loc) (ls : Array Slot) (w : va_W), i2 ≤ sz → sz + 1 ≤ i2 + n_i → (at9 + 1 ≤ at2 ∧ at2 ≤ sz) → (sg ≤ sg2 ∧ sg2 ≤ 60) → (k2 ≤ 6000) → (NwR K K2 g g2 x2 0 k2 (5 * (20 - dp) + 3 + (sg2 - sg))) → va_P G.1 pCl w H → va_D A w → va_S A s.heap H locs → OKP G h0 a (upd (upd (upd (upd F 2 (nI sz)) 9 (nI at2)) 10 (nI dp)) 11 (nI sg2)) R Z (updA B 10 f2) J K2 w → lv_has ls 3 [(2, .int (nI i2)), (1, .ref x2), (0, .ref (a 3))] → W p l e (headSpec (Cond.code yX8_chain cX8_chain 3 (some (.object "JinjaTongue$Node")) :: pw) ({ frames := (40 * n + 20), cells := (2 * (sz - at9) + 19), slots := (11 * (2 * (sz - at9) + 19)), locals := (1300 * n + 520) } : Room)).room s m ([.ref (a 3)] : List Value).toArray below meth c H locs (2 * (at2 - at9) - 1) (11 * (2 * (at2 - at9) - 1)) (vx_MQ below (pQn G A (fun (v : Option Value) (u : va_W × (Nat × PK × (Nat → Nat → Nat) × Nat × Nat × (Nat → Int32))) => v = some (.ref u.2.1) ∧ (NwR K u.2.2.1 g u.2.2.2.1 u.2.1 O at9 ((5 * (20 - dp) + 3 + (u.2.2.2.2.2.1 - sg)))) ∧ (at9 + 1 ≤ u.2.2.2.2.1 ∧ u.2.2.2.2.1 ≤ sz) ∧ (sg ≤ u.2.2.2.2.2.1 ∧ u.2.2.2.2.2.1 ≤ 60) ∧ (OKP G h0 a (upd (upd (upd (upd F 2 (nI sz)) 9 (nI u.2.2.2.2.1)) 10 (nI dp)) 11 (nI u.2.2.2.2.2.1)) R Z (updA B 10 u.2.2.2.2.2.2) J u.2.2.1 u.1)) (fun u => u.1) (fun (u : va_W × (Nat × PK × (Nat → Nat → Nat) × Nat × Nat × (Nat → Int32))) => (2 * (u.2.2.2.2.1 - at9) - 1)) (fun (u : va_W × (Nat × PK × (Nat → Nat → Nat) × Nat × Nat × (Nat → Int32))) => (11 * (2 * (u.2.2.2.2.1 - at9) - 1)))) (pXX G A (fun (u : va_W × (Nat → Int32) × (Nat → Value) × (Nat → Nat → Int32)) => ThQ G h0 a (upd (upd (upd (upd F 2 (nI sz)) 9 (nI at9)) 10 (nI dp)) 11 (nI sg)) R Z B J u) (fun u => u.1)) ([.ref (a 3)] : List Value).toArray s ({ frames := (40 * n + 20), cells := (2 * (sz - at9) + 19), slots := (11 * (2 * (sz - at9) + 19)), locals := (1300 * n + 520) } : Room).cells ({ frames := (40 * n + 20), cells := (2 * (sz - at9) + 19), slots := (11 * (2 * (sz - at9) + 19)), locals := (1300 * n + 520) } : Room).slots A) (F0 m 7 ls []) := by
    intro n_i
    induction n_i with
    | zero => intro i2 at2 sg2 f2 K2 g2 x2 k2 H locs ls w hk_i hn_i; omega
    | succ n_i ih_i =>
      intro i2 at2 sg2 f2 K2 g2 x2 k2 H locs ls w hk_i hn_i hat2 hsg2 hk2 hnr hP hD hS hO hl
      have hr2 := hnr.2.2.1
      have hr21 := hr2.2.1
      have hr22 := hr2.2.2.1
      have hr23 := hr2.2.2.2.1
      refine lv_iload_n hx hb dX8_chain_7 rfl (lv_at hl 0 rfl) ?_
      refine lv_aload_n hx hb dX8_chain_8 rfl (lv_at hl 2 rfl) ?_
      refine c_get (v := .ref (a 1)) (C := RX8) (Tc := TX8) (N := 5) (ci := 5) hx hb hq pin_wsX80 hown hE hP hO 23 (sg_23 G h0 a _ _ _ _ _) rfl 0 (by decide) (hq _ pw_774) (fun _ h9 => h9) rfl dX8_chain_9 ?_
      refine c_get (v := .int (nI sz)) (C := RX10) (Tc := TX10) (N := 15) (ci := 7) hx hb hq pin_wsX100 hown hE hP hO 2 (sg_2 G h0 a _ _ _ _ _) rfl 8 (by decide) (hq _ pw_792) (fun _ h9 => h9) rfl dX8_chain_12 ?_
      refine lv_icmp_ge (tgt := 69) hx hb dX8_chain_15 (by decide) (fun c16 => ?_) (fun c16 => ?_)
      · have n17 : sz ≤ i2 := (nI_leI (a := sz) (b := i2) (by omega) (by omega)).mp c16
        refine lv_aload_n hx hb dX8_chain_69 rfl (lv_at hl 1 rfl) ?_
        refine W_size (fun hz1 hz2 => ?_)
        refine vx_ret ?_
        have how9 := NwR.own (O2 := O) (k2 := at9) hnr (by omega) (by omega) how
        have hz18 : NwR K K2 g (gset g2 x2 (g2 0 x2) O at9) x2 O at9 ((5 * (20 - dp) + 3 + (sg2 - sg))) := how9
        have hz19 : at9 + 1 ≤ at2 ∧ at2 ≤ sz := (by omega)
        have hz20 : sg ≤ sg2 ∧ sg2 ≤ 60 := (by omega)
        have hO : OKP G h0 a (upd (upd (upd (upd F 2 (nI sz)) 9 (nI at2)) 10 (nI dp)) 11 (nI sg2)) R Z (updA B 10 f2) J K2 w := hO.to rfl
        refine W.widen (k := (2 * (sz - at9) + 19)) (n := (11 * (2 * (sz - at9) + 19))) (by omega) (by omega) ?_
        have hzz1 : H.size ≤ s.heap.size + ((2 * (at2 - at9) - 1)) := (by have z : (2 * (at2 - at9) - 1) ≤ (2 * (at2 - at9) - 1) := (by omega); omega)
        have hzz2 : hSl H ≤ hSl s.heap + ((11 * (2 * (at2 - at9) - 1))) := (by have z : (11 * (2 * (at2 - at9) - 1)) ≤ (11 * (2 * (at2 - at9) - 1)) := (by omega); omega)
        exact W.aret (v := .ref x2) hx hb hr (Or.inl ⟨_, rfl⟩) (Or.inr ⟨_, rfl⟩) (fun t99 ht99 hW99 => ⟨⟨_, (w, (x2, K2, (gset g2 x2 (g2 0 x2) O at9), at2, sg2, f2)), rfl, ⟨rfl, hz18, hz19, hz20, hO⟩, by rw [ht99]; exact hP, hD, by rw [ht99]; exact hzz1, by rw [ht99]; exact hzz2⟩, hS.F ht99⟩) hS.2.2 dX8_chain_70
      · have n21 : ¬ (sz ≤ i2) := fun h9 => c16 ((nI_leI (a := sz) (b := i2) (by omega) (by omega)).mpr h9)
        refine lv_aload_n hx hb dX8_chain_18 rfl (lv_at hl 2 rfl) ?_
        refine lv_bipush (v := 40) hx hb dX8_chain_19 (by decide) ?_
        have hO : OKW G h0 a (upd (upd (upd (upd (upd (upd F 2 (nI sz)) 9 (nI at2)) 10 (nI dp)) 11 (nI sg2)) 2 (nI sz)) 9 (nI at2)) R Z (updA B 10 f2) J K2.1 (fun q99 x99 => x99 = rep G a K2 q99) w := hO.to rfl
        obtain ⟨_, qr25, hqr26⟩ := hO.2.1 23 _ (sg_23 G h0 a _ _ _ _ _)
        refine pc_V0 (G := G) (As := [.int 40]) (rest := []) hx hb hml hown hq hE hX pX0_al hP hD hS hA hl.1 (P_sees l G h0 a (upd (upd (upd (upd F 2 (nI sz)) 9 (nI at2)) 10 (nI dp)) 11 (nI sg2)) R Z (updA B 10 f2) J K2.1 (fun q99 x99 => x99 = rep G a K2 q99) w 40 at2 sz (by omega) (by omega) hO) (gV pw_803 pw_804 pw_805 pw_796 pw_775) hV_X8_sees qr25 5 hqr26 rfl rfl rfl (Nat.le_of_ble_eq_true rfl) dX8_chain_21 ⟨(by show (2 * (at2 - at9) - 1) + 0 ≤ (2 * (sz - at9) + 19); omega), (by show (11 * (2 * (at2 - at9) - 1)) + 0 ≤ (11 * (2 * (sz - at9) + 19)); omega)⟩ ⟨(by show 3 + 1 ≤ (40 * n + 20); omega), (by show 8 + (2 + 11) + 81 ≤ (1300 * n + 520); omega)⟩ (fun v24 u22 H locs hw23 hP hD hS => ?_)
        obtain ⟨w, r27⟩ := u22
        obtain ⟨hw23, h28, hO⟩ := hw23
        have h28 : r27 ≤ 1 := h28
        obtain rfl : v24 = some (.int (nI r27)) := hw23
        have hO : OKP G h0 a (upd (upd (upd (upd F 2 (nI sz)) 9 (nI at2)) 10 (nI dp)) 11 (nI sg2)) R Z (updA B 10 f2) J K2 w := hO.to rfl
        refine W.widen (k := (2 * (at2 - at9) - 1)) (n := (11 * (2 * (at2 - at9) - 1))) (by show (2 * (at2 - at9) - 1) + 0 ≤ (2 * (at2 - at9) - 1); omega) (by show (11 * (2 * (at2 - at9) - 1)) + 0 ≤ (11 * (2 * (at2 - at9) - 1)); omega) ?_
        refine W.eq (g2 := F0 m 24 ls [.int (nI r27)]) rfl ?_
        refine lv_if_ne (tgt := 36) hx hb dX8_chain_24 (by decide) (fun c29 => ?_) (fun c29 => ?_)
        · have n30 : ¬ (r27 = 0) := fun h9 => c29 ((nI_eq (a := r27) (b := 0) (by omega) (by omega)).mpr h9)
          refine lv_aload_n hx hb dX8_chain_36 rfl (lv_at hl 2 rfl) ?_
          have hO : OKW G h0 a (upd (upd (upd (upd (upd (upd (upd (upd (upd F 2 (nI sz)) 9 (nI at9)) 10 (nI dp)) 11 (nI sg)) 9 (nI at2)) 11 (nI sg2)) 2 (nI sz)) 9 (nI at2)) 11 (nI sg2)) R Z (updA B 10 f2) J K2.1 (fun q99 x99 => x99 = rep G a K2 q99) w := hO.to rfl
          obtain ⟨_, qr34, hqr35⟩ := hO.2.1 23 _ (sg_23 G h0 a _ _ _ _ _)
          refine pn_V0 (G := G) (As := []) (rest := []) hx hb hml hown hq hE hX pX0_al hP hD hS hA hl.1 (P_countSign l G h0 a (upd (upd (upd (upd (upd (upd F 2 (nI sz)) 9 (nI at9)) 10 (nI dp)) 11 (nI sg)) 9 (nI at2)) 11 (nI sg2)) R Z (updA B 10 f2) J K2.1 (fun q99 x99 => x99 = rep G a K2 q99) w sg2 at2 sz (by omega) (by omega) (by omega) hO hl0) (gV pw_927 pw_928 pw_929 pw_796 pw_903) hV_X8_countSign qr34 5 hqr35 rfl rfl rfl (Nat.le_of_ble_eq_true rfl) dX8_chain_37 ⟨(by show (2 * (at2 - at9) - 1) + 1 ≤ (2 * (sz - at9) + 19); omega), (by show (11 * (2 * (at2 - at9) - 1)) + 6 ≤ (11 * (2 * (sz - at9) + 19)); omega)⟩ ⟨(by show 7 + 1 ≤ (40 * n + 20); omega), (by show 8 + (1 + 11) + 122 ≤ (1300 * n + 520); omega)⟩ (fun v33 u31 H locs hw32 hP hD hS => ?_) (fun ux ce9 q9 H9 locs9 hux hP9 hD9 hS9 hce hcv hcl => pb_out ux (ThQ.up (Thx.same (Thx.same (Thx.same (Thx.b (Thx.f (Thx.f Thx.rfl (by omega)) (by omega)) (by omega) (by decide)) rfl) rfl) rfl) RhX.rfl hux) hnt hlocks hce hcv hcl hP9 hD9 hS9 (by show (2 * (at2 - at9) - 1) + 1 ≤ (2 * (sz - at9) + 19); omega) (by show (11 * (2 * (at2 - at9) - 1)) + 6 ≤ (11 * (2 * (sz - at9) + 19)); omega))
          obtain ⟨w, _⟩ := u31
          obtain ⟨hw32, h36, hO⟩ := hw32
          have h36 : sg2 + 1 ≤ 60 := h36
          obtain rfl : v33 = none := hw32
          have hO : OKP G h0 a (upd (upd (upd (upd F 2 (nI sz)) 9 (nI at2)) 10 (nI dp)) 11 (nI (sg2 + 1))) R Z (updA B 10 f2) J K2 w := hO.to rfl
          refine W.widen (k := (2 * (at2 - at9) - 1)) (n := (11 * (2 * (at2 - at9) - 1))) (by show (2 * (at2 - at9) - 1) + 0 ≤ (2 * (at2 - at9) - 1); omega) (by show (11 * (2 * (at2 - at9) - 1)) + 0 ≤ (11 * (2 * (at2 - at9) - 1)); omega) ?_
          refine W.eq (g2 := F0 m 40 ls []) rfl ?_
          refine lv_aload_n hx hb dX8_chain_40 rfl (lv_at hl 2 rfl) ?_
          refine lv_bipush (v := 40) hx hb dX8_chain_41 (by decide) ?_
          have hO : OKW G h0 a (upd (upd (upd (upd (upd (upd F 2 (nI sz)) 9 (nI at2)) 10 (nI dp)) 11 (nI (sg2 + 1))) 2 (nI sz)) 9 (nI at2)) R Z (updA B 10 f2) J K2.1 (fun q99 x99 => x99 = rep G a K2 q99) w := hO.to rfl
          obtain ⟨_, qr40, hqr41⟩ := hO.2.1 23 _ (sg_23 G h0 a _ _ _ _ _)
          refine pc_V0 (G := G) (As := [.int 40]) (rest := []) hx hb hml hown hq hE hX pX0_al hP hD hS hA hl.1 (P_sees l G h0 a (upd (upd (upd (upd F 2 (nI sz)) 9 (nI at2)) 10 (nI dp)) 11 (nI (sg2 + 1))) R Z (updA B 10 f2) J K2.1 (fun q99 x99 => x99 = rep G a K2 q99) w 40 at2 sz (by omega) (by omega) hO) (gV pw_803 pw_804 pw_805 pw_796 pw_775) hV_X8_sees qr40 5 hqr41 rfl rfl rfl (Nat.le_of_ble_eq_true rfl) dX8_chain_43 ⟨(by show (2 * (at2 - at9) - 1) + 0 ≤ (2 * (sz - at9) + 19); omega), (by show (11 * (2 * (at2 - at9) - 1)) + 0 ≤ (11 * (2 * (sz - at9) + 19)); omega)⟩ ⟨(by show 3 + 1 ≤ (40 * n + 20); omega), (by show 8 + (2 + 11) + 81 ≤ (1300 * n + 520); omega)⟩ (fun v39 u37 H locs hw38 hP hD hS => ?_)
          obtain ⟨w, r42⟩ := u37
          obtain ⟨hw38, h43, hO⟩ := hw38
          have h43 : r42 ≤ 1 := h43
          obtain rfl : v39 = some (.int (nI r42)) := hw38
          have hO : OKP G h0 a (upd (upd (upd (upd F 2 (nI sz)) 9 (nI at2)) 10 (nI dp)) 11 (nI (sg2 + 1))) R Z (updA B 10 f2) J K2 w := hO.to rfl
          refine W.widen (k := (2 * (at2 - at9) - 1)) (n := (11 * (2 * (at2 - at9) - 1))) (by show (2 * (at2 - at9) - 1) + 0 ≤ (2 * (at2 - at9) - 1); omega) (by show (11 * (2 * (at2 - at9) - 1)) + 0 ≤ (11 * (2 * (at2 - at9) - 1)); omega) ?_
          refine W.eq (g2 := F0 m 46 ls [.int (nI r42)]) rfl ?_
          refine lv_if_eq (tgt := 57) hx hb dX8_chain_46 (by decide) (fun c44 => ?_) (fun c44 => ?_)
          · have n45 : r42 = 0 := (nI_eq (a := r42) (b := 0) (by omega) (by omega)).mp c44
            refine lv_aload_n hx hb dX8_chain_57 rfl (lv_at hl 2 rfl) ?_
            refine lv_aload_n hx hb dX8_chain_58 rfl (lv_at hl 1 rfl) ?_
            have hO : OKP G h0 a (upd (upd (upd (upd (upd (upd (upd (upd (upd (upd F 2 (nI sz)) 9 (nI at9)) 10 (nI dp)) 11 (nI sg)) 9 (nI at2)) 11 (nI (sg2 + 1))) 2 (nI sz)) 9 (nI at2)) 10 (nI dp)) 11 (nI (sg2 + 1))) R Z (updA B 10 f2) J K2 w := hO.to rfl
            obtain ⟨_, qr49, hqr50⟩ := hO.2.1 23 _ (sg_23 G h0 a _ _ _ _ _)
            refine pn_V0 (G := G) (As := [.ref x2]) (rest := []) hx hb hml hown hq hE hX pX0_al hP hD hS hA hl.1 (P_indexed l G h0 a (upd (upd (upd (upd (upd (upd F 2 (nI sz)) 9 (nI at9)) 10 (nI dp)) 11 (nI sg)) 9 (nI at2)) 11 (nI (sg2 + 1))) R Z (updA B 10 f2) J K2 w x2 sg at9 n at2 sz dp (sg2 + 1) 0 g2 (by omega) (by omega) (by omega) (by omega) hnr.1 (fun o9 h9 => absurd h9 (by omega)) hr21 hr22 (by omega) (by omega) ihe hO hl0) (gV pw_933 pw_934 pw_935 pw_796 pw_953) hV_X8_indexed qr49 5 hqr50 rfl rfl rfl (Nat.le_of_ble_eq_true rfl) dX8_chain_59 ⟨(by show (2 * (at2 - at9) - 1) + (2 * (sz - at2) + 19) ≤ (2 * (sz - at9) + 19); omega), (by show (11 * (2 * (at2 - at9) - 1)) + (11 * (2 * (sz - at2) + 19)) ≤ (11 * (2 * (sz - at9) + 19)); omega)⟩ ⟨(by show (40 * n + 16) + 1 ≤ (40 * n + 20); omega), (by show 8 + (3 + 11) + (1300 * n + 480) ≤ (1300 * n + 520); omega)⟩ (fun v48 u46 H locs hw47 hP hD hS => ?_) (fun ux ce9 q9 H9 locs9 hux hP9 hD9 hS9 hce hcv hcl => pb_out ux (ThQ.up (Thx.same (Thx.same (Thx.same (Thx.same (Thx.b (Thx.f (Thx.f Thx.rfl (by omega)) (by omega)) (by omega) (by decide)) rfl) rfl) rfl) rfl) RhX.rfl hux) hnt hlocks hce hcv hcl hP9 hD9 hS9 (by show (2 * (at2 - at9) - 1) + (2 * (sz - at2) + 19) ≤ (2 * (sz - at9) + 19); omega) (by show (11 * (2 * (at2 - at9) - 1)) + (11 * (2 * (sz - at2) + 19)) ≤ (11 * (2 * (sz - at9) + 19)); omega))
            obtain ⟨w, r51, K52, g53, at54, sg55, f56⟩ := u46
            obtain ⟨hw47, h57, h58, h59, hO⟩ := hw47
            have h57 : NwR K2 K52 g2 g53 r51 0 at9 (5 * (20 - dp) + 3 + (sg55 - sg)) := h57
            have h58 : at2 + 3 ≤ at54 ∧ at54 ≤ sz := h58
            have h59 : (sg2 + 1) ≤ sg55 ∧ sg55 ≤ 60 := h59
            obtain rfl : v48 = some (.ref r51) := hw47
            have hO : OKP G h0 a (upd (upd (upd (upd F 2 (nI sz)) 9 (nI at54)) 10 (nI dp)) 11 (nI sg55)) R Z (updA B 10 f56) J K52 w := hO.to rfl
            refine W.widen (k := ((2 * (at2 - at9) - 1) + (2 * (at54 - at2) - 4))) (n := ((11 * (2 * (at2 - at9) - 1)) + (11 * (2 * (at54 - at2) - 4)))) (by show (2 * (at2 - at9) - 1) + (2 * (at54 - at2) - 4) ≤ ((2 * (at2 - at9) - 1) + (2 * (at54 - at2) - 4)); omega) (by show (11 * (2 * (at2 - at9) - 1)) + (11 * (2 * (at54 - at2) - 4)) ≤ ((11 * (2 * (at2 - at9) - 1)) + (11 * (2 * (at54 - at2) - 4))); omega) ?_
            refine W.eq (g2 := F0 m 62 ls [.ref r51]) rfl ?_
            refine lv_astore_n (lv' := [(1, .ref r51), (2, .int (nI i2)), (0, .ref (a 3))]) hx hb dX8_chain_62 rfl hl (by decide) rfl (fun ls hl => ?_)
            refine lv_iinc (v := (nI (i2 + 1))) (lv' := [(2, .int (nI (i2 + 1))), (1, .ref r51), (0, .ref (a 3))]) hx hb dX8_chain_63 hl (k := 1) rfl (nI_1 i2) (by decide) rfl (fun ls hl => ?_)
            refine lv_goto (tgt := 7) hx hb dX8_chain_66 (by decide) ?_
            refine W.widen (k := (2 * (at54 - at9) - 1)) (n := (11 * (2 * (at54 - at9) - 1))) (by show ((2 * (at2 - at9) - 1) + (2 * (at54 - at2) - 4)) ≤ _; omega) (by show ((11 * (2 * (at2 - at9) - 1)) + (11 * (2 * (at54 - at2) - 4))) ≤ _; omega) ?_
            have hO : OKP G h0 a (upd (upd (upd (upd F 2 (nI sz)) 9 (nI at54)) 10 (nI dp)) 11 (nI sg55)) R Z (updA B 10 f56) J K52 w := hO.to rfl
            exact ih_i (i2 + 1) at54 sg55 f56 K52 g53 r51 at9 _ _ _ _ (by omega) (by omega) (by omega) (by omega) (by omega) (NwS.toR (NwR.toS hnr) h57) hP hD hS hO (lv_sub hl [0, 1, 2] rfl)
          · have n60 : ¬ (r42 = 0) := fun h9 => c44 ((nI_eq (a := r42) (b := 0) (by omega) (by omega)).mpr h9)
            refine lv_aload_n hx hb dX8_chain_49 rfl (lv_at hl 2 rfl) ?_
            refine lv_aload_n hx hb dX8_chain_50 rfl (lv_at hl 1 rfl) ?_
            have hO : OKP G h0 a (upd (upd (upd (upd (upd (upd (upd (upd (upd (upd F 2 (nI sz)) 9 (nI at9)) 10 (nI dp)) 11 (nI sg)) 9 (nI at2)) 11 (nI (sg2 + 1))) 2 (nI sz)) 9 (nI at2)) 10 (nI dp)) 11 (nI (sg2 + 1))) R Z (updA B 10 f2) J K2 w := hO.to rfl
            obtain ⟨_, qr64, hqr65⟩ := hO.2.1 23 _ (sg_23 G h0 a _ _ _ _ _)
            refine pn_V0 (G := G) (As := [.ref x2]) (rest := []) hx hb hml hown hq hE hX pX0_al hP hD hS hA hl.1 (P_dotted l G h0 a (upd (upd (upd (upd (upd (upd F 2 (nI sz)) 9 (nI at9)) 10 (nI dp)) 11 (nI sg)) 9 (nI at2)) 11 (nI (sg2 + 1))) R Z (updA B 10 f2) J K2 w x2 sg at9 n at2 sz dp (sg2 + 1) 0 g2 (by omega) (by omega) (by omega) (by omega) hnr.1 (fun o9 h9 => absurd h9 (by omega)) hr21 hr22 (by omega) (by omega) ihe hO hl0) (gV pw_930 pw_931 pw_932 pw_796 pw_936) hV_X8_dotted qr64 5 hqr65 rfl rfl rfl (Nat.le_of_ble_eq_true rfl) dX8_chain_51 ⟨(by show (2 * (at2 - at9) - 1) + (2 * (sz - at2) + 19) ≤ (2 * (sz - at9) + 19); omega), (by show (11 * (2 * (at2 - at9) - 1)) + (11 * (2 * (sz - at2) + 19)) ≤ (11 * (2 * (sz - at9) + 19)); omega)⟩ ⟨(by show (40 * n + 16) + 1 ≤ (40 * n + 20); omega), (by show 8 + (6 + 11) + (1300 * n + 480) ≤ (1300 * n + 520); omega)⟩ (fun v63 u61 H locs hw62 hP hD hS => ?_) (fun ux ce9 q9 H9 locs9 hux hP9 hD9 hS9 hce hcv hcl => pb_out ux (ThQ.up (Thx.same (Thx.same (Thx.same (Thx.same (Thx.b (Thx.f (Thx.f Thx.rfl (by omega)) (by omega)) (by omega) (by decide)) rfl) rfl) rfl) rfl) RhX.rfl hux) hnt hlocks hce hcv hcl hP9 hD9 hS9 (by show (2 * (at2 - at9) - 1) + (2 * (sz - at2) + 19) ≤ (2 * (sz - at9) + 19); omega) (by show (11 * (2 * (at2 - at9) - 1)) + (11 * (2 * (sz - at2) + 19)) ≤ (11 * (2 * (sz - at9) + 19)); omega))
            obtain ⟨w, r66, K67, g68, at69, sg70, f71⟩ := u61
            obtain ⟨hw62, h72, h73, h74, hO⟩ := hw62
            have h72 : NwR K2 K67 g2 g68 r66 0 at9 ((5 * (20 - dp) + 3 + (sg70 - sg))) := h72
            have h73 : at2 + 2 ≤ at69 ∧ at69 ≤ sz := h73
            have h74 : (sg2 + 1) ≤ sg70 ∧ sg70 ≤ 60 := h74
            obtain rfl : v63 = some (.ref r66) := hw62
            have hO : OKP G h0 a (upd (upd (upd (upd F 2 (nI sz)) 9 (nI at69)) 10 (nI dp)) 11 (nI sg70)) R Z (updA B 10 f71) J K67 w := hO.to rfl
            refine W.widen (k := ((2 * (at2 - at9) - 1) + (2 * (at69 - at2) - 3))) (n := ((11 * (2 * (at2 - at9) - 1)) + (11 * (2 * (at69 - at2) - 3)))) (by show (2 * (at2 - at9) - 1) + (2 * (at69 - at2) - 3) ≤ ((2 * (at2 - at9) - 1) + (2 * (at69 - at2) - 3)); omega) (by show (11 * (2 * (at2 - at9) - 1)) + (11 * (2 * (at69 - at2) - 3)) ≤ ((11 * (2 * (at2 - at9) - 1)) + (11 * (2 * (at69 - at2) - 3))); omega) ?_
            refine W.eq (g2 := F0 m 54 ls [.ref r66]) rfl ?_
            refine lv_goto (tgt := 62) hx hb dX8_chain_54 (by decide) ?_
            refine lv_astore_n (lv' := [(1, .ref r66), (2, .int (nI i2)), (0, .ref (a 3))]) hx hb dX8_chain_62 rfl hl (by decide) rfl (fun ls hl => ?_)
            refine lv_iinc (v := (nI (i2 + 1))) (lv' := [(2, .int (nI (i2 + 1))), (1, .ref r66), (0, .ref (a 3))]) hx hb dX8_chain_63 hl (k := 1) rfl (nI_1 i2) (by decide) rfl (fun ls hl => ?_)
            refine lv_goto (tgt := 7) hx hb dX8_chain_66 (by decide) ?_
            refine W.widen (k := (2 * (at69 - at9) - 1)) (n := (11 * (2 * (at69 - at9) - 1))) (by show ((2 * (at2 - at9) - 1) + (2 * (at69 - at2) - 3)) ≤ _; omega) (by show ((11 * (2 * (at2 - at9) - 1)) + (11 * (2 * (at69 - at2) - 3))) ≤ _; omega) ?_
            have hO : OKP G h0 a (upd (upd (upd (upd F 2 (nI sz)) 9 (nI at69)) 10 (nI dp)) 11 (nI sg70)) R Z (updA B 10 f71) J K67 w := hO.to rfl
            exact ih_i (i2 + 1) at69 sg70 f71 K67 g68 r66 at9 _ _ _ _ (by omega) (by omega) (by omega) (by omega) (by omega) (NwS.toR (NwR.toS hnr) h72) hP hD hS hO (lv_sub hl [0, 1, 2] rfl)
        · have n75 : r27 = 0 := (nI_eq (a := r27) (b := 0) (by omega) (by omega)).mp c29
          refine lv_aload_n hx hb dX8_chain_27 rfl (lv_at hl 2 rfl) ?_
          refine lv_bipush (v := 36) hx hb dX8_chain_28 (by decide) ?_
          have hO : OKW G h0 a (upd (upd (upd (upd (upd (upd F 2 (nI sz)) 9 (nI at2)) 10 (nI dp)) 11 (nI sg2)) 2 (nI sz)) 9 (nI at2)) R Z (updA B 10 f2) J K2.1 (fun q99 x99 => x99 = rep G a K2 q99) w := hO.to rfl
          obtain ⟨_, qr79, hqr80⟩ := hO.2.1 23 _ (sg_23 G h0 a _ _ _ _ _)
          refine pc_V0 (G := G) (As := [.int 36]) (rest := []) hx hb hml hown hq hE hX pX0_al hP hD hS hA hl.1 (P_sees l G h0 a (upd (upd (upd (upd F 2 (nI sz)) 9 (nI at2)) 10 (nI dp)) 11 (nI sg2)) R Z (updA B 10 f2) J K2.1 (fun q99 x99 => x99 = rep G a K2 q99) w 36 at2 sz (by omega) (by omega) hO) (gV pw_803 pw_804 pw_805 pw_796 pw_775) hV_X8_sees qr79 5 hqr80 rfl rfl rfl (Nat.le_of_ble_eq_true rfl) dX8_chain_30 ⟨(by show (2 * (at2 - at9) - 1) + 0 ≤ (2 * (sz - at9) + 19); omega), (by show (11 * (2 * (at2 - at9) - 1)) + 0 ≤ (11 * (2 * (sz - at9) + 19)); omega)⟩ ⟨(by show 3 + 1 ≤ (40 * n + 20); omega), (by show 8 + (2 + 11) + 81 ≤ (1300 * n + 520); omega)⟩ (fun v78 u76 H locs hw77 hP hD hS => ?_)
          obtain ⟨w, r81⟩ := u76
          obtain ⟨hw77, h82, hO⟩ := hw77
          have h82 : r81 ≤ 1 := h82
          obtain rfl : v78 = some (.int (nI r81)) := hw77
          have hO : OKP G h0 a (upd (upd (upd (upd F 2 (nI sz)) 9 (nI at2)) 10 (nI dp)) 11 (nI sg2)) R Z (updA B 10 f2) J K2 w := hO.to rfl
          refine W.widen (k := (2 * (at2 - at9) - 1)) (n := (11 * (2 * (at2 - at9) - 1))) (by show (2 * (at2 - at9) - 1) + 0 ≤ (2 * (at2 - at9) - 1); omega) (by show (11 * (2 * (at2 - at9) - 1)) + 0 ≤ (11 * (2 * (at2 - at9) - 1)); omega) ?_
          refine W.eq (g2 := F0 m 33 ls [.int (nI r81)]) rfl ?_
          refine lv_if_eq (tgt := 69) hx hb dX8_chain_33 (by decide) (fun c83 => ?_) (fun c83 => ?_)
          · have n84 : r81 = 0 := (nI_eq (a := r81) (b := 0) (by omega) (by omega)).mp c83
            refine lv_aload_n hx hb dX8_chain_69 rfl (lv_at hl 1 rfl) ?_
            refine W_size (fun hz1 hz2 => ?_)
            refine vx_ret ?_
            have how9 := NwR.own (O2 := O) (k2 := at9) hnr (by omega) (by omega) how
            have hz85 : NwR K K2 g (gset g2 x2 (g2 0 x2) O at9) x2 O at9 ((5 * (20 - dp) + 3 + (sg2 - sg))) := how9
            have hz86 : at9 + 1 ≤ at2 ∧ at2 ≤ sz := (by omega)
            have hz87 : sg ≤ sg2 ∧ sg2 ≤ 60 := (by omega)
            have hO : OKP G h0 a (upd (upd (upd (upd F 2 (nI sz)) 9 (nI at2)) 10 (nI dp)) 11 (nI sg2)) R Z (updA B 10 f2) J K2 w := hO.to rfl
            refine W.widen (k := (2 * (sz - at9) + 19)) (n := (11 * (2 * (sz - at9) + 19))) (by omega) (by omega) ?_
            have hzz1 : H.size ≤ s.heap.size + ((2 * (at2 - at9) - 1)) := (by have z : (2 * (at2 - at9) - 1) ≤ (2 * (at2 - at9) - 1) := (by omega); omega)
            have hzz2 : hSl H ≤ hSl s.heap + ((11 * (2 * (at2 - at9) - 1))) := (by have z : (11 * (2 * (at2 - at9) - 1)) ≤ (11 * (2 * (at2 - at9) - 1)) := (by omega); omega)
            exact W.aret (v := .ref x2) hx hb hr (Or.inl ⟨_, rfl⟩) (Or.inr ⟨_, rfl⟩) (fun t99 ht99 hW99 => ⟨⟨_, (w, (x2, K2, (gset g2 x2 (g2 0 x2) O at9), at2, sg2, f2)), rfl, ⟨rfl, hz85, hz86, hz87, hO⟩, by rw [ht99]; exact hP, hD, by rw [ht99]; exact hzz1, by rw [ht99]; exact hzz2⟩, hS.F ht99⟩) hS.2.2 dX8_chain_70
          · have n88 : ¬ (r81 = 0) := fun h9 => c83 ((nI_eq (a := r81) (b := 0) (by omega) (by omega)).mpr h9)
            refine lv_aload_n hx hb dX8_chain_36 rfl (lv_at hl 2 rfl) ?_
            have hO : OKW G h0 a (upd (upd (upd (upd (upd (upd (upd (upd (upd F 2 (nI sz)) 9 (nI at9)) 10 (nI dp)) 11 (nI sg)) 9 (nI at2)) 11 (nI sg2)) 2 (nI sz)) 9 (nI at2)) 11 (nI sg2)) R Z (updA B 10 f2) J K2.1 (fun q99 x99 => x99 = rep G a K2 q99) w := hO.to rfl
            obtain ⟨_, qr92, hqr93⟩ := hO.2.1 23 _ (sg_23 G h0 a _ _ _ _ _)
            refine pn_V0 (G := G) (As := []) (rest := []) hx hb hml hown hq hE hX pX0_al hP hD hS hA hl.1 (P_countSign l G h0 a (upd (upd (upd (upd (upd (upd F 2 (nI sz)) 9 (nI at9)) 10 (nI dp)) 11 (nI sg)) 9 (nI at2)) 11 (nI sg2)) R Z (updA B 10 f2) J K2.1 (fun q99 x99 => x99 = rep G a K2 q99) w sg2 at2 sz (by omega) (by omega) (by omega) hO hl0) (gV pw_927 pw_928 pw_929 pw_796 pw_903) hV_X8_countSign qr92 5 hqr93 rfl rfl rfl (Nat.le_of_ble_eq_true rfl) dX8_chain_37 ⟨(by show (2 * (at2 - at9) - 1) + 1 ≤ (2 * (sz - at9) + 19); omega), (by show (11 * (2 * (at2 - at9) - 1)) + 6 ≤ (11 * (2 * (sz - at9) + 19)); omega)⟩ ⟨(by show 7 + 1 ≤ (40 * n + 20); omega), (by show 8 + (1 + 11) + 122 ≤ (1300 * n + 520); omega)⟩ (fun v91 u89 H locs hw90 hP hD hS => ?_) (fun ux ce9 q9 H9 locs9 hux hP9 hD9 hS9 hce hcv hcl => pb_out ux (ThQ.up (Thx.same (Thx.same (Thx.same (Thx.b (Thx.f (Thx.f Thx.rfl (by omega)) (by omega)) (by omega) (by decide)) rfl) rfl) rfl) RhX.rfl hux) hnt hlocks hce hcv hcl hP9 hD9 hS9 (by show (2 * (at2 - at9) - 1) + 1 ≤ (2 * (sz - at9) + 19); omega) (by show (11 * (2 * (at2 - at9) - 1)) + 6 ≤ (11 * (2 * (sz - at9) + 19)); omega))
            obtain ⟨w, _⟩ := u89
            obtain ⟨hw90, h94, hO⟩ := hw90
            have h94 : sg2 + 1 ≤ 60 := h94
            obtain rfl : v91 = none := hw90
            have hO : OKP G h0 a (upd (upd (upd (upd F 2 (nI sz)) 9 (nI at2)) 10 (nI dp)) 11 (nI (sg2 + 1))) R Z (updA B 10 f2) J K2 w := hO.to rfl
            refine W.widen (k := (2 * (at2 - at9) - 1)) (n := (11 * (2 * (at2 - at9) - 1))) (by show (2 * (at2 - at9) - 1) + 0 ≤ (2 * (at2 - at9) - 1); omega) (by show (11 * (2 * (at2 - at9) - 1)) + 0 ≤ (11 * (2 * (at2 - at9) - 1)); omega) ?_
            refine W.eq (g2 := F0 m 40 ls []) rfl ?_
            refine lv_aload_n hx hb dX8_chain_40 rfl (lv_at hl 2 rfl) ?_
            refine lv_bipush (v := 40) hx hb dX8_chain_41 (by decide) ?_
            have hO : OKW G h0 a (upd (upd (upd (upd (upd (upd F 2 (nI sz)) 9 (nI at2)) 10 (nI dp)) 11 (nI (sg2 + 1))) 2 (nI sz)) 9 (nI at2)) R Z (updA B 10 f2) J K2.1 (fun q99 x99 => x99 = rep G a K2 q99) w := hO.to rfl
            obtain ⟨_, qr98, hqr99⟩ := hO.2.1 23 _ (sg_23 G h0 a _ _ _ _ _)
            refine pc_V0 (G := G) (As := [.int 40]) (rest := []) hx hb hml hown hq hE hX pX0_al hP hD hS hA hl.1 (P_sees l G h0 a (upd (upd (upd (upd F 2 (nI sz)) 9 (nI at2)) 10 (nI dp)) 11 (nI (sg2 + 1))) R Z (updA B 10 f2) J K2.1 (fun q99 x99 => x99 = rep G a K2 q99) w 40 at2 sz (by omega) (by omega) hO) (gV pw_803 pw_804 pw_805 pw_796 pw_775) hV_X8_sees qr98 5 hqr99 rfl rfl rfl (Nat.le_of_ble_eq_true rfl) dX8_chain_43 ⟨(by show (2 * (at2 - at9) - 1) + 0 ≤ (2 * (sz - at9) + 19); omega), (by show (11 * (2 * (at2 - at9) - 1)) + 0 ≤ (11 * (2 * (sz - at9) + 19)); omega)⟩ ⟨(by show 3 + 1 ≤ (40 * n + 20); omega), (by show 8 + (2 + 11) + 81 ≤ (1300 * n + 520); omega)⟩ (fun v97 u95 H locs hw96 hP hD hS => ?_)
            obtain ⟨w, r100⟩ := u95
            obtain ⟨hw96, h101, hO⟩ := hw96
            have h101 : r100 ≤ 1 := h101
            obtain rfl : v97 = some (.int (nI r100)) := hw96
            have hO : OKP G h0 a (upd (upd (upd (upd F 2 (nI sz)) 9 (nI at2)) 10 (nI dp)) 11 (nI (sg2 + 1))) R Z (updA B 10 f2) J K2 w := hO.to rfl
            refine W.widen (k := (2 * (at2 - at9) - 1)) (n := (11 * (2 * (at2 - at9) - 1))) (by show (2 * (at2 - at9) - 1) + 0 ≤ (2 * (at2 - at9) - 1); omega) (by show (11 * (2 * (at2 - at9) - 1)) + 0 ≤ (11 * (2 * (at2 - at9) - 1)); omega) ?_
            refine W.eq (g2 := F0 m 46 ls [.int (nI r100)]) rfl ?_
            refine lv_if_eq (tgt := 57) hx hb dX8_chain_46 (by decide) (fun c102 => ?_) (fun c102 => ?_)
            · have n103 : r100 = 0 := (nI_eq (a := r100) (b := 0) (by omega) (by omega)).mp c102
              refine lv_aload_n hx hb dX8_chain_57 rfl (lv_at hl 2 rfl) ?_
              refine lv_aload_n hx hb dX8_chain_58 rfl (lv_at hl 1 rfl) ?_
              have hO : OKP G h0 a (upd (upd (upd (upd (upd (upd (upd (upd (upd (upd F 2 (nI sz)) 9 (nI at9)) 10 (nI dp)) 11 (nI sg)) 9 (nI at2)) 11 (nI (sg2 + 1))) 2 (nI sz)) 9 (nI at2)) 10 (nI dp)) 11 (nI (sg2 + 1))) R Z (updA B 10 f2) J K2 w := hO.to rfl
              obtain ⟨_, qr107, hqr108⟩ := hO.2.1 23 _ (sg_23 G h0 a _ _ _ _ _)
              refine pn_V0 (G := G) (As := [.ref x2]) (rest := []) hx hb hml hown hq hE hX pX0_al hP hD hS hA hl.1 (P_indexed l G h0 a (upd (upd (upd (upd (upd (upd F 2 (nI sz)) 9 (nI at9)) 10 (nI dp)) 11 (nI sg)) 9 (nI at2)) 11 (nI (sg2 + 1))) R Z (updA B 10 f2) J K2 w x2 sg at9 n at2 sz dp (sg2 + 1) 0 g2 (by omega) (by omega) (by omega) (by omega) hnr.1 (fun o9 h9 => absurd h9 (by omega)) hr21 hr22 (by omega) (by omega) ihe hO hl0) (gV pw_933 pw_934 pw_935 pw_796 pw_953) hV_X8_indexed qr107 5 hqr108 rfl rfl rfl (Nat.le_of_ble_eq_true rfl) dX8_chain_59 ⟨(by show (2 * (at2 - at9) - 1) + (2 * (sz - at2) + 19) ≤ (2 * (sz - at9) + 19); omega), (by show (11 * (2 * (at2 - at9) - 1)) + (11 * (2 * (sz - at2) + 19)) ≤ (11 * (2 * (sz - at9) + 19)); omega)⟩ ⟨(by show (40 * n + 16) + 1 ≤ (40 * n + 20); omega), (by show 8 + (3 + 11) + (1300 * n + 480) ≤ (1300 * n + 520); omega)⟩ (fun v106 u104 H locs hw105 hP hD hS => ?_) (fun ux ce9 q9 H9 locs9 hux hP9 hD9 hS9 hce hcv hcl => pb_out ux (ThQ.up (Thx.same (Thx.same (Thx.same (Thx.same (Thx.b (Thx.f (Thx.f Thx.rfl (by omega)) (by omega)) (by omega) (by decide)) rfl) rfl) rfl) rfl) RhX.rfl hux) hnt hlocks hce hcv hcl hP9 hD9 hS9 (by show (2 * (at2 - at9) - 1) + (2 * (sz - at2) + 19) ≤ (2 * (sz - at9) + 19); omega) (by show (11 * (2 * (at2 - at9) - 1)) + (11 * (2 * (sz - at2) + 19)) ≤ (11 * (2 * (sz - at9) + 19)); omega))
              obtain ⟨w, r109, K110, g111, at112, sg113, f114⟩ := u104
              obtain ⟨hw105, h115, h116, h117, hO⟩ := hw105
              have h115 : NwR K2 K110 g2 g111 r109 0 at9 (5 * (20 - dp) + 3 + (sg113 - sg)) := h115
              have h116 : at2 + 3 ≤ at112 ∧ at112 ≤ sz := h116
              have h117 : (sg2 + 1) ≤ sg113 ∧ sg113 ≤ 60 := h117
              obtain rfl : v106 = some (.ref r109) := hw105
              have hO : OKP G h0 a (upd (upd (upd (upd F 2 (nI sz)) 9 (nI at112)) 10 (nI dp)) 11 (nI sg113)) R Z (updA B 10 f114) J K110 w := hO.to rfl
              refine W.widen (k := ((2 * (at2 - at9) - 1) + (2 * (at112 - at2) - 4))) (n := ((11 * (2 * (at2 - at9) - 1)) + (11 * (2 * (at112 - at2) - 4)))) (by show (2 * (at2 - at9) - 1) + (2 * (at112 - at2) - 4) ≤ ((2 * (at2 - at9) - 1) + (2 * (at112 - at2) - 4)); omega) (by show (11 * (2 * (at2 - at9) - 1)) + (11 * (2 * (at112 - at2) - 4)) ≤ ((11 * (2 * (at2 - at9) - 1)) + (11 * (2 * (at112 - at2) - 4))); omega) ?_
              refine W.eq (g2 := F0 m 62 ls [.ref r109]) rfl ?_
              refine lv_astore_n (lv' := [(1, .ref r109), (2, .int (nI i2)), (0, .ref (a 3))]) hx hb dX8_chain_62 rfl hl (by decide) rfl (fun ls hl => ?_)
              refine lv_iinc (v := (nI (i2 + 1))) (lv' := [(2, .int (nI (i2 + 1))), (1, .ref r109), (0, .ref (a 3))]) hx hb dX8_chain_63 hl (k := 1) rfl (nI_1 i2) (by decide) rfl (fun ls hl => ?_)
              refine lv_goto (tgt := 7) hx hb dX8_chain_66 (by decide) ?_
              refine W.widen (k := (2 * (at112 - at9) - 1)) (n := (11 * (2 * (at112 - at9) - 1))) (by show ((2 * (at2 - at9) - 1) + (2 * (at112 - at2) - 4)) ≤ _; omega) (by show ((11 * (2 * (at2 - at9) - 1)) + (11 * (2 * (at112 - at2) - 4))) ≤ _; omega) ?_
              have hO : OKP G h0 a (upd (upd (upd (upd F 2 (nI sz)) 9 (nI at112)) 10 (nI dp)) 11 (nI sg113)) R Z (updA B 10 f114) J K110 w := hO.to rfl
              exact ih_i (i2 + 1) at112 sg113 f114 K110 g111 r109 at9 _ _ _ _ (by omega) (by omega) (by omega) (by omega) (by omega) (NwS.toR (NwR.toS hnr) h115) hP hD hS hO (lv_sub hl [0, 1, 2] rfl)
            · have n118 : ¬ (r100 = 0) := fun h9 => c102 ((nI_eq (a := r100) (b := 0) (by omega) (by omega)).mpr h9)
              refine lv_aload_n hx hb dX8_chain_49 rfl (lv_at hl 2 rfl) ?_
              refine lv_aload_n hx hb dX8_chain_50 rfl (lv_at hl 1 rfl) ?_
              have hO : OKP G h0 a (upd (upd (upd (upd (upd (upd (upd (upd (upd (upd F 2 (nI sz)) 9 (nI at9)) 10 (nI dp)) 11 (nI sg)) 9 (nI at2)) 11 (nI (sg2 + 1))) 2 (nI sz)) 9 (nI at2)) 10 (nI dp)) 11 (nI (sg2 + 1))) R Z (updA B 10 f2) J K2 w := hO.to rfl
              obtain ⟨_, qr122, hqr123⟩ := hO.2.1 23 _ (sg_23 G h0 a _ _ _ _ _)
              refine pn_V0 (G := G) (As := [.ref x2]) (rest := []) hx hb hml hown hq hE hX pX0_al hP hD hS hA hl.1 (P_dotted l G h0 a (upd (upd (upd (upd (upd (upd F 2 (nI sz)) 9 (nI at9)) 10 (nI dp)) 11 (nI sg)) 9 (nI at2)) 11 (nI (sg2 + 1))) R Z (updA B 10 f2) J K2 w x2 sg at9 n at2 sz dp (sg2 + 1) 0 g2 (by omega) (by omega) (by omega) (by omega) hnr.1 (fun o9 h9 => absurd h9 (by omega)) hr21 hr22 (by omega) (by omega) ihe hO hl0) (gV pw_930 pw_931 pw_932 pw_796 pw_936) hV_X8_dotted qr122 5 hqr123 rfl rfl rfl (Nat.le_of_ble_eq_true rfl) dX8_chain_51 ⟨(by show (2 * (at2 - at9) - 1) + (2 * (sz - at2) + 19) ≤ (2 * (sz - at9) + 19); omega), (by show (11 * (2 * (at2 - at9) - 1)) + (11 * (2 * (sz - at2) + 19)) ≤ (11 * (2 * (sz - at9) + 19)); omega)⟩ ⟨(by show (40 * n + 16) + 1 ≤ (40 * n + 20); omega), (by show 8 + (6 + 11) + (1300 * n + 480) ≤ (1300 * n + 520); omega)⟩ (fun v121 u119 H locs hw120 hP hD hS => ?_) (fun ux ce9 q9 H9 locs9 hux hP9 hD9 hS9 hce hcv hcl => pb_out ux (ThQ.up (Thx.same (Thx.same (Thx.same (Thx.same (Thx.b (Thx.f (Thx.f Thx.rfl (by omega)) (by omega)) (by omega) (by decide)) rfl) rfl) rfl) rfl) RhX.rfl hux) hnt hlocks hce hcv hcl hP9 hD9 hS9 (by show (2 * (at2 - at9) - 1) + (2 * (sz - at2) + 19) ≤ (2 * (sz - at9) + 19); omega) (by show (11 * (2 * (at2 - at9) - 1)) + (11 * (2 * (sz - at2) + 19)) ≤ (11 * (2 * (sz - at9) + 19)); omega))
              obtain ⟨w, r124, K125, g126, at127, sg128, f129⟩ := u119
              obtain ⟨hw120, h130, h131, h132, hO⟩ := hw120
              have h130 : NwR K2 K125 g2 g126 r124 0 at9 ((5 * (20 - dp) + 3 + (sg128 - sg))) := h130
              have h131 : at2 + 2 ≤ at127 ∧ at127 ≤ sz := h131
              have h132 : (sg2 + 1) ≤ sg128 ∧ sg128 ≤ 60 := h132
              obtain rfl : v121 = some (.ref r124) := hw120
              have hO : OKP G h0 a (upd (upd (upd (upd F 2 (nI sz)) 9 (nI at127)) 10 (nI dp)) 11 (nI sg128)) R Z (updA B 10 f129) J K125 w := hO.to rfl
              refine W.widen (k := ((2 * (at2 - at9) - 1) + (2 * (at127 - at2) - 3))) (n := ((11 * (2 * (at2 - at9) - 1)) + (11 * (2 * (at127 - at2) - 3)))) (by show (2 * (at2 - at9) - 1) + (2 * (at127 - at2) - 3) ≤ ((2 * (at2 - at9) - 1) + (2 * (at127 - at2) - 3)); omega) (by show (11 * (2 * (at2 - at9) - 1)) + (11 * (2 * (at127 - at2) - 3)) ≤ ((11 * (2 * (at2 - at9) - 1)) + (11 * (2 * (at127 - at2) - 3))); omega) ?_
              refine W.eq (g2 := F0 m 54 ls [.ref r124]) rfl ?_
              refine lv_goto (tgt := 62) hx hb dX8_chain_54 (by decide) ?_
              refine lv_astore_n (lv' := [(1, .ref r124), (2, .int (nI i2)), (0, .ref (a 3))]) hx hb dX8_chain_62 rfl hl (by decide) rfl (fun ls hl => ?_)
              refine lv_iinc (v := (nI (i2 + 1))) (lv' := [(2, .int (nI (i2 + 1))), (1, .ref r124), (0, .ref (a 3))]) hx hb dX8_chain_63 hl (k := 1) rfl (nI_1 i2) (by decide) rfl (fun ls hl => ?_)
              refine lv_goto (tgt := 7) hx hb dX8_chain_66 (by decide) ?_
              refine W.widen (k := (2 * (at127 - at9) - 1)) (n := (11 * (2 * (at127 - at9) - 1))) (by show ((2 * (at2 - at9) - 1) + (2 * (at127 - at2) - 3)) ≤ _; omega) (by show ((11 * (2 * (at2 - at9) - 1)) + (11 * (2 * (at127 - at2) - 3))) ≤ _; omega) ?_
              have hO : OKP G h0 a (upd (upd (upd (upd F 2 (nI sz)) 9 (nI at127)) 10 (nI dp)) 11 (nI sg128)) R Z (updA B 10 f129) J K125 w := hO.to rfl
              exact ih_i (i2 + 1) at127 sg128 f129 K125 g126 r124 at9 _ _ _ _ (by omega) (by omega) (by omega) (by omega) (by omega) (NwS.toR (NwR.toS hnr) h130) hP hD hS hO (lv_sub hl [0, 1, 2] rfl)
  refine W.widen (k := (2 * (at10 - at9) - 1)) (n := (11 * (2 * (at10 - at9) - 1))) (by show (2 * (at10 - at9) - 1) ≤ _; omega) (by show (11 * (2 * (at10 - at9) - 1)) ≤ _; omega) ?_
  have hO : OKP G h0 a (upd (upd (upd (upd F 2 (nI sz)) 9 (nI at10)) 10 (nI dp)) 11 (nI sg11)) R Z (updA B 10 f12) J K7 w := hO.to rfl
  exact loop_i (sz + 1) 0 at10 sg11 f12 K7 g8 r6 at9 _ _ _ _ (by omega) (by omega) (by omega) (by omega) (by omega) hnr0 hP hD hS hO (lv_sub hl [0, 1, 2] rfl)
