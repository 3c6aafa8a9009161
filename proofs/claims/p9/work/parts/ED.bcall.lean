theorem NwS.doneA {K K0 K1 : PK} {g g0 g1 : Nat → Nat → Nat} {q B L O k : Nat} (hS : NwS K0 K1 g0 g1) (ha : ArS K K1 g g1 q B) (hq0 : K0.1 q = 0) (hL : B < L) (hk : k ≤ 6000) (hkd : K1.2.1 0 q = 10 ∨ K1.2.1 0 q = 11) (hc0 : K1.2.2.1 0 q = none ∨ ∃ x : Nat, K1.2.2.1 0 q = some x ∧ K1.1 x = 1 ∧ 1 ≤ g1 0 x ∧ g1 0 x < L) (hc2 : K1.2.2.1 2 q = none) (hc3 : K1.2.2.1 3 q = none) (hc4 : K1.2.2.1 4 q = none) (hO : ∀ o : Nat, O = o + 1 → K0.1 o = 1 ∧ g0 0 o = 0 ∧ ¬ K0.2.1 0 o = 32) : NwR K0 K1 g0 (gset g1 q L O k) q O k L := by
  obtain ⟨a1, a2, a3, ⟨a4, a5, a6, a7⟩, a8, a9, a10⟩ := ha
  refine NwS.done hS hq0 a4 a5 (by omega) (Itv.small hk) ?_ (fun f x hf hx => ?_) hc4 (fun x h1 h2 h3 => ⟨(by have z := (a9 x h1 h2 h3).1; omega), (by rcases hkd with e | e <;> rw [e] <;> exact ⟨fun z => absurd z (by decide), fun z => absurd z (by decide)⟩)⟩) (fun o ho => ⟨(hO o ho).1, fun z => (by rw [(hO o ho).2.1] at z; omega), fun z => absurd z (hO o ho).2.2⟩)
  · rcases hkd with e | e <;> rw [e] <;> exact ⟨fun z => absurd z (by decide), fun z => absurd z (by decide), fun z => absurd z (by decide), fun z => absurd z (by decide), fun z => absurd z (by decide)⟩
  · have kn : ∀ (f : Nat) (c : Int32) (kx : Nat), Kch (K1.2.1 0 q) f c k kx := fun f c kx => Kch.no (by rcases hkd with e | e <;> rw [e] <;> decide)
    have nl : ∀ f : Nat, ¬ f = 1 → ¬ Lsf (K1.2.1 0 q) f := fun f hf z => by
      rcases z with ⟨z, _⟩ | ⟨_, z⟩
      · rcases hkd with e | e <;> rw [e] at z <;> exact absurd z (by decide)
      · exact hf z
    rcases (show f = 0 ∨ f = 1 ∨ f = 2 ∨ f = 3 by omega) with rfl | rfl | rfl | rfl
    · rcases hc0 with w | ⟨y, w1, w2, w3, w4⟩
      · rw [w] at hx; cases hx
      · rw [w1] at hx; cases hx
        exact ⟨w2, w3, w4, fun z => absurd z (nl 0 (by decide)), kn _ _ _⟩
    · rcases a10 with w | ⟨y, w1, w2, w3, w4⟩
      · rw [w] at hx; cases hx
      · rw [w1] at hx; cases hx
        have z := (a9 _ w2 w3 w4).1
        exact ⟨w2, w3, by omega, fun _ => w4, kn _ _ _⟩
    · rw [hc2] at hx; cases hx
    · rw [hc3] at hx; cases hx
theorem dX8_named_0 : decode cX8_named 0 = .ok (.aload_n 0, 1) := by decide +kernel
theorem dX8_named_1 : decode cX8_named 1 = .ok (.getfield 7, 3) := by decide +kernel
theorem dX8_named_4 : decode cX8_named 4 = .ok (.aload_n 0, 1) := by decide +kernel
theorem dX8_named_5 : decode cX8_named 5 = .ok (.getfield 17, 3) := by decide +kernel
theorem dX8_named_8 : decode cX8_named 8 = .ok (.iconst 1, 1) := by decide +kernel
theorem dX8_named_9 : decode cX8_named 9 = .ok (.iadd, 1) := by decide +kernel
theorem dX8_named_10 : decode cX8_named 10 = .ok (.invokevirtual 57, 3) := by decide +kernel
theorem dX8_named_13 : decode cX8_named 13 = .ok (.bipush 34, 2) := by decide +kernel
theorem dX8_named_15 : decode cX8_named 15 = .ok (.if_icmp .eq 9, 3) := by decide +kernel
theorem dX8_named_24 : decode cX8_named 24 = .ok (.aload_n 0, 1) := by decide +kernel
theorem dX8_named_25 : decode cX8_named 25 = .ok (.bipush 10, 2) := by decide +kernel
theorem dX8_named_27 : decode cX8_named 27 = .ok (.invokevirtual 290, 3) := by decide +kernel
theorem dX8_named_30 : decode cX8_named 30 = .ok (.astore_n 1, 1) := by decide +kernel
theorem dX8_named_31 : decode cX8_named 31 = .ok (.aload_n 0, 1) := by decide +kernel
theorem dX8_named_32 : decode cX8_named 32 = .ok (.aload_n 1, 1) := by decide +kernel
theorem dX8_named_33 : decode cX8_named 33 = .ok (.invokevirtual 276, 3) := by decide +kernel
theorem dX8_named_36 : decode cX8_named 36 = .ok (.aload_n 1, 1) := by decide +kernel
theorem dX8_named_37 : decode cX8_named 37 = .ok (.areturn, 1) := by decide +kernel
theorem dX8_named_18 : decode cX8_named 18 = .ok (.aload_n 0, 1) := by decide +kernel
theorem dX8_named_19 : decode cX8_named 19 = .ok (.iconst 5, 1) := by decide +kernel
theorem dX8_named_20 : decode cX8_named 20 = .ok (.invokevirtual 290, 3) := by decide +kernel
theorem dX8_named_23 : decode cX8_named 23 = .ok (.areturn, 1) := by decide +kernel
theorem hV_X8_leaf : yX8_leaf.cls = RX8 ∧ yX8_leaf.cls ≠ "java/lang/invoke/MethodHandle" ∧ yX8_leaf.cls ≠ "java/lang/invoke/VarHandle" ∧ (parseMethodDescriptor yX8_leaf.desc).map (fun d => d.parameters.length) = some 1 := by decide +kernel
theorem hV_X8_arguments : yX8_arguments.cls = RX8 ∧ yX8_arguments.cls ≠ "java/lang/invoke/MethodHandle" ∧ yX8_arguments.cls ≠ "java/lang/invoke/VarHandle" ∧ (parseMethodDescriptor yX8_arguments.desc).map (fun d => d.parameters.length) = some 1 := by decide +kernel
set_option maxHeartbeats 16000000 in
set_option maxRecDepth 100000 in
theorem P_named (l : Launch) (G : pT) (h0 : Nat) (a : Nat → Nat) (F : Nat → Int32) (R : Nat → Value) (Z : Int64) (B : Nat → Nat → Int32) (J : Nat → Nat → Int64) (K : PK) (w : va_W) (n : Nat) (at9 : Nat) (sz : Nat) (dp : Nat) (sg : Nat) (O : Nat) (g : Nat → Nat → Nat) (hsz : sz ≤ 5000) (hat : at9 ≤ sz) (hdp : dp + n = 20) (hsg : sg ≤ 60) (hwn : WN K g) (how : ∀ o : Nat, O = o + 1 → K.1 o = 1 ∧ g 0 o = 0 ∧ ¬ K.2.1 0 o = 32) (hle : at9 + 1 ≤ sz) (ihe : IhE l G n) (hO : OKP G h0 a (upd (upd (upd (upd F 2 (nI sz)) 9 (nI at9)) 10 (nI dp)) 11 (nI sg)) R Z B J K w) (hl0 : l.stackTraces = false) : PBn l G pX0 yX8_named cX8_named 2 (some (.object "JinjaTongue$Node")) ({ frames := (40 * n + 14), cells := (2 * (sz - at9) + 19), slots := (11 * (2 * (sz - at9) + 19)), locals := (1300 * n + 440) }) [.ref (a 3)] w (fun (v : Option Value) (u : va_W × (Nat × PK × (Nat → Nat → Nat) × Nat × Nat × (Nat → Int32))) => v = some (.ref u.2.1) ∧ (NwR K u.2.2.1 g u.2.2.2.1 u.2.1 O at9 ((5 * (20 - dp) + 2 + (u.2.2.2.2.2.1 - sg)))) ∧ (at9 + 1 ≤ u.2.2.2.2.1 ∧ u.2.2.2.2.1 ≤ sz) ∧ (sg ≤ u.2.2.2.2.2.1 ∧ u.2.2.2.2.2.1 ≤ 60) ∧ (OKP G h0 a (upd (upd (upd (upd F 2 (nI sz)) 9 (nI u.2.2.2.2.1)) 10 (nI dp)) 11 (nI u.2.2.2.2.2.1)) R Z (updA B 10 u.2.2.2.2.2.2) J u.2.2.1 u.1)) (fun u => u.1) (fun (u : va_W × (Nat × PK × (Nat → Nat → Nat) × Nat × Nat × (Nat → Int32))) => (2 * (u.2.2.2.2.1 - at9) - 1)) (fun (u : va_W × (Nat × PK × (Nat → Nat → Nat) × Nat × Nat × (Nat → Int32))) => (11 * (2 * (u.2.2.2.2.1 - at9) - 1))) (fun (u : va_W × (Nat → Int32) × (Nat → Value) × (Nat → Nat → Int32)) => ThQ G h0 a (upd (upd (upd (upd F 2 (nI sz)) 9 (nI at9)) 10 (nI dp)) 11 (nI sg)) R Z B J u) (fun u => u.1) := by
  intro sz
  refine vx_ofW (cc := cX8_named) (maxL := 2) (ret := (some (.object "JinjaTongue$Node"))) (by decide) rfl ?_
  intro p e s m args below meth c s₁ B9 hml hnt hv
  obtain ⟨rfl, hsz, hP, hD0, hE, hX⟩ := hv
  have hx := B9.exec
  have hb := B9.bytes
  have hr := B9.returns
  have hts := atoms_spec (ws := Cond.code yX8_named cX8_named 2 (some (.object "JinjaTongue$Node")) :: pw) B9.pre
  have hq : ∀ w ∈ pw, w.before _ s = true := fun w h => hts w (List.mem_cons_of_mem _ h)
  have hown : s.vm.findClass RX8 = some m.cls := findClass_of_methodNamed B9.named
  have hlocks := B9.notSynchronized
  subst hsz
  have hD := hD0.self (sz := s.heap.size)
  have hA : ∀ q : Nat, s.heap.size ≤ q → va_A w s.heap.size q := fun q h => Or.inr h
  generalize va_A w s.heap.size = A at hD hE hA ⊢
  have hS : va_S A s.heap s.heap [] := va_S.rf
  have hl := lv_entry ([.ref (a 3)]) (n := 2) (Nat.le_of_ble_eq_true rfl)
  rw [lg_entry_eq]
  generalize (lg_sl ([.ref (a 3)]) ++ List.replicate (2 - (lg_sl ([.ref (a 3)])).length) Slot.unset).toArray = ls at hl ⊢
  have hl : lv_has ls 2 [(0, .ref (a 3))] := hl
  refine lv_aload_n hx hb dX8_named_0 rfl (lv_at hl 0 rfl) ?_
  refine c_get (v := .ref (a 1)) (C := RX8) (Tc := TX8) (N := 5) (ci := 5) hx hb hq pin_wsX80 hown hE hP hO 23 (sg_23 G h0 a _ _ _ _ _) rfl 0 (by decide) (hq _ pw_774) (fun _ h9 => h9) rfl dX8_named_1 ?_
  refine lv_aload_n hx hb dX8_named_4 rfl (lv_at hl 0 rfl) ?_
  refine c_get (v := .int (nI at9)) (C := RX8) (Tc := TX8) (N := 5) (ci := 5) hx hb hq pin_wsX80 hown hE hP hO 23 (sg_23 G h0 a _ _ _ _ _) rfl 2 (by decide) (hq _ pw_776) (fun _ h9 => h9) rfl dX8_named_5 ?_
  refine lv_iconst (v := 1) hx hb dX8_named_8 (by decide) ?_
  refine lv_iadd hx hb dX8_named_9 ?_
  refine lv_topi (fun x1 e2 => ?_)
  obtain rfl : x1 = nI (at9 + 1) := e2.trans (nI_add (at9) (1))
  have hO : OKW G h0 a (upd (upd (upd (upd (upd F 2 (nI sz)) 9 (nI at9)) 10 (nI dp)) 11 (nI sg)) 2 (nI sz)) R Z B J K.1 (fun q99 x99 => x99 = rep G a K q99) w := hO.to rfl
  obtain ⟨_, qr6, hqr7⟩ := hO.2.1 2 _ (sg_2 G h0 a _ _ _ _ _)
  refine pc_V0 (G := G) (As := [.int (nI (at9 + 1))]) (rest := []) hx hb hml hown hq hE hX pX0_al hP hD hS hA hl.1 (K_kindAt l G h0 a (upd (upd (upd (upd F 2 (nI sz)) 9 (nI at9)) 10 (nI dp)) 11 (nI sg)) R Z B J K.1 (fun q99 x99 => x99 = rep G a K q99) w (nI (at9 + 1)) sz (by omega) hO) (gV pw_777 pw_193 pw_194 pw_59 pw_126) hV_X10_kindAt qr6 7 hqr7 rfl rfl rfl (Nat.le_of_ble_eq_true rfl) dX8_named_10 ⟨(by show 0 + 0 ≤ (2 * (sz - at9) + 19); omega), (by show 0 + 0 ≤ (11 * (2 * (sz - at9) + 19)); omega)⟩ ⟨(by show 2 + 1 ≤ (40 * n + 14); omega), (by show 8 + (2 + 11) + 60 ≤ (1300 * n + 440); omega)⟩ (fun v5 u3 H locs hw4 hP hD hS => ?_)
  obtain ⟨w, r8⟩ := u3
  obtain ⟨hw4, h9, hO⟩ := hw4
  have h9 : r8 = 67 ∨ ∃ t : Nat, (nI (at9 + 1)) = nI t ∧ t < sz := h9
  obtain rfl : v5 = some (.int r8) := hw4
  have hO : OKP G h0 a (upd (upd (upd (upd F 2 (nI sz)) 9 (nI at9)) 10 (nI dp)) 11 (nI sg)) R Z B J K w := hO.to rfl
  refine W.widen (k := 0) (n := 0) (Nat.le_of_ble_eq_true rfl) (Nat.le_of_ble_eq_true rfl) ?_
  refine W.eq (g2 := F0 m 13 ls [.int r8]) rfl ?_
  refine lv_bipush (v := 34) hx hb dX8_named_13 (by decide) ?_
  refine lv_icmp_eq (tgt := 24) hx hb dX8_named_15 (by decide) (fun c10 => ?_) (fun c10 => ?_)
  · refine lv_aload_n hx hb dX8_named_24 rfl (lv_at hl 0 rfl) ?_
    refine lv_bipush (v := 10) hx hb dX8_named_25 (by decide) ?_
    have hO : OKP G h0 a (upd (upd (upd (upd (upd (upd F 2 (nI sz)) 9 (nI at9)) 10 (nI dp)) 11 (nI sg)) 2 (nI sz)) 9 (nI at9)) R Z B J K w := hO.to rfl
    obtain ⟨_, qr14, hqr15⟩ := hO.2.1 23 _ (sg_23 G h0 a _ _ _ _ _)
    refine pc_V0 (G := G) (As := [.int 10]) (rest := []) hx hb hml hown hq hE hX pX0_al hP hD hS hA hl.1 (P_leafU l G h0 a (upd (upd (upd (upd F 2 (nI sz)) 9 (nI at9)) 10 (nI dp)) 11 (nI sg)) R Z B J K w 10 at9 sz (by omega) (by omega) (by omega) hO) (gV pw_959 pw_960 pw_961 pw_796 pw_907) hV_X8_leaf qr14 5 hqr15 rfl rfl rfl (Nat.le_of_ble_eq_true rfl) dX8_named_27 ⟨(by show 0 + 1 ≤ (2 * (sz - at9) + 19); omega), (by show 0 + 11 ≤ (11 * (2 * (sz - at9) + 19)); omega)⟩ ⟨(by show 3 + 1 ≤ (40 * n + 14); omega), (by show 8 + (2 + 11) + 83 ≤ (1300 * n + 440); omega)⟩ (fun v13 u11 H locs hw12 hP hD hS => ?_)
    obtain ⟨w, r16⟩ := u11
    obtain ⟨hw12, h17, hO⟩ := hw12
    have h17 : K.1 r16 = 0 := h17
    obtain rfl : v13 = some (.ref r16) := hw12
    have hO : OKP G h0 a (upd (upd (upd (upd F 2 (nI sz)) 9 (nI (at9 + 1))) 10 (nI dp)) 11 (nI sg)) R Z B J (mkN K r16 10 (nI at9) (nI at9)) w := hO.to rfl
    refine W.widen (k := 1) (n := 11) (by show 0 + 1 ≤ 1; omega) (by show 0 + 11 ≤ 11; omega) ?_
    refine W.eq (g2 := F0 m 30 ls [.ref r16]) rfl ?_
    change OKP G h0 a (upd (upd (upd (upd F 2 (nI sz)) 9 (nI (at9 + 1))) 10 (nI dp)) 11 (nI sg)) R Z B J (mkN K r16 10 (nI at9) (nI at9)) w at hO
    obtain ⟨K18, hK19⟩ : ∃ z : PK, z = (mkN K r16 10 (nI at9) (nI at9)) := ⟨_, rfl⟩
    rw [← hK19] at hO
    have hf20 : K18.1 r16 = 1 := by rw [hK19]; exact mkN_T
    have hf21 : K18.2.1 0 r16 = 10 := by rw [hK19]; exact mkN_0
    have hf22 : K18.2.2.1 0 r16 = none := by rw [hK19]; exact mkN_C
    have hf23 : K18.2.2.1 1 r16 = none := by rw [hK19]; exact mkN_C
    have hf24 : K18.2.2.1 2 r16 = none := by rw [hK19]; exact mkN_C
    have hf25 : K18.2.2.1 3 r16 = none := by rw [hK19]; exact mkN_C
    have hf26 : K18.2.2.1 4 r16 = none := by rw [hK19]; exact mkN_C
    have hns1 : NwS K K18 g (gset g r16 0 0 0) := by rw [hK19]; exact NwS.node (NwS.nil hwn) h17
    have hno1 : NoO K18 (gset g r16 0 0 0) r16 := by rw [hK19]; exact NoO.new hwn h17
    refine lv_astore_n (lv' := [(1, .ref r16), (0, .ref (a 3))]) hx hb dX8_named_30 rfl hl (by decide) rfl (fun ls hl => ?_)
    refine lv_aload_n hx hb dX8_named_31 rfl (lv_at hl 1 rfl) ?_
    refine lv_aload_n hx hb dX8_named_32 rfl (lv_at hl 0 rfl) ?_
    have hO : OKP G h0 a (upd (upd (upd (upd (upd (upd (upd (upd (upd F 2 (nI sz)) 9 (nI at9)) 10 (nI dp)) 11 (nI sg)) 9 (nI (at9 + 1))) 2 (nI sz)) 9 (nI (at9 + 1))) 10 (nI dp)) 11 (nI sg)) R Z B J K18 w := hO.to rfl
    obtain ⟨_, qr30, hqr31⟩ := hO.2.1 23 _ (sg_23 G h0 a _ _ _ _ _)
    refine pn_V0 (G := G) (As := [.ref r16]) (rest := []) hx hb hml hown hq hE hX pX0_al hP hD hS hA hl.1 (P_arguments l G h0 a (upd (upd (upd (upd (upd F 2 (nI sz)) 9 (nI at9)) 10 (nI dp)) 11 (nI sg)) 9 (nI (at9 + 1))) R Z B J K18 w r16 n (at9 + 1) sz dp sg (gset g r16 0 0 0) (by omega) (by omega) (by omega) (by omega) hns1.1 hf20 gset_0 hf23 hno1 (by rw [hf21]; decide) ihe hO hl0) (gV pw_939 pw_940 pw_941 pw_796 pw_986) hV_X8_arguments qr30 5 hqr31 rfl rfl rfl (Nat.le_of_ble_eq_true rfl) dX8_named_33 ⟨(by show 1 + (2 * (sz - (at9 + 1)) + 18) ≤ (2 * (sz - at9) + 19); omega), (by show 11 + (11 * (2 * (sz - (at9 + 1)) + 18)) ≤ (11 * (2 * (sz - at9) + 19)); omega)⟩ ⟨(by show (40 * n + 12) + 1 ≤ (40 * n + 14); omega), (by show 8 + (6 + 11) + (1300 * n + 400) ≤ (1300 * n + 440); omega)⟩ (fun v29 u27 H locs hw28 hP hD hS => ?_) (fun ux ce9 q9 H9 locs9 hux hP9 hD9 hS9 hce hcv hcl => pb_out ux (ThQ.up (Thx.same (Thx.same (Thx.same (Thx.same (Thx.f Thx.rfl (by omega)) rfl) rfl) rfl) rfl) RhX.rfl hux) hnt hlocks hce hcv hcl hP9 hD9 hS9 (by show 1 + (2 * (sz - (at9 + 1)) + 18) ≤ (2 * (sz - at9) + 19); omega) (by show 11 + (11 * (2 * (sz - (at9 + 1)) + 18)) ≤ (11 * (2 * (sz - at9) + 19)); omega))
    obtain ⟨w, K32, g33, at34, sg35, f36⟩ := u27
    obtain ⟨hw28, h37, h38, h39, h40, hO⟩ := hw28
    have h37 : (at9 + 1) + 2 ≤ at34 ∧ at34 ≤ sz := h37
    have h38 : sg ≤ sg35 ∧ sg35 ≤ 60 := h38
    have h39 : ArS K18 K32 (gset g r16 0 0 0) g33 r16 (5 * (20 - (dp + 1)) + 6 + (sg35 - sg)) := h39
    have h40 : dp + 1 ≤ 20 := h40
    obtain rfl : v29 = none := hw28
    have hO : OKP G h0 a (upd (upd (upd (upd F 2 (nI sz)) 9 (nI at34)) 10 (nI dp)) 11 (nI sg35)) R Z (updA B 10 f36) J K32 w := hO.to rfl
    refine W.widen (k := (1 + (2 * (at34 - (at9 + 1)) - 4))) (n := (11 + (11 * (2 * (at34 - (at9 + 1)) - 4)))) (by show 1 + (2 * (at34 - (at9 + 1)) - 4) ≤ (1 + (2 * (at34 - (at9 + 1)) - 4)); omega) (by show 11 + (11 * (2 * (at34 - (at9 + 1)) - 4)) ≤ (11 + (11 * (2 * (at34 - (at9 + 1)) - 4))); omega) ?_
    refine W.eq (g2 := F0 m 36 ls []) rfl ?_
    refine lv_aload_n hx hb dX8_named_36 rfl (lv_at hl 0 rfl) ?_
    refine W_size (fun hz1 hz2 => ?_)
    refine vx_ret ?_
    have hns2 := NwS.args hns1 h39 hf20 h17
    have hcc := h39.2.2.2.1
    have hdn := NwS.doneA (L := (5 * (20 - dp) + 2 + (sg35 - sg))) (O := O) (k := at9) hns2 h39 h17 (by omega) (by omega) (Or.inl ((hcc.2.2.1 0 (by decide)).trans hf21)) (Or.inl ((hcc.2.2.2 0 (by decide)).trans hf22)) ((hcc.2.2.2 2 (by decide)).trans hf24) ((hcc.2.2.2 3 (by decide)).trans hf25) ((hcc.2.2.2 4 (by decide)).trans hf26) how
    have hz41 : NwR K K32 g (gset g33 r16 (5 * (20 - dp) + 2 + (sg35 - sg)) O at9) r16 O at9 ((5 * (20 - dp) + 2 + (sg35 - sg))) := hdn
    have hz42 : at9 + 1 ≤ at34 ∧ at34 ≤ sz := (by omega)
    have hz43 : sg ≤ sg35 ∧ sg35 ≤ 60 := (by omega)
    have hO : OKP G h0 a (upd (upd (upd (upd F 2 (nI sz)) 9 (nI at34)) 10 (nI dp)) 11 (nI sg35)) R Z (updA B 10 f36) J K32 w := hO.to rfl
    refine W.widen (k := (2 * (sz - at9) + 19)) (n := (11 * (2 * (sz - at9) + 19))) (by omega) (by omega) ?_
    have hzz1 : H.size ≤ s.heap.size + ((2 * (at34 - at9) - 1)) := (by have z : (1 + (2 * (at34 - (at9 + 1)) - 4)) ≤ (2 * (at34 - at9) - 1) := (by omega); omega)
    have hzz2 : hSl H ≤ hSl s.heap + ((11 * (2 * (at34 - at9) - 1))) := (by have z : (11 + (11 * (2 * (at34 - (at9 + 1)) - 4))) ≤ (11 * (2 * (at34 - at9) - 1)) := (by omega); omega)
    exact W.aret (v := .ref r16) hx hb hr (Or.inl ⟨_, rfl⟩) (Or.inr ⟨_, rfl⟩) (fun t99 ht99 hW99 => ⟨⟨_, (w, (r16, K32, (gset g33 r16 (5 * (20 - dp) + 2 + (sg35 - sg)) O at9), at34, sg35, f36)), rfl, ⟨rfl, hz41, hz42, hz43, hO⟩, by rw [ht99]; exact hP, hD, by rw [ht99]; exact hzz1, by rw [ht99]; exact hzz2⟩, hS.F ht99⟩) hS.2.2 dX8_named_37
  · refine lv_aload_n hx hb dX8_named_18 rfl (lv_at hl 0 rfl) ?_
    refine lv_iconst (v := 5) hx hb dX8_named_19 (by decide) ?_
    have hO : OKP G h0 a (upd (upd (upd (upd (upd (upd F 2 (nI sz)) 9 (nI at9)) 10 (nI dp)) 11 (nI sg)) 2 (nI sz)) 9 (nI at9)) R Z B J K w := hO.to rfl
    obtain ⟨_, qr47, hqr48⟩ := hO.2.1 23 _ (sg_23 G h0 a _ _ _ _ _)
    refine pc_V0 (G := G) (As := [.int 5]) (rest := []) hx hb hml hown hq hE hX pX0_al hP hD hS hA hl.1 (P_leaf l G h0 a (upd (upd (upd (upd F 2 (nI sz)) 9 (nI at9)) 10 (nI dp)) 11 (nI sg)) R Z B J K w 5 at9 sz O g (by omega) (by omega) hwn (fun o9 h9 => ⟨(how o9 h9).1, fun z => (by rw [(how o9 h9).2.1] at z; omega), (how o9 h9).2.2⟩) (by omega) (fun C => ⟨fun z => absurd z (by decide), fun z => absurd z (by decide), fun z => absurd z (by decide), fun z => absurd z (by decide), fun z => absurd z (by decide)⟩) hO) (gV pw_959 pw_960 pw_961 pw_796 pw_907) hV_X8_leaf qr47 5 hqr48 rfl rfl rfl (Nat.le_of_ble_eq_true rfl) dX8_named_20 ⟨(by show 0 + 1 ≤ (2 * (sz - at9) + 19); omega), (by show 0 + 11 ≤ (11 * (2 * (sz - at9) + 19)); omega)⟩ ⟨(by show 3 + 1 ≤ (40 * n + 14); omega), (by show 8 + (2 + 11) + 83 ≤ (1300 * n + 440); omega)⟩ (fun v46 u44 H locs hw45 hP hD hS => ?_)
    obtain ⟨w, r49, K50, g51⟩ := u44
    obtain ⟨hw45, h52, h53, hO⟩ := hw45
    have h52 : NwR K K50 g g51 r49 O at9 1 := h52
    have h53 : K50.2.1 0 r49 = 5 := h53
    obtain rfl : v46 = some (.ref r49) := hw45
    have hO : OKP G h0 a (upd (upd (upd (upd F 2 (nI sz)) 9 (nI (at9 + 1))) 10 (nI dp)) 11 (nI sg)) R Z B J K50 w := hO.to rfl
    refine W.widen (k := 1) (n := 11) (by show 0 + 1 ≤ 1; omega) (by show 0 + 11 ≤ 11; omega) ?_
    refine W.eq (g2 := F0 m 23 ls [.ref r49]) rfl ?_
    refine W_size (fun hz1 hz2 => ?_)
    refine vx_ret ?_
    have hz54 : NwR K K50 g g51 r49 O at9 ((5 * (20 - dp) + 2 + (sg - sg))) := (NwR.up h52 (by omega))
    have hz55 : at9 + 1 ≤ (at9 + 1) ∧ (at9 + 1) ≤ sz := (by omega)
    have hz56 : sg ≤ sg ∧ sg ≤ 60 := (by omega)
    have hO : OKP G h0 a (upd (upd (upd (upd F 2 (nI sz)) 9 (nI (at9 + 1))) 10 (nI dp)) 11 (nI sg)) R Z (updA B 10 (B 10)) J K50 w := hO.to rfl
    refine W.widen (k := (2 * (sz - at9) + 19)) (n := (11 * (2 * (sz - at9) + 19))) (by omega) (by omega) ?_
    have hzz1 : H.size ≤ s.heap.size + ((2 * ((at9 + 1) - at9) - 1)) := (by have z : 1 ≤ (2 * ((at9 + 1) - at9) - 1) := (by omega); omega)
    have hzz2 : hSl H ≤ hSl s.heap + ((11 * (2 * ((at9 + 1) - at9) - 1))) := (by have z : 11 ≤ (11 * (2 * ((at9 + 1) - at9) - 1)) := (by omega); omega)
    exact W.aret (v := .ref r49) hx hb hr (Or.inl ⟨_, rfl⟩) (Or.inr ⟨_, rfl⟩) (fun t99 ht99 hW99 => ⟨⟨_, (w, (r49, K50, g51, (at9 + 1), sg, (B 10))), rfl, ⟨rfl, hz54, hz55, hz56, hO⟩, by rw [ht99]; exact hP, hD, by rw [ht99]; exact hzz1, by rw [ht99]; exact hzz2⟩, hS.F ht99⟩) hS.2.2 dX8_named_23
