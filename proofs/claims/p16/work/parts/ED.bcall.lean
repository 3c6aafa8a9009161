theorem NwS.doneA {K K0 K1 : PK} {g g0 g1 : Nat → Nat → Nat} {q B L O k lo hi nd : Nat} (hS : NwS K0 K1 g0 g1) (ha : ArS K K1 g g1 q B lo hi nd) (hq0 : K0.1 q = 0) (hL : B < L) (hk : Itv k) (hbd : rS k + 1 ≤ rM k ∧ rM k + 1 ≤ rE k ∧ rM k ≤ lo ∧ hi + 1 ≤ rE k ∧ nd + 9 ≤ rD k) (hkd : K1.2.1 0 q = 10 ∨ K1.2.1 0 q = 11) (hc0 : K1.2.2.1 0 q = none ∨ ∃ x : Nat, K1.2.2.1 0 q = some x ∧ (K1.1 x = 1 ∧ 1 ≤ g1 0 x ∧ g1 0 x < L) ∧ rS k ≤ rS (g1 2 x) ∧ rS (g1 2 x) + 1 ≤ rE (g1 2 x) ∧ rE (g1 2 x) + 1 ≤ rM k ∧ 1 ≤ rD (g1 2 x) ∧ rD (g1 2 x) ≤ rD k) (hc2 : K1.2.2.1 2 q = none) (hc3 : K1.2.2.1 3 q = none) (hc4 : K1.2.2.1 4 q = none) (hO : ∀ o : Nat, O = o + 1 → K0.1 o = 1 ∧ g0 0 o = 0 ∧ ¬ K0.2.1 0 o = 32) : NwR K0 K1 g0 (gset g1 q L O k) q O k L := by
  obtain ⟨a1, a2, a3, ⟨a4, a5, a6, a7⟩, a8, a9, a10⟩ := ha
  refine NwS.done hS hq0 a4 a5 (by omega) ⟨hk, by rcases hkd with e | e <;> rw [e] <;> exact ⟨(fun _ => (by omega)), (fun z => absurd z (by decide)), (fun z => absurd z (by decide))⟩⟩ ?_ (fun f x hf hx => ?_) hc4 (fun x h1 h2 h3 => ⟨(by have z := (a9 x h1 h2 h3).1; omega), (by have z := (a9 x h1 h2 h3).2; rcases hkd with e | e <;> rw [e] <;> exact ⟨(fun z => absurd z (by decide)), (fun z => absurd z (by decide)), (fun _ => (by omega))⟩)⟩) (fun o ho => ⟨(hO o ho).1, fun z => (by rw [(hO o ho).2.1] at z; omega), fun z => absurd z (hO o ho).2.2⟩)
  · rcases hkd with e | e <;> rw [e] <;> exact ⟨fun z => absurd z (by decide), fun z => absurd z (by decide), fun z => absurd z (by decide), fun z => absurd z (by decide), fun z => absurd z (by decide)⟩
  · have kn1 : ∀ (c : Int32) (kx : Nat), Kch (K1.2.1 0 q) 1 c k kx := fun c kx => by rcases hkd with e | e <;> rw [e] <;> exact ⟨(fun z => absurd z (by decide)), (fun z => absurd z (by decide)), (fun z => absurd z (by decide)), (fun z => absurd z (by decide)), (fun z => absurd z (by decide)), (fun z => absurd z (by decide)), (fun z => absurd z (by decide)), (fun z => absurd z (by decide)), (fun z => absurd z (by decide)), (fun _ z => absurd z (by decide)), (fun z => absurd z (by decide)), (fun z => absurd z (by decide)), (fun z => absurd z (by decide)), (fun z => absurd z (by decide)), (fun z => absurd z (by decide)), (fun z => absurd z (by decide)), (fun z => absurd z (by decide)), (fun z => absurd z (by decide)), (fun z => absurd z (by decide)), (fun z => absurd z (by decide)), (fun z => absurd z (by decide)), (fun z => absurd z (by decide)), (fun z => absurd z (by decide)), (fun z => absurd z (by decide))⟩
    have nl : ∀ f : Nat, ¬ f = 1 → ¬ Lsf (K1.2.1 0 q) f := fun f hf z => by
      rcases z with ⟨z, _⟩ | ⟨_, z⟩
      · rcases hkd with e | e <;> rw [e] at z <;> exact absurd z (by decide)
      · exact hf z
    rcases (show f = 0 ∨ f = 1 ∨ f = 2 ∨ f = 3 by omega) with rfl | rfl | rfl | rfl
    · rcases hc0 with w | ⟨y, w1, ⟨w2, w3, w4⟩, w5⟩
      · rw [w] at hx; cases hx
      · rw [w1] at hx; cases hx
        exact ⟨w2, w3, w4, fun z => absurd z (nl 0 (by decide)), by rcases hkd with e | e <;> rw [e] <;> exact ⟨(fun z => absurd z (by decide)), (fun z => absurd z (by decide)), (fun z => absurd z (by decide)), (fun z => absurd z (by decide)), (fun z => absurd z (by decide)), (fun z => absurd z (by decide)), (fun z => absurd z (by decide)), (fun z => absurd z (by decide)), (fun z => absurd z (by decide)), (fun _ _ => (by omega)), (fun z => absurd z (by decide)), (fun z => absurd z (by decide)), (fun z => absurd z (by decide)), (fun z => absurd z (by decide)), (fun z => absurd z (by decide)), (fun z => absurd z (by decide)), (fun z => absurd z (by decide)), (fun z => absurd z (by decide)), (fun z => absurd z (by decide)), (fun z => absurd z (by decide)), (fun z => absurd z (by decide)), (fun z => absurd z (by decide)), (fun z => absurd z (by decide)), (fun z => absurd z (by decide))⟩⟩
    · rcases a10 with w | ⟨y, w1, w2, w3, w4⟩
      · rw [w] at hx; cases hx
      · rw [w1] at hx; cases hx
        have z := (a9 _ w2 w3 w4).1
        exact ⟨w2, w3, by omega, fun _ => w4, kn1 _ _⟩
    · rw [hc2] at hx; cases hx
    · rw [hc3] at hx; cases hx
theorem dX8_named_0 : decode cX8_named 0 = .ok (.aload_n 0, 1) := by decide +kernel
theorem dX8_named_1 : decode cX8_named 1 = .ok (.getfield 7, 3) := by decide +kernel
theorem dX8_named_4 : decode cX8_named 4 = .ok (.aload_n 0, 1) := by decide +kernel
theorem dX8_named_5 : decode cX8_named 5 = .ok (.getfield 17, 3) := by decide +kernel
theorem dX8_named_8 : decode cX8_named 8 = .ok (.iconst 1, 1) := by decide +kernel
theorem dX8_named_9 : decode cX8_named 9 = .ok (.iadd, 1) := by decide +kernel
theorem dX8_named_10 : decode cX8_named 10 = .ok (.invokevirtual 57, 3) := by decide +kernel
theorem dX8_named_13 : decode cX8_named 13 = .ok (.bipush 34, 2) := by decide +kernel
theorem dX8_named_15 : decode cX8_named 15 = .ok (.if_icmp .eq 9, 3) := by decide +kernel
theorem dX8_named_24 : decode cX8_named 24 = .ok (.aload_n 0, 1) := by decide +kernel
theorem dX8_named_25 : decode cX8_named 25 = .ok (.bipush 10, 2) := by decide +kernel
theorem dX8_named_27 : decode cX8_named 27 = .ok (.invokevirtual 290, 3) := by decide +kernel
theorem dX8_named_30 : decode cX8_named 30 = .ok (.astore_n 1, 1) := by decide +kernel
theorem dX8_named_31 : decode cX8_named 31 = .ok (.aload_n 0, 1) := by decide +kernel
theorem dX8_named_32 : decode cX8_named 32 = .ok (.aload_n 1, 1) := by decide +kernel
theorem dX8_named_33 : decode cX8_named 33 = .ok (.invokevirtual 276, 3) := by decide +kernel
theorem dX8_named_36 : decode cX8_named 36 = .ok (.aload_n 1, 1) := by decide +kernel
theorem dX8_named_37 : decode cX8_named 37 = .ok (.areturn, 1) := by decide +kernel
theorem dX8_named_18 : decode cX8_named 18 = .ok (.aload_n 0, 1) := by decide +kernel
theorem dX8_named_19 : decode cX8_named 19 = .ok (.iconst 5, 1) := by decide +kernel
theorem dX8_named_20 : decode cX8_named 20 = .ok (.invokevirtual 290, 3) := by decide +kernel
theorem dX8_named_23 : decode cX8_named 23 = .ok (.areturn, 1) := by decide +kernel
theorem hV_X8_leaf : yX8_leaf.cls = RX8 ∧ yX8_leaf.cls ≠ "java/lang/invoke/MethodHandle" ∧ yX8_leaf.cls ≠ "java/lang/invoke/VarHandle" ∧ (parseMethodDescriptor yX8_leaf.desc).map (fun d => d.parameters.length) = some 1 := by decide +kernel
theorem hV_X8_arguments : yX8_arguments.cls = RX8 ∧ yX8_arguments.cls ≠ "java/lang/invoke/MethodHandle" ∧ yX8_arguments.cls ≠ "java/lang/invoke/VarHandle" ∧ (parseMethodDescriptor yX8_arguments.desc).map (fun d => d.parameters.length) = some 1 := by decide +kernel
set_option maxHeartbeats 16000000 in
set_option maxRecDepth 100000 in
theorem P_named (l : Launch) (G : pT) (h0 : Nat) (a : Nat → Nat) (F : Nat → Int32) (R : Nat → Value) (Z : Int64) (B : Nat → Nat → Int32) (J : Nat → Nat → Int64) (K : PK) (w : va_W) (n : Nat) (at9 : Nat) (sz : Nat) (dp : Nat) (sg : Nat) (O : Nat) (g : Nat → Nat → Nat) (hsz : sz ≤ 5000) (hat : at9 ≤ sz) (hdp : dp + n = 20) (hsg : sg ≤ 60) (hwn : WN K g) (how : ∀ o : Nat, O = o + 1 → K.1 o = 1 ∧ g 0 o = 0 ∧ ¬ K.2.1 0 o = 32) (hle : at9 + 1 ≤ sz) (ihe : IhE l G n) (hO : OKP G h0 a (upd (upd (upd (upd F 2 (nI sz)) 9 (nI at9)) 10 (nI dp)) 11 (nI sg)) R Z B J K w) (hl0 : l.stackTraces = false) : PBn l G pX0 yX8_named cX8_named 2 (some (.object "JinjaTongue$Node")) ({ frames := (40 * n + 14), cells := (2 * (sz - at9) + 19), slots := (11 * (2 * (sz - at9) + 19)), locals := (1300 * n + 440) }) [.ref (a 3)] w (fun (v : Option Value) (u : va_W × (Nat × PK × (Nat → Nat → Nat) × Nat × Nat × (Nat → Int32) × Nat)) => v = some (.ref u.2.1) ∧ (NwR K u.2.2.1 g u.2.2.2.1 u.2.1 O u.2.2.2.2.2.2.2 ((5 * (20 - dp) + 2 + (u.2.2.2.2.2.1 - sg)))) ∧ (at9 ≤ rS u.2.2.2.2.2.2.2 ∧ rS u.2.2.2.2.2.2.2 + 1 ≤ rE u.2.2.2.2.2.2.2 ∧ rE u.2.2.2.2.2.2.2 ≤ u.2.2.2.2.1 ∧ 1 ≤ rD u.2.2.2.2.2.2.2 ∧ rD u.2.2.2.2.2.2.2 ≤ 9 * (20 - dp) + (u.2.2.2.2.2.1 - sg) + 1) ∧ (at9 + 1 ≤ u.2.2.2.2.1 ∧ u.2.2.2.2.1 ≤ sz) ∧ (sg ≤ u.2.2.2.2.2.1 ∧ u.2.2.2.2.2.1 ≤ 60) ∧ (NwT (B 7) sz (B 10) u.2.2.2.2.2.2.1 K u.2.2.1 at9 u.2.2.2.2.1) ∧ (OKP G h0 a (upd (upd (upd (upd F 2 (nI sz)) 9 (nI u.2.2.2.2.1)) 10 (nI dp)) 11 (nI u.2.2.2.2.2.1)) R Z (updA B 10 u.2.2.2.2.2.2.1) J u.2.2.1 u.1)) (fun u => u.1) (fun (u : va_W × (Nat × PK × (Nat → Nat → Nat) × Nat × Nat × (Nat → Int32) × Nat)) => (2 * (u.2.2.2.2.1 - at9) - 1)) (fun (u : va_W × (Nat × PK × (Nat → Nat → Nat) × Nat × Nat × (Nat → Int32) × Nat)) => (11 * (2 * (u.2.2.2.2.1 - at9) - 1))) (fun (u : va_W × (Nat → Int32) × (Nat → Value) × (Nat → Nat → Int32)) => ThQ G h0 a (upd (upd (upd (upd F 2 (nI sz)) 9 (nI at9)) 10 (nI dp)) 11 (nI sg)) R Z B J u) (fun u => u.1) := by
  intro sz
  refine vx_ofW (cc := cX8_named) (maxL := 2) (ret := (some (.object "JinjaTongue$Node"))) (by decide) rfl ?_
  intro p e s m args below meth c s₁ B9 hml hnt hv
  obtain ⟨rfl, hsz, hP, hD0, hE, hX⟩ := hv
  have hx := B9.exec
  have hb := B9.bytes
  have hr := B9.returns
  have hts := atoms_spec (ws := Cond.code yX8_named cX8_named 2 (some (.object "JinjaTongue$Node")) :: pw) B9.pre
  have hq : ∀ w ∈ pw, w.before _ s = true := fun w h => hts w (List.mem_cons_of_mem _ h)
  have hown : s.vm.findClass RX8 = some m.cls := findClass_of_methodNamed B9.named
  have hlocks := B9.notSynchronized
  subst hsz
  have hD := hD0.self (sz := s.heap.size)
  have hA : ∀ q : Nat, s.heap.size ≤ q → va_A w s.heap.size q := fun q h => Or.inr h
  generalize va_A w s.heap.size = A at hD hE hA ⊢
  have hS : va_S A s.heap s.heap [] := va_S.rf
  have hl := lv_entry ([.ref (a 3)]) (n := 2) (Nat.le_of_ble_eq_true rfl)
  rw [lg_entry_eq]
  generalize (lg_sl ([.ref (a 3)]) ++ List.replicate (2 - (lg_sl ([.ref (a 3)])).length) Slot.unset).toArray = ls at hl ⊢
  have hl : lv_has ls 2 [(0, .ref (a 3))] := hl
  have htk0 : NwT (B 7) sz (B 10) (B 10) K K at9 at9 := NwT.nil
  refine lv_aload_n hx hb dX8_named_0 rfl (lv_at hl 0 rfl) ?_
  refine c_get (v := .ref (a 1)) (C := RX8) (Tc := TX8) (N := 5) (ci := 5) hx hb hq pin_wsX80 hown hE hP hO 23 (sg_23 G h0 a _ _ _ _ _) rfl 0 (by decide) (hq _ pw_774) (fun _ h9 => h9) rfl dX8_named_1 ?_
  refine lv_aload_n hx hb dX8_named_4 rfl (lv_at hl 0 rfl) ?_
  refine c_get (v := .int (nI at9)) (C := RX8) (Tc := TX8) (N := 5) (ci := 5) hx hb hq pin_wsX80 hown hE hP hO 23 (sg_23 G h0 a _ _ _ _ _) rfl 2 (by decide) (hq _ pw_776) (fun _ h9 => h9) rfl dX8_named_5 ?_
  refine lv_iconst (v := 1) hx hb dX8_named_8 (by decide) ?_
  refine lv_iadd hx hb dX8_named_9 ?_
  refine lv_topi (fun x1 e2 => ?_)
  obtain rfl : x1 = nI (at9 + 1) := e2.trans (nI_add (at9) (1))
  have hO : OKW G h0 a (upd (upd (upd (upd (upd F 2 (nI sz)) 9 (nI at9)) 10 (nI dp)) 11 (nI sg)) 2 (nI sz)) R Z B J K.1 (fun q99 x99 => x99 = rep G a K q99) w := hO.to rfl
  obtain ⟨_, qr6, hqr7⟩ := hO.2.1 2 _ (sg_2 G h0 a _ _ _ _ _)
  refine pc_V0 (G := G) (As := [.int (nI (at9 + 1))]) (rest := []) hx hb hml hown hq hE hX pX0_al hP hD hS hA hl.1 (K_kindX l G h0 a (upd (upd (upd (upd F 2 (nI sz)) 9 (nI at9)) 10 (nI dp)) 11 (nI sg)) R Z B J K.1 (fun q99 x99 => x99 = rep G a K q99) w (nI (at9 + 1)) sz (by omega) hO) (gV pw_777 pw_193 pw_194 pw_59 pw_126) hV_X10_kindAt qr6 7 hqr7 rfl rfl rfl (Nat.le_of_ble_eq_true rfl) dX8_named_10 ⟨(by show 0 + 0 ≤ (2 * (sz - at9) + 19); omega), (by show 0 + 0 ≤ (11 * (2 * (sz - at9) + 19)); omega)⟩ ⟨(by show 2 + 1 ≤ (40 * n + 14); omega), (by show 8 + (2 + 11) + 60 ≤ (1300 * n + 440); omega)⟩ (fun v5 u3 H locs hw4 hP hD hS => ?_)
  obtain ⟨w, r8⟩ := u3
  obtain ⟨hw4, h9, h10, hO⟩ := hw4
  have h9 : r8 = 67 ∨ ∃ t : Nat, (nI (at9 + 1)) = nI t ∧ t < sz := h9
  have h10 : r8 = tkN ((B 7)) sz 67 (nI (at9 + 1)) := h10
  obtain rfl : v5 = some (.int r8) := hw4
  have hO : OKP G h0 a (upd (upd (upd (upd F 2 (nI sz)) 9 (nI at9)) 10 (nI dp)) 11 (nI sg)) R Z B J K w := hO.to rfl
  refine W.widen (k := 0) (n := 0) (Nat.le_of_ble_eq_true rfl) (Nat.le_of_ble_eq_true rfl) ?_
  refine W.eq (g2 := F0 m 13 ls [.int r8]) rfl ?_
  refine lv_bipush (v := 34) hx hb dX8_named_13 (by decide) ?_
  refine lv_icmp_eq (tgt := 24) hx hb dX8_named_15 (by decide) (fun c11 => ?_) (fun c11 => ?_)
  · refine lv_aload_n hx hb dX8_named_24 rfl (lv_at hl 0 rfl) ?_
    refine lv_bipush (v := 10) hx hb dX8_named_25 (by decide) ?_
    have hO : OKP G h0 a (upd (upd (upd (upd (upd (upd F 2 (nI sz)) 9 (nI at9)) 10 (nI dp)) 11 (nI sg)) 2 (nI sz)) 9 (nI at9)) R Z B J K w := hO.to rfl
    obtain ⟨_, qr15, hqr16⟩ := hO.2.1 23 _ (sg_23 G h0 a _ _ _ _ _)
    refine pc_V0 (G := G) (As := [.int 10]) (rest := []) hx hb hml hown hq hE hX pX0_al hP hD hS hA hl.1 (P_leafU l G h0 a (upd (upd (upd (upd F 2 (nI sz)) 9 (nI at9)) 10 (nI dp)) 11 (nI sg)) R Z B J K w 10 at9 sz (by omega) (by omega) (by omega) hO) (gV pw_959 pw_960 pw_961 pw_796 pw_907) hV_X8_leaf qr15 5 hqr16 rfl rfl rfl (Nat.le_of_ble_eq_true rfl) dX8_named_27 ⟨(by show 0 + 1 ≤ (2 * (sz - at9) + 19); omega), (by show 0 + 11 ≤ (11 * (2 * (sz - at9) + 19)); omega)⟩ ⟨(by show 3 + 1 ≤ (40 * n + 14); omega), (by show 8 + (2 + 11) + 83 ≤ (1300 * n + 440); omega)⟩ (fun v14 u12 H locs hw13 hP hD hS => ?_)
    obtain ⟨w, r17⟩ := u12
    obtain ⟨hw13, h18, hO⟩ := hw13
    have h18 : K.1 r17 = 0 := h18
    obtain rfl : v14 = some (.ref r17) := hw13
    have hO : OKP G h0 a (upd (upd (upd (upd F 2 (nI sz)) 9 (nI (at9 + 1))) 10 (nI dp)) 11 (nI sg)) R Z B J (mkN K r17 10 (nI at9) (nI at9)) w := hO.to rfl
    refine W.widen (k := 1) (n := 11) (by show 0 + 1 ≤ 1; omega) (by show 0 + 11 ≤ 11; omega) ?_
    refine W.eq (g2 := F0 m 30 ls [.ref r17]) rfl ?_
    change OKP G h0 a (upd (upd (upd (upd F 2 (nI sz)) 9 (nI (at9 + 1))) 10 (nI dp)) 11 (nI sg)) R Z B J (mkN K r17 10 (nI at9) (nI at9)) w at hO
    obtain ⟨K19, hK20⟩ : ∃ z : PK, z = (mkN K r17 10 (nI at9) (nI at9)) := ⟨_, rfl⟩
    rw [← hK20] at hO
    have hf21 : K19.1 r17 = 1 := by rw [hK20]; exact mkN_T
    have hf22 : K19.2.1 0 r17 = 10 := by rw [hK20]; exact mkN_0
    have hf23 : K19.2.2.1 0 r17 = none := by rw [hK20]; exact mkN_C
    have hf24 : K19.2.2.1 1 r17 = none := by rw [hK20]; exact mkN_C
    have hf25 : K19.2.2.1 2 r17 = none := by rw [hK20]; exact mkN_C
    have hf26 : K19.2.2.1 3 r17 = none := by rw [hK20]; exact mkN_C
    have hf27 : K19.2.2.1 4 r17 = none := by rw [hK20]; exact mkN_C
    have htk28 : NwT (B 7) sz (B 10) (B 10) K K19 at9 (at9 + 1) := by rw [hK20]; exact NwT.new (NwT.le htk0 (show _ ≤ (at9 + 1) by omega)) h18 (TkP.no (by decide))
    have hns1 : NwS K K19 g (gset g r17 0 0 0) := by rw [hK20]; exact NwS.node (NwS.nil hwn) h18
    have hno1 : NoO K19 (gset g r17 0 0 0) r17 := by rw [hK20]; exact NoO.new hwn h18
    refine lv_astore_n (lv' := [(1, .ref r17), (0, .ref (a 3))]) hx hb dX8_named_30 rfl hl (by decide) rfl (fun ls hl => ?_)
    refine lv_aload_n hx hb dX8_named_31 rfl (lv_at hl 1 rfl) ?_
    refine lv_aload_n hx hb dX8_named_32 rfl (lv_at hl 0 rfl) ?_
    have hO : OKP G h0 a (upd (upd (upd (upd (upd (upd (upd (upd (upd F 2 (nI sz)) 9 (nI at9)) 10 (nI dp)) 11 (nI sg)) 9 (nI (at9 + 1))) 2 (nI sz)) 9 (nI (at9 + 1))) 10 (nI dp)) 11 (nI sg)) R Z B J K19 w := hO.to rfl
    obtain ⟨_, qr32, hqr33⟩ := hO.2.1 23 _ (sg_23 G h0 a _ _ _ _ _)
    refine pn_V0 (G := G) (As := [.ref r17]) (rest := []) hx hb hml hown hq hE hX pX0_al hP hD hS hA hl.1 (P_arguments l G h0 a (upd (upd (upd (upd (upd F 2 (nI sz)) 9 (nI at9)) 10 (nI dp)) 11 (nI sg)) 9 (nI (at9 + 1))) R Z B J K19 w r17 n (at9 + 1) sz dp sg (gset g r17 0 0 0) (by omega) (by omega) (by omega) (by omega) hns1.1 hf21 gset_0 hf24 hno1 (by rw [hf22]; decide) ihe hO hl0) (gV pw_939 pw_940 pw_941 pw_796 pw_986) hV_X8_arguments qr32 5 hqr33 rfl rfl rfl (Nat.le_of_ble_eq_true rfl) dX8_named_33 ⟨(by show 1 + (2 * (sz - (at9 + 1)) + 18) ≤ (2 * (sz - at9) + 19); omega), (by show 11 + (11 * (2 * (sz - (at9 + 1)) + 18)) ≤ (11 * (2 * (sz - at9) + 19)); omega)⟩ ⟨(by show (40 * n + 12) + 1 ≤ (40 * n + 14); omega), (by show 8 + (6 + 11) + (1300 * n + 400) ≤ (1300 * n + 440); omega)⟩ (fun v31 u29 H locs hw30 hP hD hS => ?_) (fun ux ce9 q9 H9 locs9 hux hP9 hD9 hS9 hce hcv hcl => pb_out ux (ThQ.up (Thx.same (Thx.same (Thx.same (Thx.same (Thx.f Thx.rfl (by omega)) rfl) rfl) rfl) rfl) RhX.rfl hux) hnt hlocks hce hcv hcl hP9 hD9 hS9 (by show 1 + (2 * (sz - (at9 + 1)) + 18) ≤ (2 * (sz - at9) + 19); omega) (by show 11 + (11 * (2 * (sz - (at9 + 1)) + 18)) ≤ (11 * (2 * (sz - at9) + 19)); omega))
    obtain ⟨w, K34, g35, at36, sg37, f38⟩ := u29
    obtain ⟨hw30, h39, h40, h41, h42, h43, hO⟩ := hw30
    have h39 : (at9 + 1) + 2 ≤ at36 ∧ at36 ≤ sz := h39
    have h40 : sg ≤ sg37 ∧ sg37 ≤ 60 := h40
    have h41 : ArS K19 K34 (gset g r17 0 0 0) g35 r17 (5 * (20 - (dp + 1)) + 6 + (sg37 - sg)) ((at9 + 1) + 1) (at36 - 1) (9 * (20 - (dp + 1)) + (sg37 - sg) + 1) := h41
    have h42 : dp + 1 ≤ 20 := h42
    have h43 : NwT ((B 7)) sz ((B 10)) f38 K19 K34 (at9 + 1) at36 := h43
    obtain rfl : v31 = none := hw30
    have hO : OKP G h0 a (upd (upd (upd (upd F 2 (nI sz)) 9 (nI at36)) 10 (nI dp)) 11 (nI sg37)) R Z (updA B 10 f38) J K34 w := hO.to rfl
    refine W.widen (k := (1 + (2 * (at36 - (at9 + 1)) - 4))) (n := (11 + (11 * (2 * (at36 - (at9 + 1)) - 4)))) (by show 1 + (2 * (at36 - (at9 + 1)) - 4) ≤ (1 + (2 * (at36 - (at9 + 1)) - 4)); omega) (by show 11 + (11 * (2 * (at36 - (at9 + 1)) - 4)) ≤ (11 + (11 * (2 * (at36 - (at9 + 1)) - 4))); omega) ?_
    refine W.eq (g2 := F0 m 36 ls []) rfl ?_
    have htk44 : NwT (B 7) sz (B 10) f38 K K34 at9 at36 := (NwT.call htk28 h43 (by omega))
    refine lv_aload_n hx hb dX8_named_36 rfl (lv_at hl 0 rfl) ?_
    refine W_size (fun hz1 hz2 => ?_)
    refine vx_ret ?_
    obtain ⟨k945, k945I, k945S, k945E, k945M, k945N, k945X, k945D⟩ := rk_ex (s := at9) (e := at36) (m := (at9 + 1)) (n := at36) (x := 0) (d := (9 * (20 - dp) + (sg37 - sg) + 1)) (by omega)
    have hns2 := NwS.args hns1 h41 hf21 h18
    have hcc := h41.2.2.2.1
    have hdn := NwS.doneA (L := (5 * (20 - dp) + 2 + (sg37 - sg))) (O := O) (k := k945) hns2 h41 h18 (by omega) k945I (by omega) (Or.inl ((hcc.2.2.1 0 (by decide)).trans hf22)) (Or.inl ((hcc.2.2.2 0 (by decide)).trans hf23)) ((hcc.2.2.2 2 (by decide)).trans hf25) ((hcc.2.2.2 3 (by decide)).trans hf26) ((hcc.2.2.2 4 (by decide)).trans hf27) how
    have hz46 : NwR K K34 g (gset g35 r17 (5 * (20 - dp) + 2 + (sg37 - sg)) O k945) r17 O k945 ((5 * (20 - dp) + 2 + (sg37 - sg))) := hdn
    have hz47 : at9 ≤ rS k945 ∧ rS k945 + 1 ≤ rE k945 ∧ rE k945 ≤ at36 ∧ 1 ≤ rD k945 ∧ rD k945 ≤ 9 * (20 - dp) + (sg37 - sg) + 1 := (by omega)
    have hz48 : at9 + 1 ≤ at36 ∧ at36 ≤ sz := (by omega)
    have hz49 : sg ≤ sg37 ∧ sg37 ≤ 60 := (by omega)
    have hz50 : NwT (B 7) sz (B 10) f38 K K34 at9 at36 := (NwT.le htk44 (by omega))
    have hO : OKP G h0 a (upd (upd (upd (upd F 2 (nI sz)) 9 (nI at36)) 10 (nI dp)) 11 (nI sg37)) R Z (updA B 10 f38) J K34 w := hO.to rfl
    refine W.widen (k := (2 * (sz - at9) + 19)) (n := (11 * (2 * (sz - at9) + 19))) (by omega) (by omega) ?_
    have hzz1 : H.size ≤ s.heap.size + ((2 * (at36 - at9) - 1)) := (by have z : (1 + (2 * (at36 - (at9 + 1)) - 4)) ≤ (2 * (at36 - at9) - 1) := (by omega); omega)
    have hzz2 : hSl H ≤ hSl s.heap + ((11 * (2 * (at36 - at9) - 1))) := (by have z : (11 + (11 * (2 * (at36 - (at9 + 1)) - 4))) ≤ (11 * (2 * (at36 - at9) - 1)) := (by omega); omega)
    exact W.aret (v := .ref r17) hx hb hr (Or.inl ⟨_, rfl⟩) (Or.inr ⟨_, rfl⟩) (fun t99 ht99 hW99 => ⟨⟨_, (w, (r17, K34, (gset g35 r17 (5 * (20 - dp) + 2 + (sg37 - sg)) O k945), at36, sg37, f38, k945)), rfl, ⟨rfl, hz46, hz47, hz48, hz49, hz50, hO⟩, by rw [ht99]; exact hP, hD, by rw [ht99]; exact hzz1, by rw [ht99]; exact hzz2⟩, hS.F ht99⟩) hS.2.2 dX8_named_37
  · refine lv_aload_n hx hb dX8_named_18 rfl (lv_at hl 0 rfl) ?_
    refine lv_iconst (v := 5) hx hb dX8_named_19 (by decide) ?_
    have hO : OKP G h0 a (upd (upd (upd (upd (upd (upd F 2 (nI sz)) 9 (nI at9)) 10 (nI dp)) 11 (nI sg)) 2 (nI sz)) 9 (nI at9)) R Z B J K w := hO.to rfl
    obtain ⟨_, qr54, hqr55⟩ := hO.2.1 23 _ (sg_23 G h0 a _ _ _ _ _)
    refine pc_V0 (G := G) (As := [.int 5]) (rest := []) hx hb hml hown hq hE hX pX0_al hP hD hS hA hl.1 (P_leaf l G h0 a (upd (upd (upd (upd F 2 (nI sz)) 9 (nI at9)) 10 (nI dp)) 11 (nI sg)) R Z B J K w 5 at9 sz O g (by omega) (by omega) hwn (fun o9 h9 => ⟨(how o9 h9).1, fun z => (by rw [(how o9 h9).2.1] at z; omega), (how o9 h9).2.2⟩) (by omega) (fun C => ⟨fun z => absurd z (by decide), fun z => absurd z (by decide), fun z => absurd z (by decide), fun z => absurd z (by decide), fun z => absurd z (by decide)⟩) (fun kq => IvK.no (by decide)) (by decide) hO) (gV pw_959 pw_960 pw_961 pw_796 pw_907) hV_X8_leaf qr54 5 hqr55 rfl rfl rfl (Nat.le_of_ble_eq_true rfl) dX8_named_20 ⟨(by show 0 + 1 ≤ (2 * (sz - at9) + 19); omega), (by show 0 + 11 ≤ (11 * (2 * (sz - at9) + 19)); omega)⟩ ⟨(by show 3 + 1 ≤ (40 * n + 14); omega), (by show 8 + (2 + 11) + 83 ≤ (1300 * n + 440); omega)⟩ (fun v53 u51 H locs hw52 hP hD hS => ?_)
    obtain ⟨w, r56, K57, g58, k59⟩ := u51
    obtain ⟨hw52, h60, h61, h62, h63, hO⟩ := hw52
    have h60 : NwR K K57 g g58 r56 O k59 1 := h60
    have h61 : rS k59 = at9 ∧ rE k59 = at9 + 1 ∧ rD k59 = 1 := h61
    have h62 : K57.2.1 0 r56 = 5 := h62
    have h63 : NwT ((B 7)) sz ((B 10)) ((B 10)) K K57 at9 (at9 + 1) := h63
    obtain rfl : v53 = some (.ref r56) := hw52
    have hO : OKP G h0 a (upd (upd (upd (upd F 2 (nI sz)) 9 (nI (at9 + 1))) 10 (nI dp)) 11 (nI sg)) R Z B J K57 w := hO.to rfl
    refine W.widen (k := 1) (n := 11) (by show 0 + 1 ≤ 1; omega) (by show 0 + 11 ≤ 11; omega) ?_
    refine W.eq (g2 := F0 m 23 ls [.ref r56]) rfl ?_
    have htk64 : NwT (B 7) sz (B 10) (B 10) K K57 at9 (at9 + 1) := (NwT.call htk0 h63 (by omega))
    refine W_size (fun hz1 hz2 => ?_)
    refine vx_ret ?_
    have hz65 : NwR K K57 g g58 r56 O k59 ((5 * (20 - dp) + 2 + (sg - sg))) := (NwR.up h60 (by omega))
    have hz66 : at9 ≤ rS k59 ∧ rS k59 + 1 ≤ rE k59 ∧ rE k59 ≤ (at9 + 1) ∧ 1 ≤ rD k59 ∧ rD k59 ≤ 9 * (20 - dp) + (sg - sg) + 1 := (by omega)
    have hz67 : at9 + 1 ≤ (at9 + 1) ∧ (at9 + 1) ≤ sz := (by omega)
    have hz68 : sg ≤ sg ∧ sg ≤ 60 := (by omega)
    have hz69 : NwT (B 7) sz (B 10) (B 10) K K57 at9 (at9 + 1) := (NwT.le htk64 (by omega))
    have hO : OKP G h0 a (upd (upd (upd (upd F 2 (nI sz)) 9 (nI (at9 + 1))) 10 (nI dp)) 11 (nI sg)) R Z (updA B 10 (B 10)) J K57 w := hO.to rfl
    refine W.widen (k := (2 * (sz - at9) + 19)) (n := (11 * (2 * (sz - at9) + 19))) (by omega) (by omega) ?_
    have hzz1 : H.size ≤ s.heap.size + ((2 * ((at9 + 1) - at9) - 1)) := (by have z : 1 ≤ (2 * ((at9 + 1) - at9) - 1) := (by omega); omega)
    have hzz2 : hSl H ≤ hSl s.heap + ((11 * (2 * ((at9 + 1) - at9) - 1))) := (by have z : 11 ≤ (11 * (2 * ((at9 + 1) - at9) - 1)) := (by omega); omega)
    exact W.aret (v := .ref r56) hx hb hr (Or.inl ⟨_, rfl⟩) (Or.inr ⟨_, rfl⟩) (fun t99 ht99 hW99 => ⟨⟨_, (w, (r56, K57, g58, (at9 + 1), sg, (B 10), k59)), rfl, ⟨rfl, hz65, hz66, hz67, hz68, hz69, hO⟩, by rw [ht99]; exact hP, hD, by rw [ht99]; exact hzz1, by rw [ht99]; exact hzz2⟩, hS.F ht99⟩) hS.2.2 dX8_named_23
