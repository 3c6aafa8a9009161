def LaO (K K2 : PK) (g2 : Nat → Nat → Nat) (q at2 : Nat) (la : Option Nat) : Prop := ∀ y : Nat, la = some y → (K.1 y = 0 ∧ K2.1 y = 1 ∧ 1 ≤ g2 0 y ∧ g2 1 y = q + 1) ∧ g2 2 y < at2
theorem ArS.wk {K K1 : PK} {g g1 : Nat → Nat → Nat} {q B B2 : Nat} (h : ArS K K1 g g1 q B) (hB : B ≤ B2) : ArS K K1 g g1 q B2 := ⟨h.1, h.2.1, h.2.2.1, h.2.2.2.1, h.2.2.2.2.1, fun x h1 h2 h3 => ⟨Nat.le_trans (h.2.2.2.2.2.1 x h1 h2 h3).1 hB, (h.2.2.2.2.2.1 x h1 h2 h3).2⟩, h.2.2.2.2.2.2⟩
theorem dX8_arguments_0 : decode cX8_arguments 0 = .ok (.aload_n 0, 1) := by decide +kernel
theorem dX8_arguments_1 : decode cX8_arguments 1 = .ok (.bipush 34, 2) := by decide +kernel
theorem dX8_arguments_3 : decode cX8_arguments 3 = .ok (.invokevirtual 283, 3) := by decide +kernel
theorem dX8_arguments_6 : decode cX8_arguments 6 = .ok (.aconst_null, 1) := by decide +kernel
theorem dX8_arguments_7 : decode cX8_arguments 7 = .ok (.astore_n 2, 1) := by decide +kernel
theorem dX8_arguments_8 : decode cX8_arguments 8 = .ok (.aload_n 0, 1) := by decide +kernel
theorem dX8_arguments_9 : decode cX8_arguments 9 = .ok (.bipush 35, 2) := by decide +kernel
theorem dX8_arguments_11 : decode cX8_arguments 11 = .ok (.invokevirtual 36, 3) := by decide +kernel
theorem dX8_arguments_14 : decode cX8_arguments 14 = .ok (.ifCond .ne 7, 3) := by decide +kernel
theorem dX8_arguments_21 : decode cX8_arguments 21 = .ok (.iconst 0, 1) := by decide +kernel
theorem dX8_arguments_22 : decode cX8_arguments 22 = .ok (.istore_n 3, 1) := by decide +kernel
theorem dX8_arguments_23 : decode cX8_arguments 23 = .ok (.iconst 0, 1) := by decide +kernel
theorem dX8_arguments_24 : decode cX8_arguments 24 = .ok (.istore 4, 2) := by decide +kernel
theorem dX8_arguments_26 : decode cX8_arguments 26 = .ok (.iload 4, 2) := by decide +kernel
theorem dX8_arguments_28 : decode cX8_arguments 28 = .ok (.aload_n 0, 1) := by decide +kernel
theorem dX8_arguments_29 : decode cX8_arguments 29 = .ok (.getfield 7, 3) := by decide +kernel
theorem dX8_arguments_32 : decode cX8_arguments 32 = .ok (.getfield 27, 3) := by decide +kernel
theorem dX8_arguments_35 : decode cX8_arguments 35 = .ok (.if_icmp .ge 48, 3) := by decide +kernel
theorem dX8_arguments_83 : decode cX8_arguments 83 = .ok (.aload_n 1, 1) := by decide +kernel
theorem dX8_arguments_84 : decode cX8_arguments 84 = .ok (.aload_n 0, 1) := by decide +kernel
theorem dX8_arguments_85 : decode cX8_arguments 85 = .ok (.bipush 35, 2) := by decide +kernel
theorem dX8_arguments_87 : decode cX8_arguments 87 = .ok (.invokevirtual 287, 3) := by decide +kernel
theorem dX8_arguments_90 : decode cX8_arguments 90 = .ok (.putfield 171, 3) := by decide +kernel
theorem dX8_arguments_93 : decode cX8_arguments 93 = .ok (.return_, 1) := by decide +kernel
theorem dX8_arguments_38 : decode cX8_arguments 38 = .ok (.iload_n 3, 1) := by decide +kernel
theorem dX8_arguments_39 : decode cX8_arguments 39 = .ok (.ifCond .eq 44, 3) := by decide +kernel
theorem dX8_arguments_42 : decode cX8_arguments 42 = .ok (.aload_n 0, 1) := by decide +kernel
theorem dX8_arguments_43 : decode cX8_arguments 43 = .ok (.invokevirtual 196, 3) := by decide +kernel
theorem dX8_arguments_46 : decode cX8_arguments 46 = .ok (.astore 5, 2) := by decide +kernel
theorem dX8_arguments_48 : decode cX8_arguments 48 = .ok (.aload_n 2, 1) := by decide +kernel
theorem dX8_arguments_49 : decode cX8_arguments 49 = .ok (.ifnonnull 12, 3) := by decide +kernel
theorem dX8_arguments_52 : decode cX8_arguments 52 = .ok (.aload_n 1, 1) := by decide +kernel
theorem dX8_arguments_53 : decode cX8_arguments 53 = .ok (.aload 5, 2) := by decide +kernel
theorem dX8_arguments_55 : decode cX8_arguments 55 = .ok (.putfield 230, 3) := by decide +kernel
theorem dX8_arguments_58 : decode cX8_arguments 58 = .ok (.goto 9, 3) := by decide +kernel
theorem dX8_arguments_67 : decode cX8_arguments 67 = .ok (.aload 5, 2) := by decide +kernel
theorem dX8_arguments_69 : decode cX8_arguments 69 = .ok (.astore_n 2, 1) := by decide +kernel
theorem dX8_arguments_70 : decode cX8_arguments 70 = .ok (.aload_n 0, 1) := by decide +kernel
theorem dX8_arguments_71 : decode cX8_arguments 71 = .ok (.bipush 39, 2) := by decide +kernel
theorem dX8_arguments_73 : decode cX8_arguments 73 = .ok (.invokevirtual 80, 3) := by decide +kernel
theorem dX8_arguments_76 : decode cX8_arguments 76 = .ok (.istore_n 3, 1) := by decide +kernel
theorem dX8_arguments_77 : decode cX8_arguments 77 = .ok (.iinc 4 1, 3) := by decide +kernel
theorem dX8_arguments_80 : decode cX8_arguments 80 = .ok (.goto (-54), 3) := by decide +kernel
theorem dX8_arguments_61 : decode cX8_arguments 61 = .ok (.aload_n 2, 1) := by decide +kernel
theorem dX8_arguments_62 : decode cX8_arguments 62 = .ok (.aload 5, 2) := by decide +kernel
theorem dX8_arguments_64 : decode cX8_arguments 64 = .ok (.putfield 168, 3) := by decide +kernel
theorem dX8_arguments_17 : decode cX8_arguments 17 = .ok (.iconst 1, 1) := by decide +kernel
theorem dX8_arguments_18 : decode cX8_arguments 18 = .ok (.goto 4, 3) := by decide +kernel
theorem hV_X8_takeIf : yX8_takeIf.cls = RX8 ∧ yX8_takeIf.cls ≠ "java/lang/invoke/MethodHandle" ∧ yX8_takeIf.cls ≠ "java/lang/invoke/VarHandle" ∧ (parseMethodDescriptor yX8_takeIf.desc).map (fun d => d.parameters.length) = some 1 := by decide +kernel
set_option maxHeartbeats 40000000 in
set_option maxRecDepth 100000 in
theorem P_arguments (l : Launch) (G : pT) (h0 : Nat) (a : Nat → Nat) (F : Nat → Int32) (R : Nat → Value) (Z : Int64) (B : Nat → Nat → Int32) (J : Nat → Nat → Int64) (K : PK) (w : va_W) (q9 : Nat) (n : Nat) (at9 : Nat) (sz : Nat) (dp : Nat) (sg : Nat) (g : Nat → Nat → Nat) (hsz : sz ≤ 5000) (hat : at9 ≤ sz) (hdp : dp + n = 20) (hsg : sg ≤ 60) (hwn : WN K g) (hq9 : K.1 q9 = 1) (hg9 : g 0 q9 = 0) (hb9 : K.2.2.1 1 q9 = none) (hno : NoO K g q9) (hk9 : ¬ K.2.1 0 q9 = 32) (ihe : IhE l G n) (hO : OKP G h0 a (upd (upd (upd (upd F 2 (nI sz)) 9 (nI at9)) 10 (nI dp)) 11 (nI sg)) R Z B J K w) (hl0 : l.stackTraces = false) : PBn l G pX0 yX8_arguments cX8_arguments 6 none ({ frames := (40 * n + 12), cells := (2 * (sz - at9) + 18), slots := (11 * (2 * (sz - at9) + 18)), locals := (1300 * n + 400) }) [.ref (a 3), .ref q9] w (fun (v : Option Value) (u : va_W × (PK × (Nat → Nat → Nat) × Nat × Nat × (Nat → Int32))) => v = none ∧ (at9 + 2 ≤ u.2.2.2.1 ∧ u.2.2.2.1 ≤ sz) ∧ (sg ≤ u.2.2.2.2.1 ∧ u.2.2.2.2.1 ≤ 60) ∧ (ArS K u.2.1 g u.2.2.1 q9 (5 * (20 - (dp + 1)) + 6 + (u.2.2.2.2.1 - sg))) ∧ (dp + 1 ≤ 20) ∧ (OKP G h0 a (upd (upd (upd (upd F 2 (nI sz)) 9 (nI u.2.2.2.1)) 10 (nI dp)) 11 (nI u.2.2.2.2.1)) R Z (updA B 10 u.2.2.2.2.2) J u.2.1 u.1)) (fun u => u.1) (fun (u : va_W × (PK × (Nat → Nat → Nat) × Nat × Nat × (Nat → Int32))) => (2 * (u.2.2.2.1 - at9) - 4)) (fun (u : va_W × (PK × (Nat → Nat → Nat) × Nat × Nat × (Nat → Int32))) => (11 * (2 * (u.2.2.2.1 - at9) - 4))) (fun (u : va_W × (Nat → Int32) × (Nat → Value) × (Nat → Nat → Int32)) => ThQ G h0 a (upd (upd (upd (upd F 2 (nI sz)) 9 (nI at9)) 10 (nI dp)) 11 (nI sg)) R Z B J u) (fun u => u.1) := by
  intro sz
  refine vx_ofW (cc := cX8_arguments) (maxL := 6) (ret := none) (by decide) rfl ?_
  intro p e s m args below meth c s₁ B9 hml hnt hv
  obtain ⟨rfl, hsz, hP, hD0, hE, hX⟩ := hv
  have hx := B9.exec
  have hb := B9.bytes
  have hr := B9.returns
  have hts := atoms_spec (ws := Cond.code yX8_arguments cX8_arguments 6 none :: pw) B9.pre
  have hq : ∀ w ∈ pw, w.before _ s = true := fun w h => hts w (List.mem_cons_of_mem _ h)
  have hown : s.vm.findClass RX8 = some m.cls := findClass_of_methodNamed B9.named
  have hlocks := B9.notSynchronized
  subst hsz
  have hD := hD0.self (sz := s.heap.size)
  have hA : ∀ q : Nat, s.heap.size ≤ q → va_A w s.heap.size q := fun q h => Or.inr h
  generalize va_A w s.heap.size = A at hD hE hA ⊢
  have hS : va_S A s.heap s.heap [] := va_S.rf
  have hl := lv_entry ([.ref (a 3), .ref q9]) (n := 6) (Nat.le_of_ble_eq_true rfl)
  rw [lg_entry_eq]
  generalize (lg_sl ([.ref (a 3), .ref q9]) ++ List.replicate (6 - (lg_sl ([.ref (a 3), .ref q9])).length) Slot.unset).toArray = ls at hl ⊢
  have hl : lv_has ls 6 [(0, .ref (a 3)), (1, .ref q9)] := hl
  refine lv_aload_n hx hb dX8_arguments_0 rfl (lv_at hl 0 rfl) ?_
  refine lv_bipush (v := 34) hx hb dX8_arguments_1 (by decide) ?_
  have hO : OKW G h0 a (upd (upd (upd (upd (upd (upd (upd F 2 (nI sz)) 9 (nI at9)) 10 (nI dp)) 11 (nI sg)) 2 (nI sz)) 9 (nI at9)) 10 (nI dp)) R Z B J K.1 (fun q99 x99 => x99 = rep G a K q99) w := hO.to rfl
  obtain ⟨_, qr4, hqr5⟩ := hO.2.1 23 _ (sg_23 G h0 a _ _ _ _ _)
  refine pn_V0 (G := G) (As := [.int 34]) (rest := []) hx hb hml hown hq hE hX pX0_al hP hD hS hA hl.1 (P_openBracket l G h0 a (upd (upd (upd (upd F 2 (nI sz)) 9 (nI at9)) 10 (nI dp)) 11 (nI sg)) R Z B J K.1 (fun q99 x99 => x99 = rep G a K q99) w 34 dp at9 sz (by omega) (by omega) (by decide) (by omega) hO hl0) (gV pw_913 pw_914 pw_915 pw_796 pw_900) hV_X8_openBracket qr4 5 hqr5 rfl rfl rfl (Nat.le_of_ble_eq_true rfl) dX8_arguments_3 ⟨(by show 0 + 1 ≤ (2 * (sz - at9) + 18); omega), (by show 0 + 6 ≤ (11 * (2 * (sz - at9) + 18)); omega)⟩ ⟨(by show 7 + 1 ≤ (40 * n + 12); omega), (by show 8 + (2 + 11) + 122 ≤ (1300 * n + 400); omega)⟩ (fun v3 u1 H locs hw2 hP hD hS => ?_) (fun ux ce9 q9 H9 locs9 hux hP9 hD9 hS9 hce hcv hcl => pb_out ux (ThQ.up (Thx.same (Thx.same (Thx.same Thx.rfl rfl) rfl) rfl) RhX.rfl hux) hnt hlocks hce hcv hcl hP9 hD9 hS9 (by show 0 + 1 ≤ (2 * (sz - at9) + 18); omega) (by show 0 + 6 ≤ (11 * (2 * (sz - at9) + 18)); omega))
  obtain ⟨w, _⟩ := u1
  obtain ⟨hw2, h6, hO⟩ := hw2
  have h6 : at9 + 1 ≤ sz ∧ dp + 1 ≤ 20 := h6
  obtain rfl : v3 = none := hw2
  have hO : OKP G h0 a (upd (upd (upd (upd F 2 (nI sz)) 9 (nI (at9 + 1))) 10 (nI (dp + 1))) 11 (nI sg)) R Z B J K w := hO.to rfl
  refine W.widen (k := 0) (n := 0) (by show 0 + 0 ≤ 0; omega) (by show 0 + 0 ≤ 0; omega) ?_
  refine W.eq (g2 := F0 m 6 ls []) rfl ?_
  refine lv_null hx hb dX8_arguments_6 ?_
  refine lv_astore_nN (lv' := [(2, .null), (0, .ref (a 3)), (1, .ref q9)]) hx hb dX8_arguments_7 rfl hl (by decide) rfl (fun ls hl => ?_)
  refine lv_aload_n hx hb dX8_arguments_8 rfl (lv_at hl 1 rfl) ?_
  refine lv_bipush (v := 35) hx hb dX8_arguments_9 (by decide) ?_
  have hO : OKW G h0 a (upd (upd (upd (upd (upd (upd F 2 (nI sz)) 9 (nI (at9 + 1))) 10 (nI (dp + 1))) 11 (nI sg)) 2 (nI sz)) 9 (nI (at9 + 1))) R Z B J K.1 (fun q99 x99 => x99 = rep G a K q99) w := hO.to rfl
  obtain ⟨_, qr10, hqr11⟩ := hO.2.1 23 _ (sg_23 G h0 a _ _ _ _ _)
  refine pc_V0 (G := G) (As := [.int 35]) (rest := []) hx hb hml hown hq hE hX pX0_al hP hD hS hA hl.1 (P_sees l G h0 a (upd (upd (upd (upd F 2 (nI sz)) 9 (nI (at9 + 1))) 10 (nI (dp + 1))) 11 (nI sg)) R Z B J K.1 (fun q99 x99 => x99 = rep G a K q99) w 35 (at9 + 1) sz (by omega) (by omega) hO) (gV pw_803 pw_804 pw_805 pw_796 pw_775) hV_X8_sees qr10 5 hqr11 rfl rfl rfl (Nat.le_of_ble_eq_true rfl) dX8_arguments_11 ⟨(by show 0 + 0 ≤ (2 * (sz - at9) + 18); omega), (by show 0 + 0 ≤ (11 * (2 * (sz - at9) + 18)); omega)⟩ ⟨(by show 3 + 1 ≤ (40 * n + 12); omega), (by show 8 + (2 + 11) + 81 ≤ (1300 * n + 400); omega)⟩ (fun v9 u7 H locs hw8 hP hD hS => ?_)
  obtain ⟨w, r12⟩ := u7
  obtain ⟨hw8, h13, hO⟩ := hw8
  have h13 : r12 ≤ 1 := h13
  obtain rfl : v9 = some (.int (nI r12)) := hw8
  have hO : OKP G h0 a (upd (upd (upd (upd F 2 (nI sz)) 9 (nI (at9 + 1))) 10 (nI (dp + 1))) 11 (nI sg)) R Z B J K w := hO.to rfl
  refine W.widen (k := 0) (n := 0) (Nat.le_of_ble_eq_true rfl) (Nat.le_of_ble_eq_true rfl) ?_
  refine W.eq (g2 := F0 m 14 ls [.int (nI r12)]) rfl ?_
  refine lv_if_ne (tgt := 21) hx hb dX8_arguments_14 (by decide) (fun c14 => ?_) (fun c14 => ?_)
  · have n15 : ¬ (r12 = 0) := fun h9 => c14 ((nI_eq (a := r12) (b := 0) (by omega) (by omega)).mpr h9)
    refine lv_iconst (v := 0) hx hb dX8_arguments_21 (by decide) ?_
    refine lv_istore_n (lv' := [(3, .int 0), (2, .null), (0, .ref (a 3)), (1, .ref q9)]) hx hb dX8_arguments_22 rfl hl (by decide) rfl (fun ls hl => ?_)
    refine lv_iconst (v := 0) hx hb dX8_arguments_23 (by decide) ?_
    refine lv_istore (lv' := [(4, .int 0), (3, .int 0), (2, .null), (0, .ref (a 3)), (1, .ref q9)]) hx hb dX8_arguments_24 hl (by decide) rfl (fun ls hl => ?_)
    have har0 := ArS.nil hwn hq9 hg9 hb9 hno
    have loop_i : ∀ (n_i : Nat) (i2 : Nat) (at2 : Nat) (sg2 : Nat) (f2 : Nat → Int32) (la2 : Option Nat) (K2 : PK) (g2 : Nat → Nat → Nat) (mo2 : Int32) (H : Heap) (locs : List Loc) (ls : Array Slot) (w : va_W), i2 ≤ sz → sz + 1 ≤ i2 + n_i → (at9 + 1 ≤ at2 ∧ at2 ≤ sz) → (sg ≤ sg2 ∧ sg2 ≤ 60) → (dp + 1 ≤ 20) → (ArS K K2 g g2 q9 (5 * (20 - (dp + 1)) + 6 + (sg2 - sg))) → (LaO K K2 g2 q9 at2 la2) → va_P G.1 pCl w H → va_D A w → va_S A s.heap H locs → OKP G h0 a (upd (upd (upd (upd F 2 (nI sz)) 9 (nI at2)) 10 (nI (dp + 1))) 11 (nI sg2)) R Z (updA B 10 f2) J K2 w → lv_has ls 6 [(4, .int (nI i2)), (3, .int mo2), (2, va_rf la2), (1, .ref q9), (0, .ref (a 3))] → W p l e (headSpec (Cond.code yX8_arguments cX8_arguments 6 none :: pw) ({ frames := (40 * n + 12), cells := (2 * (sz - at9) + 18), slots := (11 * (2 * (sz - at9) + 18)), locals := (1300 * n + 400) } : Room)).room s m ([.ref (a 3), .ref q9] : List Value).toArray below meth c H locs (2 * (at2 - (at9 + 1))) (11 * (2 * (at2 - (at9 + 1)))) (vx_MQ below (pQn G A (fun (v : Option Value) (u : va_W × (PK × (Nat → Nat → Nat) × Nat × Nat × (Nat → Int32))) => v = none ∧ (at9 + 2 ≤ u.2.2.2.1 ∧ u.2.2.2.1 ≤ sz) ∧ (sg ≤ u.2.2.2.2.1 ∧ u.2.2.2.2.1 ≤ 60) ∧ (ArS K u.2.1 g u.2.2.1 q9 (5 * (20 - (dp + 1)) + 6 + (u.2.2.2.2.1 - sg))) ∧ (dp + 1 ≤ 20) ∧ (OKP G h0 a (upd (upd (upd (upd F 2 (nI sz)) 9 (nI u.2.2.2.1)) 10 (nI dp)) 11 (nI u.2.2.2.2.1)) R Z (updA B 10 u.2.2.2.2.2) J u.2.1 u.1)) (fun u => u.1) (fun (u : va_W × (PK × (Nat → Nat → Nat) × Nat × Nat × (Nat → Int32))) => (2 * (u.2.2.2.1 - at9) - 4)) (fun (u : va_W × (PK × (Nat → Nat → Nat) × Nat × Nat × (Nat → Int32))) => (11 * (2 * (u.2.2.2.1 - at9) - 4)))) (pXX G A (fun (u : va_W × (Nat → Int32) × (Nat → Value) × (Nat → Nat → Int32)) => ThQ G h0 a (upd (upd (upd (upd F 2 (nI sz)) 9 (nI at9)) 10 (nI dp)) 11 (nI sg)) R Z B J u) (fun u => u.1)) ([.ref (a 3), .ref q9] : List Value).toArray s ({ frames := (40 * n + 12), cells := (2 * (sz - at9) + 18), slots := (11 * (2 * (sz - at9) + 18)), locals := (1300 * n + 400) } : Room).cells ({ frames := (40 * n + 12), cells := (2 * (sz - at9) + 18), slots := (11 * (2 * (sz - at9) + 18)), locals := (1300 * n + 400) } : Room).slots A) (F0 m 26 ls []) := by
      intro n_i
      induction n_i with
      | zero => intro i2 at2 sg2 f2 la2 K2 g2 mo2 H locs ls w hk_i hn_i; omega
      | succ n_i ih_i =>
        intro i2 at2 sg2 f2 la2 K2 g2 mo2 H locs ls w hk_i hn_i hat2 hsg2 hdp2 har hla hP hD hS hO hl
        have hq2 := har.2.2.2.1.1
        refine lv_iload hx hb dX8_arguments_26 (lv_at hl 0 rfl) ?_
        refine lv_aload_n hx hb dX8_arguments_28 rfl (lv_at hl 4 rfl) ?_
        refine c_get (v := .ref (a 1)) (C := RX8) (Tc := TX8) (N := 5) (ci := 5) hx hb hq pin_wsX80 hown hE hP hO 23 (sg_23 G h0 a _ _ _ _ _) rfl 0 (by decide) (hq _ pw_774) (fun _ h9 => h9) rfl dX8_arguments_29 ?_
        refine c_get (v := .int (nI sz)) (C := RX10) (Tc := TX10) (N := 15) (ci := 7) hx hb hq pin_wsX100 hown hE hP hO 2 (sg_2 G h0 a _ _ _ _ _) rfl 8 (by decide) (hq _ pw_792) (fun _ h9 => h9) rfl dX8_arguments_32 ?_
        refine lv_icmp_ge (tgt := 83) hx hb dX8_arguments_35 (by decide) (fun c16 => ?_) (fun c16 => ?_)
        · have n17 : sz ≤ i2 := (nI_leI (a := sz) (b := i2) (by omega) (by omega)).mp c16
          refine lv_aload_n hx hb dX8_arguments_83 rfl (lv_at hl 3 rfl) ?_
          refine lv_aload_n hx hb dX8_arguments_84 rfl (lv_at hl 4 rfl) ?_
          refine lv_bipush (v := 35) hx hb dX8_arguments_85 (by decide) ?_
          have hO : OKW G h0 a (upd (upd (upd (upd (upd (upd (upd (upd (upd (upd F 2 (nI sz)) 9 (nI at9)) 10 (nI dp)) 11 (nI sg)) 9 (nI at2)) 10 (nI (dp + 1))) 11 (nI sg2)) 2 (nI sz)) 9 (nI at2)) 10 (nI (dp + 1))) R Z (updA B 10 f2) J K2.1 (fun q99 x99 => x99 = rep G a K2 q99) w := hO.to rfl
          obtain ⟨_, qr21, hqr22⟩ := hO.2.1 23 _ (sg_23 G h0 a _ _ _ _ _)
          refine pn_V0 (G := G) (As := [.int 35]) (rest := [.ref q9]) hx hb hml hown hq hE hX pX0_al hP hD hS hA hl.1 (P_closeBracket l G h0 a (upd (upd (upd (upd (upd (upd (upd F 2 (nI sz)) 9 (nI at9)) 10 (nI dp)) 11 (nI sg)) 9 (nI at2)) 10 (nI (dp + 1))) 11 (nI sg2)) R Z (updA B 10 f2) J K2.1 (fun q99 x99 => x99 = rep G a K2 q99) w 35 (dp + 1) at2 sz (by omega) (by omega) (by decide) (by omega) hO hl0) (gV pw_919 pw_920 pw_921 pw_796 pw_902) hV_X8_closeBracket qr21 5 hqr22 rfl rfl rfl (Nat.le_of_ble_eq_true rfl) dX8_arguments_87 ⟨(by show (2 * (at2 - (at9 + 1))) + 1 ≤ (2 * (sz - at9) + 18); omega), (by show (11 * (2 * (at2 - (at9 + 1)))) + 6 ≤ (11 * (2 * (sz - at9) + 18)); omega)⟩ ⟨(by show 7 + 1 ≤ (40 * n + 12); omega), (by show 8 + (2 + 11) + 122 ≤ (1300 * n + 400); omega)⟩ (fun v20 u18 H locs hw19 hP hD hS => ?_) (fun ux ce9 q9 H9 locs9 hux hP9 hD9 hS9 hce hcv hcl => pb_out ux (ThQ.up (Thx.same (Thx.same (Thx.same (Thx.b (Thx.f (Thx.f (Thx.f Thx.rfl (by omega)) (by omega)) (by omega)) (by omega) (by decide)) rfl) rfl) rfl) RhX.rfl hux) hnt hlocks hce hcv hcl hP9 hD9 hS9 (by show (2 * (at2 - (at9 + 1))) + 1 ≤ (2 * (sz - at9) + 18); omega) (by show (11 * (2 * (at2 - (at9 + 1)))) + 6 ≤ (11 * (2 * (sz - at9) + 18)); omega))
          obtain ⟨w, _⟩ := u18
          obtain ⟨hw19, h23, hO⟩ := hw19
          have h23 : at2 + 1 ≤ sz := h23
          obtain rfl : v20 = some (.int (nI at2)) := hw19
          have hO : OKP G h0 a (upd (upd (upd (upd F 2 (nI sz)) 9 (nI (at2 + 1))) 10 (nI ((dp + 1) - 1))) 11 (nI sg2)) R Z (updA B 10 f2) J K2 w := hO.to rfl
          refine W.widen (k := (2 * (at2 - (at9 + 1)))) (n := (11 * (2 * (at2 - (at9 + 1))))) (by show (2 * (at2 - (at9 + 1))) + 0 ≤ (2 * (at2 - (at9 + 1))); omega) (by show (11 * (2 * (at2 - (at9 + 1)))) + 0 ≤ (11 * (2 * (at2 - (at9 + 1)))); omega) ?_
          refine W.eq (g2 := F0 m 90 ls [.int (nI at2), .ref q9]) rfl ?_
          refine p_put (v := .int (nI at2)) (ty := .int) (C := RX7) (Tc := TX7) (N := 11) (ci := 13) (K' := (kI K2 4 q9 (nI at2))) hx hb hq pin_wsX70 tyX7 tyX7_ok nmX7 hown hE hP hD hS hO (by rw [hq2]; decide) (rep_1 hq2) rfl 4 (by decide) (hq _ pw_912) (fun _ h9 => h9) rfl (by decide +kernel) rfl rfl (Nat.le_of_ble_eq_true rfl) rfl (by rw [rep_1 (show (kI K2 4 q9 (nI at2)).1 q9 = 1 from hq2), pi_4] <;> rfl) (fun p9 hp9 => rep_kI hp9) dX8_arguments_90 (fun H locs w hP hD hS hO => ?_)
          obtain ⟨K24, hK25⟩ : ∃ z : PK, z = (kI K2 4 q9 (nI at2)) := ⟨_, rfl⟩
          rw [← hK25] at hO
          have hf26 : K24.1 q9 = 1 := (by rw [hK25]; exact hq2)
          have hf27 : K24.2.1 4 q9 = (nI at2) := by rw [hK25]; exact kI_eq
          refine W_size (fun hz1 hz2 => ?_)
          refine vx_ret ?_
          have har9 : ArS K K24 g g2 q9 (5 * (20 - (dp + 1)) + 6 + (sg2 - sg)) := by rw [hK25]; exact ArS.fin har
          have hz28 : at9 + 2 ≤ (at2 + 1) ∧ (at2 + 1) ≤ sz := (by omega)
          have hz29 : sg ≤ sg2 ∧ sg2 ≤ 60 := (by omega)
          have hz30 : ArS K K24 g g2 q9 (5 * (20 - (dp + 1)) + 6 + (sg2 - sg)) := har9
          have hz31 : dp + 1 ≤ 20 := (by omega)
          have hO : OKP G h0 a (upd (upd (upd (upd F 2 (nI sz)) 9 (nI (at2 + 1))) 10 (nI dp)) 11 (nI sg2)) R Z (updA B 10 f2) J K24 w := hO.to rfl
          refine W.widen (k := (2 * (sz - at9) + 18)) (n := (11 * (2 * (sz - at9) + 18))) (by omega) (by omega) ?_
          have hzz1 : H.size ≤ s.heap.size + ((2 * ((at2 + 1) - at9) - 4)) := (by have z : (2 * (at2 - (at9 + 1))) ≤ (2 * ((at2 + 1) - at9) - 4) := (by omega); omega)
          have hzz2 : hSl H ≤ hSl s.heap + ((11 * (2 * ((at2 + 1) - at9) - 4))) := (by have z : (11 * (2 * (at2 - (at9 + 1)))) ≤ (11 * (2 * ((at2 + 1) - at9) - 4)) := (by omega); omega)
          exact W.vret hx hb hr (fun t99 ht99 hW99 => ⟨⟨_, (w, (K24, g2, (at2 + 1), sg2, f2)), rfl, ⟨rfl, hz28, hz29, hz30, hz31, hO⟩, by rw [ht99]; exact hP, hD, by rw [ht99]; exact hzz1, by rw [ht99]; exact hzz2⟩, hS.F ht99⟩) hS.2.2 dX8_arguments_93
        · have n32 : ¬ (sz ≤ i2) := fun h9 => c16 ((nI_leI (a := sz) (b := i2) (by omega) (by omega)).mpr h9)
          refine lv_iload_n hx hb dX8_arguments_38 rfl (lv_at hl 1 rfl) ?_
          refine lv_if_eq (tgt := 83) hx hb dX8_arguments_39 (by decide) (fun c33 => ?_) (fun c33 => ?_)
          · refine lv_aload_n hx hb dX8_arguments_83 rfl (lv_at hl 3 rfl) ?_
            refine lv_aload_n hx hb dX8_arguments_84 rfl (lv_at hl 4 rfl) ?_
            refine lv_bipush (v := 35) hx hb dX8_arguments_85 (by decide) ?_
            have hO : OKW G h0 a (upd (upd (upd (upd (upd (upd (upd (upd (upd (upd F 2 (nI sz)) 9 (nI at9)) 10 (nI dp)) 11 (nI sg)) 9 (nI at2)) 10 (nI (dp + 1))) 11 (nI sg2)) 2 (nI sz)) 9 (nI at2)) 10 (nI (dp + 1))) R Z (updA B 10 f2) J K2.1 (fun q99 x99 => x99 = rep G a K2 q99) w := hO.to rfl
            obtain ⟨_, qr37, hqr38⟩ := hO.2.1 23 _ (sg_23 G h0 a _ _ _ _ _)
            refine pn_V0 (G := G) (As := [.int 35]) (rest := [.ref q9]) hx hb hml hown hq hE hX pX0_al hP hD hS hA hl.1 (P_closeBracket l G h0 a (upd (upd (upd (upd (upd (upd (upd F 2 (nI sz)) 9 (nI at9)) 10 (nI dp)) 11 (nI sg)) 9 (nI at2)) 10 (nI (dp + 1))) 11 (nI sg2)) R Z (updA B 10 f2) J K2.1 (fun q99 x99 => x99 = rep G a K2 q99) w 35 (dp + 1) at2 sz (by omega) (by omega) (by decide) (by omega) hO hl0) (gV pw_919 pw_920 pw_921 pw_796 pw_902) hV_X8_closeBracket qr37 5 hqr38 rfl rfl rfl (Nat.le_of_ble_eq_true rfl) dX8_arguments_87 ⟨(by show (2 * (at2 - (at9 + 1))) + 1 ≤ (2 * (sz - at9) + 18); omega), (by show (11 * (2 * (at2 - (at9 + 1)))) + 6 ≤ (11 * (2 * (sz - at9) + 18)); omega)⟩ ⟨(by show 7 + 1 ≤ (40 * n + 12); omega), (by show 8 + (2 + 11) + 122 ≤ (1300 * n + 400); omega)⟩ (fun v36 u34 H locs hw35 hP hD hS => ?_) (fun ux ce9 q9 H9 locs9 hux hP9 hD9 hS9 hce hcv hcl => pb_out ux (ThQ.up (Thx.same (Thx.same (Thx.same (Thx.b (Thx.f (Thx.f (Thx.f Thx.rfl (by omega)) (by omega)) (by omega)) (by omega) (by decide)) rfl) rfl) rfl) RhX.rfl hux) hnt hlocks hce hcv hcl hP9 hD9 hS9 (by show (2 * (at2 - (at9 + 1))) + 1 ≤ (2 * (sz - at9) + 18); omega) (by show (11 * (2 * (at2 - (at9 + 1)))) + 6 ≤ (11 * (2 * (sz - at9) + 18)); omega))
            obtain ⟨w, _⟩ := u34
            obtain ⟨hw35, h39, hO⟩ := hw35
            have h39 : at2 + 1 ≤ sz := h39
            obtain rfl : v36 = some (.int (nI at2)) := hw35
            have hO : OKP G h0 a (upd (upd (upd (upd F 2 (nI sz)) 9 (nI (at2 + 1))) 10 (nI ((dp + 1) - 1))) 11 (nI sg2)) R Z (updA B 10 f2) J K2 w := hO.to rfl
            refine W.widen (k := (2 * (at2 - (at9 + 1)))) (n := (11 * (2 * (at2 - (at9 + 1))))) (by show (2 * (at2 - (at9 + 1))) + 0 ≤ (2 * (at2 - (at9 + 1))); omega) (by show (11 * (2 * (at2 - (at9 + 1)))) + 0 ≤ (11 * (2 * (at2 - (at9 + 1)))); omega) ?_
            refine W.eq (g2 := F0 m 90 ls [.int (nI at2), .ref q9]) rfl ?_
            refine p_put (v := .int (nI at2)) (ty := .int) (C := RX7) (Tc := TX7) (N := 11) (ci := 13) (K' := (kI K2 4 q9 (nI at2))) hx hb hq pin_wsX70 tyX7 tyX7_ok nmX7 hown hE hP hD hS hO (by rw [hq2]; decide) (rep_1 hq2) rfl 4 (by decide) (hq _ pw_912) (fun _ h9 => h9) rfl (by decide +kernel) rfl rfl (Nat.le_of_ble_eq_true rfl) rfl (by rw [rep_1 (show (kI K2 4 q9 (nI at2)).1 q9 = 1 from hq2), pi_4] <;> rfl) (fun p9 hp9 => rep_kI hp9) dX8_arguments_90 (fun H locs w hP hD hS hO => ?_)
            obtain ⟨K40, hK41⟩ : ∃ z : PK, z = (kI K2 4 q9 (nI at2)) := ⟨_, rfl⟩
            rw [← hK41] at hO
            have hf42 : K40.1 q9 = 1 := (by rw [hK41]; exact hq2)
            have hf43 : K40.2.1 4 q9 = (nI at2) := by rw [hK41]; exact kI_eq
            refine W_size (fun hz1 hz2 => ?_)
            refine vx_ret ?_
            have har9 : ArS K K40 g g2 q9 (5 * (20 - (dp + 1)) + 6 + (sg2 - sg)) := by rw [hK41]; exact ArS.fin har
            have hz44 : at9 + 2 ≤ (at2 + 1) ∧ (at2 + 1) ≤ sz := (by omega)
            have hz45 : sg ≤ sg2 ∧ sg2 ≤ 60 := (by omega)
            have hz46 : ArS K K40 g g2 q9 (5 * (20 - (dp + 1)) + 6 + (sg2 - sg)) := har9
            have hz47 : dp + 1 ≤ 20 := (by omega)
            have hO : OKP G h0 a (upd (upd (upd (upd F 2 (nI sz)) 9 (nI (at2 + 1))) 10 (nI dp)) 11 (nI sg2)) R Z (updA B 10 f2) J K40 w := hO.to rfl
            refine W.widen (k := (2 * (sz - at9) + 18)) (n := (11 * (2 * (sz - at9) + 18))) (by omega) (by omega) ?_
            have hzz1 : H.size ≤ s.heap.size + ((2 * ((at2 + 1) - at9) - 4)) := (by have z : (2 * (at2 - (at9 + 1))) ≤ (2 * ((at2 + 1) - at9) - 4) := (by omega); omega)
            have hzz2 : hSl H ≤ hSl s.heap + ((11 * (2 * ((at2 + 1) - at9) - 4))) := (by have z : (11 * (2 * (at2 - (at9 + 1)))) ≤ (11 * (2 * ((at2 + 1) - at9) - 4)) := (by omega); omega)
            exact W.vret hx hb hr (fun t99 ht99 hW99 => ⟨⟨_, (w, (K40, g2, (at2 + 1), sg2, f2)), rfl, ⟨rfl, hz44, hz45, hz46, hz47, hO⟩, by rw [ht99]; exact hP, hD, by rw [ht99]; exact hzz1, by rw [ht99]; exact hzz2⟩, hS.F ht99⟩) hS.2.2 dX8_arguments_93
          · refine lv_aload_n hx hb dX8_arguments_42 rfl (lv_at hl 4 rfl) ?_
            have hO : OKP G h0 a (upd (upd (upd (upd (upd (upd (upd (upd (upd (upd (upd F 2 (nI sz)) 9 (nI at9)) 10 (nI dp)) 11 (nI sg)) 9 (nI at2)) 10 (nI (dp + 1))) 11 (nI sg2)) 2 (nI sz)) 9 (nI at2)) 10 (nI (dp + 1))) 11 (nI sg2)) R Z (updA B 10 f2) J K2 w := hO.to rfl
            obtain ⟨_, qr51, hqr52⟩ := hO.2.1 23 _ (sg_23 G h0 a _ _ _ _ _)
            refine pn_V0 (G := G) (As := []) (rest := []) hx hb hml hown hq hE hX pX0_al hP hD hS hA hl.1 ((ihe (by omega)) h0 a (upd (upd (upd (upd (upd (upd (upd F 2 (nI sz)) 9 (nI at9)) 10 (nI dp)) 11 (nI sg)) 9 (nI at2)) 10 (nI (dp + 1))) 11 (nI sg2)) R Z (updA B 10 f2) J K2 w at2 sz (dp + 1) sg2 (q9 + 1) g2 (by omega) (by omega) (by omega) (by omega) har.1 (fun o9 h9 => by have z : o9 = q9 := (by omega); rw [z]; exact ⟨hq2, har.2.2.2.1.2.1, by rw [har.2.2.2.1.2.2.1 0 (by decide)]; exact hk9⟩) hO hl0) (gV pw_916 pw_917 pw_918 pw_796 pw_942) hV_X8_expression qr51 5 hqr52 rfl rfl rfl (Nat.le_of_ble_eq_true rfl) dX8_arguments_43 ⟨(by show (2 * (at2 - (at9 + 1))) + (2 * (sz - at2) + 20) ≤ (2 * (sz - at9) + 18); omega), (by show (11 * (2 * (at2 - (at9 + 1)))) + (11 * (2 * (sz - at2) + 20)) ≤ (11 * (2 * (sz - at9) + 18)); omega)⟩ ⟨(by show (40 * (n - 1) + 40) + 1 ≤ (40 * n + 12); omega), (by show 8 + (3 + 11) + (1300 * (n - 1) + 1300) ≤ (1300 * n + 400); omega)⟩ (fun v50 u48 H locs hw49 hP hD hS => ?_) (fun ux ce9 q9 H9 locs9 hux hP9 hD9 hS9 hce hcv hcl => pb_out ux (ThQ.up (Thx.same (Thx.same (Thx.same (Thx.same (Thx.b (Thx.f (Thx.f (Thx.f Thx.rfl (by omega)) (by omega)) (by omega)) (by omega) (by decide)) rfl) rfl) rfl) rfl) RhX.rfl hux) hnt hlocks hce hcv hcl hP9 hD9 hS9 (by show (2 * (at2 - (at9 + 1))) + (2 * (sz - at2) + 20) ≤ (2 * (sz - at9) + 18); omega) (by show (11 * (2 * (at2 - (at9 + 1)))) + (11 * (2 * (sz - at2) + 20)) ≤ (11 * (2 * (sz - at9) + 18)); omega))
            obtain ⟨w, r53, K54, g55, at56, sg57, f58⟩ := u48
            obtain ⟨hw49, h59, h60, h61, hO⟩ := hw49
            have h59 : NwR K2 K54 g2 g55 r53 (q9 + 1) at2 (5 * (20 - (dp + 1)) + 6 + (sg57 - sg2)) := h59
            have h60 : at2 + 1 ≤ at56 ∧ at56 ≤ sz := h60
            have h61 : sg2 ≤ sg57 ∧ sg57 ≤ 60 := h61
            obtain rfl : v50 = some (.ref r53) := hw49
            have hf62 : K54.1 q9 = 1 := (((h59).2.1.1 q9 (by rw [hq2]; decide)).1).trans hq2
            have hO : OKP G h0 a (upd (upd (upd (upd F 2 (nI sz)) 9 (nI at56)) 10 (nI (dp + 1))) 11 (nI sg57)) R Z (updA B 10 f58) J K54 w := hO.to rfl
            refine W.widen (k := ((2 * (at2 - (at9 + 1))) + (2 * (at56 - at2) - 1))) (n := ((11 * (2 * (at2 - (at9 + 1)))) + (11 * (2 * (at56 - at2) - 1)))) (by show (2 * (at2 - (at9 + 1))) + (2 * (at56 - at2) - 1) ≤ ((2 * (at2 - (at9 + 1))) + (2 * (at56 - at2) - 1)); omega) (by show (11 * (2 * (at2 - (at9 + 1)))) + (11 * (2 * (at56 - at2) - 1)) ≤ ((11 * (2 * (at2 - (at9 + 1)))) + (11 * (2 * (at56 - at2) - 1))); omega) ?_
            refine W.eq (g2 := F0 m 46 ls [.ref r53]) rfl ?_
            have har3 := ArS.call (B2 := (5 * (20 - (dp + 1)) + 6 + (sg57 - sg))) har hq9 h59 (by omega)
            have hr3 := h59.2.2.1
            have hr4 : K54.1 r53 = 1 ∧ 1 ≤ g55 0 r53 ∧ g55 1 r53 = q9 + 1 := ⟨hr3.2.1, hr3.2.2.1, hr3.2.2.2.2.1⟩
            have hr5 : K.1 r53 = 0 := har.T hq9 hr3.1
            have hr6 := hr3.2.2.2.2.2.1
            have hf63 : K54.1 r53 = 1 := hr3.2.1
            refine lv_astore (lv' := [(5, .ref r53), (4, .int (nI i2)), (3, .int mo2), (2, va_rf la2), (1, .ref q9), (0, .ref (a 3))]) hx hb dX8_arguments_46 hl (by decide) rfl (fun ls hl => ?_)
            rcases la2 with _ | y9
            · have hl : lv_has ls 6 [(5, .ref r53), (4, .int (nI i2)), (3, .int mo2), (2, .null), (1, .ref q9), (0, .ref (a 3))] := hl
              refine lv_aload_nN hx hb dX8_arguments_48 rfl (lv_at hl 3 rfl) ?_
              refine lv_ifnonnullN hx hb dX8_arguments_49 ?_
              refine lv_aload_n hx hb dX8_arguments_52 rfl (lv_at hl 4 rfl) ?_
              refine lv_aload hx hb dX8_arguments_53 (lv_at hl 0 rfl) ?_
              refine p_put (v := .ref r53) (ty := (.object "JinjaTongue$Node")) (C := RX7) (Tc := TX7) (N := 11) (ci := 13) (K' := (kC K54 1 q9 (some r53))) hx hb hq pin_wsX70 tyX7 tyX7_ok nmX7 hown hE hP hD hS hO (by rw [hf62]; decide) (rep_1 hf62) rfl 7 (by decide) (hq _ pw_910) (fun _ h9 => h9) rfl (by decide +kernel) rfl rfl (Nat.le_of_ble_eq_true rfl) rfl (by rw [rep_1 (show (kC K54 1 q9 (some r53)).1 q9 = 1 from hf62), pc_1] <;> rfl) (fun p9 hp9 => rep_kC hp9) dX8_arguments_55 (fun H locs w hP hD hS hO => ?_)
              obtain ⟨K64, hK65⟩ : ∃ z : PK, z = (kC K54 1 q9 (some r53)) := ⟨_, rfl⟩
              rw [← hK65] at hO
              have hf66 : K64.1 q9 = 1 := (by rw [hK65]; exact hf62)
              have hf67 : K64.1 r53 = 1 := (by rw [hK65]; exact hf63)
              have hf68 : K64.2.2.1 1 q9 = some r53 := by rw [hK65]; exact kC_eq
              refine lv_goto (tgt := 67) hx hb dX8_arguments_58 (by decide) ?_
              have har4 : ArS K K64 g g55 q9 (5 * (20 - (dp + 1)) + 6 + (sg57 - sg)) := by rw [hK65]; exact ArS.first har3 hr4
              have hr7 : (K.1 r53 = 0 ∧ K64.1 r53 = 1 ∧ 1 ≤ g55 0 r53 ∧ g55 1 r53 = q9 + 1) := ⟨hr5, by rw [hK65]; exact hr4.1, hr4.2.1, hr4.2.2⟩
              refine lv_aload hx hb dX8_arguments_67 (lv_at hl 0 rfl) ?_
              refine lv_astore_n (lv' := [(2, .ref r53), (5, .ref r53), (4, .int (nI i2)), (3, .int mo2), (1, .ref q9), (0, .ref (a 3))]) hx hb dX8_arguments_69 rfl hl (by decide) rfl (fun ls hl => ?_)
              refine lv_aload_n hx hb dX8_arguments_70 rfl (lv_at hl 5 rfl) ?_
              refine lv_bipush (v := 39) hx hb dX8_arguments_71 (by decide) ?_
              have hO : OKW G h0 a (upd (upd (upd (upd (upd (upd F 2 (nI sz)) 9 (nI at56)) 10 (nI (dp + 1))) 11 (nI sg57)) 2 (nI sz)) 9 (nI at56)) R Z (updA B 10 f58) J K64.1 (fun q99 x99 => x99 = rep G a K64 q99) w := hO.to rfl
              obtain ⟨_, qr72, hqr73⟩ := hO.2.1 23 _ (sg_23 G h0 a _ _ _ _ _)
              refine pc_V0 (G := G) (As := [.int 39]) (rest := []) hx hb hml hown hq hE hX pX0_al hP hD hS hA hl.1 (P_takeIf l G h0 a (upd (upd (upd (upd F 2 (nI sz)) 9 (nI at56)) 10 (nI (dp + 1))) 11 (nI sg57)) R Z (updA B 10 f58) J K64.1 (fun q99 x99 => x99 = rep G a K64 q99) w 39 at56 sz (by omega) (by omega) (by decide) hO) (gV pw_797 pw_798 pw_799 pw_796 pw_789) hV_X8_takeIf qr72 5 hqr73 rfl rfl rfl (Nat.le_of_ble_eq_true rfl) dX8_arguments_73 ⟨(by show ((2 * (at2 - (at9 + 1))) + (2 * (at56 - at2) - 1)) + 0 ≤ (2 * (sz - at9) + 18); omega), (by show ((11 * (2 * (at2 - (at9 + 1)))) + (11 * (2 * (at56 - at2) - 1))) + 0 ≤ (11 * (2 * (sz - at9) + 18)); omega)⟩ ⟨(by show 3 + 1 ≤ (40 * n + 12); omega), (by show 8 + (2 + 11) + 81 ≤ (1300 * n + 400); omega)⟩ (fun v71 u69 H locs hw70 hP hD hS => ?_)
              obtain ⟨w, r74⟩ := u69
              obtain ⟨hw70, h75, h76, hO⟩ := hw70
              have h75 : r74 ≤ 1 := h75
              have h76 : at56 + r74 ≤ sz := h76
              obtain rfl : v71 = some (.int (nI r74)) := hw70
              have hO : OKP G h0 a (upd (upd (upd (upd F 2 (nI sz)) 9 (nI (at56 + r74))) 10 (nI (dp + 1))) 11 (nI sg57)) R Z (updA B 10 f58) J K64 w := hO.to rfl
              refine W.widen (k := ((2 * (at2 - (at9 + 1))) + (2 * (at56 - at2) - 1))) (n := ((11 * (2 * (at2 - (at9 + 1)))) + (11 * (2 * (at56 - at2) - 1)))) (by show ((2 * (at2 - (at9 + 1))) + (2 * (at56 - at2) - 1)) + 0 ≤ ((2 * (at2 - (at9 + 1))) + (2 * (at56 - at2) - 1)); omega) (by show ((11 * (2 * (at2 - (at9 + 1)))) + (11 * (2 * (at56 - at2) - 1))) + 0 ≤ ((11 * (2 * (at2 - (at9 + 1)))) + (11 * (2 * (at56 - at2) - 1))); omega) ?_
              refine W.eq (g2 := F0 m 76 ls [.int (nI r74)]) rfl ?_
              refine lv_istore_n (lv' := [(3, .int (nI r74)), (2, .ref r53), (5, .ref r53), (4, .int (nI i2)), (1, .ref q9), (0, .ref (a 3))]) hx hb dX8_arguments_76 rfl hl (by decide) rfl (fun ls hl => ?_)
              refine lv_iinc (v := (nI (i2 + 1))) (lv' := [(4, .int (nI (i2 + 1))), (3, .int (nI r74)), (2, .ref r53), (5, .ref r53), (1, .ref q9), (0, .ref (a 3))]) hx hb dX8_arguments_77 hl (k := 3) rfl (nI_1 i2) (by decide) rfl (fun ls hl => ?_)
              refine lv_goto (tgt := 26) hx hb dX8_arguments_80 (by decide) ?_
              refine W.widen (k := (2 * ((at56 + r74) - (at9 + 1)))) (n := (11 * (2 * ((at56 + r74) - (at9 + 1))))) (by show ((2 * (at2 - (at9 + 1))) + (2 * (at56 - at2) - 1)) ≤ _; omega) (by show ((11 * (2 * (at2 - (at9 + 1)))) + (11 * (2 * (at56 - at2) - 1))) ≤ _; omega) ?_
              have hO : OKP G h0 a (upd (upd (upd (upd F 2 (nI sz)) 9 (nI (at56 + r74))) 10 (nI (dp + 1))) 11 (nI sg57)) R Z (updA B 10 f58) J K64 w := hO.to rfl
              exact ih_i (i2 + 1) (at56 + r74) sg57 f58 (some r53) K64 g55 (nI r74) _ _ _ _ (by omega) (by omega) (by omega) (by omega) (by omega) har4 (fun y h => by cases h; exact ⟨hr7, by omega⟩) hP hD hS hO (lv_sub hl [0, 1, 2, 4, 5] rfl)
            · have hl : lv_has ls 6 [(5, .ref r53), (4, .int (nI i2)), (3, .int mo2), (2, .ref y9), (1, .ref q9), (0, .ref (a 3))] := hl
              obtain ⟨hy1, hy2⟩ := hla y9 rfl
              have hy0 : ¬ K2.1 y9 = 0 := by rw [hy1.2.1]; decide
              have hy3 : K54.1 y9 = 1 := ((h59.2.1.1 y9 hy0).1).trans hy1.2.1
              have hy4 := fun i => h59.2.1.2 y9 hy0 i
              refine lv_aload_n hx hb dX8_arguments_48 rfl (lv_at hl 3 rfl) ?_
              refine lv_ifnonnull (tgt := 61) hx hb dX8_arguments_49 (by decide) ?_
              refine lv_aload_n hx hb dX8_arguments_61 rfl (lv_at hl 3 rfl) ?_
              refine lv_aload hx hb dX8_arguments_62 (lv_at hl 0 rfl) ?_
              refine p_put (v := .ref r53) (ty := (.object "JinjaTongue$Node")) (C := RX7) (Tc := TX7) (N := 11) (ci := 13) (K' := (kC K54 4 y9 (some r53))) hx hb hq pin_wsX70 tyX7 tyX7_ok nmX7 hown hE hP hD hS hO (by rw [hy3]; decide) (rep_1 hy3) rfl 10 (by decide) (hq _ pw_911) (fun _ h9 => h9) rfl (by decide +kernel) rfl rfl (Nat.le_of_ble_eq_true rfl) rfl (by rw [rep_1 (show (kC K54 4 y9 (some r53)).1 y9 = 1 from hy3), pc_4] <;> rfl) (fun p9 hp9 => rep_kC hp9) dX8_arguments_64 (fun H locs w hP hD hS hO => ?_)
              obtain ⟨K77, hK78⟩ : ∃ z : PK, z = (kC K54 4 y9 (some r53)) := ⟨_, rfl⟩
              rw [← hK78] at hO
              have hf79 : K77.1 q9 = 1 := (by rw [hK78]; exact hf62)
              have hf80 : K77.1 r53 = 1 := (by rw [hK78]; exact hf63)
              have hf81 : K77.1 y9 = 1 := (by rw [hK78]; exact hy3)
              have hf82 : K77.2.2.1 4 y9 = some r53 := by rw [hK78]; exact kC_eq
              have hy5 := hy4 2
              have har4 : ArS K K77 g g55 q9 (5 * (20 - (dp + 1)) + 6 + (sg57 - sg)) := by rw [hK78]; exact ArS.next har3 hq9 ⟨hy1.1, hy3, by rw [hy4 0]; exact hy1.2.2.1, by rw [hy4 1]; exact hy1.2.2.2⟩ hr4 (by omega) (by omega)
              have hr7 : (K.1 r53 = 0 ∧ K77.1 r53 = 1 ∧ 1 ≤ g55 0 r53 ∧ g55 1 r53 = q9 + 1) := ⟨hr5, by rw [hK78]; exact hr4.1, hr4.2.1, hr4.2.2⟩
              refine lv_aload hx hb dX8_arguments_67 (lv_at hl 0 rfl) ?_
              refine lv_astore_n (lv' := [(2, .ref r53), (5, .ref r53), (4, .int (nI i2)), (3, .int mo2), (1, .ref q9), (0, .ref (a 3))]) hx hb dX8_arguments_69 rfl hl (by decide) rfl (fun ls hl => ?_)
              refine lv_aload_n hx hb dX8_arguments_70 rfl (lv_at hl 5 rfl) ?_
              refine lv_bipush (v := 39) hx hb dX8_arguments_71 (by decide) ?_
              have hO : OKW G h0 a (upd (upd (upd (upd (upd (upd F 2 (nI sz)) 9 (nI at56)) 10 (nI (dp + 1))) 11 (nI sg57)) 2 (nI sz)) 9 (nI at56)) R Z (updA B 10 f58) J K77.1 (fun q99 x99 => x99 = rep G a K77 q99) w := hO.to rfl
              obtain ⟨_, qr86, hqr87⟩ := hO.2.1 23 _ (sg_23 G h0 a _ _ _ _ _)
              refine pc_V0 (G := G) (As := [.int 39]) (rest := []) hx hb hml hown hq hE hX pX0_al hP hD hS hA hl.1 (P_takeIf l G h0 a (upd (upd (upd (upd F 2 (nI sz)) 9 (nI at56)) 10 (nI (dp + 1))) 11 (nI sg57)) R Z (updA B 10 f58) J K77.1 (fun q99 x99 => x99 = rep G a K77 q99) w 39 at56 sz (by omega) (by omega) (by decide) hO) (gV pw_797 pw_798 pw_799 pw_796 pw_789) hV_X8_takeIf qr86 5 hqr87 rfl rfl rfl (Nat.le_of_ble_eq_true rfl) dX8_arguments_73 ⟨(by show ((2 * (at2 - (at9 + 1))) + (2 * (at56 - at2) - 1)) + 0 ≤ (2 * (sz - at9) + 18); omega), (by show ((11 * (2 * (at2 - (at9 + 1)))) + (11 * (2 * (at56 - at2) - 1))) + 0 ≤ (11 * (2 * (sz - at9) + 18)); omega)⟩ ⟨(by show 3 + 1 ≤ (40 * n + 12); omega), (by show 8 + (2 + 11) + 81 ≤ (1300 * n + 400); omega)⟩ (fun v85 u83 H locs hw84 hP hD hS => ?_)
              obtain ⟨w, r88⟩ := u83
              obtain ⟨hw84, h89, h90, hO⟩ := hw84
              have h89 : r88 ≤ 1 := h89
              have h90 : at56 + r88 ≤ sz := h90
              obtain rfl : v85 = some (.int (nI r88)) := hw84
              have hO : OKP G h0 a (upd (upd (upd (upd F 2 (nI sz)) 9 (nI (at56 + r88))) 10 (nI (dp + 1))) 11 (nI sg57)) R Z (updA B 10 f58) J K77 w := hO.to rfl
              refine W.widen (k := ((2 * (at2 - (at9 + 1))) + (2 * (at56 - at2) - 1))) (n := ((11 * (2 * (at2 - (at9 + 1)))) + (11 * (2 * (at56 - at2) - 1)))) (by show ((2 * (at2 - (at9 + 1))) + (2 * (at56 - at2) - 1)) + 0 ≤ ((2 * (at2 - (at9 + 1))) + (2 * (at56 - at2) - 1)); omega) (by show ((11 * (2 * (at2 - (at9 + 1)))) + (11 * (2 * (at56 - at2) - 1))) + 0 ≤ ((11 * (2 * (at2 - (at9 + 1)))) + (11 * (2 * (at56 - at2) - 1))); omega) ?_
              refine W.eq (g2 := F0 m 76 ls [.int (nI r88)]) rfl ?_
              refine lv_istore_n (lv' := [(3, .int (nI r88)), (2, .ref r53), (5, .ref r53), (4, .int (nI i2)), (1, .ref q9), (0, .ref (a 3))]) hx hb dX8_arguments_76 rfl hl (by decide) rfl (fun ls hl => ?_)
              refine lv_iinc (v := (nI (i2 + 1))) (lv' := [(4, .int (nI (i2 + 1))), (3, .int (nI r88)), (2, .ref r53), (5, .ref r53), (1, .ref q9), (0, .ref (a 3))]) hx hb dX8_arguments_77 hl (k := 3) rfl (nI_1 i2) (by decide) rfl (fun ls hl => ?_)
              refine lv_goto (tgt := 26) hx hb dX8_arguments_80 (by decide) ?_
              refine W.widen (k := (2 * ((at56 + r88) - (at9 + 1)))) (n := (11 * (2 * ((at56 + r88) - (at9 + 1))))) (by show ((2 * (at2 - (at9 + 1))) + (2 * (at56 - at2) - 1)) ≤ _; omega) (by show ((11 * (2 * (at2 - (at9 + 1)))) + (11 * (2 * (at56 - at2) - 1))) ≤ _; omega) ?_
              have hO : OKP G h0 a (upd (upd (upd (upd F 2 (nI sz)) 9 (nI (at56 + r88))) 10 (nI (dp + 1))) 11 (nI sg57)) R Z (updA B 10 f58) J K77 w := hO.to rfl
              exact ih_i (i2 + 1) (at56 + r88) sg57 f58 (some r53) K77 g55 (nI r88) _ _ _ _ (by omega) (by omega) (by omega) (by omega) (by omega) har4 (fun y h => by cases h; exact ⟨hr7, by omega⟩) hP hD hS hO (lv_sub hl [0, 1, 2, 4, 5] rfl)
    refine W.widen (k := (2 * ((at9 + 1) - (at9 + 1)))) (n := (11 * (2 * ((at9 + 1) - (at9 + 1))))) (by show 0 ≤ _; omega) (by show 0 ≤ _; omega) ?_
    have hO : OKP G h0 a (upd (upd (upd (upd F 2 (nI sz)) 9 (nI (at9 + 1))) 10 (nI (dp + 1))) 11 (nI sg)) R Z (updA B 10 (B 10)) J K w := hO.to rfl
    exact loop_i (sz + 1) 0 (at9 + 1) sg (B 10) none K g (0 : Int32) _ _ _ _ (by omega) (by omega) (by omega) (by omega) (by omega) (by have z : 0 = 0 := rfl; exact ArS.wk har0 (by omega)) (fun y h => by cases h) hP hD hS hO (lv_sub hl [0, 1, 2, 4, 3] rfl)
  · have n91 : r12 = 0 := (nI_eq (a := r12) (b := 0) (by omega) (by omega)).mp c14
    refine lv_iconst (v := 1) hx hb dX8_arguments_17 (by decide) ?_
    refine lv_goto (tgt := 22) hx hb dX8_arguments_18 (by decide) ?_
    refine lv_istore_n (lv' := [(3, .int 1), (2, .null), (0, .ref (a 3)), (1, .ref q9)]) hx hb dX8_arguments_22 rfl hl (by decide) rfl (fun ls hl => ?_)
    refine lv_iconst (v := 0) hx hb dX8_arguments_23 (by decide) ?_
    refine lv_istore (lv' := [(4, .int 0), (3, .int 1), (2, .null), (0, .ref (a 3)), (1, .ref q9)]) hx hb dX8_arguments_24 hl (by decide) rfl (fun ls hl => ?_)
    have har0 := ArS.nil hwn hq9 hg9 hb9 hno
    have loop_i : ∀ (n_i : Nat) (i2 : Nat) (at2 : Nat) (sg2 : Nat) (f2 : Nat → Int32) (la2 : Option Nat) (K2 : PK) (g2 : Nat → Nat → Nat) (mo2 : Int32) (H : Heap) (locs : List Loc) (ls : Array Slot) (w : va_W), i2 ≤ sz → sz + 1 ≤ i2 + n_i → (at9 + 1 ≤ at2 ∧ at2 ≤ sz) → (sg ≤ sg2 ∧ sg2 ≤ 60) → (dp + 1 ≤ 20) → (ArS K K2 g g2 q9 (5 * (20 - (dp + 1)) + 6 + (sg2 - sg))) → (LaO K K2 g2 q9 at2 la2) → va_P G.1 pCl w H → va_D A w → va_S A s.heap H locs → OKP G h0 a (upd (upd (upd (upd F 2 (nI sz)) 9 (nI at2)) 10 (nI (dp + 1))) 11 (nI sg2)) R Z (updA B 10 f2) J K2 w → lv_has ls 6 [(4, .int (nI i2)), (3, .int mo2), (2, va_rf la2), (1, .ref q9), (0, .ref (a 3))] → W p l e (headSpec (Cond.code yX8_arguments cX8_arguments 6 none :: pw) ({ frames := (40 * n + 12), cells := (2 * (sz - at9) + 18), slots := (11 * (2 * (sz - at9) + 18)), locals := (1300 * n + 400) } : Room)).room s m ([.ref (a 3), .ref q9] : List Value).toArray below meth c H locs (2 * (at2 - (at9 + 1))) (11 * (2 * (at2 - (at9 + 1)))) (vx_MQ below (pQn G A (fun (v : Option Value) (u : va_W × (PK × (Nat → Nat → Nat) × Nat × Nat × (Nat → Int32))) => v = none ∧ (at9 + 2 ≤ u.2.2.2.1 ∧ u.2.2.2.1 ≤ sz) ∧ (sg ≤ u.2.2.2.2.1 ∧ u.2.2.2.2.1 ≤ 60) ∧ (ArS K u.2.1 g u.2.2.1 q9 (5 * (20 - (dp + 1)) + 6 + (u.2.2.2.2.1 - sg))) ∧ (dp + 1 ≤ 20) ∧ (OKP G h0 a (upd (upd (upd (upd F 2 (nI sz)) 9 (nI u.2.2.2.1)) 10 (nI dp)) 11 (nI u.2.2.2.2.1)) R Z (updA B 10 u.2.2.2.2.2) J u.2.1 u.1)) (fun u => u.1) (fun (u : va_W × (PK × (Nat → Nat → Nat) × Nat × Nat × (Nat → Int32))) => (2 * (u.2.2.2.1 - at9) - 4)) (fun (u : va_W × (PK × (Nat → Nat → Nat) × Nat × Nat × (Nat → Int32))) => (11 * (2 * (u.2.2.2.1 - at9) - 4)))) (pXX G A (fun (u : va_W × (Nat → Int32) × (Nat → Value) × (Nat → Nat → Int32)) => ThQ G h0 a (upd (upd (upd (upd F 2 (nI sz)) 9 (nI at9)) 10 (nI dp)) 11 (nI sg)) R Z B J u) (fun u => u.1)) ([.ref (a 3), .ref q9] : List Value).toArray s ({ frames := (40 * n + 12), cells := (2 * (sz - at9) + 18), slots := (11 * (2 * (sz - at9) + 18)), locals := (1300 * n + 400) } : Room).cells ({ frames := (40 * n + 12), cells := (2 * (sz - at9) + 18), slots := (11 * (2 * (sz - at9) + 18)), locals := (1300 * n + 400) } : Room).slots A) (F0 m 26 ls []) := by
      intro n_i
      induction n_i with
      | zero => intro i2 at2 sg2 f2 la2 K2 g2 mo2 H locs ls w hk_i hn_i; omega
      | succ n_i ih_i =>
        intro i2 at2 sg2 f2 la2 K2 g2 mo2 H locs ls w hk_i hn_i hat2 hsg2 hdp2 har hla hP hD hS hO hl
        have hq2 := har.2.2.2.1.1
        refine lv_iload hx hb dX8_arguments_26 (lv_at hl 0 rfl) ?_
        refine lv_aload_n hx hb dX8_arguments_28 rfl (lv_at hl 4 rfl) ?_
        refine c_get (v := .ref (a 1)) (C := RX8) (Tc := TX8) (N := 5) (ci := 5) hx hb hq pin_wsX80 hown hE hP hO 23 (sg_23 G h0 a _ _ _ _ _) rfl 0 (by decide) (hq _ pw_774) (fun _ h9 => h9) rfl dX8_arguments_29 ?_
        refine c_get (v := .int (nI sz)) (C := RX10) (Tc := TX10) (N := 15) (ci := 7) hx hb hq pin_wsX100 hown hE hP hO 2 (sg_2 G h0 a _ _ _ _ _) rfl 8 (by decide) (hq _ pw_792) (fun _ h9 => h9) rfl dX8_arguments_32 ?_
        refine lv_icmp_ge (tgt := 83) hx hb dX8_arguments_35 (by decide) (fun c92 => ?_) (fun c92 => ?_)
        · have n93 : sz ≤ i2 := (nI_leI (a := sz) (b := i2) (by omega) (by omega)).mp c92
          refine lv_aload_n hx hb dX8_arguments_83 rfl (lv_at hl 3 rfl) ?_
          refine lv_aload_n hx hb dX8_arguments_84 rfl (lv_at hl 4 rfl) ?_
          refine lv_bipush (v := 35) hx hb dX8_arguments_85 (by decide) ?_
          have hO : OKW G h0 a (upd (upd (upd (upd (upd (upd (upd (upd (upd (upd F 2 (nI sz)) 9 (nI at9)) 10 (nI dp)) 11 (nI sg)) 9 (nI at2)) 10 (nI (dp + 1))) 11 (nI sg2)) 2 (nI sz)) 9 (nI at2)) 10 (nI (dp + 1))) R Z (updA B 10 f2) J K2.1 (fun q99 x99 => x99 = rep G a K2 q99) w := hO.to rfl
          obtain ⟨_, qr97, hqr98⟩ := hO.2.1 23 _ (sg_23 G h0 a _ _ _ _ _)
          refine pn_V0 (G := G) (As := [.int 35]) (rest := [.ref q9]) hx hb hml hown hq hE hX pX0_al hP hD hS hA hl.1 (P_closeBracket l G h0 a (upd (upd (upd (upd (upd (upd (upd F 2 (nI sz)) 9 (nI at9)) 10 (nI dp)) 11 (nI sg)) 9 (nI at2)) 10 (nI (dp + 1))) 11 (nI sg2)) R Z (updA B 10 f2) J K2.1 (fun q99 x99 => x99 = rep G a K2 q99) w 35 (dp + 1) at2 sz (by omega) (by omega) (by decide) (by omega) hO hl0) (gV pw_919 pw_920 pw_921 pw_796 pw_902) hV_X8_closeBracket qr97 5 hqr98 rfl rfl rfl (Nat.le_of_ble_eq_true rfl) dX8_arguments_87 ⟨(by show (2 * (at2 - (at9 + 1))) + 1 ≤ (2 * (sz - at9) + 18); omega), (by show (11 * (2 * (at2 - (at9 + 1)))) + 6 ≤ (11 * (2 * (sz - at9) + 18)); omega)⟩ ⟨(by show 7 + 1 ≤ (40 * n + 12); omega), (by show 8 + (2 + 11) + 122 ≤ (1300 * n + 400); omega)⟩ (fun v96 u94 H locs hw95 hP hD hS => ?_) (fun ux ce9 q9 H9 locs9 hux hP9 hD9 hS9 hce hcv hcl => pb_out ux (ThQ.up (Thx.same (Thx.same (Thx.same (Thx.b (Thx.f (Thx.f (Thx.f Thx.rfl (by omega)) (by omega)) (by omega)) (by omega) (by decide)) rfl) rfl) rfl) RhX.rfl hux) hnt hlocks hce hcv hcl hP9 hD9 hS9 (by show (2 * (at2 - (at9 + 1))) + 1 ≤ (2 * (sz - at9) + 18); omega) (by show (11 * (2 * (at2 - (at9 + 1)))) + 6 ≤ (11 * (2 * (sz - at9) + 18)); omega))
          obtain ⟨w, _⟩ := u94
          obtain ⟨hw95, h99, hO⟩ := hw95
          have h99 : at2 + 1 ≤ sz := h99
          obtain rfl : v96 = some (.int (nI at2)) := hw95
          have hO : OKP G h0 a (upd (upd (upd (upd F 2 (nI sz)) 9 (nI (at2 + 1))) 10 (nI ((dp + 1) - 1))) 11 (nI sg2)) R Z (updA B 10 f2) J K2 w := hO.to rfl
          refine W.widen (k := (2 * (at2 - (at9 + 1)))) (n := (11 * (2 * (at2 - (at9 + 1))))) (by show (2 * (at2 - (at9 + 1))) + 0 ≤ (2 * (at2 - (at9 + 1))); omega) (by show (11 * (2 * (at2 - (at9 + 1)))) + 0 ≤ (11 * (2 * (at2 - (at9 + 1)))); omega) ?_
          refine W.eq (g2 := F0 m 90 ls [.int (nI at2), .ref q9]) rfl ?_
          refine p_put (v := .int (nI at2)) (ty := .int) (C := RX7) (Tc := TX7) (N := 11) (ci := 13) (K' := (kI K2 4 q9 (nI at2))) hx hb hq pin_wsX70 tyX7 tyX7_ok nmX7 hown hE hP hD hS hO (by rw [hq2]; decide) (rep_1 hq2) rfl 4 (by decide) (hq _ pw_912) (fun _ h9 => h9) rfl (by decide +kernel) rfl rfl (Nat.le_of_ble_eq_true rfl) rfl (by rw [rep_1 (show (kI K2 4 q9 (nI at2)).1 q9 = 1 from hq2), pi_4] <;> rfl) (fun p9 hp9 => rep_kI hp9) dX8_arguments_90 (fun H locs w hP hD hS hO => ?_)
          obtain ⟨K100, hK101⟩ : ∃ z : PK, z = (kI K2 4 q9 (nI at2)) := ⟨_, rfl⟩
          rw [← hK101] at hO
          have hf102 : K100.1 q9 = 1 := (by rw [hK101]; exact hq2)
          have hf103 : K100.2.1 4 q9 = (nI at2) := by rw [hK101]; exact kI_eq
          refine W_size (fun hz1 hz2 => ?_)
          refine vx_ret ?_
          have har9 : ArS K K100 g g2 q9 (5 * (20 - (dp + 1)) + 6 + (sg2 - sg)) := by rw [hK101]; exact ArS.fin har
          have hz104 : at9 + 2 ≤ (at2 + 1) ∧ (at2 + 1) ≤ sz := (by omega)
          have hz105 : sg ≤ sg2 ∧ sg2 ≤ 60 := (by omega)
          have hz106 : ArS K K100 g g2 q9 (5 * (20 - (dp + 1)) + 6 + (sg2 - sg)) := har9
          have hz107 : dp + 1 ≤ 20 := (by omega)
          have hO : OKP G h0 a (upd (upd (upd (upd F 2 (nI sz)) 9 (nI (at2 + 1))) 10 (nI dp)) 11 (nI sg2)) R Z (updA B 10 f2) J K100 w := hO.to rfl
          refine W.widen (k := (2 * (sz - at9) + 18)) (n := (11 * (2 * (sz - at9) + 18))) (by omega) (by omega) ?_
          have hzz1 : H.size ≤ s.heap.size + ((2 * ((at2 + 1) - at9) - 4)) := (by have z : (2 * (at2 - (at9 + 1))) ≤ (2 * ((at2 + 1) - at9) - 4) := (by omega); omega)
          have hzz2 : hSl H ≤ hSl s.heap + ((11 * (2 * ((at2 + 1) - at9) - 4))) := (by have z : (11 * (2 * (at2 - (at9 + 1)))) ≤ (11 * (2 * ((at2 + 1) - at9) - 4)) := (by omega); omega)
          exact W.vret hx hb hr (fun t99 ht99 hW99 => ⟨⟨_, (w, (K100, g2, (at2 + 1), sg2, f2)), rfl, ⟨rfl, hz104, hz105, hz106, hz107, hO⟩, by rw [ht99]; exact hP, hD, by rw [ht99]; exact hzz1, by rw [ht99]; exact hzz2⟩, hS.F ht99⟩) hS.2.2 dX8_arguments_93
        · have n108 : ¬ (sz ≤ i2) := fun h9 => c92 ((nI_leI (a := sz) (b := i2) (by omega) (by omega)).mpr h9)
          refine lv_iload_n hx hb dX8_arguments_38 rfl (lv_at hl 1 rfl) ?_
          refine lv_if_eq (tgt := 83) hx hb dX8_arguments_39 (by decide) (fun c109 => ?_) (fun c109 => ?_)
          · refine lv_aload_n hx hb dX8_arguments_83 rfl (lv_at hl 3 rfl) ?_
            refine lv_aload_n hx hb dX8_arguments_84 rfl (lv_at hl 4 rfl) ?_
            refine lv_bipush (v := 35) hx hb dX8_arguments_85 (by decide) ?_
            have hO : OKW G h0 a (upd (upd (upd (upd (upd (upd (upd (upd (upd (upd F 2 (nI sz)) 9 (nI at9)) 10 (nI dp)) 11 (nI sg)) 9 (nI at2)) 10 (nI (dp + 1))) 11 (nI sg2)) 2 (nI sz)) 9 (nI at2)) 10 (nI (dp + 1))) R Z (updA B 10 f2) J K2.1 (fun q99 x99 => x99 = rep G a K2 q99) w := hO.to rfl
            obtain ⟨_, qr113, hqr114⟩ := hO.2.1 23 _ (sg_23 G h0 a _ _ _ _ _)
            refine pn_V0 (G := G) (As := [.int 35]) (rest := [.ref q9]) hx hb hml hown hq hE hX pX0_al hP hD hS hA hl.1 (P_closeBracket l G h0 a (upd (upd (upd (upd (upd (upd (upd F 2 (nI sz)) 9 (nI at9)) 10 (nI dp)) 11 (nI sg)) 9 (nI at2)) 10 (nI (dp + 1))) 11 (nI sg2)) R Z (updA B 10 f2) J K2.1 (fun q99 x99 => x99 = rep G a K2 q99) w 35 (dp + 1) at2 sz (by omega) (by omega) (by decide) (by omega) hO hl0) (gV pw_919 pw_920 pw_921 pw_796 pw_902) hV_X8_closeBracket qr113 5 hqr114 rfl rfl rfl (Nat.le_of_ble_eq_true rfl) dX8_arguments_87 ⟨(by show (2 * (at2 - (at9 + 1))) + 1 ≤ (2 * (sz - at9) + 18); omega), (by show (11 * (2 * (at2 - (at9 + 1)))) + 6 ≤ (11 * (2 * (sz - at9) + 18)); omega)⟩ ⟨(by show 7 + 1 ≤ (40 * n + 12); omega), (by show 8 + (2 + 11) + 122 ≤ (1300 * n + 400); omega)⟩ (fun v112 u110 H locs hw111 hP hD hS => ?_) (fun ux ce9 q9 H9 locs9 hux hP9 hD9 hS9 hce hcv hcl => pb_out ux (ThQ.up (Thx.same (Thx.same (Thx.same (Thx.b (Thx.f (Thx.f (Thx.f Thx.rfl (by omega)) (by omega)) (by omega)) (by omega) (by decide)) rfl) rfl) rfl) RhX.rfl hux) hnt hlocks hce hcv hcl hP9 hD9 hS9 (by show (2 * (at2 - (at9 + 1))) + 1 ≤ (2 * (sz - at9) + 18); omega) (by show (11 * (2 * (at2 - (at9 + 1)))) + 6 ≤ (11 * (2 * (sz - at9) + 18)); omega))
            obtain ⟨w, _⟩ := u110
            obtain ⟨hw111, h115, hO⟩ := hw111
            have h115 : at2 + 1 ≤ sz := h115
            obtain rfl : v112 = some (.int (nI at2)) := hw111
            have hO : OKP G h0 a (upd (upd (upd (upd F 2 (nI sz)) 9 (nI (at2 + 1))) 10 (nI ((dp + 1) - 1))) 11 (nI sg2)) R Z (updA B 10 f2) J K2 w := hO.to rfl
            refine W.widen (k := (2 * (at2 - (at9 + 1)))) (n := (11 * (2 * (at2 - (at9 + 1))))) (by show (2 * (at2 - (at9 + 1))) + 0 ≤ (2 * (at2 - (at9 + 1))); omega) (by show (11 * (2 * (at2 - (at9 + 1)))) + 0 ≤ (11 * (2 * (at2 - (at9 + 1)))); omega) ?_
            refine W.eq (g2 := F0 m 90 ls [.int (nI at2), .ref q9]) rfl ?_
            refine p_put (v := .int (nI at2)) (ty := .int) (C := RX7) (Tc := TX7) (N := 11) (ci := 13) (K' := (kI K2 4 q9 (nI at2))) hx hb hq pin_wsX70 tyX7 tyX7_ok nmX7 hown hE hP hD hS hO (by rw [hq2]; decide) (rep_1 hq2) rfl 4 (by decide) (hq _ pw_912) (fun _ h9 => h9) rfl (by decide +kernel) rfl rfl (Nat.le_of_ble_eq_true rfl) rfl (by rw [rep_1 (show (kI K2 4 q9 (nI at2)).1 q9 = 1 from hq2), pi_4] <;> rfl) (fun p9 hp9 => rep_kI hp9) dX8_arguments_90 (fun H locs w hP hD hS hO => ?_)
            obtain ⟨K116, hK117⟩ : ∃ z : PK, z = (kI K2 4 q9 (nI at2)) := ⟨_, rfl⟩
            rw [← hK117] at hO
            have hf118 : K116.1 q9 = 1 := (by rw [hK117]; exact hq2)
            have hf119 : K116.2.1 4 q9 = (nI at2) := by rw [hK117]; exact kI_eq
            refine W_size (fun hz1 hz2 => ?_)
            refine vx_ret ?_
            have har9 : ArS K K116 g g2 q9 (5 * (20 - (dp + 1)) + 6 + (sg2 - sg)) := by rw [hK117]; exact ArS.fin har
            have hz120 : at9 + 2 ≤ (at2 + 1) ∧ (at2 + 1) ≤ sz := (by omega)
            have hz121 : sg ≤ sg2 ∧ sg2 ≤ 60 := (by omega)
            have hz122 : ArS K K116 g g2 q9 (5 * (20 - (dp + 1)) + 6 + (sg2 - sg)) := har9
            have hz123 : dp + 1 ≤ 20 := (by omega)
            have hO : OKP G h0 a (upd (upd (upd (upd F 2 (nI sz)) 9 (nI (at2 + 1))) 10 (nI dp)) 11 (nI sg2)) R Z (updA B 10 f2) J K116 w := hO.to rfl
            refine W.widen (k := (2 * (sz - at9) + 18)) (n := (11 * (2 * (sz - at9) + 18))) (by omega) (by omega) ?_
            have hzz1 : H.size ≤ s.heap.size + ((2 * ((at2 + 1) - at9) - 4)) := (by have z : (2 * (at2 - (at9 + 1))) ≤ (2 * ((at2 + 1) - at9) - 4) := (by omega); omega)
            have hzz2 : hSl H ≤ hSl s.heap + ((11 * (2 * ((at2 + 1) - at9) - 4))) := (by have z : (11 * (2 * (at2 - (at9 + 1)))) ≤ (11 * (2 * ((at2 + 1) - at9) - 4)) := (by omega); omega)
            exact W.vret hx hb hr (fun t99 ht99 hW99 => ⟨⟨_, (w, (K116, g2, (at2 + 1), sg2, f2)), rfl, ⟨rfl, hz120, hz121, hz122, hz123, hO⟩, by rw [ht99]; exact hP, hD, by rw [ht99]; exact hzz1, by rw [ht99]; exact hzz2⟩, hS.F ht99⟩) hS.2.2 dX8_arguments_93
          · refine lv_aload_n hx hb dX8_arguments_42 rfl (lv_at hl 4 rfl) ?_
            have hO : OKP G h0 a (upd (upd (upd (upd (upd (upd (upd (upd (upd (upd (upd F 2 (nI sz)) 9 (nI at9)) 10 (nI dp)) 11 (nI sg)) 9 (nI at2)) 10 (nI (dp + 1))) 11 (nI sg2)) 2 (nI sz)) 9 (nI at2)) 10 (nI (dp + 1))) 11 (nI sg2)) R Z (updA B 10 f2) J K2 w := hO.to rfl
            obtain ⟨_, qr127, hqr128⟩ := hO.2.1 23 _ (sg_23 G h0 a _ _ _ _ _)
            refine pn_V0 (G := G) (As := []) (rest := []) hx hb hml hown hq hE hX pX0_al hP hD hS hA hl.1 ((ihe (by omega)) h0 a (upd (upd (upd (upd (upd (upd (upd F 2 (nI sz)) 9 (nI at9)) 10 (nI dp)) 11 (nI sg)) 9 (nI at2)) 10 (nI (dp + 1))) 11 (nI sg2)) R Z (updA B 10 f2) J K2 w at2 sz (dp + 1) sg2 (q9 + 1) g2 (by omega) (by omega) (by omega) (by omega) har.1 (fun o9 h9 => by have z : o9 = q9 := (by omega); rw [z]; exact ⟨hq2, har.2.2.2.1.2.1, by rw [har.2.2.2.1.2.2.1 0 (by decide)]; exact hk9⟩) hO hl0) (gV pw_916 pw_917 pw_918 pw_796 pw_942) hV_X8_expression qr127 5 hqr128 rfl rfl rfl (Nat.le_of_ble_eq_true rfl) dX8_arguments_43 ⟨(by show (2 * (at2 - (at9 + 1))) + (2 * (sz - at2) + 20) ≤ (2 * (sz - at9) + 18); omega), (by show (11 * (2 * (at2 - (at9 + 1)))) + (11 * (2 * (sz - at2) + 20)) ≤ (11 * (2 * (sz - at9) + 18)); omega)⟩ ⟨(by show (40 * (n - 1) + 40) + 1 ≤ (40 * n + 12); omega), (by show 8 + (3 + 11) + (1300 * (n - 1) + 1300) ≤ (1300 * n + 400); omega)⟩ (fun v126 u124 H locs hw125 hP hD hS => ?_) (fun ux ce9 q9 H9 locs9 hux hP9 hD9 hS9 hce hcv hcl => pb_out ux (ThQ.up (Thx.same (Thx.same (Thx.same (Thx.same (Thx.b (Thx.f (Thx.f (Thx.f Thx.rfl (by omega)) (by omega)) (by omega)) (by omega) (by decide)) rfl) rfl) rfl) rfl) RhX.rfl hux) hnt hlocks hce hcv hcl hP9 hD9 hS9 (by show (2 * (at2 - (at9 + 1))) + (2 * (sz - at2) + 20) ≤ (2 * (sz - at9) + 18); omega) (by show (11 * (2 * (at2 - (at9 + 1)))) + (11 * (2 * (sz - at2) + 20)) ≤ (11 * (2 * (sz - at9) + 18)); omega))
            obtain ⟨w, r129, K130, g131, at132, sg133, f134⟩ := u124
            obtain ⟨hw125, h135, h136, h137, hO⟩ := hw125
            have h135 : NwR K2 K130 g2 g131 r129 (q9 + 1) at2 (5 * (20 - (dp + 1)) + 6 + (sg133 - sg2)) := h135
            have h136 : at2 + 1 ≤ at132 ∧ at132 ≤ sz := h136
            have h137 : sg2 ≤ sg133 ∧ sg133 ≤ 60 := h137
            obtain rfl : v126 = some (.ref r129) := hw125
            have hf138 : K130.1 q9 = 1 := (((h135).2.1.1 q9 (by rw [hq2]; decide)).1).trans hq2
            have hO : OKP G h0 a (upd (upd (upd (upd F 2 (nI sz)) 9 (nI at132)) 10 (nI (dp + 1))) 11 (nI sg133)) R Z (updA B 10 f134) J K130 w := hO.to rfl
            refine W.widen (k := ((2 * (at2 - (at9 + 1))) + (2 * (at132 - at2) - 1))) (n := ((11 * (2 * (at2 - (at9 + 1)))) + (11 * (2 * (at132 - at2) - 1)))) (by show (2 * (at2 - (at9 + 1))) + (2 * (at132 - at2) - 1) ≤ ((2 * (at2 - (at9 + 1))) + (2 * (at132 - at2) - 1)); omega) (by show (11 * (2 * (at2 - (at9 + 1)))) + (11 * (2 * (at132 - at2) - 1)) ≤ ((11 * (2 * (at2 - (at9 + 1)))) + (11 * (2 * (at132 - at2) - 1))); omega) ?_
            refine W.eq (g2 := F0 m 46 ls [.ref r129]) rfl ?_
            have har3 := ArS.call (B2 := (5 * (20 - (dp + 1)) + 6 + (sg133 - sg))) har hq9 h135 (by omega)
            have hr3 := h135.2.2.1
            have hr4 : K130.1 r129 = 1 ∧ 1 ≤ g131 0 r129 ∧ g131 1 r129 = q9 + 1 := ⟨hr3.2.1, hr3.2.2.1, hr3.2.2.2.2.1⟩
            have hr5 : K.1 r129 = 0 := har.T hq9 hr3.1
            have hr6 := hr3.2.2.2.2.2.1
            have hf139 : K130.1 r129 = 1 := hr3.2.1
            refine lv_astore (lv' := [(5, .ref r129), (4, .int (nI i2)), (3, .int mo2), (2, va_rf la2), (1, .ref q9), (0, .ref (a 3))]) hx hb dX8_arguments_46 hl (by decide) rfl (fun ls hl => ?_)
            rcases la2 with _ | y9
            · have hl : lv_has ls 6 [(5, .ref r129), (4, .int (nI i2)), (3, .int mo2), (2, .null), (1, .ref q9), (0, .ref (a 3))] := hl
              refine lv_aload_nN hx hb dX8_arguments_48 rfl (lv_at hl 3 rfl) ?_
              refine lv_ifnonnullN hx hb dX8_arguments_49 ?_
              refine lv_aload_n hx hb dX8_arguments_52 rfl (lv_at hl 4 rfl) ?_
              refine lv_aload hx hb dX8_arguments_53 (lv_at hl 0 rfl) ?_
              refine p_put (v := .ref r129) (ty := (.object "JinjaTongue$Node")) (C := RX7) (Tc := TX7) (N := 11) (ci := 13) (K' := (kC K130 1 q9 (some r129))) hx hb hq pin_wsX70 tyX7 tyX7_ok nmX7 hown hE hP hD hS hO (by rw [hf138]; decide) (rep_1 hf138) rfl 7 (by decide) (hq _ pw_910) (fun _ h9 => h9) rfl (by decide +kernel) rfl rfl (Nat.le_of_ble_eq_true rfl) rfl (by rw [rep_1 (show (kC K130 1 q9 (some r129)).1 q9 = 1 from hf138), pc_1] <;> rfl) (fun p9 hp9 => rep_kC hp9) dX8_arguments_55 (fun H locs w hP hD hS hO => ?_)
              obtain ⟨K140, hK141⟩ : ∃ z : PK, z = (kC K130 1 q9 (some r129)) := ⟨_, rfl⟩
              rw [← hK141] at hO
              have hf142 : K140.1 q9 = 1 := (by rw [hK141]; exact hf138)
              have hf143 : K140.1 r129 = 1 := (by rw [hK141]; exact hf139)
              have hf144 : K140.2.2.1 1 q9 = some r129 := by rw [hK141]; exact kC_eq
              refine lv_goto (tgt := 67) hx hb dX8_arguments_58 (by decide) ?_
              have har4 : ArS K K140 g g131 q9 (5 * (20 - (dp + 1)) + 6 + (sg133 - sg)) := by rw [hK141]; exact ArS.first har3 hr4
              have hr7 : (K.1 r129 = 0 ∧ K140.1 r129 = 1 ∧ 1 ≤ g131 0 r129 ∧ g131 1 r129 = q9 + 1) := ⟨hr5, by rw [hK141]; exact hr4.1, hr4.2.1, hr4.2.2⟩
              refine lv_aload hx hb dX8_arguments_67 (lv_at hl 0 rfl) ?_
              refine lv_astore_n (lv' := [(2, .ref r129), (5, .ref r129), (4, .int (nI i2)), (3, .int mo2), (1, .ref q9), (0, .ref (a 3))]) hx hb dX8_arguments_69 rfl hl (by decide) rfl (fun ls hl => ?_)
              refine lv_aload_n hx hb dX8_arguments_70 rfl (lv_at hl 5 rfl) ?_
              refine lv_bipush (v := 39) hx hb dX8_arguments_71 (by decide) ?_
              have hO : OKW G h0 a (upd (upd (upd (upd (upd (upd F 2 (nI sz)) 9 (nI at132)) 10 (nI (dp + 1))) 11 (nI sg133)) 2 (nI sz)) 9 (nI at132)) R Z (updA B 10 f134) J K140.1 (fun q99 x99 => x99 = rep G a K140 q99) w := hO.to rfl
              obtain ⟨_, qr148, hqr149⟩ := hO.2.1 23 _ (sg_23 G h0 a _ _ _ _ _)
              refine pc_V0 (G := G) (As := [.int 39]) (rest := []) hx hb hml hown hq hE hX pX0_al hP hD hS hA hl.1 (P_takeIf l G h0 a (upd (upd (upd (upd F 2 (nI sz)) 9 (nI at132)) 10 (nI (dp + 1))) 11 (nI sg133)) R Z (updA B 10 f134) J K140.1 (fun q99 x99 => x99 = rep G a K140 q99) w 39 at132 sz (by omega) (by omega) (by decide) hO) (gV pw_797 pw_798 pw_799 pw_796 pw_789) hV_X8_takeIf qr148 5 hqr149 rfl rfl rfl (Nat.le_of_ble_eq_true rfl) dX8_arguments_73 ⟨(by show ((2 * (at2 - (at9 + 1))) + (2 * (at132 - at2) - 1)) + 0 ≤ (2 * (sz - at9) + 18); omega), (by show ((11 * (2 * (at2 - (at9 + 1)))) + (11 * (2 * (at132 - at2) - 1))) + 0 ≤ (11 * (2 * (sz - at9) + 18)); omega)⟩ ⟨(by show 3 + 1 ≤ (40 * n + 12); omega), (by show 8 + (2 + 11) + 81 ≤ (1300 * n + 400); omega)⟩ (fun v147 u145 H locs hw146 hP hD hS => ?_)
              obtain ⟨w, r150⟩ := u145
              obtain ⟨hw146, h151, h152, hO⟩ := hw146
              have h151 : r150 ≤ 1 := h151
              have h152 : at132 + r150 ≤ sz := h152
              obtain rfl : v147 = some (.int (nI r150)) := hw146
              have hO : OKP G h0 a (upd (upd (upd (upd F 2 (nI sz)) 9 (nI (at132 + r150))) 10 (nI (dp + 1))) 11 (nI sg133)) R Z (updA B 10 f134) J K140 w := hO.to rfl
              refine W.widen (k := ((2 * (at2 - (at9 + 1))) + (2 * (at132 - at2) - 1))) (n := ((11 * (2 * (at2 - (at9 + 1)))) + (11 * (2 * (at132 - at2) - 1)))) (by show ((2 * (at2 - (at9 + 1))) + (2 * (at132 - at2) - 1)) + 0 ≤ ((2 * (at2 - (at9 + 1))) + (2 * (at132 - at2) - 1)); omega) (by show ((11 * (2 * (at2 - (at9 + 1)))) + (11 * (2 * (at132 - at2) - 1))) + 0 ≤ ((11 * (2 * (at2 - (at9 + 1)))) + (11 * (2 * (at132 - at2) - 1))); omega) ?_
              refine W.eq (g2 := F0 m 76 ls [.int (nI r150)]) rfl ?_
              refine lv_istore_n (lv' := [(3, .int (nI r150)), (2, .ref r129), (5, .ref r129), (4, .int (nI i2)), (1, .ref q9), (0, .ref (a 3))]) hx hb dX8_arguments_76 rfl hl (by decide) rfl (fun ls hl => ?_)
              refine lv_iinc (v := (nI (i2 + 1))) (lv' := [(4, .int (nI (i2 + 1))), (3, .int (nI r150)), (2, .ref r129), (5, .ref r129), (1, .ref q9), (0, .ref (a 3))]) hx hb dX8_arguments_77 hl (k := 3) rfl (nI_1 i2) (by decide) rfl (fun ls hl => ?_)
              refine lv_goto (tgt := 26) hx hb dX8_arguments_80 (by decide) ?_
              refine W.widen (k := (2 * ((at132 + r150) - (at9 + 1)))) (n := (11 * (2 * ((at132 + r150) - (at9 + 1))))) (by show ((2 * (at2 - (at9 + 1))) + (2 * (at132 - at2) - 1)) ≤ _; omega) (by show ((11 * (2 * (at2 - (at9 + 1)))) + (11 * (2 * (at132 - at2) - 1))) ≤ _; omega) ?_
              have hO : OKP G h0 a (upd (upd (upd (upd F 2 (nI sz)) 9 (nI (at132 + r150))) 10 (nI (dp + 1))) 11 (nI sg133)) R Z (updA B 10 f134) J K140 w := hO.to rfl
              exact ih_i (i2 + 1) (at132 + r150) sg133 f134 (some r129) K140 g131 (nI r150) _ _ _ _ (by omega) (by omega) (by omega) (by omega) (by omega) har4 (fun y h => by cases h; exact ⟨hr7, by omega⟩) hP hD hS hO (lv_sub hl [0, 1, 2, 4, 5] rfl)
            · have hl : lv_has ls 6 [(5, .ref r129), (4, .int (nI i2)), (3, .int mo2), (2, .ref y9), (1, .ref q9), (0, .ref (a 3))] := hl
              obtain ⟨hy1, hy2⟩ := hla y9 rfl
              have hy0 : ¬ K2.1 y9 = 0 := by rw [hy1.2.1]; decide
              have hy3 : K130.1 y9 = 1 := ((h135.2.1.1 y9 hy0).1).trans hy1.2.1
              have hy4 := fun i => h135.2.1.2 y9 hy0 i
              refine lv_aload_n hx hb dX8_arguments_48 rfl (lv_at hl 3 rfl) ?_
              refine lv_ifnonnull (tgt := 61) hx hb dX8_arguments_49 (by decide) ?_
              refine lv_aload_n hx hb dX8_arguments_61 rfl (lv_at hl 3 rfl) ?_
              refine lv_aload hx hb dX8_arguments_62 (lv_at hl 0 rfl) ?_
              refine p_put (v := .ref r129) (ty := (.object "JinjaTongue$Node")) (C := RX7) (Tc := TX7) (N := 11) (ci := 13) (K' := (kC K130 4 y9 (some r129))) hx hb hq pin_wsX70 tyX7 tyX7_ok nmX7 hown hE hP hD hS hO (by rw [hy3]; decide) (rep_1 hy3) rfl 10 (by decide) (hq _ pw_911) (fun _ h9 => h9) rfl (by decide +kernel) rfl rfl (Nat.le_of_ble_eq_true rfl) rfl (by rw [rep_1 (show (kC K130 4 y9 (some r129)).1 y9 = 1 from hy3), pc_4] <;> rfl) (fun p9 hp9 => rep_kC hp9) dX8_arguments_64 (fun H locs w hP hD hS hO => ?_)
              obtain ⟨K153, hK154⟩ : ∃ z : PK, z = (kC K130 4 y9 (some r129)) := ⟨_, rfl⟩
              rw [← hK154] at hO
              have hf155 : K153.1 q9 = 1 := (by rw [hK154]; exact hf138)
              have hf156 : K153.1 r129 = 1 := (by rw [hK154]; exact hf139)
              have hf157 : K153.1 y9 = 1 := (by rw [hK154]; exact hy3)
              have hf158 : K153.2.2.1 4 y9 = some r129 := by rw [hK154]; exact kC_eq
              have hy5 := hy4 2
              have har4 : ArS K K153 g g131 q9 (5 * (20 - (dp + 1)) + 6 + (sg133 - sg)) := by rw [hK154]; exact ArS.next har3 hq9 ⟨hy1.1, hy3, by rw [hy4 0]; exact hy1.2.2.1, by rw [hy4 1]; exact hy1.2.2.2⟩ hr4 (by omega) (by omega)
              have hr7 : (K.1 r129 = 0 ∧ K153.1 r129 = 1 ∧ 1 ≤ g131 0 r129 ∧ g131 1 r129 = q9 + 1) := ⟨hr5, by rw [hK154]; exact hr4.1, hr4.2.1, hr4.2.2⟩
              refine lv_aload hx hb dX8_arguments_67 (lv_at hl 0 rfl) ?_
              refine lv_astore_n (lv' := [(2, .ref r129), (5, .ref r129), (4, .int (nI i2)), (3, .int mo2), (1, .ref q9), (0, .ref (a 3))]) hx hb dX8_arguments_69 rfl hl (by decide) rfl (fun ls hl => ?_)
              refine lv_aload_n hx hb dX8_arguments_70 rfl (lv_at hl 5 rfl) ?_
              refine lv_bipush (v := 39) hx hb dX8_arguments_71 (by decide) ?_
              have hO : OKW G h0 a (upd (upd (upd (upd (upd (upd F 2 (nI sz)) 9 (nI at132)) 10 (nI (dp + 1))) 11 (nI sg133)) 2 (nI sz)) 9 (nI at132)) R Z (updA B 10 f134) J K153.1 (fun q99 x99 => x99 = rep G a K153 q99) w := hO.to rfl
              obtain ⟨_, qr162, hqr163⟩ := hO.2.1 23 _ (sg_23 G h0 a _ _ _ _ _)
              refine pc_V0 (G := G) (As := [.int 39]) (rest := []) hx hb hml hown hq hE hX pX0_al hP hD hS hA hl.1 (P_takeIf l G h0 a (upd (upd (upd (upd F 2 (nI sz)) 9 (nI at132)) 10 (nI (dp + 1))) 11 (nI sg133)) R Z (updA B 10 f134) J K153.1 (fun q99 x99 => x99 = rep G a K153 q99) w 39 at132 sz (by omega) (by omega) (by decide) hO) (gV pw_797 pw_798 pw_799 pw_796 pw_789) hV_X8_takeIf qr162 5 hqr163 rfl rfl rfl (Nat.le_of_ble_eq_true rfl) dX8_arguments_73 ⟨(by show ((2 * (at2 - (at9 + 1))) + (2 * (at132 - at2) - 1)) + 0 ≤ (2 * (sz - at9) + 18); omega), (by show ((11 * (2 * (at2 - (at9 + 1)))) + (11 * (2 * (at132 - at2) - 1))) + 0 ≤ (11 * (2 * (sz - at9) + 18)); omega)⟩ ⟨(by show 3 + 1 ≤ (40 * n + 12); omega), (by show 8 + (2 + 11) + 81 ≤ (1300 * n + 400); omega)⟩ (fun v161 u159 H locs hw160 hP hD hS => ?_)
              obtain ⟨w, r164⟩ := u159
              obtain ⟨hw160, h165, h166, hO⟩ := hw160
              have h165 : r164 ≤ 1 := h165
              have h166 : at132 + r164 ≤ sz := h166
              obtain rfl : v161 = some (.int (nI r164)) := hw160
              have hO : OKP G h0 a (upd (upd (upd (upd F 2 (nI sz)) 9 (nI (at132 + r164))) 10 (nI (dp + 1))) 11 (nI sg133)) R Z (updA B 10 f134) J K153 w := hO.to rfl
              refine W.widen (k := ((2 * (at2 - (at9 + 1))) + (2 * (at132 - at2) - 1))) (n := ((11 * (2 * (at2 - (at9 + 1)))) + (11 * (2 * (at132 - at2) - 1)))) (by show ((2 * (at2 - (at9 + 1))) + (2 * (at132 - at2) - 1)) + 0 ≤ ((2 * (at2 - (at9 + 1))) + (2 * (at132 - at2) - 1)); omega) (by show ((11 * (2 * (at2 - (at9 + 1)))) + (11 * (2 * (at132 - at2) - 1))) + 0 ≤ ((11 * (2 * (at2 - (at9 + 1)))) + (11 * (2 * (at132 - at2) - 1))); omega) ?_
              refine W.eq (g2 := F0 m 76 ls [.int (nI r164)]) rfl ?_
              refine lv_istore_n (lv' := [(3, .int (nI r164)), (2, .ref r129), (5, .ref r129), (4, .int (nI i2)), (1, .ref q9), (0, .ref (a 3))]) hx hb dX8_arguments_76 rfl hl (by decide) rfl (fun ls hl => ?_)
              refine lv_iinc (v := (nI (i2 + 1))) (lv' := [(4, .int (nI (i2 + 1))), (3, .int (nI r164)), (2, .ref r129), (5, .ref r129), (1, .ref q9), (0, .ref (a 3))]) hx hb dX8_arguments_77 hl (k := 3) rfl (nI_1 i2) (by decide) rfl (fun ls hl => ?_)
              refine lv_goto (tgt := 26) hx hb dX8_arguments_80 (by decide) ?_
              refine W.widen (k := (2 * ((at132 + r164) - (at9 + 1)))) (n := (11 * (2 * ((at132 + r164) - (at9 + 1))))) (by show ((2 * (at2 - (at9 + 1))) + (2 * (at132 - at2) - 1)) ≤ _; omega) (by show ((11 * (2 * (at2 - (at9 + 1)))) + (11 * (2 * (at132 - at2) - 1))) ≤ _; omega) ?_
              have hO : OKP G h0 a (upd (upd (upd (upd F 2 (nI sz)) 9 (nI (at132 + r164))) 10 (nI (dp + 1))) 11 (nI sg133)) R Z (updA B 10 f134) J K153 w := hO.to rfl
              exact ih_i (i2 + 1) (at132 + r164) sg133 f134 (some r129) K153 g131 (nI r164) _ _ _ _ (by omega) (by omega) (by omega) (by omega) (by omega) har4 (fun y h => by cases h; exact ⟨hr7, by omega⟩) hP hD hS hO (lv_sub hl [0, 1, 2, 4, 5] rfl)
    refine W.widen (k := (2 * ((at9 + 1) - (at9 + 1)))) (n := (11 * (2 * ((at9 + 1) - (at9 + 1))))) (by show 0 ≤ _; omega) (by show 0 ≤ _; omega) ?_
    have hO : OKP G h0 a (upd (upd (upd (upd F 2 (nI sz)) 9 (nI (at9 + 1))) 10 (nI (dp + 1))) 11 (nI sg)) R Z (updA B 10 (B 10)) J K w := hO.to rfl
    exact loop_i (sz + 1) 0 (at9 + 1) sg (B 10) none K g (1 : Int32) _ _ _ _ (by omega) (by omega) (by omega) (by omega) (by omega) (by have z : 0 = 0 := rfl; exact ArS.wk har0 (by omega)) (fun y h => by cases h) hP hD hS hO (lv_sub hl [0, 1, 2, 4, 3] rfl)
