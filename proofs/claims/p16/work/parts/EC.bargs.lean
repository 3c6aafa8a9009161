def LaO (K K2 : PK) (g2 : Nat → Nat → Nat) (q at2 : Nat) (la : Option Nat) : Prop := ∀ y : Nat, la = some y → (K.1 y = 0 ∧ K2.1 y = 1 ∧ 1 ≤ g2 0 y ∧ g2 1 y = q + 1) ∧ rS (g2 2 y) < at2 ∧ rE (g2 2 y) ≤ at2
theorem ArS.wk {K K1 : PK} {g g1 : Nat → Nat → Nat} {q B B2 lo hi hi2 nd nd2 : Nat} (h : ArS K K1 g g1 q B lo hi nd) (hB : B ≤ B2 ∧ hi ≤ hi2 ∧ nd ≤ nd2) : ArS K K1 g g1 q B2 lo hi2 nd2 := ⟨h.1, h.2.1, h.2.2.1, h.2.2.2.1, h.2.2.2.2.1, fun x h1 h2 h3 => by
  obtain ⟨⟨a, b⟩, c⟩ := h.2.2.2.2.2.1 x h1 h2 h3
  exact ⟨⟨by omega, b⟩, by omega⟩, h.2.2.2.2.2.2⟩
theorem dX8_arguments_0 : decode cX8_arguments 0 = .ok (.aload_n 0, 1) := by decide +kernel
theorem dX8_arguments_1 : decode cX8_arguments 1 = .ok (.bipush 34, 2) := by decide +kernel
theorem dX8_arguments_3 : decode cX8_arguments 3 = .ok (.invokevirtual 283, 3) := by decide +kernel
theorem dX8_arguments_6 : decode cX8_arguments 6 = .ok (.aconst_null, 1) := by decide +kernel
theorem dX8_arguments_7 : decode cX8_arguments 7 = .ok (.astore_n 2, 1) := by decide +kernel
theorem dX8_arguments_8 : decode cX8_arguments 8 = .ok (.aload_n 0, 1) := by decide +kernel
theorem dX8_arguments_9 : decode cX8_arguments 9 = .ok (.bipush 35, 2) := by decide +kernel
theorem dX8_arguments_11 : decode cX8_arguments 11 = .ok (.invokevirtual 36, 3) := by decide +kernel
theorem dX8_arguments_14 : decode cX8_arguments 14 = .ok (.ifCond .ne 7, 3) := by decide +kernel
theorem dX8_arguments_21 : decode cX8_arguments 21 = .ok (.iconst 0, 1) := by decide +kernel
theorem dX8_arguments_22 : decode cX8_arguments 22 = .ok (.istore_n 3, 1) := by decide +kernel
theorem dX8_arguments_23 : decode cX8_arguments 23 = .ok (.iconst 0, 1) := by decide +kernel
theorem dX8_arguments_24 : decode cX8_arguments 24 = .ok (.istore 4, 2) := by decide +kernel
theorem dX8_arguments_26 : decode cX8_arguments 26 = .ok (.iload 4, 2) := by decide +kernel
theorem dX8_arguments_28 : decode cX8_arguments 28 = .ok (.aload_n 0, 1) := by decide +kernel
theorem dX8_arguments_29 : decode cX8_arguments 29 = .ok (.getfield 7, 3) := by decide +kernel
theorem dX8_arguments_32 : decode cX8_arguments 32 = .ok (.getfield 27, 3) := by decide +kernel
theorem dX8_arguments_35 : decode cX8_arguments 35 = .ok (.if_icmp .ge 48, 3) := by decide +kernel
theorem dX8_arguments_83 : decode cX8_arguments 83 = .ok (.aload_n 1, 1) := by decide +kernel
theorem dX8_arguments_84 : decode cX8_arguments 84 = .ok (.aload_n 0, 1) := by decide +kernel
theorem dX8_arguments_85 : decode cX8_arguments 85 = .ok (.bipush 35, 2) := by decide +kernel
theorem dX8_arguments_87 : decode cX8_arguments 87 = .ok (.invokevirtual 287, 3) := by decide +kernel
theorem dX8_arguments_90 : decode cX8_arguments 90 = .ok (.putfield 171, 3) := by decide +kernel
theorem dX8_arguments_93 : decode cX8_arguments 93 = .ok (.return_, 1) := by decide +kernel
theorem dX8_arguments_38 : decode cX8_arguments 38 = .ok (.iload_n 3, 1) := by decide +kernel
theorem dX8_arguments_39 : decode cX8_arguments 39 = .ok (.ifCond .eq 44, 3) := by decide +kernel
theorem dX8_arguments_42 : decode cX8_arguments 42 = .ok (.aload_n 0, 1) := by decide +kernel
theorem dX8_arguments_43 : decode cX8_arguments 43 = .ok (.invokevirtual 196, 3) := by decide +kernel
theorem dX8_arguments_46 : decode cX8_arguments 46 = .ok (.astore 5, 2) := by decide +kernel
theorem dX8_arguments_48 : decode cX8_arguments 48 = .ok (.aload_n 2, 1) := by decide +kernel
theorem dX8_arguments_49 : decode cX8_arguments 49 = .ok (.ifnonnull 12, 3) := by decide +kernel
theorem dX8_arguments_52 : decode cX8_arguments 52 = .ok (.aload_n 1, 1) := by decide +kernel
theorem dX8_arguments_53 : decode cX8_arguments 53 = .ok (.aload 5, 2) := by decide +kernel
theorem dX8_arguments_55 : decode cX8_arguments 55 = .ok (.putfield 230, 3) := by decide +kernel
theorem dX8_arguments_58 : decode cX8_arguments 58 = .ok (.goto 9, 3) := by decide +kernel
theorem dX8_arguments_67 : decode cX8_arguments 67 = .ok (.aload 5, 2) := by decide +kernel
theorem dX8_arguments_69 : decode cX8_arguments 69 = .ok (.astore_n 2, 1) := by decide +kernel
theorem dX8_arguments_70 : decode cX8_arguments 70 = .ok (.aload_n 0, 1) := by decide +kernel
theorem dX8_arguments_71 : decode cX8_arguments 71 = .ok (.bipush 39, 2) := by decide +kernel
theorem dX8_arguments_73 : decode cX8_arguments 73 = .ok (.invokevirtual 80, 3) := by decide +kernel
theorem dX8_arguments_76 : decode cX8_arguments 76 = .ok (.istore_n 3, 1) := by decide +kernel
theorem dX8_arguments_77 : decode cX8_arguments 77 = .ok (.iinc 4 1, 3) := by decide +kernel
theorem dX8_arguments_80 : decode cX8_arguments 80 = .ok (.goto (-54), 3) := by decide +kernel
theorem dX8_arguments_61 : decode cX8_arguments 61 = .ok (.aload_n 2, 1) := by decide +kernel
theorem dX8_arguments_62 : decode cX8_arguments 62 = .ok (.aload 5, 2) := by decide +kernel
theorem dX8_arguments_64 : decode cX8_arguments 64 = .ok (.putfield 168, 3) := by decide +kernel
theorem dX8_arguments_17 : decode cX8_arguments 17 = .ok (.iconst 1, 1) := by decide +kernel
theorem dX8_arguments_18 : decode cX8_arguments 18 = .ok (.goto 4, 3) := by decide +kernel
theorem hV_X8_takeIf : yX8_takeIf.cls = RX8 ∧ yX8_takeIf.cls ≠ "java/lang/invoke/MethodHandle" ∧ yX8_takeIf.cls ≠ "java/lang/invoke/VarHandle" ∧ (parseMethodDescriptor yX8_takeIf.desc).map (fun d => d.parameters.length) = some 1 := by decide +kernel
set_option maxHeartbeats 40000000 in
set_option maxRecDepth 100000 in
theorem P_arguments (l : Launch) (G : pT) (h0 : Nat) (a : Nat → Nat) (F : Nat → Int32) (R : Nat → Value) (Z : Int64) (B : Nat → Nat → Int32) (J : Nat → Nat → Int64) (K : PK) (w : va_W) (q9 : Nat) (n : Nat) (at9 : Nat) (sz : Nat) (dp : Nat) (sg : Nat) (g : Nat → Nat → Nat) (hsz : sz ≤ 5000) (hat : at9 ≤ sz) (hdp : dp + n = 20) (hsg : sg ≤ 60) (hwn : WN K g) (hq9 : K.1 q9 = 1) (hg9 : g 0 q9 = 0) (hb9 : K.2.2.1 1 q9 = none) (hno : NoO K g q9) (hk9 : ¬ K.2.1 0 q9 = 32) (ihe : IhE l G n) (hO : OKP G h0 a (upd (upd (upd (upd F 2 (nI sz)) 9 (nI at9)) 10 (nI dp)) 11 (nI sg)) R Z B J K w) (hl0 : l.stackTraces = false) : PBn l G pX0 yX8_arguments cX8_arguments 6 none ({ frames := (40 * n + 12), cells := (2 * (sz - at9) + 18), slots := (11 * (2 * (sz - at9) + 18)), locals := (1300 * n + 400) }) [.ref (a 3), .ref q9] w (fun (v : Option Value) (u : va_W × (PK × (Nat → Nat → Nat) × Nat × Nat × (Nat → Int32))) => v = none ∧ (at9 + 2 ≤ u.2.2.2.1 ∧ u.2.2.2.1 ≤ sz) ∧ (sg ≤ u.2.2.2.2.1 ∧ u.2.2.2.2.1 ≤ 60) ∧ (ArS K u.2.1 g u.2.2.1 q9 (5 * (20 - (dp + 1)) + 6 + (u.2.2.2.2.1 - sg)) (at9 + 1) (u.2.2.2.1 - 1) (9 * (20 - (dp + 1)) + (u.2.2.2.2.1 - sg) + 1)) ∧ (dp + 1 ≤ 20) ∧ (NwT (B 7) sz (B 10) u.2.2.2.2.2 K u.2.1 at9 u.2.2.2.1) ∧ (OKP G h0 a (upd (upd (upd (upd F 2 (nI sz)) 9 (nI u.2.2.2.1)) 10 (nI dp)) 11 (nI u.2.2.2.2.1)) R Z (updA B 10 u.2.2.2.2.2) J u.2.1 u.1)) (fun u => u.1) (fun (u : va_W × (PK × (Nat → Nat → Nat) × Nat × Nat × (Nat → Int32))) => (2 * (u.2.2.2.1 - at9) - 4)) (fun (u : va_W × (PK × (Nat → Nat → Nat) × Nat × Nat × (Nat → Int32))) => (11 * (2 * (u.2.2.2.1 - at9) - 4))) (fun (u : va_W × (Nat → Int32) × (Nat → Value) × (Nat → Nat → Int32)) => ThQ G h0 a (upd (upd (upd (upd F 2 (nI sz)) 9 (nI at9)) 10 (nI dp)) 11 (nI sg)) R Z B J u) (fun u => u.1) := by
  intro sz
  refine vx_ofW (cc := cX8_arguments) (maxL := 6) (ret := none) (by decide) rfl ?_
  intro p e s m args below meth c s₁ B9 hml hnt hv
  obtain ⟨rfl, hsz, hP, hD0, hE, hX⟩ := hv
  have hx := B9.exec
  have hb := B9.bytes
  have hr := B9.returns
  have hts := atoms_spec (ws := Cond.code yX8_arguments cX8_arguments 6 none :: pw) B9.pre
  have hq : ∀ w ∈ pw, w.before _ s = true := fun w h => hts w (List.mem_cons_of_mem _ h)
  have hown : s.vm.findClass RX8 = some m.cls := findClass_of_methodNamed B9.named
  have hlocks := B9.notSynchronized
  subst hsz
  have hD := hD0.self (sz := s.heap.size)
  have hA : ∀ q : Nat, s.heap.size ≤ q → va_A w s.heap.size q := fun q h => Or.inr h
  generalize va_A w s.heap.size = A at hD hE hA ⊢
  have hS : va_S A s.heap s.heap [] := va_S.rf
  have hl := lv_entry ([.ref (a 3), .ref q9]) (n := 6) (Nat.le_of_ble_eq_true rfl)
  rw [lg_entry_eq]
  generalize (lg_sl ([.ref (a 3), .ref q9]) ++ List.replicate (6 - (lg_sl ([.ref (a 3), .ref q9])).length) Slot.unset).toArray = ls at hl ⊢
  have hl : lv_has ls 6 [(0, .ref (a 3)), (1, .ref q9)] := hl
  have htk0 : NwT (B 7) sz (B 10) (B 10) K K at9 at9 := NwT.nil
  refine lv_aload_n hx hb dX8_arguments_0 rfl (lv_at hl 0 rfl) ?_
  refine lv_bipush (v := 34) hx hb dX8_arguments_1 (by decide) ?_
  have hO : OKW G h0 a (upd (upd (upd (upd (upd (upd (upd F 2 (nI sz)) 9 (nI at9)) 10 (nI dp)) 11 (nI sg)) 2 (nI sz)) 9 (nI at9)) 10 (nI dp)) R Z B J K.1 (fun q99 x99 => x99 = rep G a K q99) w := hO.to rfl
  obtain ⟨_, qr4, hqr5⟩ := hO.2.1 23 _ (sg_23 G h0 a _ _ _ _ _)
  refine pn_V0 (G := G) (As := [.int 34]) (rest := []) hx hb hml hown hq hE hX pX0_al hP hD hS hA hl.1 (P_openBracket l G h0 a (upd (upd (upd (upd F 2 (nI sz)) 9 (nI at9)) 10 (nI dp)) 11 (nI sg)) R Z B J K.1 (fun q99 x99 => x99 = rep G a K q99) w 34 dp at9 sz (by omega) (by omega) (by decide) (by omega) hO hl0) (gV pw_913 pw_914 pw_915 pw_796 pw_900) hV_X8_openBracket qr4 5 hqr5 rfl rfl rfl (Nat.le_of_ble_eq_true rfl) dX8_arguments_3 ⟨(by show 0 + 1 ≤ (2 * (sz - at9) + 18); omega), (by show 0 + 6 ≤ (11 * (2 * (sz - at9) + 18)); omega)⟩ ⟨(by show 7 + 1 ≤ (40 * n + 12); omega), (by show 8 + (2 + 11) + 122 ≤ (1300 * n + 400); omega)⟩ (fun v3 u1 H locs hw2 hP hD hS => ?_) (fun ux ce9 q9 H9 locs9 hux hP9 hD9 hS9 hce hcv hcl => pb_out ux (ThQ.up (Thx.same (Thx.same (Thx.same Thx.rfl rfl) rfl) rfl) RhX.rfl hux) hnt hlocks hce hcv hcl hP9 hD9 hS9 (by show 0 + 1 ≤ (2 * (sz - at9) + 18); omega) (by show 0 + 6 ≤ (11 * (2 * (sz - at9) + 18)); omega))
  obtain ⟨w, _⟩ := u1
  obtain ⟨hw2, h6, h7, hO⟩ := hw2
  have h6 : at9 + 1 ≤ sz ∧ dp + 1 ≤ 20 := h6
  have h7 : tkN ((B 7)) sz 67 (nI at9) = 34 := h7
  obtain rfl : v3 = none := hw2
  have hO : OKP G h0 a (upd (upd (upd (upd F 2 (nI sz)) 9 (nI (at9 + 1))) 10 (nI (dp + 1))) 11 (nI sg)) R Z B J K w := hO.to rfl
  refine W.widen (k := 0) (n := 0) (by show 0 + 0 ≤ 0; omega) (by show 0 + 0 ≤ 0; omega) ?_
  refine W.eq (g2 := F0 m 6 ls []) rfl ?_
  refine lv_null hx hb dX8_arguments_6 ?_
  refine lv_astore_nN (lv' := [(2, .null), (0, .ref (a 3)), (1, .ref q9)]) hx hb dX8_arguments_7 rfl hl (by decide) rfl (fun ls hl => ?_)
  refine lv_aload_n hx hb dX8_arguments_8 rfl (lv_at hl 1 rfl) ?_
  refine lv_bipush (v := 35) hx hb dX8_arguments_9 (by decide) ?_
  have hO : OKW G h0 a (upd (upd (upd (upd (upd (upd F 2 (nI sz)) 9 (nI (at9 + 1))) 10 (nI (dp + 1))) 11 (nI sg)) 2 (nI sz)) 9 (nI (at9 + 1))) R Z B J K.1 (fun q99 x99 => x99 = rep G a K q99) w := hO.to rfl
  obtain ⟨_, qr11, hqr12⟩ := hO.2.1 23 _ (sg_23 G h0 a _ _ _ _ _)
  refine pc_V0 (G := G) (As := [.int 35]) (rest := []) hx hb hml hown hq hE hX pX0_al hP hD hS hA hl.1 (P_sees l G h0 a (upd (upd (upd (upd F 2 (nI sz)) 9 (nI (at9 + 1))) 10 (nI (dp + 1))) 11 (nI sg)) R Z B J K.1 (fun q99 x99 => x99 = rep G a K q99) w 35 (at9 + 1) sz (by omega) (by omega) hO) (gV pw_803 pw_804 pw_805 pw_796 pw_775) hV_X8_sees qr11 5 hqr12 rfl rfl rfl (Nat.le_of_ble_eq_true rfl) dX8_arguments_11 ⟨(by show 0 + 0 ≤ (2 * (sz - at9) + 18); omega), (by show 0 + 0 ≤ (11 * (2 * (sz - at9) + 18)); omega)⟩ ⟨(by show 3 + 1 ≤ (40 * n + 12); omega), (by show 8 + (2 + 11) + 81 ≤ (1300 * n + 400); omega)⟩ (fun v10 u8 H locs hw9 hP hD hS => ?_)
  obtain ⟨w, r13⟩ := u8
  obtain ⟨hw9, h14, h15, hO⟩ := hw9
  have h14 : r13 ≤ 1 := h14
  have h15 : SeQ ((B 7)) sz (at9 + 1) 35 r13 := h15
  obtain rfl : v10 = some (.int (nI r13)) := hw9
  have hO : OKP G h0 a (upd (upd (upd (upd F 2 (nI sz)) 9 (nI (at9 + 1))) 10 (nI (dp + 1))) 11 (nI sg)) R Z B J K w := hO.to rfl
  refine W.widen (k := 0) (n := 0) (Nat.le_of_ble_eq_true rfl) (Nat.le_of_ble_eq_true rfl) ?_
  refine W.eq (g2 := F0 m 14 ls [.int (nI r13)]) rfl ?_
  refine lv_if_ne (tgt := 21) hx hb dX8_arguments_14 (by decide) (fun c16 => ?_) (fun c16 => ?_)
  · have n17 : ¬ (r13 = 0) := fun h9 => c16 ((nI_eq (a := r13) (b := 0) (by omega) (by omega)).mpr h9)
    refine lv_iconst (v := 0) hx hb dX8_arguments_21 (by decide) ?_
    refine lv_istore_n (lv' := [(3, .int 0), (2, .null), (0, .ref (a 3)), (1, .ref q9)]) hx hb dX8_arguments_22 rfl hl (by decide) rfl (fun ls hl => ?_)
    refine lv_iconst (v := 0) hx hb dX8_arguments_23 (by decide) ?_
    refine lv_istore (lv' := [(4, .int 0), (3, .int 0), (2, .null), (0, .ref (a 3)), (1, .ref q9)]) hx hb dX8_arguments_24 hl (by decide) rfl (fun ls hl => ?_)
    have loop_i : ∀ (n_i : Nat) (i2 : Nat) (at2 : Nat) (sg2 : Nat) (f2 : Nat → Int32) (la2 : Option Nat) (K2 : PK) (g2 : Nat → Nat → Nat) (mo2 : Int32) (H : Heap) (locs : List Loc) (ls : Array Slot) (w : va_W), i2 ≤ sz → sz + 1 ≤ i2 + n_i → (at9 + 1 ≤ at2 ∧ at2 ≤ sz) → (sg ≤ sg2 ∧ sg2 ≤ 60) → (dp + 1 ≤ 20) → (ArS K K2 g g2 q9 (5 * (20 - (dp + 1)) + 6 + (sg2 - sg)) (at9 + 1) at2 (9 * (20 - (dp + 1)) + (sg2 - sg) + 1)) → (LaO K K2 g2 q9 at2 la2) → (NwT (B 7) sz (B 10) f2 K K2 at9 at2) → va_P G.1 pCl w H → va_D A w → va_S A s.heap H locs → OKP G h0 a (upd (upd (upd (upd F 2 (nI sz)) 9 (nI at2)) 10 (nI (dp + 1))) 11 (nI sg2)) R Z (updA B 10 f2) J K2 w → lv_has ls 6 [(4, .int (nI i2)), (3, .int mo2), (2, va_rf la2), (1, .ref q9), (0, .ref (a 3))] → W p l e (headSpec (Cond.code yX8_arguments cX8_arguments 6 none :: pw) ({ frames := (40 * n + 12), cells := (2 * (sz - at9) + 18), slots := (11 * (2 * (sz - at9) + 18)), locals := (1300 * n + 400) } : Room)).room s m ([.ref (a 3), .ref q9] : List Value).toArray below meth c H locs (2 * (at2 - (at9 + 1))) (11 * (2 * (at2 - (at9 + 1)))) (vx_MQ below (pQn G A (fun (v : Option Value) (u : va_W × (PK × (Nat → Nat → Nat) × Nat × Nat × (Nat → Int32))) => v = none ∧ (at9 + 2 ≤ u.2.2.2.1 ∧ u.2.2.2.1 ≤ sz) ∧ (sg ≤ u.2.2.2.2.1 ∧ u.2.2.2.2.1 ≤ 60) ∧ (ArS K u.2.1 g u.2.2.1 q9 (5 * (20 - (dp + 1)) + 6 + (u.2.2.2.2.1 - sg)) (at9 + 1) (u.2.2.2.1 - 1) (9 * (20 - (dp + 1)) + (u.2.2.2.2.1 - sg) + 1)) ∧ (dp + 1 ≤ 20) ∧ (NwT (B 7) sz (B 10) u.2.2.2.2.2 K u.2.1 at9 u.2.2.2.1) ∧ (OKP G h0 a (upd (upd (upd (upd F 2 (nI sz)) 9 (nI u.2.2.2.1)) 10 (nI dp)) 11 (nI u.2.2.2.2.1)) R Z (updA B 10 u.2.2.2.2.2) J u.2.1 u.1)) (fun u => u.1) (fun (u : va_W × (PK × (Nat → Nat → Nat) × Nat × Nat × (Nat → Int32))) => (2 * (u.2.2.2.1 - at9) - 4)) (fun (u : va_W × (PK × (Nat → Nat → Nat) × Nat × Nat × (Nat → Int32))) => (11 * (2 * (u.2.2.2.1 - at9) - 4)))) (pXX G A (fun (u : va_W × (Nat → Int32) × (Nat → Value) × (Nat → Nat → Int32)) => ThQ G h0 a (upd (upd (upd (upd F 2 (nI sz)) 9 (nI at9)) 10 (nI dp)) 11 (nI sg)) R Z B J u) (fun u => u.1)) ([.ref (a 3), .ref q9] : List Value).toArray s ({ frames := (40 * n + 12), cells := (2 * (sz - at9) + 18), slots := (11 * (2 * (sz - at9) + 18)), locals := (1300 * n + 400) } : Room).cells ({ frames := (40 * n + 12), cells := (2 * (sz - at9) + 18), slots := (11 * (2 * (sz - at9) + 18)), locals := (1300 * n + 400) } : Room).slots A) (F0 m 26 ls []) := by
      intro n_i
      induction n_i with
      | zero => intro i2 at2 sg2 f2 la2 K2 g2 mo2 H locs ls w hk_i hn_i; omega
      | succ n_i ih_i =>
        intro i2 at2 sg2 f2 la2 K2 g2 mo2 H locs ls w hk_i hn_i hat2 hsg2 hdp2 har hla htki hP hD hS hO hl
        have hq2 := har.2.2.2.1.1
        refine lv_iload hx hb dX8_arguments_26 (lv_at hl 0 rfl) ?_
        refine lv_aload_n hx hb dX8_arguments_28 rfl (lv_at hl 4 rfl) ?_
        refine c_get (v := .ref (a 1)) (C := RX8) (Tc := TX8) (N := 5) (ci := 5) hx hb hq pin_wsX80 hown hE hP hO 23 (sg_23 G h0 a _ _ _ _ _) rfl 0 (by decide) (hq _ pw_774) (fun _ h9 => h9) rfl dX8_arguments_29 ?_
        refine c_get (v := .int (nI sz)) (C := RX10) (Tc := TX10) (N := 15) (ci := 7) hx hb hq pin_wsX100 hown hE hP hO 2 (sg_2 G h0 a _ _ _ _ _) rfl 8 (by decide) (hq _ pw_792) (fun _ h9 => h9) rfl dX8_arguments_32 ?_
        refine lv_icmp_ge (tgt := 83) hx hb dX8_arguments_35 (by decide) (fun c18 => ?_) (fun c18 => ?_)
        · have n19 : sz ≤ i2 := (nI_leI (a := sz) (b := i2) (by omega) (by omega)).mp c18
          refine lv_aload_n hx hb dX8_arguments_83 rfl (lv_at hl 3 rfl) ?_
          refine lv_aload_n hx hb dX8_arguments_84 rfl (lv_at hl 4 rfl) ?_
          refine lv_bipush (v := 35) hx hb dX8_arguments_85 (by decide) ?_
          have hO : OKW G h0 a (upd (upd (upd (upd (upd (upd (upd (upd (upd (upd F 2 (nI sz)) 9 (nI at9)) 10 (nI dp)) 11 (nI sg)) 9 (nI at2)) 10 (nI (dp + 1))) 11 (nI sg2)) 2 (nI sz)) 9 (nI at2)) 10 (nI (dp + 1))) R Z (updA B 10 f2) J K2.1 (fun q99 x99 => x99 = rep G a K2 q99) w := hO.to rfl
          obtain ⟨_, qr23, hqr24⟩ := hO.2.1 23 _ (sg_23 G h0 a _ _ _ _ _)
          refine pn_V0 (G := G) (As := [.int 35]) (rest := [.ref q9]) hx hb hml hown hq hE hX pX0_al hP hD hS hA hl.1 (P_closeBracket l G h0 a (upd (upd (upd (upd (upd (upd (upd F 2 (nI sz)) 9 (nI at9)) 10 (nI dp)) 11 (nI sg)) 9 (nI at2)) 10 (nI (dp + 1))) 11 (nI sg2)) R Z (updA B 10 f2) J K2.1 (fun q99 x99 => x99 = rep G a K2 q99) w 35 (dp + 1) at2 sz (by omega) (by omega) (by decide) (by omega) hO hl0) (gV pw_919 pw_920 pw_921 pw_796 pw_902) hV_X8_closeBracket qr23 5 hqr24 rfl rfl rfl (Nat.le_of_ble_eq_true rfl) dX8_arguments_87 ⟨(by show (2 * (at2 - (at9 + 1))) + 1 ≤ (2 * (sz - at9) + 18); omega), (by show (11 * (2 * (at2 - (at9 + 1)))) + 6 ≤ (11 * (2 * (sz - at9) + 18)); omega)⟩ ⟨(by show 7 + 1 ≤ (40 * n + 12); omega), (by show 8 + (2 + 11) + 122 ≤ (1300 * n + 400); omega)⟩ (fun v22 u20 H locs hw21 hP hD hS => ?_) (fun ux ce9 q9 H9 locs9 hux hP9 hD9 hS9 hce hcv hcl => pb_out ux (ThQ.up (Thx.same (Thx.same (Thx.same (Thx.b (Thx.f (Thx.f (Thx.f Thx.rfl (by omega)) (by omega)) (by omega)) (by omega) (by decide)) rfl) rfl) rfl) RhX.rfl hux) hnt hlocks hce hcv hcl hP9 hD9 hS9 (by show (2 * (at2 - (at9 + 1))) + 1 ≤ (2 * (sz - at9) + 18); omega) (by show (11 * (2 * (at2 - (at9 + 1)))) + 6 ≤ (11 * (2 * (sz - at9) + 18)); omega))
          obtain ⟨w, _⟩ := u20
          obtain ⟨hw21, h25, hO⟩ := hw21
          have h25 : at2 + 1 ≤ sz := h25
          obtain rfl : v22 = some (.int (nI at2)) := hw21
          have hO : OKP G h0 a (upd (upd (upd (upd F 2 (nI sz)) 9 (nI (at2 + 1))) 10 (nI ((dp + 1) - 1))) 11 (nI sg2)) R Z (updA B 10 f2) J K2 w := hO.to rfl
          refine W.widen (k := (2 * (at2 - (at9 + 1)))) (n := (11 * (2 * (at2 - (at9 + 1))))) (by show (2 * (at2 - (at9 + 1))) + 0 ≤ (2 * (at2 - (at9 + 1))); omega) (by show (11 * (2 * (at2 - (at9 + 1)))) + 0 ≤ (11 * (2 * (at2 - (at9 + 1)))); omega) ?_
          refine W.eq (g2 := F0 m 90 ls [.int (nI at2), .ref q9]) rfl ?_
          refine p_put (v := .int (nI at2)) (ty := .int) (C := RX7) (Tc := TX7) (N := 11) (ci := 13) (K' := (kI K2 4 q9 (nI at2))) hx hb hq pin_wsX70 tyX7 tyX7_ok nmX7 hown hE hP hD hS hO (by rw [hq2]; decide) (rep_1 hq2) rfl 4 (by decide) (hq _ pw_912) (fun _ h9 => h9) rfl (by decide +kernel) rfl rfl (Nat.le_of_ble_eq_true rfl) rfl (by rw [rep_1 (show (kI K2 4 q9 (nI at2)).1 q9 = 1 from hq2), pi_4] <;> rfl) (fun p9 hp9 => rep_kI hp9) dX8_arguments_90 (fun H locs w hP hD hS hO => ?_)
          obtain ⟨K26, hK27⟩ : ∃ z : PK, z = (kI K2 4 q9 (nI at2)) := ⟨_, rfl⟩
          rw [← hK27] at hO
          have hf28 : K26.1 q9 = 1 := (by rw [hK27]; exact hq2)
          have hf29 : K26.2.1 4 q9 = (nI at2) := by rw [hK27]; exact kI_eq
          have htk30 : NwT (B 7) sz (B 10) f2 K K26 at9 at2 := by rw [hK27]; exact NwT.puti htki (by decide)
          refine W_size (fun hz1 hz2 => ?_)
          refine vx_ret ?_
          have har9 : ArS K K26 g g2 q9 (5 * (20 - (dp + 1)) + 6 + (sg2 - sg)) (at9 + 1) ((at2 + 1) - 1) (9 * (20 - (dp + 1)) + (sg2 - sg) + 1) := by rw [hK27]; exact ArS.wk (ArS.fin har) (by omega)
          have hz31 : at9 + 2 ≤ (at2 + 1) ∧ (at2 + 1) ≤ sz := (by omega)
          have hz32 : sg ≤ sg2 ∧ sg2 ≤ 60 := (by omega)
          have hz33 : ArS K K26 g g2 q9 (5 * (20 - (dp + 1)) + 6 + (sg2 - sg)) (at9 + 1) ((at2 + 1) - 1) (9 * (20 - (dp + 1)) + (sg2 - sg) + 1) := har9
          have hz34 : dp + 1 ≤ 20 := (by omega)
          have hz35 : NwT (B 7) sz (B 10) f2 K K26 at9 (at2 + 1) := (NwT.le htk30 (by omega))
          have hO : OKP G h0 a (upd (upd (upd (upd F 2 (nI sz)) 9 (nI (at2 + 1))) 10 (nI dp)) 11 (nI sg2)) R Z (updA B 10 f2) J K26 w := hO.to rfl
          refine W.widen (k := (2 * (sz - at9) + 18)) (n := (11 * (2 * (sz - at9) + 18))) (by omega) (by omega) ?_
          have hzz1 : H.size ≤ s.heap.size + ((2 * ((at2 + 1) - at9) - 4)) := (by have z : (2 * (at2 - (at9 + 1))) ≤ (2 * ((at2 + 1) - at9) - 4) := (by omega); omega)
          have hzz2 : hSl H ≤ hSl s.heap + ((11 * (2 * ((at2 + 1) - at9) - 4))) := (by have z : (11 * (2 * (at2 - (at9 + 1)))) ≤ (11 * (2 * ((at2 + 1) - at9) - 4)) := (by omega); omega)
          exact W.vret hx hb hr (fun t99 ht99 hW99 => ⟨⟨_, (w, (K26, g2, (at2 + 1), sg2, f2)), rfl, ⟨rfl, hz31, hz32, hz33, hz34, hz35, hO⟩, by rw [ht99]; exact hP, hD, by rw [ht99]; exact hzz1, by rw [ht99]; exact hzz2⟩, hS.F ht99⟩) hS.2.2 dX8_arguments_93
        · have n36 : ¬ (sz ≤ i2) := fun h9 => c18 ((nI_leI (a := sz) (b := i2) (by omega) (by omega)).mpr h9)
          refine lv_iload_n hx hb dX8_arguments_38 rfl (lv_at hl 1 rfl) ?_
          refine lv_if_eq (tgt := 83) hx hb dX8_arguments_39 (by decide) (fun c37 => ?_) (fun c37 => ?_)
          · refine lv_aload_n hx hb dX8_arguments_83 rfl (lv_at hl 3 rfl) ?_
            refine lv_aload_n hx hb dX8_arguments_84 rfl (lv_at hl 4 rfl) ?_
            refine lv_bipush (v := 35) hx hb dX8_arguments_85 (by decide) ?_
            have hO : OKW G h0 a (upd (upd (upd (upd (upd (upd (upd (upd (upd (upd F 2 (nI sz)) 9 (nI at9)) 10 (nI dp)) 11 (nI sg)) 9 (nI at2)) 10 (nI (dp + 1))) 11 (nI sg2)) 2 (nI sz)) 9 (nI at2)) 10 (nI (dp + 1))) R Z (updA B 10 f2) J K2.1 (fun q99 x99 => x99 = rep G a K2 q99) w := hO.to rfl
            obtain ⟨_, qr41, hqr42⟩ := hO.2.1 23 _ (sg_23 G h0 a _ _ _ _ _)
            refine pn_V0 (G := G) (As := [.int 35]) (rest := [.ref q9]) hx hb hml hown hq hE hX pX0_al hP hD hS hA hl.1 (P_closeBracket l G h0 a (upd (upd (upd (upd (upd (upd (upd F 2 (nI sz)) 9 (nI at9)) 10 (nI dp)) 11 (nI sg)) 9 (nI at2)) 10 (nI (dp + 1))) 11 (nI sg2)) R Z (updA B 10 f2) J K2.1 (fun q99 x99 => x99 = rep G a K2 q99) w 35 (dp + 1) at2 sz (by omega) (by omega) (by decide) (by omega) hO hl0) (gV pw_919 pw_920 pw_921 pw_796 pw_902) hV_X8_closeBracket qr41 5 hqr42 rfl rfl rfl (Nat.le_of_ble_eq_true rfl) dX8_arguments_87 ⟨(by show (2 * (at2 - (at9 + 1))) + 1 ≤ (2 * (sz - at9) + 18); omega), (by show (11 * (2 * (at2 - (at9 + 1)))) + 6 ≤ (11 * (2 * (sz - at9) + 18)); omega)⟩ ⟨(by show 7 + 1 ≤ (40 * n + 12); omega), (by show 8 + (2 + 11) + 122 ≤ (1300 * n + 400); omega)⟩ (fun v40 u38 H locs hw39 hP hD hS => ?_) (fun ux ce9 q9 H9 locs9 hux hP9 hD9 hS9 hce hcv hcl => pb_out ux (ThQ.up (Thx.same (Thx.same (Thx.same (Thx.b (Thx.f (Thx.f (Thx.f Thx.rfl (by omega)) (by omega)) (by omega)) (by omega) (by decide)) rfl) rfl) rfl) RhX.rfl hux) hnt hlocks hce hcv hcl hP9 hD9 hS9 (by show (2 * (at2 - (at9 + 1))) + 1 ≤ (2 * (sz - at9) + 18); omega) (by show (11 * (2 * (at2 - (at9 + 1)))) + 6 ≤ (11 * (2 * (sz - at9) + 18)); omega))
            obtain ⟨w, _⟩ := u38
            obtain ⟨hw39, h43, hO⟩ := hw39
            have h43 : at2 + 1 ≤ sz := h43
            obtain rfl : v40 = some (.int (nI at2)) := hw39
            have hO : OKP G h0 a (upd (upd (upd (upd F 2 (nI sz)) 9 (nI (at2 + 1))) 10 (nI ((dp + 1) - 1))) 11 (nI sg2)) R Z (updA B 10 f2) J K2 w := hO.to rfl
            refine W.widen (k := (2 * (at2 - (at9 + 1)))) (n := (11 * (2 * (at2 - (at9 + 1))))) (by show (2 * (at2 - (at9 + 1))) + 0 ≤ (2 * (at2 - (at9 + 1))); omega) (by show (11 * (2 * (at2 - (at9 + 1)))) + 0 ≤ (11 * (2 * (at2 - (at9 + 1)))); omega) ?_
            refine W.eq (g2 := F0 m 90 ls [.int (nI at2), .ref q9]) rfl ?_
            refine p_put (v := .int (nI at2)) (ty := .int) (C := RX7) (Tc := TX7) (N := 11) (ci := 13) (K' := (kI K2 4 q9 (nI at2))) hx hb hq pin_wsX70 tyX7 tyX7_ok nmX7 hown hE hP hD hS hO (by rw [hq2]; decide) (rep_1 hq2) rfl 4 (by decide) (hq _ pw_912) (fun _ h9 => h9) rfl (by decide +kernel) rfl rfl (Nat.le_of_ble_eq_true rfl) rfl (by rw [rep_1 (show (kI K2 4 q9 (nI at2)).1 q9 = 1 from hq2), pi_4] <;> rfl) (fun p9 hp9 => rep_kI hp9) dX8_arguments_90 (fun H locs w hP hD hS hO => ?_)
            obtain ⟨K44, hK45⟩ : ∃ z : PK, z = (kI K2 4 q9 (nI at2)) := ⟨_, rfl⟩
            rw [← hK45] at hO
            have hf46 : K44.1 q9 = 1 := (by rw [hK45]; exact hq2)
            have hf47 : K44.2.1 4 q9 = (nI at2) := by rw [hK45]; exact kI_eq
            have htk48 : NwT (B 7) sz (B 10) f2 K K44 at9 at2 := by rw [hK45]; exact NwT.puti htki (by decide)
            refine W_size (fun hz1 hz2 => ?_)
            refine vx_ret ?_
            have har9 : ArS K K44 g g2 q9 (5 * (20 - (dp + 1)) + 6 + (sg2 - sg)) (at9 + 1) ((at2 + 1) - 1) (9 * (20 - (dp + 1)) + (sg2 - sg) + 1) := by rw [hK45]; exact ArS.wk (ArS.fin har) (by omega)
            have hz49 : at9 + 2 ≤ (at2 + 1) ∧ (at2 + 1) ≤ sz := (by omega)
            have hz50 : sg ≤ sg2 ∧ sg2 ≤ 60 := (by omega)
            have hz51 : ArS K K44 g g2 q9 (5 * (20 - (dp + 1)) + 6 + (sg2 - sg)) (at9 + 1) ((at2 + 1) - 1) (9 * (20 - (dp + 1)) + (sg2 - sg) + 1) := har9
            have hz52 : dp + 1 ≤ 20 := (by omega)
            have hz53 : NwT (B 7) sz (B 10) f2 K K44 at9 (at2 + 1) := (NwT.le htk48 (by omega))
            have hO : OKP G h0 a (upd (upd (upd (upd F 2 (nI sz)) 9 (nI (at2 + 1))) 10 (nI dp)) 11 (nI sg2)) R Z (updA B 10 f2) J K44 w := hO.to rfl
            refine W.widen (k := (2 * (sz - at9) + 18)) (n := (11 * (2 * (sz - at9) + 18))) (by omega) (by omega) ?_
            have hzz1 : H.size ≤ s.heap.size + ((2 * ((at2 + 1) - at9) - 4)) := (by have z : (2 * (at2 - (at9 + 1))) ≤ (2 * ((at2 + 1) - at9) - 4) := (by omega); omega)
            have hzz2 : hSl H ≤ hSl s.heap + ((11 * (2 * ((at2 + 1) - at9) - 4))) := (by have z : (11 * (2 * (at2 - (at9 + 1)))) ≤ (11 * (2 * ((at2 + 1) - at9) - 4)) := (by omega); omega)
            exact W.vret hx hb hr (fun t99 ht99 hW99 => ⟨⟨_, (w, (K44, g2, (at2 + 1), sg2, f2)), rfl, ⟨rfl, hz49, hz50, hz51, hz52, hz53, hO⟩, by rw [ht99]; exact hP, hD, by rw [ht99]; exact hzz1, by rw [ht99]; exact hzz2⟩, hS.F ht99⟩) hS.2.2 dX8_arguments_93
          · refine lv_aload_n hx hb dX8_arguments_42 rfl (lv_at hl 4 rfl) ?_
            have hO : OKP G h0 a (upd (upd (upd (upd (upd (upd (upd (upd (upd (upd (upd F 2 (nI sz)) 9 (nI at9)) 10 (nI dp)) 11 (nI sg)) 9 (nI at2)) 10 (nI (dp + 1))) 11 (nI sg2)) 2 (nI sz)) 9 (nI at2)) 10 (nI (dp + 1))) 11 (nI sg2)) R Z (updA B 10 f2) J K2 w := hO.to rfl
            obtain ⟨_, qr57, hqr58⟩ := hO.2.1 23 _ (sg_23 G h0 a _ _ _ _ _)
            refine pn_V0 (G := G) (As := []) (rest := []) hx hb hml hown hq hE hX pX0_al hP hD hS hA hl.1 ((ihe (by omega)) h0 a (upd (upd (upd (upd (upd (upd (upd F 2 (nI sz)) 9 (nI at9)) 10 (nI dp)) 11 (nI sg)) 9 (nI at2)) 10 (nI (dp + 1))) 11 (nI sg2)) R Z (updA B 10 f2) J K2 w at2 sz (dp + 1) sg2 (q9 + 1) g2 (by omega) (by omega) (by omega) (by omega) har.1 (fun o9 h9 => by have z : o9 = q9 := (by omega); rw [z]; exact ⟨hq2, har.2.2.2.1.2.1, by rw [har.2.2.2.1.2.2.1 0 (by decide)]; exact hk9⟩) hO hl0) (gV pw_916 pw_917 pw_918 pw_796 pw_942) hV_X8_expression qr57 5 hqr58 rfl rfl rfl (Nat.le_of_ble_eq_true rfl) dX8_arguments_43 ⟨(by show (2 * (at2 - (at9 + 1))) + (2 * (sz - at2) + 20) ≤ (2 * (sz - at9) + 18); omega), (by show (11 * (2 * (at2 - (at9 + 1)))) + (11 * (2 * (sz - at2) + 20)) ≤ (11 * (2 * (sz - at9) + 18)); omega)⟩ ⟨(by show (40 * (n - 1) + 40) + 1 ≤ (40 * n + 12); omega), (by show 8 + (3 + 11) + (1300 * (n - 1) + 1300) ≤ (1300 * n + 400); omega)⟩ (fun v56 u54 H locs hw55 hP hD hS => ?_) (fun ux ce9 q9 H9 locs9 hux hP9 hD9 hS9 hce hcv hcl => pb_out ux (ThQ.up (Thx.same (Thx.same (Thx.same (Thx.same (Thx.b (Thx.f (Thx.f (Thx.f Thx.rfl (by omega)) (by omega)) (by omega)) (by omega) (by decide)) rfl) rfl) rfl) rfl) RhX.rfl hux) hnt hlocks hce hcv hcl hP9 hD9 hS9 (by show (2 * (at2 - (at9 + 1))) + (2 * (sz - at2) + 20) ≤ (2 * (sz - at9) + 18); omega) (by show (11 * (2 * (at2 - (at9 + 1)))) + (11 * (2 * (sz - at2) + 20)) ≤ (11 * (2 * (sz - at9) + 18)); omega))
            obtain ⟨w, r59, K60, g61, at62, sg63, f64, k65⟩ := u54
            obtain ⟨hw55, h66, h67, h68, h69, h70, h71, hO⟩ := hw55
            have h66 : NwR K2 K60 g2 g61 r59 (q9 + 1) k65 (5 * (20 - (dp + 1)) + 6 + (sg63 - sg2)) := h66
            have h67 : at2 ≤ rS k65 ∧ rS k65 + 1 ≤ rE k65 ∧ rE k65 ≤ at62 ∧ 1 ≤ rD k65 ∧ rD k65 ≤ 9 * (20 - (dp + 1)) + (sg63 - sg2) + 1 := h67
            have h68 : at2 + 1 ≤ at62 ∧ at62 ≤ sz := h68
            have h69 : sg2 ≤ sg63 ∧ sg63 ≤ 60 := h69
            have h70 : ¬ tkN ((B 7)) sz 67 (nI at2) = 37 := h70
            have h71 : NwT ((B 7)) sz (f2) f64 K2 K60 at2 at62 := h71
            obtain rfl : v56 = some (.ref r59) := hw55
            have hf72 : K60.1 q9 = 1 := (((h66).2.1.1 q9 (by rw [hq2]; decide)).1).trans hq2
            have hO : OKP G h0 a (upd (upd (upd (upd F 2 (nI sz)) 9 (nI at62)) 10 (nI (dp + 1))) 11 (nI sg63)) R Z (updA B 10 f64) J K60 w := hO.to rfl
            refine W.widen (k := ((2 * (at2 - (at9 + 1))) + (2 * (at62 - at2) - 1))) (n := ((11 * (2 * (at2 - (at9 + 1)))) + (11 * (2 * (at62 - at2) - 1)))) (by show (2 * (at2 - (at9 + 1))) + (2 * (at62 - at2) - 1) ≤ ((2 * (at2 - (at9 + 1))) + (2 * (at62 - at2) - 1)); omega) (by show (11 * (2 * (at2 - (at9 + 1)))) + (11 * (2 * (at62 - at2) - 1)) ≤ ((11 * (2 * (at2 - (at9 + 1)))) + (11 * (2 * (at62 - at2) - 1))); omega) ?_
            refine W.eq (g2 := F0 m 46 ls [.ref r59]) rfl ?_
            have htk73 : NwT (B 7) sz (B 10) f64 K K60 at9 at62 := (NwT.call htki h71 (by omega))
            have har3 := ArS.call (B2 := (5 * (20 - (dp + 1)) + 6 + (sg63 - sg))) (hi2 := at62) (nd2 := (9 * (20 - (dp + 1)) + (sg63 - sg) + 1)) har hq9 h66 (by omega) (by omega)
            have hr3 := h66.2.2.1
            have hr4 : K60.1 r59 = 1 ∧ 1 ≤ g61 0 r59 ∧ g61 1 r59 = q9 + 1 := ⟨hr3.2.1, hr3.2.2.1, hr3.2.2.2.2.1⟩
            have hr5 : K.1 r59 = 0 := har.T hq9 hr3.1
            have hr6 := hr3.2.2.2.2.2.1
            have hf74 : K60.1 r59 = 1 := hr3.2.1
            refine lv_astore (lv' := [(5, .ref r59), (4, .int (nI i2)), (3, .int mo2), (2, va_rf la2), (1, .ref q9), (0, .ref (a 3))]) hx hb dX8_arguments_46 hl (by decide) rfl (fun ls hl => ?_)
            rcases la2 with _ | y9
            · have hl : lv_has ls 6 [(5, .ref r59), (4, .int (nI i2)), (3, .int mo2), (2, .null), (1, .ref q9), (0, .ref (a 3))] := hl
              refine lv_aload_nN hx hb dX8_arguments_48 rfl (lv_at hl 3 rfl) ?_
              refine lv_ifnonnullN hx hb dX8_arguments_49 ?_
              refine lv_aload_n hx hb dX8_arguments_52 rfl (lv_at hl 4 rfl) ?_
              refine lv_aload hx hb dX8_arguments_53 (lv_at hl 0 rfl) ?_
              refine p_put (v := .ref r59) (ty := (.object "JinjaTongue$Node")) (C := RX7) (Tc := TX7) (N := 11) (ci := 13) (K' := (kC K60 1 q9 (some r59))) hx hb hq pin_wsX70 tyX7 tyX7_ok nmX7 hown hE hP hD hS hO (by rw [hf72]; decide) (rep_1 hf72) rfl 7 (by decide) (hq _ pw_910) (fun _ h9 => h9) rfl (by decide +kernel) rfl rfl (Nat.le_of_ble_eq_true rfl) rfl (by rw [rep_1 (show (kC K60 1 q9 (some r59)).1 q9 = 1 from hf72), pc_1] <;> rfl) (fun p9 hp9 => rep_kC hp9) dX8_arguments_55 (fun H locs w hP hD hS hO => ?_)
              obtain ⟨K75, hK76⟩ : ∃ z : PK, z = (kC K60 1 q9 (some r59)) := ⟨_, rfl⟩
              rw [← hK76] at hO
              have hf77 : K75.1 q9 = 1 := (by rw [hK76]; exact hf72)
              have hf78 : K75.1 r59 = 1 := (by rw [hK76]; exact hf74)
              have hf79 : K75.2.2.1 1 q9 = some r59 := by rw [hK76]; exact kC_eq
              have htk80 : NwT (B 7) sz (B 10) f64 K K75 at9 at62 := by rw [hK76]; exact NwT.put htk73
              refine lv_goto (tgt := 67) hx hb dX8_arguments_58 (by decide) ?_
              have har4 : ArS K K75 g g61 q9 (5 * (20 - (dp + 1)) + 6 + (sg63 - sg)) (at9 + 1) at62 (9 * (20 - (dp + 1)) + (sg63 - sg) + 1) := by rw [hK76]; exact ArS.first har3 hr4
              have hr7 : (K.1 r59 = 0 ∧ K75.1 r59 = 1 ∧ 1 ≤ g61 0 r59 ∧ g61 1 r59 = q9 + 1) := ⟨hr5, by rw [hK76]; exact hr4.1, hr4.2.1, hr4.2.2⟩
              refine lv_aload hx hb dX8_arguments_67 (lv_at hl 0 rfl) ?_
              refine lv_astore_n (lv' := [(2, .ref r59), (5, .ref r59), (4, .int (nI i2)), (3, .int mo2), (1, .ref q9), (0, .ref (a 3))]) hx hb dX8_arguments_69 rfl hl (by decide) rfl (fun ls hl => ?_)
              refine lv_aload_n hx hb dX8_arguments_70 rfl (lv_at hl 5 rfl) ?_
              refine lv_bipush (v := 39) hx hb dX8_arguments_71 (by decide) ?_
              have hO : OKW G h0 a (upd (upd (upd (upd (upd (upd F 2 (nI sz)) 9 (nI at62)) 10 (nI (dp + 1))) 11 (nI sg63)) 2 (nI sz)) 9 (nI at62)) R Z (updA B 10 f64) J K75.1 (fun q99 x99 => x99 = rep G a K75 q99) w := hO.to rfl
              obtain ⟨_, qr84, hqr85⟩ := hO.2.1 23 _ (sg_23 G h0 a _ _ _ _ _)
              refine pc_V0 (G := G) (As := [.int 39]) (rest := []) hx hb hml hown hq hE hX pX0_al hP hD hS hA hl.1 (P_takeIf l G h0 a (upd (upd (upd (upd F 2 (nI sz)) 9 (nI at62)) 10 (nI (dp + 1))) 11 (nI sg63)) R Z (updA B 10 f64) J K75.1 (fun q99 x99 => x99 = rep G a K75 q99) w 39 at62 sz (by omega) (by omega) (by decide) hO) (gV pw_797 pw_798 pw_799 pw_796 pw_789) hV_X8_takeIf qr84 5 hqr85 rfl rfl rfl (Nat.le_of_ble_eq_true rfl) dX8_arguments_73 ⟨(by show ((2 * (at2 - (at9 + 1))) + (2 * (at62 - at2) - 1)) + 0 ≤ (2 * (sz - at9) + 18); omega), (by show ((11 * (2 * (at2 - (at9 + 1)))) + (11 * (2 * (at62 - at2) - 1))) + 0 ≤ (11 * (2 * (sz - at9) + 18)); omega)⟩ ⟨(by show 3 + 1 ≤ (40 * n + 12); omega), (by show 8 + (2 + 11) + 81 ≤ (1300 * n + 400); omega)⟩ (fun v83 u81 H locs hw82 hP hD hS => ?_)
              obtain ⟨w, r86⟩ := u81
              obtain ⟨hw82, h87, h88, h89, hO⟩ := hw82
              have h87 : r86 ≤ 1 := h87
              have h88 : at62 + r86 ≤ sz := h88
              have h89 : SeQ ((B 7)) sz at62 39 r86 := h89
              obtain rfl : v83 = some (.int (nI r86)) := hw82
              have hO : OKP G h0 a (upd (upd (upd (upd F 2 (nI sz)) 9 (nI (at62 + r86))) 10 (nI (dp + 1))) 11 (nI sg63)) R Z (updA B 10 f64) J K75 w := hO.to rfl
              refine W.widen (k := ((2 * (at2 - (at9 + 1))) + (2 * (at62 - at2) - 1))) (n := ((11 * (2 * (at2 - (at9 + 1)))) + (11 * (2 * (at62 - at2) - 1)))) (by show ((2 * (at2 - (at9 + 1))) + (2 * (at62 - at2) - 1)) + 0 ≤ ((2 * (at2 - (at9 + 1))) + (2 * (at62 - at2) - 1)); omega) (by show ((11 * (2 * (at2 - (at9 + 1)))) + (11 * (2 * (at62 - at2) - 1))) + 0 ≤ ((11 * (2 * (at2 - (at9 + 1)))) + (11 * (2 * (at62 - at2) - 1))); omega) ?_
              refine W.eq (g2 := F0 m 76 ls [.int (nI r86)]) rfl ?_
              refine lv_istore_n (lv' := [(3, .int (nI r86)), (2, .ref r59), (5, .ref r59), (4, .int (nI i2)), (1, .ref q9), (0, .ref (a 3))]) hx hb dX8_arguments_76 rfl hl (by decide) rfl (fun ls hl => ?_)
              refine lv_iinc (v := (nI (i2 + 1))) (lv' := [(4, .int (nI (i2 + 1))), (3, .int (nI r86)), (2, .ref r59), (5, .ref r59), (1, .ref q9), (0, .ref (a 3))]) hx hb dX8_arguments_77 hl (k := 3) rfl (nI_1 i2) (by decide) rfl (fun ls hl => ?_)
              refine lv_goto (tgt := 26) hx hb dX8_arguments_80 (by decide) ?_
              refine W.widen (k := (2 * ((at62 + r86) - (at9 + 1)))) (n := (11 * (2 * ((at62 + r86) - (at9 + 1))))) (by show ((2 * (at2 - (at9 + 1))) + (2 * (at62 - at2) - 1)) ≤ _; omega) (by show ((11 * (2 * (at2 - (at9 + 1)))) + (11 * (2 * (at62 - at2) - 1))) ≤ _; omega) ?_
              have hO : OKP G h0 a (upd (upd (upd (upd F 2 (nI sz)) 9 (nI (at62 + r86))) 10 (nI (dp + 1))) 11 (nI sg63)) R Z (updA B 10 f64) J K75 w := hO.to rfl
              exact ih_i (i2 + 1) (at62 + r86) sg63 f64 (some r59) K75 g61 (nI r86) _ _ _ _ (by omega) (by omega) (by omega) (by omega) (by omega) (ArS.wk har4 (by omega)) (fun y h => by cases h; exact ⟨hr7, by rw [hr6]; omega⟩) (NwT.le htk80 (by omega)) hP hD hS hO (lv_sub hl [0, 1, 2, 4, 5] rfl)
            · have hl : lv_has ls 6 [(5, .ref r59), (4, .int (nI i2)), (3, .int mo2), (2, .ref y9), (1, .ref q9), (0, .ref (a 3))] := hl
              obtain ⟨hy1, hy2⟩ := hla y9 rfl
              have hy0 : ¬ K2.1 y9 = 0 := by rw [hy1.2.1]; decide
              have hy3 : K60.1 y9 = 1 := ((h66.2.1.1 y9 hy0).1).trans hy1.2.1
              have hy4 := fun i => h66.2.1.2 y9 hy0 i
              refine lv_aload_n hx hb dX8_arguments_48 rfl (lv_at hl 3 rfl) ?_
              refine lv_ifnonnull (tgt := 61) hx hb dX8_arguments_49 (by decide) ?_
              refine lv_aload_n hx hb dX8_arguments_61 rfl (lv_at hl 3 rfl) ?_
              refine lv_aload hx hb dX8_arguments_62 (lv_at hl 0 rfl) ?_
              refine p_put (v := .ref r59) (ty := (.object "JinjaTongue$Node")) (C := RX7) (Tc := TX7) (N := 11) (ci := 13) (K' := (kC K60 4 y9 (some r59))) hx hb hq pin_wsX70 tyX7 tyX7_ok nmX7 hown hE hP hD hS hO (by rw [hy3]; decide) (rep_1 hy3) rfl 10 (by decide) (hq _ pw_911) (fun _ h9 => h9) rfl (by decide +kernel) rfl rfl (Nat.le_of_ble_eq_true rfl) rfl (by rw [rep_1 (show (kC K60 4 y9 (some r59)).1 y9 = 1 from hy3), pc_4] <;> rfl) (fun p9 hp9 => rep_kC hp9) dX8_arguments_64 (fun H locs w hP hD hS hO => ?_)
              obtain ⟨K90, hK91⟩ : ∃ z : PK, z = (kC K60 4 y9 (some r59)) := ⟨_, rfl⟩
              rw [← hK91] at hO
              have hf92 : K90.1 q9 = 1 := (by rw [hK91]; exact hf72)
              have hf93 : K90.1 r59 = 1 := (by rw [hK91]; exact hf74)
              have hf94 : K90.1 y9 = 1 := (by rw [hK91]; exact hy3)
              have hf95 : K90.2.2.1 4 y9 = some r59 := by rw [hK91]; exact kC_eq
              have htk96 : NwT (B 7) sz (B 10) f64 K K90 at9 at62 := by rw [hK91]; exact NwT.put htk73
              have hy5 := hy4 2
              have har4 : ArS K K90 g g61 q9 (5 * (20 - (dp + 1)) + 6 + (sg63 - sg)) (at9 + 1) at62 (9 * (20 - (dp + 1)) + (sg63 - sg) + 1) := by rw [hK91]; exact ArS.next har3 hq9 ⟨hy1.1, hy3, by rw [hy4 0]; exact hy1.2.2.1, by rw [hy4 1]; exact hy1.2.2.2⟩ hr4 (rS_lt (by rw [hy5, hr6]; omega)) (by rw [hy5, hr6]; omega)
              have hr7 : (K.1 r59 = 0 ∧ K90.1 r59 = 1 ∧ 1 ≤ g61 0 r59 ∧ g61 1 r59 = q9 + 1) := ⟨hr5, by rw [hK91]; exact hr4.1, hr4.2.1, hr4.2.2⟩
              refine lv_aload hx hb dX8_arguments_67 (lv_at hl 0 rfl) ?_
              refine lv_astore_n (lv' := [(2, .ref r59), (5, .ref r59), (4, .int (nI i2)), (3, .int mo2), (1, .ref q9), (0, .ref (a 3))]) hx hb dX8_arguments_69 rfl hl (by decide) rfl (fun ls hl => ?_)
              refine lv_aload_n hx hb dX8_arguments_70 rfl (lv_at hl 5 rfl) ?_
              refine lv_bipush (v := 39) hx hb dX8_arguments_71 (by decide) ?_
              have hO : OKW G h0 a (upd (upd (upd (upd (upd (upd F 2 (nI sz)) 9 (nI at62)) 10 (nI (dp + 1))) 11 (nI sg63)) 2 (nI sz)) 9 (nI at62)) R Z (updA B 10 f64) J K90.1 (fun q99 x99 => x99 = rep G a K90 q99) w := hO.to rfl
              obtain ⟨_, qr100, hqr101⟩ := hO.2.1 23 _ (sg_23 G h0 a _ _ _ _ _)
              refine pc_V0 (G := G) (As := [.int 39]) (rest := []) hx hb hml hown hq hE hX pX0_al hP hD hS hA hl.1 (P_takeIf l G h0 a (upd (upd (upd (upd F 2 (nI sz)) 9 (nI at62)) 10 (nI (dp + 1))) 11 (nI sg63)) R Z (updA B 10 f64) J K90.1 (fun q99 x99 => x99 = rep G a K90 q99) w 39 at62 sz (by omega) (by omega) (by decide) hO) (gV pw_797 pw_798 pw_799 pw_796 pw_789) hV_X8_takeIf qr100 5 hqr101 rfl rfl rfl (Nat.le_of_ble_eq_true rfl) dX8_arguments_73 ⟨(by show ((2 * (at2 - (at9 + 1))) + (2 * (at62 - at2) - 1)) + 0 ≤ (2 * (sz - at9) + 18); omega), (by show ((11 * (2 * (at2 - (at9 + 1)))) + (11 * (2 * (at62 - at2) - 1))) + 0 ≤ (11 * (2 * (sz - at9) + 18)); omega)⟩ ⟨(by show 3 + 1 ≤ (40 * n + 12); omega), (by show 8 + (2 + 11) + 81 ≤ (1300 * n + 400); omega)⟩ (fun v99 u97 H locs hw98 hP hD hS => ?_)
              obtain ⟨w, r102⟩ := u97
              obtain ⟨hw98, h103, h104, h105, hO⟩ := hw98
              have h103 : r102 ≤ 1 := h103
              have h104 : at62 + r102 ≤ sz := h104
              have h105 : SeQ ((B 7)) sz at62 39 r102 := h105
              obtain rfl : v99 = some (.int (nI r102)) := hw98
              have hO : OKP G h0 a (upd (upd (upd (upd F 2 (nI sz)) 9 (nI (at62 + r102))) 10 (nI (dp + 1))) 11 (nI sg63)) R Z (updA B 10 f64) J K90 w := hO.to rfl
              refine W.widen (k := ((2 * (at2 - (at9 + 1))) + (2 * (at62 - at2) - 1))) (n := ((11 * (2 * (at2 - (at9 + 1)))) + (11 * (2 * (at62 - at2) - 1)))) (by show ((2 * (at2 - (at9 + 1))) + (2 * (at62 - at2) - 1)) + 0 ≤ ((2 * (at2 - (at9 + 1))) + (2 * (at62 - at2) - 1)); omega) (by show ((11 * (2 * (at2 - (at9 + 1)))) + (11 * (2 * (at62 - at2) - 1))) + 0 ≤ ((11 * (2 * (at2 - (at9 + 1)))) + (11 * (2 * (at62 - at2) - 1))); omega) ?_
              refine W.eq (g2 := F0 m 76 ls [.int (nI r102)]) rfl ?_
              refine lv_istore_n (lv' := [(3, .int (nI r102)), (2, .ref r59), (5, .ref r59), (4, .int (nI i2)), (1, .ref q9), (0, .ref (a 3))]) hx hb dX8_arguments_76 rfl hl (by decide) rfl (fun ls hl => ?_)
              refine lv_iinc (v := (nI (i2 + 1))) (lv' := [(4, .int (nI (i2 + 1))), (3, .int (nI r102)), (2, .ref r59), (5, .ref r59), (1, .ref q9), (0, .ref (a 3))]) hx hb dX8_arguments_77 hl (k := 3) rfl (nI_1 i2) (by decide) rfl (fun ls hl => ?_)
              refine lv_goto (tgt := 26) hx hb dX8_arguments_80 (by decide) ?_
              refine W.widen (k := (2 * ((at62 + r102) - (at9 + 1)))) (n := (11 * (2 * ((at62 + r102) - (at9 + 1))))) (by show ((2 * (at2 - (at9 + 1))) + (2 * (at62 - at2) - 1)) ≤ _; omega) (by show ((11 * (2 * (at2 - (at9 + 1)))) + (11 * (2 * (at62 - at2) - 1))) ≤ _; omega) ?_
              have hO : OKP G h0 a (upd (upd (upd (upd F 2 (nI sz)) 9 (nI (at62 + r102))) 10 (nI (dp + 1))) 11 (nI sg63)) R Z (updA B 10 f64) J K90 w := hO.to rfl
              exact ih_i (i2 + 1) (at62 + r102) sg63 f64 (some r59) K90 g61 (nI r102) _ _ _ _ (by omega) (by omega) (by omega) (by omega) (by omega) (ArS.wk har4 (by omega)) (fun y h => by cases h; exact ⟨hr7, by rw [hr6]; omega⟩) (NwT.le htk96 (by omega)) hP hD hS hO (lv_sub hl [0, 1, 2, 4, 5] rfl)
    refine W.widen (k := (2 * ((at9 + 1) - (at9 + 1)))) (n := (11 * (2 * ((at9 + 1) - (at9 + 1))))) (by show 0 ≤ _; omega) (by show 0 ≤ _; omega) ?_
    have hO : OKP G h0 a (upd (upd (upd (upd F 2 (nI sz)) 9 (nI (at9 + 1))) 10 (nI (dp + 1))) 11 (nI sg)) R Z (updA B 10 (B 10)) J K w := hO.to rfl
    exact loop_i (sz + 1) 0 (at9 + 1) sg (B 10) none K g (0 : Int32) _ _ _ _ (by omega) (by omega) (by omega) (by omega) (by omega) (ArS.wk (ArS.nil (lo := at9 + 1) (hi := at9 + 1) (nd := 0) hwn hq9 hg9 hb9 hno) (by omega)) (fun y h => by cases h) (NwT.le htk0 (by omega)) hP hD hS hO (lv_sub hl [0, 1, 2, 4, 3] rfl)
  · have n106 : r13 = 0 := (nI_eq (a := r13) (b := 0) (by omega) (by omega)).mp c16
    refine lv_iconst (v := 1) hx hb dX8_arguments_17 (by decide) ?_
    refine lv_goto (tgt := 22) hx hb dX8_arguments_18 (by decide) ?_
    refine lv_istore_n (lv' := [(3, .int 1), (2, .null), (0, .ref (a 3)), (1, .ref q9)]) hx hb dX8_arguments_22 rfl hl (by decide) rfl (fun ls hl => ?_)
    refine lv_iconst (v := 0) hx hb dX8_arguments_23 (by decide) ?_
    refine lv_istore (lv' := [(4, .int 0), (3, .int 1), (2, .null), (0, .ref (a 3)), (1, .ref q9)]) hx hb dX8_arguments_24 hl (by decide) rfl (fun ls hl => ?_)
    have loop_i : ∀ (n_i : Nat) (i2 : Nat) (at2 : Nat) (sg2 : Nat) (f2 : Nat → Int32) (la2 : Option Nat) (K2 : PK) (g2 : Nat → Nat → Nat) (mo2 : Int32) (H : Heap) (locs : List Loc) (ls : Array Slot) (w : va_W), i2 ≤ sz → sz + 1 ≤ i2 + n_i → (at9 + 1 ≤ at2 ∧ at2 ≤ sz) → (sg ≤ sg2 ∧ sg2 ≤ 60) → (dp + 1 ≤ 20) → (ArS K K2 g g2 q9 (5 * (20 - (dp + 1)) + 6 + (sg2 - sg)) (at9 + 1) at2 (9 * (20 - (dp + 1)) + (sg2 - sg) + 1)) → (LaO K K2 g2 q9 at2 la2) → (NwT (B 7) sz (B 10) f2 K K2 at9 at2) → va_P G.1 pCl w H → va_D A w → va_S A s.heap H locs → OKP G h0 a (upd (upd (upd (upd F 2 (nI sz)) 9 (nI at2)) 10 (nI (dp + 1))) 11 (nI sg2)) R Z (updA B 10 f2) J K2 w → lv_has ls 6 [(4, .int (nI i2)), (3, .int mo2), (2, va_rf la2), (1, .ref q9), (0, .ref (a 3))] → W p l e (headSpec (Cond.code yX8_arguments cX8_arguments 6 none :: pw) ({ frames := (40 * n + 12), cells := (2 * (sz - at9) + 18), slots := (11 * (2 * (sz - at9) + 18)), locals := (1300 * n + 400) } : Room)).room s m ([.ref (a 3), .ref q9] : List Value).toArray below meth c H locs (2 * (at2 - (at9 + 1))) (11 * (2 * (at2 - (at9 + 1)))) (vx_MQ below (pQn G A (fun (v : Option Value) (u : va_W × (PK × (Nat → Nat → Nat) × Nat × Nat × (Nat → Int32))) => v = none ∧ (at9 + 2 ≤ u.2.2.2.1 ∧ u.2.2.2.1 ≤ sz) ∧ (sg ≤ u.2.2.2.2.1 ∧ u.2.2.2.2.1 ≤ 60) ∧ (ArS K u.2.1 g u.2.2.1 q9 (5 * (20 - (dp + 1)) + 6 + (u.2.2.2.2.1 - sg)) (at9 + 1) (u.2.2.2.1 - 1) (9 * (20 - (dp + 1)) + (u.2.2.2.2.1 - sg) + 1)) ∧ (dp + 1 ≤ 20) ∧ (NwT (B 7) sz (B 10) u.2.2.2.2.2 K u.2.1 at9 u.2.2.2.1) ∧ (OKP G h0 a (upd (upd (upd (upd F 2 (nI sz)) 9 (nI u.2.2.2.1)) 10 (nI dp)) 11 (nI u.2.2.2.2.1)) R Z (updA B 10 u.2.2.2.2.2) J u.2.1 u.1)) (fun u => u.1) (fun (u : va_W × (PK × (Nat → Nat → Nat) × Nat × Nat × (Nat → Int32))) => (2 * (u.2.2.2.1 - at9) - 4)) (fun (u : va_W × (PK × (Nat → Nat → Nat) × Nat × Nat × (Nat → Int32))) => (11 * (2 * (u.2.2.2.1 - at9) - 4)))) (pXX G A (fun (u : va_W × (Nat → Int32) × (Nat → Value) × (Nat → Nat → Int32)) => ThQ G h0 a (upd (upd (upd (upd F 2 (nI sz)) 9 (nI at9)) 10 (nI dp)) 11 (nI sg)) R Z B J u) (fun u => u.1)) ([.ref (a 3), .ref q9] : List Value).toArray s ({ frames := (40 * n + 12), cells := (2 * (sz - at9) + 18), slots := (11 * (2 * (sz - at9) + 18)), locals := (1300 * n + 400) } : Room).cells ({ frames := (40 * n + 12), cells := (2 * (sz - at9) + 18), slots := (11 * (2 * (sz - at9) + 18)), locals := (1300 * n + 400) } : Room).slots A) (F0 m 26 ls []) := by
      intro n_i
      induction n_i with
      | zero => intro i2 at2 sg2 f2 la2 K2 g2 mo2 H locs ls w hk_i hn_i; omega
      | succ n_i ih_i =>
        intro i2 at2 sg2 f2 la2 K2 g2 mo2 H locs ls w hk_i hn_i hat2 hsg2 hdp2 har hla htki hP hD hS hO hl
        have hq2 := har.2.2.2.1.1
        refine lv_iload hx hb dX8_arguments_26 (lv_at hl 0 rfl) ?_
        refine lv_aload_n hx hb dX8_arguments_28 rfl (lv_at hl 4 rfl) ?_
        refine c_get (v := .ref (a 1)) (C := RX8) (Tc := TX8) (N := 5) (ci := 5) hx hb hq pin_wsX80 hown hE hP hO 23 (sg_23 G h0 a _ _ _ _ _) rfl 0 (by decide) (hq _ pw_774) (fun _ h9 => h9) rfl dX8_arguments_29 ?_
        refine c_get (v := .int (nI sz)) (C := RX10) (Tc := TX10) (N := 15) (ci := 7) hx hb hq pin_wsX100 hown hE hP hO 2 (sg_2 G h0 a _ _ _ _ _) rfl 8 (by decide) (hq _ pw_792) (fun _ h9 => h9) rfl dX8_arguments_32 ?_
        refine lv_icmp_ge (tgt := 83) hx hb dX8_arguments_35 (by decide) (fun c107 => ?_) (fun c107 => ?_)
        · have n108 : sz ≤ i2 := (nI_leI (a := sz) (b := i2) (by omega) (by omega)).mp c107
          refine lv_aload_n hx hb dX8_arguments_83 rfl (lv_at hl 3 rfl) ?_
          refine lv_aload_n hx hb dX8_arguments_84 rfl (lv_at hl 4 rfl) ?_
          refine lv_bipush (v := 35) hx hb dX8_arguments_85 (by decide) ?_
          have hO : OKW G h0 a (upd (upd (upd (upd (upd (upd (upd (upd (upd (upd F 2 (nI sz)) 9 (nI at9)) 10 (nI dp)) 11 (nI sg)) 9 (nI at2)) 10 (nI (dp + 1))) 11 (nI sg2)) 2 (nI sz)) 9 (nI at2)) 10 (nI (dp + 1))) R Z (updA B 10 f2) J K2.1 (fun q99 x99 => x99 = rep G a K2 q99) w := hO.to rfl
          obtain ⟨_, qr112, hqr113⟩ := hO.2.1 23 _ (sg_23 G h0 a _ _ _ _ _)
          refine pn_V0 (G := G) (As := [.int 35]) (rest := [.ref q9]) hx hb hml hown hq hE hX pX0_al hP hD hS hA hl.1 (P_closeBracket l G h0 a (upd (upd (upd (upd (upd (upd (upd F 2 (nI sz)) 9 (nI at9)) 10 (nI dp)) 11 (nI sg)) 9 (nI at2)) 10 (nI (dp + 1))) 11 (nI sg2)) R Z (updA B 10 f2) J K2.1 (fun q99 x99 => x99 = rep G a K2 q99) w 35 (dp + 1) at2 sz (by omega) (by omega) (by decide) (by omega) hO hl0) (gV pw_919 pw_920 pw_921 pw_796 pw_902) hV_X8_closeBracket qr112 5 hqr113 rfl rfl rfl (Nat.le_of_ble_eq_true rfl) dX8_arguments_87 ⟨(by show (2 * (at2 - (at9 + 1))) + 1 ≤ (2 * (sz - at9) + 18); omega), (by show (11 * (2 * (at2 - (at9 + 1)))) + 6 ≤ (11 * (2 * (sz - at9) + 18)); omega)⟩ ⟨(by show 7 + 1 ≤ (40 * n + 12); omega), (by show 8 + (2 + 11) + 122 ≤ (1300 * n + 400); omega)⟩ (fun v111 u109 H locs hw110 hP hD hS => ?_) (fun ux ce9 q9 H9 locs9 hux hP9 hD9 hS9 hce hcv hcl => pb_out ux (ThQ.up (Thx.same (Thx.same (Thx.same (Thx.b (Thx.f (Thx.f (Thx.f Thx.rfl (by omega)) (by omega)) (by omega)) (by omega) (by decide)) rfl) rfl) rfl) RhX.rfl hux) hnt hlocks hce hcv hcl hP9 hD9 hS9 (by show (2 * (at2 - (at9 + 1))) + 1 ≤ (2 * (sz - at9) + 18); omega) (by show (11 * (2 * (at2 - (at9 + 1)))) + 6 ≤ (11 * (2 * (sz - at9) + 18)); omega))
          obtain ⟨w, _⟩ := u109
          obtain ⟨hw110, h114, hO⟩ := hw110
          have h114 : at2 + 1 ≤ sz := h114
          obtain rfl : v111 = some (.int (nI at2)) := hw110
          have hO : OKP G h0 a (upd (upd (upd (upd F 2 (nI sz)) 9 (nI (at2 + 1))) 10 (nI ((dp + 1) - 1))) 11 (nI sg2)) R Z (updA B 10 f2) J K2 w := hO.to rfl
          refine W.widen (k := (2 * (at2 - (at9 + 1)))) (n := (11 * (2 * (at2 - (at9 + 1))))) (by show (2 * (at2 - (at9 + 1))) + 0 ≤ (2 * (at2 - (at9 + 1))); omega) (by show (11 * (2 * (at2 - (at9 + 1)))) + 0 ≤ (11 * (2 * (at2 - (at9 + 1)))); omega) ?_
          refine W.eq (g2 := F0 m 90 ls [.int (nI at2), .ref q9]) rfl ?_
          refine p_put (v := .int (nI at2)) (ty := .int) (C := RX7) (Tc := TX7) (N := 11) (ci := 13) (K' := (kI K2 4 q9 (nI at2))) hx hb hq pin_wsX70 tyX7 tyX7_ok nmX7 hown hE hP hD hS hO (by rw [hq2]; decide) (rep_1 hq2) rfl 4 (by decide) (hq _ pw_912) (fun _ h9 => h9) rfl (by decide +kernel) rfl rfl (Nat.le_of_ble_eq_true rfl) rfl (by rw [rep_1 (show (kI K2 4 q9 (nI at2)).1 q9 = 1 from hq2), pi_4] <;> rfl) (fun p9 hp9 => rep_kI hp9) dX8_arguments_90 (fun H locs w hP hD hS hO => ?_)
          obtain ⟨K115, hK116⟩ : ∃ z : PK, z = (kI K2 4 q9 (nI at2)) := ⟨_, rfl⟩
          rw [← hK116] at hO
          have hf117 : K115.1 q9 = 1 := (by rw [hK116]; exact hq2)
          have hf118 : K115.2.1 4 q9 = (nI at2) := by rw [hK116]; exact kI_eq
          have htk119 : NwT (B 7) sz (B 10) f2 K K115 at9 at2 := by rw [hK116]; exact NwT.puti htki (by decide)
          refine W_size (fun hz1 hz2 => ?_)
          refine vx_ret ?_
          have har9 : ArS K K115 g g2 q9 (5 * (20 - (dp + 1)) + 6 + (sg2 - sg)) (at9 + 1) ((at2 + 1) - 1) (9 * (20 - (dp + 1)) + (sg2 - sg) + 1) := by rw [hK116]; exact ArS.wk (ArS.fin har) (by omega)
          have hz120 : at9 + 2 ≤ (at2 + 1) ∧ (at2 + 1) ≤ sz := (by omega)
          have hz121 : sg ≤ sg2 ∧ sg2 ≤ 60 := (by omega)
          have hz122 : ArS K K115 g g2 q9 (5 * (20 - (dp + 1)) + 6 + (sg2 - sg)) (at9 + 1) ((at2 + 1) - 1) (9 * (20 - (dp + 1)) + (sg2 - sg) + 1) := har9
          have hz123 : dp + 1 ≤ 20 := (by omega)
          have hz124 : NwT (B 7) sz (B 10) f2 K K115 at9 (at2 + 1) := (NwT.le htk119 (by omega))
          have hO : OKP G h0 a (upd (upd (upd (upd F 2 (nI sz)) 9 (nI (at2 + 1))) 10 (nI dp)) 11 (nI sg2)) R Z (updA B 10 f2) J K115 w := hO.to rfl
          refine W.widen (k := (2 * (sz - at9) + 18)) (n := (11 * (2 * (sz - at9) + 18))) (by omega) (by omega) ?_
          have hzz1 : H.size ≤ s.heap.size + ((2 * ((at2 + 1) - at9) - 4)) := (by have z : (2 * (at2 - (at9 + 1))) ≤ (2 * ((at2 + 1) - at9) - 4) := (by omega); omega)
          have hzz2 : hSl H ≤ hSl s.heap + ((11 * (2 * ((at2 + 1) - at9) - 4))) := (by have z : (11 * (2 * (at2 - (at9 + 1)))) ≤ (11 * (2 * ((at2 + 1) - at9) - 4)) := (by omega); omega)
          exact W.vret hx hb hr (fun t99 ht99 hW99 => ⟨⟨_, (w, (K115, g2, (at2 + 1), sg2, f2)), rfl, ⟨rfl, hz120, hz121, hz122, hz123, hz124, hO⟩, by rw [ht99]; exact hP, hD, by rw [ht99]; exact hzz1, by rw [ht99]; exact hzz2⟩, hS.F ht99⟩) hS.2.2 dX8_arguments_93
        · have n125 : ¬ (sz ≤ i2) := fun h9 => c107 ((nI_leI (a := sz) (b := i2) (by omega) (by omega)).mpr h9)
          refine lv_iload_n hx hb dX8_arguments_38 rfl (lv_at hl 1 rfl) ?_
          refine lv_if_eq (tgt := 83) hx hb dX8_arguments_39 (by decide) (fun c126 => ?_) (fun c126 => ?_)
          · refine lv_aload_n hx hb dX8_arguments_83 rfl (lv_at hl 3 rfl) ?_
            refine lv_aload_n hx hb dX8_arguments_84 rfl (lv_at hl 4 rfl) ?_
            refine lv_bipush (v := 35) hx hb dX8_arguments_85 (by decide) ?_
            have hO : OKW G h0 a (upd (upd (upd (upd (upd (upd (upd (upd (upd (upd F 2 (nI sz)) 9 (nI at9)) 10 (nI dp)) 11 (nI sg)) 9 (nI at2)) 10 (nI (dp + 1))) 11 (nI sg2)) 2 (nI sz)) 9 (nI at2)) 10 (nI (dp + 1))) R Z (updA B 10 f2) J K2.1 (fun q99 x99 => x99 = rep G a K2 q99) w := hO.to rfl
            obtain ⟨_, qr130, hqr131⟩ := hO.2.1 23 _ (sg_23 G h0 a _ _ _ _ _)
            refine pn_V0 (G := G) (As := [.int 35]) (rest := [.ref q9]) hx hb hml hown hq hE hX pX0_al hP hD hS hA hl.1 (P_closeBracket l G h0 a (upd (upd (upd (upd (upd (upd (upd F 2 (nI sz)) 9 (nI at9)) 10 (nI dp)) 11 (nI sg)) 9 (nI at2)) 10 (nI (dp + 1))) 11 (nI sg2)) R Z (updA B 10 f2) J K2.1 (fun q99 x99 => x99 = rep G a K2 q99) w 35 (dp + 1) at2 sz (by omega) (by omega) (by decide) (by omega) hO hl0) (gV pw_919 pw_920 pw_921 pw_796 pw_902) hV_X8_closeBracket qr130 5 hqr131 rfl rfl rfl (Nat.le_of_ble_eq_true rfl) dX8_arguments_87 ⟨(by show (2 * (at2 - (at9 + 1))) + 1 ≤ (2 * (sz - at9) + 18); omega), (by show (11 * (2 * (at2 - (at9 + 1)))) + 6 ≤ (11 * (2 * (sz - at9) + 18)); omega)⟩ ⟨(by show 7 + 1 ≤ (40 * n + 12); omega), (by show 8 + (2 + 11) + 122 ≤ (1300 * n + 400); omega)⟩ (fun v129 u127 H locs hw128 hP hD hS => ?_) (fun ux ce9 q9 H9 locs9 hux hP9 hD9 hS9 hce hcv hcl => pb_out ux (ThQ.up (Thx.same (Thx.same (Thx.same (Thx.b (Thx.f (Thx.f (Thx.f Thx.rfl (by omega)) (by omega)) (by omega)) (by omega) (by decide)) rfl) rfl) rfl) RhX.rfl hux) hnt hlocks hce hcv hcl hP9 hD9 hS9 (by show (2 * (at2 - (at9 + 1))) + 1 ≤ (2 * (sz - at9) + 18); omega) (by show (11 * (2 * (at2 - (at9 + 1)))) + 6 ≤ (11 * (2 * (sz - at9) + 18)); omega))
            obtain ⟨w, _⟩ := u127
            obtain ⟨hw128, h132, hO⟩ := hw128
            have h132 : at2 + 1 ≤ sz := h132
            obtain rfl : v129 = some (.int (nI at2)) := hw128
            have hO : OKP G h0 a (upd (upd (upd (upd F 2 (nI sz)) 9 (nI (at2 + 1))) 10 (nI ((dp + 1) - 1))) 11 (nI sg2)) R Z (updA B 10 f2) J K2 w := hO.to rfl
            refine W.widen (k := (2 * (at2 - (at9 + 1)))) (n := (11 * (2 * (at2 - (at9 + 1))))) (by show (2 * (at2 - (at9 + 1))) + 0 ≤ (2 * (at2 - (at9 + 1))); omega) (by show (11 * (2 * (at2 - (at9 + 1)))) + 0 ≤ (11 * (2 * (at2 - (at9 + 1)))); omega) ?_
            refine W.eq (g2 := F0 m 90 ls [.int (nI at2), .ref q9]) rfl ?_
            refine p_put (v := .int (nI at2)) (ty := .int) (C := RX7) (Tc := TX7) (N := 11) (ci := 13) (K' := (kI K2 4 q9 (nI at2))) hx hb hq pin_wsX70 tyX7 tyX7_ok nmX7 hown hE hP hD hS hO (by rw [hq2]; decide) (rep_1 hq2) rfl 4 (by decide) (hq _ pw_912) (fun _ h9 => h9) rfl (by decide +kernel) rfl rfl (Nat.le_of_ble_eq_true rfl) rfl (by rw [rep_1 (show (kI K2 4 q9 (nI at2)).1 q9 = 1 from hq2), pi_4] <;> rfl) (fun p9 hp9 => rep_kI hp9) dX8_arguments_90 (fun H locs w hP hD hS hO => ?_)
            obtain ⟨K133, hK134⟩ : ∃ z : PK, z = (kI K2 4 q9 (nI at2)) := ⟨_, rfl⟩
            rw [← hK134] at hO
            have hf135 : K133.1 q9 = 1 := (by rw [hK134]; exact hq2)
            have hf136 : K133.2.1 4 q9 = (nI at2) := by rw [hK134]; exact kI_eq
            have htk137 : NwT (B 7) sz (B 10) f2 K K133 at9 at2 := by rw [hK134]; exact NwT.puti htki (by decide)
            refine W_size (fun hz1 hz2 => ?_)
            refine vx_ret ?_
            have har9 : ArS K K133 g g2 q9 (5 * (20 - (dp + 1)) + 6 + (sg2 - sg)) (at9 + 1) ((at2 + 1) - 1) (9 * (20 - (dp + 1)) + (sg2 - sg) + 1) := by rw [hK134]; exact ArS.wk (ArS.fin har) (by omega)
            have hz138 : at9 + 2 ≤ (at2 + 1) ∧ (at2 + 1) ≤ sz := (by omega)
            have hz139 : sg ≤ sg2 ∧ sg2 ≤ 60 := (by omega)
            have hz140 : ArS K K133 g g2 q9 (5 * (20 - (dp + 1)) + 6 + (sg2 - sg)) (at9 + 1) ((at2 + 1) - 1) (9 * (20 - (dp + 1)) + (sg2 - sg) + 1) := har9
            have hz141 : dp + 1 ≤ 20 := (by omega)
            have hz142 : NwT (B 7) sz (B 10) f2 K K133 at9 (at2 + 1) := (NwT.le htk137 (by omega))
            have hO : OKP G h0 a (upd (upd (upd (upd F 2 (nI sz)) 9 (nI (at2 + 1))) 10 (nI dp)) 11 (nI sg2)) R Z (updA B 10 f2) J K133 w := hO.to rfl
            refine W.widen (k := (2 * (sz - at9) + 18)) (n := (11 * (2 * (sz - at9) + 18))) (by omega) (by omega) ?_
            have hzz1 : H.size ≤ s.heap.size + ((2 * ((at2 + 1) - at9) - 4)) := (by have z : (2 * (at2 - (at9 + 1))) ≤ (2 * ((at2 + 1) - at9) - 4) := (by omega); omega)
            have hzz2 : hSl H ≤ hSl s.heap + ((11 * (2 * ((at2 + 1) - at9) - 4))) := (by have z : (11 * (2 * (at2 - (at9 + 1)))) ≤ (11 * (2 * ((at2 + 1) - at9) - 4)) := (by omega); omega)
            exact W.vret hx hb hr (fun t99 ht99 hW99 => ⟨⟨_, (w, (K133, g2, (at2 + 1), sg2, f2)), rfl, ⟨rfl, hz138, hz139, hz140, hz141, hz142, hO⟩, by rw [ht99]; exact hP, hD, by rw [ht99]; exact hzz1, by rw [ht99]; exact hzz2⟩, hS.F ht99⟩) hS.2.2 dX8_arguments_93
          · refine lv_aload_n hx hb dX8_arguments_42 rfl (lv_at hl 4 rfl) ?_
            have hO : OKP G h0 a (upd (upd (upd (upd (upd (upd (upd (upd (upd (upd (upd F 2 (nI sz)) 9 (nI at9)) 10 (nI dp)) 11 (nI sg)) 9 (nI at2)) 10 (nI (dp + 1))) 11 (nI sg2)) 2 (nI sz)) 9 (nI at2)) 10 (nI (dp + 1))) 11 (nI sg2)) R Z (updA B 10 f2) J K2 w := hO.to rfl
            obtain ⟨_, qr146, hqr147⟩ := hO.2.1 23 _ (sg_23 G h0 a _ _ _ _ _)
            refine pn_V0 (G := G) (As := []) (rest := []) hx hb hml hown hq hE hX pX0_al hP hD hS hA hl.1 ((ihe (by omega)) h0 a (upd (upd (upd (upd (upd (upd (upd F 2 (nI sz)) 9 (nI at9)) 10 (nI dp)) 11 (nI sg)) 9 (nI at2)) 10 (nI (dp + 1))) 11 (nI sg2)) R Z (updA B 10 f2) J K2 w at2 sz (dp + 1) sg2 (q9 + 1) g2 (by omega) (by omega) (by omega) (by omega) har.1 (fun o9 h9 => by have z : o9 = q9 := (by omega); rw [z]; exact ⟨hq2, har.2.2.2.1.2.1, by rw [har.2.2.2.1.2.2.1 0 (by decide)]; exact hk9⟩) hO hl0) (gV pw_916 pw_917 pw_918 pw_796 pw_942) hV_X8_expression qr146 5 hqr147 rfl rfl rfl (Nat.le_of_ble_eq_true rfl) dX8_arguments_43 ⟨(by show (2 * (at2 - (at9 + 1))) + (2 * (sz - at2) + 20) ≤ (2 * (sz - at9) + 18); omega), (by show (11 * (2 * (at2 - (at9 + 1)))) + (11 * (2 * (sz - at2) + 20)) ≤ (11 * (2 * (sz - at9) + 18)); omega)⟩ ⟨(by show (40 * (n - 1) + 40) + 1 ≤ (40 * n + 12); omega), (by show 8 + (3 + 11) + (1300 * (n - 1) + 1300) ≤ (1300 * n + 400); omega)⟩ (fun v145 u143 H locs hw144 hP hD hS => ?_) (fun ux ce9 q9 H9 locs9 hux hP9 hD9 hS9 hce hcv hcl => pb_out ux (ThQ.up (Thx.same (Thx.same (Thx.same (Thx.same (Thx.b (Thx.f (Thx.f (Thx.f Thx.rfl (by omega)) (by omega)) (by omega)) (by omega) (by decide)) rfl) rfl) rfl) rfl) RhX.rfl hux) hnt hlocks hce hcv hcl hP9 hD9 hS9 (by show (2 * (at2 - (at9 + 1))) + (2 * (sz - at2) + 20) ≤ (2 * (sz - at9) + 18); omega) (by show (11 * (2 * (at2 - (at9 + 1)))) + (11 * (2 * (sz - at2) + 20)) ≤ (11 * (2 * (sz - at9) + 18)); omega))
            obtain ⟨w, r148, K149, g150, at151, sg152, f153, k154⟩ := u143
            obtain ⟨hw144, h155, h156, h157, h158, h159, h160, hO⟩ := hw144
            have h155 : NwR K2 K149 g2 g150 r148 (q9 + 1) k154 (5 * (20 - (dp + 1)) + 6 + (sg152 - sg2)) := h155
            have h156 : at2 ≤ rS k154 ∧ rS k154 + 1 ≤ rE k154 ∧ rE k154 ≤ at151 ∧ 1 ≤ rD k154 ∧ rD k154 ≤ 9 * (20 - (dp + 1)) + (sg152 - sg2) + 1 := h156
            have h157 : at2 + 1 ≤ at151 ∧ at151 ≤ sz := h157
            have h158 : sg2 ≤ sg152 ∧ sg152 ≤ 60 := h158
            have h159 : ¬ tkN ((B 7)) sz 67 (nI at2) = 37 := h159
            have h160 : NwT ((B 7)) sz (f2) f153 K2 K149 at2 at151 := h160
            obtain rfl : v145 = some (.ref r148) := hw144
            have hf161 : K149.1 q9 = 1 := (((h155).2.1.1 q9 (by rw [hq2]; decide)).1).trans hq2
            have hO : OKP G h0 a (upd (upd (upd (upd F 2 (nI sz)) 9 (nI at151)) 10 (nI (dp + 1))) 11 (nI sg152)) R Z (updA B 10 f153) J K149 w := hO.to rfl
            refine W.widen (k := ((2 * (at2 - (at9 + 1))) + (2 * (at151 - at2) - 1))) (n := ((11 * (2 * (at2 - (at9 + 1)))) + (11 * (2 * (at151 - at2) - 1)))) (by show (2 * (at2 - (at9 + 1))) + (2 * (at151 - at2) - 1) ≤ ((2 * (at2 - (at9 + 1))) + (2 * (at151 - at2) - 1)); omega) (by show (11 * (2 * (at2 - (at9 + 1)))) + (11 * (2 * (at151 - at2) - 1)) ≤ ((11 * (2 * (at2 - (at9 + 1)))) + (11 * (2 * (at151 - at2) - 1))); omega) ?_
            refine W.eq (g2 := F0 m 46 ls [.ref r148]) rfl ?_
            have htk162 : NwT (B 7) sz (B 10) f153 K K149 at9 at151 := (NwT.call htki h160 (by omega))
            have har3 := ArS.call (B2 := (5 * (20 - (dp + 1)) + 6 + (sg152 - sg))) (hi2 := at151) (nd2 := (9 * (20 - (dp + 1)) + (sg152 - sg) + 1)) har hq9 h155 (by omega) (by omega)
            have hr3 := h155.2.2.1
            have hr4 : K149.1 r148 = 1 ∧ 1 ≤ g150 0 r148 ∧ g150 1 r148 = q9 + 1 := ⟨hr3.2.1, hr3.2.2.1, hr3.2.2.2.2.1⟩
            have hr5 : K.1 r148 = 0 := har.T hq9 hr3.1
            have hr6 := hr3.2.2.2.2.2.1
            have hf163 : K149.1 r148 = 1 := hr3.2.1
            refine lv_astore (lv' := [(5, .ref r148), (4, .int (nI i2)), (3, .int mo2), (2, va_rf la2), (1, .ref q9), (0, .ref (a 3))]) hx hb dX8_arguments_46 hl (by decide) rfl (fun ls hl => ?_)
            rcases la2 with _ | y9
            · have hl : lv_has ls 6 [(5, .ref r148), (4, .int (nI i2)), (3, .int mo2), (2, .null), (1, .ref q9), (0, .ref (a 3))] := hl
              refine lv_aload_nN hx hb dX8_arguments_48 rfl (lv_at hl 3 rfl) ?_
              refine lv_ifnonnullN hx hb dX8_arguments_49 ?_
              refine lv_aload_n hx hb dX8_arguments_52 rfl (lv_at hl 4 rfl) ?_
              refine lv_aload hx hb dX8_arguments_53 (lv_at hl 0 rfl) ?_
              refine p_put (v := .ref r148) (ty := (.object "JinjaTongue$Node")) (C := RX7) (Tc := TX7) (N := 11) (ci := 13) (K' := (kC K149 1 q9 (some r148))) hx hb hq pin_wsX70 tyX7 tyX7_ok nmX7 hown hE hP hD hS hO (by rw [hf161]; decide) (rep_1 hf161) rfl 7 (by decide) (hq _ pw_910) (fun _ h9 => h9) rfl (by decide +kernel) rfl rfl (Nat.le_of_ble_eq_true rfl) rfl (by rw [rep_1 (show (kC K149 1 q9 (some r148)).1 q9 = 1 from hf161), pc_1] <;> rfl) (fun p9 hp9 => rep_kC hp9) dX8_arguments_55 (fun H locs w hP hD hS hO => ?_)
              obtain ⟨K164, hK165⟩ : ∃ z : PK, z = (kC K149 1 q9 (some r148)) := ⟨_, rfl⟩
              rw [← hK165] at hO
              have hf166 : K164.1 q9 = 1 := (by rw [hK165]; exact hf161)
              have hf167 : K164.1 r148 = 1 := (by rw [hK165]; exact hf163)
              have hf168 : K164.2.2.1 1 q9 = some r148 := by rw [hK165]; exact kC_eq
              have htk169 : NwT (B 7) sz (B 10) f153 K K164 at9 at151 := by rw [hK165]; exact NwT.put htk162
              refine lv_goto (tgt := 67) hx hb dX8_arguments_58 (by decide) ?_
              have har4 : ArS K K164 g g150 q9 (5 * (20 - (dp + 1)) + 6 + (sg152 - sg)) (at9 + 1) at151 (9 * (20 - (dp + 1)) + (sg152 - sg) + 1) := by rw [hK165]; exact ArS.first har3 hr4
              have hr7 : (K.1 r148 = 0 ∧ K164.1 r148 = 1 ∧ 1 ≤ g150 0 r148 ∧ g150 1 r148 = q9 + 1) := ⟨hr5, by rw [hK165]; exact hr4.1, hr4.2.1, hr4.2.2⟩
              refine lv_aload hx hb dX8_arguments_67 (lv_at hl 0 rfl) ?_
              refine lv_astore_n (lv' := [(2, .ref r148), (5, .ref r148), (4, .int (nI i2)), (3, .int mo2), (1, .ref q9), (0, .ref (a 3))]) hx hb dX8_arguments_69 rfl hl (by decide) rfl (fun ls hl => ?_)
              refine lv_aload_n hx hb dX8_arguments_70 rfl (lv_at hl 5 rfl) ?_
              refine lv_bipush (v := 39) hx hb dX8_arguments_71 (by decide) ?_
              have hO : OKW G h0 a (upd (upd (upd (upd (upd (upd F 2 (nI sz)) 9 (nI at151)) 10 (nI (dp + 1))) 11 (nI sg152)) 2 (nI sz)) 9 (nI at151)) R Z (updA B 10 f153) J K164.1 (fun q99 x99 => x99 = rep G a K164 q99) w := hO.to rfl
              obtain ⟨_, qr173, hqr174⟩ := hO.2.1 23 _ (sg_23 G h0 a _ _ _ _ _)
              refine pc_V0 (G := G) (As := [.int 39]) (rest := []) hx hb hml hown hq hE hX pX0_al hP hD hS hA hl.1 (P_takeIf l G h0 a (upd (upd (upd (upd F 2 (nI sz)) 9 (nI at151)) 10 (nI (dp + 1))) 11 (nI sg152)) R Z (updA B 10 f153) J K164.1 (fun q99 x99 => x99 = rep G a K164 q99) w 39 at151 sz (by omega) (by omega) (by decide) hO) (gV pw_797 pw_798 pw_799 pw_796 pw_789) hV_X8_takeIf qr173 5 hqr174 rfl rfl rfl (Nat.le_of_ble_eq_true rfl) dX8_arguments_73 ⟨(by show ((2 * (at2 - (at9 + 1))) + (2 * (at151 - at2) - 1)) + 0 ≤ (2 * (sz - at9) + 18); omega), (by show ((11 * (2 * (at2 - (at9 + 1)))) + (11 * (2 * (at151 - at2) - 1))) + 0 ≤ (11 * (2 * (sz - at9) + 18)); omega)⟩ ⟨(by show 3 + 1 ≤ (40 * n + 12); omega), (by show 8 + (2 + 11) + 81 ≤ (1300 * n + 400); omega)⟩ (fun v172 u170 H locs hw171 hP hD hS => ?_)
              obtain ⟨w, r175⟩ := u170
              obtain ⟨hw171, h176, h177, h178, hO⟩ := hw171
              have h176 : r175 ≤ 1 := h176
              have h177 : at151 + r175 ≤ sz := h177
              have h178 : SeQ ((B 7)) sz at151 39 r175 := h178
              obtain rfl : v172 = some (.int (nI r175)) := hw171
              have hO : OKP G h0 a (upd (upd (upd (upd F 2 (nI sz)) 9 (nI (at151 + r175))) 10 (nI (dp + 1))) 11 (nI sg152)) R Z (updA B 10 f153) J K164 w := hO.to rfl
              refine W.widen (k := ((2 * (at2 - (at9 + 1))) + (2 * (at151 - at2) - 1))) (n := ((11 * (2 * (at2 - (at9 + 1)))) + (11 * (2 * (at151 - at2) - 1)))) (by show ((2 * (at2 - (at9 + 1))) + (2 * (at151 - at2) - 1)) + 0 ≤ ((2 * (at2 - (at9 + 1))) + (2 * (at151 - at2) - 1)); omega) (by show ((11 * (2 * (at2 - (at9 + 1)))) + (11 * (2 * (at151 - at2) - 1))) + 0 ≤ ((11 * (2 * (at2 - (at9 + 1)))) + (11 * (2 * (at151 - at2) - 1))); omega) ?_
              refine W.eq (g2 := F0 m 76 ls [.int (nI r175)]) rfl ?_
              refine lv_istore_n (lv' := [(3, .int (nI r175)), (2, .ref r148), (5, .ref r148), (4, .int (nI i2)), (1, .ref q9), (0, .ref (a 3))]) hx hb dX8_arguments_76 rfl hl (by decide) rfl (fun ls hl => ?_)
              refine lv_iinc (v := (nI (i2 + 1))) (lv' := [(4, .int (nI (i2 + 1))), (3, .int (nI r175)), (2, .ref r148), (5, .ref r148), (1, .ref q9), (0, .ref (a 3))]) hx hb dX8_arguments_77 hl (k := 3) rfl (nI_1 i2) (by decide) rfl (fun ls hl => ?_)
              refine lv_goto (tgt := 26) hx hb dX8_arguments_80 (by decide) ?_
              refine W.widen (k := (2 * ((at151 + r175) - (at9 + 1)))) (n := (11 * (2 * ((at151 + r175) - (at9 + 1))))) (by show ((2 * (at2 - (at9 + 1))) + (2 * (at151 - at2) - 1)) ≤ _; omega) (by show ((11 * (2 * (at2 - (at9 + 1)))) + (11 * (2 * (at151 - at2) - 1))) ≤ _; omega) ?_
              have hO : OKP G h0 a (upd (upd (upd (upd F 2 (nI sz)) 9 (nI (at151 + r175))) 10 (nI (dp + 1))) 11 (nI sg152)) R Z (updA B 10 f153) J K164 w := hO.to rfl
              exact ih_i (i2 + 1) (at151 + r175) sg152 f153 (some r148) K164 g150 (nI r175) _ _ _ _ (by omega) (by omega) (by omega) (by omega) (by omega) (ArS.wk har4 (by omega)) (fun y h => by cases h; exact ⟨hr7, by rw [hr6]; omega⟩) (NwT.le htk169 (by omega)) hP hD hS hO (lv_sub hl [0, 1, 2, 4, 5] rfl)
            · have hl : lv_has ls 6 [(5, .ref r148), (4, .int (nI i2)), (3, .int mo2), (2, .ref y9), (1, .ref q9), (0, .ref (a 3))] := hl
              obtain ⟨hy1, hy2⟩ := hla y9 rfl
              have hy0 : ¬ K2.1 y9 = 0 := by rw [hy1.2.1]; decide
              have hy3 : K149.1 y9 = 1 := ((h155.2.1.1 y9 hy0).1).trans hy1.2.1
              have hy4 := fun i => h155.2.1.2 y9 hy0 i
              refine lv_aload_n hx hb dX8_arguments_48 rfl (lv_at hl 3 rfl) ?_
              refine lv_ifnonnull (tgt := 61) hx hb dX8_arguments_49 (by decide) ?_
              refine lv_aload_n hx hb dX8_arguments_61 rfl (lv_at hl 3 rfl) ?_
              refine lv_aload hx hb dX8_arguments_62 (lv_at hl 0 rfl) ?_
              refine p_put (v := .ref r148) (ty := (.object "JinjaTongue$Node")) (C := RX7) (Tc := TX7) (N := 11) (ci := 13) (K' := (kC K149 4 y9 (some r148))) hx hb hq pin_wsX70 tyX7 tyX7_ok nmX7 hown hE hP hD hS hO (by rw [hy3]; decide) (rep_1 hy3) rfl 10 (by decide) (hq _ pw_911) (fun _ h9 => h9) rfl (by decide +kernel) rfl rfl (Nat.le_of_ble_eq_true rfl) rfl (by rw [rep_1 (show (kC K149 4 y9 (some r148)).1 y9 = 1 from hy3), pc_4] <;> rfl) (fun p9 hp9 => rep_kC hp9) dX8_arguments_64 (fun H locs w hP hD hS hO => ?_)
              obtain ⟨K179, hK180⟩ : ∃ z : PK, z = (kC K149 4 y9 (some r148)) := ⟨_, rfl⟩
              rw [← hK180] at hO
              have hf181 : K179.1 q9 = 1 := (by rw [hK180]; exact hf161)
              have hf182 : K179.1 r148 = 1 := (by rw [hK180]; exact hf163)
              have hf183 : K179.1 y9 = 1 := (by rw [hK180]; exact hy3)
              have hf184 : K179.2.2.1 4 y9 = some r148 := by rw [hK180]; exact kC_eq
              have htk185 : NwT (B 7) sz (B 10) f153 K K179 at9 at151 := by rw [hK180]; exact NwT.put htk162
              have hy5 := hy4 2
              have har4 : ArS K K179 g g150 q9 (5 * (20 - (dp + 1)) + 6 + (sg152 - sg)) (at9 + 1) at151 (9 * (20 - (dp + 1)) + (sg152 - sg) + 1) := by rw [hK180]; exact ArS.next har3 hq9 ⟨hy1.1, hy3, by rw [hy4 0]; exact hy1.2.2.1, by rw [hy4 1]; exact hy1.2.2.2⟩ hr4 (rS_lt (by rw [hy5, hr6]; omega)) (by rw [hy5, hr6]; omega)
              have hr7 : (K.1 r148 = 0 ∧ K179.1 r148 = 1 ∧ 1 ≤ g150 0 r148 ∧ g150 1 r148 = q9 + 1) := ⟨hr5, by rw [hK180]; exact hr4.1, hr4.2.1, hr4.2.2⟩
              refine lv_aload hx hb dX8_arguments_67 (lv_at hl 0 rfl) ?_
              refine lv_astore_n (lv' := [(2, .ref r148), (5, .ref r148), (4, .int (nI i2)), (3, .int mo2), (1, .ref q9), (0, .ref (a 3))]) hx hb dX8_arguments_69 rfl hl (by decide) rfl (fun ls hl => ?_)
              refine lv_aload_n hx hb dX8_arguments_70 rfl (lv_at hl 5 rfl) ?_
              refine lv_bipush (v := 39) hx hb dX8_arguments_71 (by decide) ?_
              have hO : OKW G h0 a (upd (upd (upd (upd (upd (upd F 2 (nI sz)) 9 (nI at151)) 10 (nI (dp + 1))) 11 (nI sg152)) 2 (nI sz)) 9 (nI at151)) R Z (updA B 10 f153) J K179.1 (fun q99 x99 => x99 = rep G a K179 q99) w := hO.to rfl
              obtain ⟨_, qr189, hqr190⟩ := hO.2.1 23 _ (sg_23 G h0 a _ _ _ _ _)
              refine pc_V0 (G := G) (As := [.int 39]) (rest := []) hx hb hml hown hq hE hX pX0_al hP hD hS hA hl.1 (P_takeIf l G h0 a (upd (upd (upd (upd F 2 (nI sz)) 9 (nI at151)) 10 (nI (dp + 1))) 11 (nI sg152)) R Z (updA B 10 f153) J K179.1 (fun q99 x99 => x99 = rep G a K179 q99) w 39 at151 sz (by omega) (by omega) (by decide) hO) (gV pw_797 pw_798 pw_799 pw_796 pw_789) hV_X8_takeIf qr189 5 hqr190 rfl rfl rfl (Nat.le_of_ble_eq_true rfl) dX8_arguments_73 ⟨(by show ((2 * (at2 - (at9 + 1))) + (2 * (at151 - at2) - 1)) + 0 ≤ (2 * (sz - at9) + 18); omega), (by show ((11 * (2 * (at2 - (at9 + 1)))) + (11 * (2 * (at151 - at2) - 1))) + 0 ≤ (11 * (2 * (sz - at9) + 18)); omega)⟩ ⟨(by show 3 + 1 ≤ (40 * n + 12); omega), (by show 8 + (2 + 11) + 81 ≤ (1300 * n + 400); omega)⟩ (fun v188 u186 H locs hw187 hP hD hS => ?_)
              obtain ⟨w, r191⟩ := u186
              obtain ⟨hw187, h192, h193, h194, hO⟩ := hw187
              have h192 : r191 ≤ 1 := h192
              have h193 : at151 + r191 ≤ sz := h193
              have h194 : SeQ ((B 7)) sz at151 39 r191 := h194
              obtain rfl : v188 = some (.int (nI r191)) := hw187
              have hO : OKP G h0 a (upd (upd (upd (upd F 2 (nI sz)) 9 (nI (at151 + r191))) 10 (nI (dp + 1))) 11 (nI sg152)) R Z (updA B 10 f153) J K179 w := hO.to rfl
              refine W.widen (k := ((2 * (at2 - (at9 + 1))) + (2 * (at151 - at2) - 1))) (n := ((11 * (2 * (at2 - (at9 + 1)))) + (11 * (2 * (at151 - at2) - 1)))) (by show ((2 * (at2 - (at9 + 1))) + (2 * (at151 - at2) - 1)) + 0 ≤ ((2 * (at2 - (at9 + 1))) + (2 * (at151 - at2) - 1)); omega) (by show ((11 * (2 * (at2 - (at9 + 1)))) + (11 * (2 * (at151 - at2) - 1))) + 0 ≤ ((11 * (2 * (at2 - (at9 + 1)))) + (11 * (2 * (at151 - at2) - 1))); omega) ?_
              refine W.eq (g2 := F0 m 76 ls [.int (nI r191)]) rfl ?_
              refine lv_istore_n (lv' := [(3, .int (nI r191)), (2, .ref r148), (5, .ref r148), (4, .int (nI i2)), (1, .ref q9), (0, .ref (a 3))]) hx hb dX8_arguments_76 rfl hl (by decide) rfl (fun ls hl => ?_)
              refine lv_iinc (v := (nI (i2 + 1))) (lv' := [(4, .int (nI (i2 + 1))), (3, .int (nI r191)), (2, .ref r148), (5, .ref r148), (1, .ref q9), (0, .ref (a 3))]) hx hb dX8_arguments_77 hl (k := 3) rfl (nI_1 i2) (by decide) rfl (fun ls hl => ?_)
              refine lv_goto (tgt := 26) hx hb dX8_arguments_80 (by decide) ?_
              refine W.widen (k := (2 * ((at151 + r191) - (at9 + 1)))) (n := (11 * (2 * ((at151 + r191) - (at9 + 1))))) (by show ((2 * (at2 - (at9 + 1))) + (2 * (at151 - at2) - 1)) ≤ _; omega) (by show ((11 * (2 * (at2 - (at9 + 1)))) + (11 * (2 * (at151 - at2) - 1))) ≤ _; omega) ?_
              have hO : OKP G h0 a (upd (upd (upd (upd F 2 (nI sz)) 9 (nI (at151 + r191))) 10 (nI (dp + 1))) 11 (nI sg152)) R Z (updA B 10 f153) J K179 w := hO.to rfl
              exact ih_i (i2 + 1) (at151 + r191) sg152 f153 (some r148) K179 g150 (nI r191) _ _ _ _ (by omega) (by omega) (by omega) (by omega) (by omega) (ArS.wk har4 (by omega)) (fun y h => by cases h; exact ⟨hr7, by rw [hr6]; omega⟩) (NwT.le htk185 (by omega)) hP hD hS hO (lv_sub hl [0, 1, 2, 4, 5] rfl)
    refine W.widen (k := (2 * ((at9 + 1) - (at9 + 1)))) (n := (11 * (2 * ((at9 + 1) - (at9 + 1))))) (by show 0 ≤ _; omega) (by show 0 ≤ _; omega) ?_
    have hO : OKP G h0 a (upd (upd (upd (upd F 2 (nI sz)) 9 (nI (at9 + 1))) 10 (nI (dp + 1))) 11 (nI sg)) R Z (updA B 10 (B 10)) J K w := hO.to rfl
    exact loop_i (sz + 1) 0 (at9 + 1) sg (B 10) none K g (1 : Int32) _ _ _ _ (by omega) (by omega) (by omega) (by omega) (by omega) (ArS.wk (ArS.nil (lo := at9 + 1) (hi := at9 + 1) (nd := 0) hwn hq9 hg9 hb9 hno) (by omega)) (fun y h => by cases h) (NwT.le htk0 (by omega)) hP hD hS hO (lv_sub hl [0, 1, 2, 4, 3] rfl)
