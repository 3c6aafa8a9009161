theorem dX8_expression_0 : decode cX8_expression 0 = .ok (.aload_n 0, 1) := by decide +kernel
theorem dX8_expression_1 : decode cX8_expression 1 = .ok (.iconst 1, 1) := by decide +kernel
theorem dX8_expression_2 : decode cX8_expression 2 = .ok (.invokevirtual 245, 3) := by decide +kernel
theorem dX8_expression_5 : decode cX8_expression 5 = .ok (.astore_n 1, 1) := by decide +kernel
theorem dX8_expression_6 : decode cX8_expression 6 = .ok (.aload_n 0, 1) := by decide +kernel
theorem dX8_expression_7 : decode cX8_expression 7 = .ok (.bipush 41, 2) := by decide +kernel
theorem dX8_expression_9 : decode cX8_expression 9 = .ok (.invokevirtual 36, 3) := by decide +kernel
theorem dX8_expression_12 : decode cX8_expression 12 = .ok (.ifCond .ne 5, 3) := by decide +kernel
theorem dX8_expression_17 : decode cX8_expression 17 = .ok (.aload_n 0, 1) := by decide +kernel
theorem dX8_expression_18 : decode cX8_expression 18 = .ok (.invokevirtual 180, 3) := by decide +kernel
theorem dX8_expression_21 : decode cX8_expression 21 = .ok (.new 143, 3) := by decide +kernel
theorem dX8_expression_24 : decode cX8_expression 24 = .ok (.dup, 1) := by decide +kernel
theorem dX8_expression_25 : decode cX8_expression 25 = .ok (.bipush 20, 2) := by decide +kernel
theorem dX8_expression_27 : decode cX8_expression 27 = .ok (.aload_n 0, 1) := by decide +kernel
theorem dX8_expression_28 : decode cX8_expression 28 = .ok (.bipush 41, 2) := by decide +kernel
theorem dX8_expression_30 : decode cX8_expression 30 = .ok (.invokevirtual 53, 3) := by decide +kernel
theorem dX8_expression_33 : decode cX8_expression 33 = .ok (.aload_n 1, 1) := by decide +kernel
theorem dX8_expression_34 : decode cX8_expression 34 = .ok (.getfield 248, 3) := by decide +kernel
theorem dX8_expression_37 : decode cX8_expression 37 = .ok (.invokespecial 145, 3) := by decide +kernel
theorem dX8_expression_40 : decode cX8_expression 40 = .ok (.astore_n 2, 1) := by decide +kernel
theorem dX8_expression_41 : decode cX8_expression 41 = .ok (.aload_n 2, 1) := by decide +kernel
theorem dX8_expression_42 : decode cX8_expression 42 = .ok (.aload_n 1, 1) := by decide +kernel
theorem dX8_expression_43 : decode cX8_expression 43 = .ok (.putfield 165, 3) := by decide +kernel
theorem dX8_expression_46 : decode cX8_expression 46 = .ok (.aload_n 2, 1) := by decide +kernel
theorem dX8_expression_47 : decode cX8_expression 47 = .ok (.aload_n 0, 1) := by decide +kernel
theorem dX8_expression_48 : decode cX8_expression 48 = .ok (.invokevirtual 196, 3) := by decide +kernel
theorem dX8_expression_51 : decode cX8_expression 51 = .ok (.putfield 230, 3) := by decide +kernel
theorem dX8_expression_54 : decode cX8_expression 54 = .ok (.aload_n 0, 1) := by decide +kernel
theorem dX8_expression_55 : decode cX8_expression 55 = .ok (.bipush 42, 2) := by decide +kernel
theorem dX8_expression_57 : decode cX8_expression 57 = .ok (.invokevirtual 53, 3) := by decide +kernel
theorem dX8_expression_60 : decode cX8_expression 60 = .ok (.pop, 1) := by decide +kernel
theorem dX8_expression_61 : decode cX8_expression 61 = .ok (.aload_n 2, 1) := by decide +kernel
theorem dX8_expression_62 : decode cX8_expression 62 = .ok (.aload_n 0, 1) := by decide +kernel
theorem dX8_expression_63 : decode cX8_expression 63 = .ok (.invokevirtual 196, 3) := by decide +kernel
theorem dX8_expression_66 : decode cX8_expression 66 = .ok (.putfield 236, 3) := by decide +kernel
theorem dX8_expression_69 : decode cX8_expression 69 = .ok (.aload_n 0, 1) := by decide +kernel
theorem dX8_expression_70 : decode cX8_expression 70 = .ok (.invokevirtual 190, 3) := by decide +kernel
theorem dX8_expression_73 : decode cX8_expression 73 = .ok (.aload_n 2, 1) := by decide +kernel
theorem dX8_expression_74 : decode cX8_expression 74 = .ok (.areturn, 1) := by decide +kernel
theorem dX8_expression_15 : decode cX8_expression 15 = .ok (.aload_n 1, 1) := by decide +kernel
theorem dX8_expression_16 : decode cX8_expression 16 = .ok (.areturn, 1) := by decide +kernel
set_option maxHeartbeats 40000000 in
set_option maxRecDepth 100000 in
theorem P_expression (l : Launch) (G : pT) (h0 : Nat) (a : Nat → Nat) (F : Nat → Int32) (R : Nat → Value) (Z : Int64) (B : Nat → Nat → Int32) (J : Nat → Nat → Int64) (K : PK) (w : va_W) (n : Nat) (at9 : Nat) (sz : Nat) (dp : Nat) (sg : Nat) (O : Nat) (g : Nat → Nat → Nat) (hsz : sz ≤ 5000) (hat : at9 ≤ sz) (hdp : dp + n = 20) (hsg : sg ≤ 60) (hwn : WN K g) (how : ∀ o : Nat, O = o + 1 → K.1 o = 1 ∧ g 0 o = 0 ∧ ¬ K.2.1 0 o = 32) (hsn : PSg l G n 10) (ihe : IhE l G n) (hO : OKP G h0 a (upd (upd (upd (upd F 2 (nI sz)) 9 (nI at9)) 10 (nI dp)) 11 (nI sg)) R Z B J K w) (hl0 : l.stackTraces = false) : PBn l G pX0 yX8_expression cX8_expression 3 (some (.object "JinjaTongue$Node")) ({ frames := (40 * n + 40), cells := (2 * (sz - at9) + 20), slots := (11 * (2 * (sz - at9) + 20)), locals := (1300 * n + 1300) }) [.ref (a 3)] w (fun (v : Option Value) (u : va_W × (Nat × PK × (Nat → Nat → Nat) × Nat × Nat × (Nat → Int32) × Nat)) => v = some (.ref u.2.1) ∧ (NwR K u.2.2.1 g u.2.2.2.1 u.2.1 O u.2.2.2.2.2.2.2 (5 * (20 - dp) + 6 + (u.2.2.2.2.2.1 - sg))) ∧ (at9 ≤ rS u.2.2.2.2.2.2.2 ∧ rS u.2.2.2.2.2.2.2 + 1 ≤ rE u.2.2.2.2.2.2.2 ∧ rE u.2.2.2.2.2.2.2 ≤ u.2.2.2.2.1 ∧ 1 ≤ rD u.2.2.2.2.2.2.2 ∧ rD u.2.2.2.2.2.2.2 ≤ 9 * (20 - dp) + (u.2.2.2.2.2.1 - sg) + 1) ∧ (at9 + 1 ≤ u.2.2.2.2.1 ∧ u.2.2.2.2.1 ≤ sz) ∧ (sg ≤ u.2.2.2.2.2.1 ∧ u.2.2.2.2.2.1 ≤ 60) ∧ (¬ tkN (B 7) sz 67 (nI at9) = 37) ∧ (NwT (B 7) sz (B 10) u.2.2.2.2.2.2.1 K u.2.2.1 at9 u.2.2.2.2.1) ∧ (OKP G h0 a (upd (upd (upd (upd F 2 (nI sz)) 9 (nI u.2.2.2.2.1)) 10 (nI dp)) 11 (nI u.2.2.2.2.2.1)) R Z (updA B 10 u.2.2.2.2.2.2.1) J u.2.2.1 u.1)) (fun u => u.1) (fun (u : va_W × (Nat × PK × (Nat → Nat → Nat) × Nat × Nat × (Nat → Int32) × Nat)) => (2 * (u.2.2.2.2.1 - at9) - 1)) (fun (u : va_W × (Nat × PK × (Nat → Nat → Nat) × Nat × Nat × (Nat → Int32) × Nat)) => (11 * (2 * (u.2.2.2.2.1 - at9) - 1))) (fun (u : va_W × (Nat → Int32) × (Nat → Value) × (Nat → Nat → Int32)) => ThQ G h0 a (upd (upd (upd (upd F 2 (nI sz)) 9 (nI at9)) 10 (nI dp)) 11 (nI sg)) R Z B J u) (fun u => u.1) := by
  intro sz
  refine vx_ofW (cc := cX8_expression) (maxL := 3) (ret := (some (.object "JinjaTongue$Node"))) (by decide) rfl ?_
  intro p e s m args below meth c s₁ B9 hml hnt hv
  obtain ⟨rfl, hsz, hP, hD0, hE, hX⟩ := hv
  have hx := B9.exec
  have hb := B9.bytes
  have hr := B9.returns
  have hts := atoms_spec (ws := Cond.code yX8_expression cX8_expression 3 (some (.object "JinjaTongue$Node")) :: pw) B9.pre
  have hq : ∀ w ∈ pw, w.before _ s = true := fun w h => hts w (List.mem_cons_of_mem _ h)
  have hown : s.vm.findClass RX8 = some m.cls := findClass_of_methodNamed B9.named
  have hlocks := B9.notSynchronized
  subst hsz
  have hD := hD0.self (sz := s.heap.size)
  have hA : ∀ q : Nat, s.heap.size ≤ q → va_A w s.heap.size q := fun q h => Or.inr h
  generalize va_A w s.heap.size = A at hD hE hA ⊢
  have hS : va_S A s.heap s.heap [] := va_S.rf
  have hl := lv_entry ([.ref (a 3)]) (n := 3) (Nat.le_of_ble_eq_true rfl)
  rw [lg_entry_eq]
  generalize (lg_sl ([.ref (a 3)]) ++ List.replicate (3 - (lg_sl ([.ref (a 3)])).length) Slot.unset).toArray = ls at hl ⊢
  have hl : lv_has ls 3 [(0, .ref (a 3))] := hl
  have htk0 : NwT (B 7) sz (B 10) (B 10) K K at9 at9 := NwT.nil
  have hns0 : NwS K K g g := NwS.nil hwn
  refine lv_aload_n hx hb dX8_expression_0 rfl (lv_at hl 0 rfl) ?_
  refine lv_iconst (v := 1) hx hb dX8_expression_1 (by decide) ?_
  have hO : OKP G h0 a (upd (upd (upd (upd (upd (upd (upd (upd F 2 (nI sz)) 9 (nI at9)) 10 (nI dp)) 11 (nI sg)) 2 (nI sz)) 9 (nI at9)) 10 (nI dp)) 11 (nI sg)) R Z B J K w := hO.to rfl
  obtain ⟨_, qr4, hqr5⟩ := hO.2.1 23 _ (sg_23 G h0 a _ _ _ _ _)
  refine pn_V0 (G := G) (As := [.int (nI 1)]) (rest := []) hx hb hml hown hq hE hX pX0_al hP hD hS hA hl.1 (hsn h0 a (upd (upd (upd (upd F 2 (nI sz)) 9 (nI at9)) 10 (nI dp)) 11 (nI sg)) R Z B J K w 1 at9 sz dp sg 0 g (by omega) (by omega) (by omega) (by omega) hwn (fun o9 h9 => absurd h9 (by omega)) (by omega) hO hl0) (gV pw_944 pw_945 pw_946 pw_796 pw_979) hV_X8_signed qr4 5 hqr5 rfl rfl rfl (Nat.le_of_ble_eq_true rfl) dX8_expression_2 ⟨(by show 0 + (2 * (sz - at9) + 20) ≤ (2 * (sz - at9) + 20); omega), (by show 0 + (11 * (2 * (sz - at9) + 20)) ≤ (11 * (2 * (sz - at9) + 20)); omega)⟩ ⟨(by show (40 * n + 24 + 10) + 1 ≤ (40 * n + 40); omega), (by show 8 + (7 + 11) + (1300 * n + 600 + 30 * 10) ≤ (1300 * n + 1300); omega)⟩ (fun v3 u1 H locs hw2 hP hD hS => ?_) (fun ux ce9 q9 H9 locs9 hux hP9 hD9 hS9 hce hcv hcl => pb_out ux (ThQ.up (Thx.same (Thx.same (Thx.same (Thx.same Thx.rfl rfl) rfl) rfl) rfl) RhX.rfl hux) hnt hlocks hce hcv hcl hP9 hD9 hS9 (by show 0 + (2 * (sz - at9) + 20) ≤ (2 * (sz - at9) + 20); omega) (by show 0 + (11 * (2 * (sz - at9) + 20)) ≤ (11 * (2 * (sz - at9) + 20)); omega))
  obtain ⟨w, r6, K7, g8, at10, sg11, f12, k13⟩ := u1
  obtain ⟨hw2, h14, h15, h16, h17, h18, h19, hO⟩ := hw2
  have h14 : NwR K K7 g g8 r6 0 k13 ((5 * (20 - dp) + 4 + (sg11 - sg))) := h14
  have h15 : at9 ≤ rS k13 ∧ rS k13 + 1 ≤ rE k13 ∧ rE k13 ≤ at10 ∧ 1 ≤ rD k13 ∧ rD k13 ≤ 9 * (20 - dp) + (sg11 - sg) + 1 := h15
  have h16 : at9 + 1 ≤ at10 ∧ at10 ≤ sz := h16
  have h17 : sg ≤ sg11 ∧ sg11 ≤ 60 := h17
  have h18 : ¬ tkN ((B 7)) sz 67 (nI at9) = 37 := h18
  have h19 : NwT ((B 7)) sz ((B 10)) f12 K K7 at9 at10 := h19
  obtain rfl : v3 = some (.ref r6) := hw2
  have hO : OKP G h0 a (upd (upd (upd (upd F 2 (nI sz)) 9 (nI at10)) 10 (nI dp)) 11 (nI sg11)) R Z (updA B 10 f12) J K7 w := hO.to rfl
  refine W.widen (k := (2 * (at10 - at9) - 1)) (n := (11 * (2 * (at10 - at9) - 1))) (by show 0 + (2 * (at10 - at9) - 1) ≤ (2 * (at10 - at9) - 1); omega) (by show 0 + (11 * (2 * (at10 - at9) - 1)) ≤ (11 * (2 * (at10 - at9) - 1)); omega) ?_
  refine W.eq (g2 := F0 m 5 ls [.ref r6]) rfl ?_
  have htk20 : NwT (B 7) sz (B 10) f12 K K7 at9 at10 := (NwT.call htk0 h19 (by omega))
  have hns21 : NwS K K7 g g8 := NwS.call hns0 h14 (fun o9 h9 => absurd h9 (by omega))
  have hrk22 : g8 2 r6 = k13 := h14.2.2.1.2.2.2.2.2.1
  have hf23 : K7.1 r6 = 1 := h14.2.2.1.2.1
  have hsr := h14.2.2.1
  have hsr1 := hsr.2.2.1
  have hsr2 := hsr.2.2.2.1
  refine lv_astore_n (lv' := [(1, .ref r6), (0, .ref (a 3))]) hx hb dX8_expression_5 rfl hl (by decide) rfl (fun ls hl => ?_)
  refine lv_aload_n hx hb dX8_expression_6 rfl (lv_at hl 1 rfl) ?_
  refine lv_bipush (v := 41) hx hb dX8_expression_7 (by decide) ?_
  have hO : OKW G h0 a (upd (upd (upd (upd (upd (upd F 2 (nI sz)) 9 (nI at10)) 10 (nI dp)) 11 (nI sg11)) 2 (nI sz)) 9 (nI at10)) R Z (updA B 10 f12) J K7.1 (fun q99 x99 => x99 = rep G a K7 q99) w := hO.to rfl
  obtain ⟨_, qr27, hqr28⟩ := hO.2.1 23 _ (sg_23 G h0 a _ _ _ _ _)
  refine pc_V0 (G := G) (As := [.int 41]) (rest := []) hx hb hml hown hq hE hX pX0_al hP hD hS hA hl.1 (P_sees l G h0 a (upd (upd (upd (upd F 2 (nI sz)) 9 (nI at10)) 10 (nI dp)) 11 (nI sg11)) R Z (updA B 10 f12) J K7.1 (fun q99 x99 => x99 = rep G a K7 q99) w 41 at10 sz (by omega) (by omega) hO) (gV pw_803 pw_804 pw_805 pw_796 pw_775) hV_X8_sees qr27 5 hqr28 rfl rfl rfl (Nat.le_of_ble_eq_true rfl) dX8_expression_9 ⟨(by show (2 * (at10 - at9) - 1) + 0 ≤ (2 * (sz - at9) + 20); omega), (by show (11 * (2 * (at10 - at9) - 1)) + 0 ≤ (11 * (2 * (sz - at9) + 20)); omega)⟩ ⟨(by show 3 + 1 ≤ (40 * n + 40); omega), (by show 8 + (2 + 11) + 81 ≤ (1300 * n + 1300); omega)⟩ (fun v26 u24 H locs hw25 hP hD hS => ?_)
  obtain ⟨w, r29⟩ := u24
  obtain ⟨hw25, h30, h31, hO⟩ := hw25
  have h30 : r29 ≤ 1 := h30
  have h31 : SeQ ((B 7)) sz at10 41 r29 := h31
  obtain rfl : v26 = some (.int (nI r29)) := hw25
  have hO : OKP G h0 a (upd (upd (upd (upd F 2 (nI sz)) 9 (nI at10)) 10 (nI dp)) 11 (nI sg11)) R Z (updA B 10 f12) J K7 w := hO.to rfl
  refine W.widen (k := (2 * (at10 - at9) - 1)) (n := (11 * (2 * (at10 - at9) - 1))) (by show (2 * (at10 - at9) - 1) + 0 ≤ (2 * (at10 - at9) - 1); omega) (by show (11 * (2 * (at10 - at9) - 1)) + 0 ≤ (11 * (2 * (at10 - at9) - 1)); omega) ?_
  refine W.eq (g2 := F0 m 12 ls [.int (nI r29)]) rfl ?_
  refine lv_if_ne (tgt := 17) hx hb dX8_expression_12 (by decide) (fun c32 => ?_) (fun c32 => ?_)
  · have n33 : ¬ (r29 = 0) := fun h9 => c32 ((nI_eq (a := r29) (b := 0) (by omega) (by omega)).mpr h9)
    refine lv_aload_n hx hb dX8_expression_17 rfl (lv_at hl 1 rfl) ?_
    have hO : OKW G h0 a (upd (upd (upd (upd (upd (upd (upd (upd (upd F 2 (nI sz)) 9 (nI at9)) 10 (nI dp)) 11 (nI sg)) 9 (nI at10)) 11 (nI sg11)) 2 (nI sz)) 9 (nI at10)) 10 (nI dp)) R Z (updA B 10 f12) J K7.1 (fun q99 x99 => x99 = rep G a K7 q99) w := hO.to rfl
    obtain ⟨_, qr37, hqr38⟩ := hO.2.1 23 _ (sg_23 G h0 a _ _ _ _ _)
    refine pn_V0 (G := G) (As := []) (rest := []) hx hb hml hown hq hE hX pX0_al hP hD hS hA hl.1 (P_enter l G h0 a (upd (upd (upd (upd (upd (upd F 2 (nI sz)) 9 (nI at9)) 10 (nI dp)) 11 (nI sg)) 9 (nI at10)) 11 (nI sg11)) R Z (updA B 10 f12) J K7.1 (fun q99 x99 => x99 = rep G a K7 q99) w dp at10 sz (by omega) (by omega) (by omega) hO hl0) (gV pw_947 pw_948 pw_949 pw_796 pw_905) hV_X8_enter qr37 5 hqr38 rfl rfl rfl (Nat.le_of_ble_eq_true rfl) dX8_expression_18 ⟨(by show (2 * (at10 - at9) - 1) + 1 ≤ (2 * (sz - at9) + 20); omega), (by show (11 * (2 * (at10 - at9) - 1)) + 6 ≤ (11 * (2 * (sz - at9) + 20)); omega)⟩ ⟨(by show 7 + 1 ≤ (40 * n + 40); omega), (by show 8 + (1 + 11) + 122 ≤ (1300 * n + 1300); omega)⟩ (fun v36 u34 H locs hw35 hP hD hS => ?_) (fun ux ce9 q9 H9 locs9 hux hP9 hD9 hS9 hce hcv hcl => pb_out ux (ThQ.up (Thx.same (Thx.same (Thx.same (Thx.b (Thx.f (Thx.f Thx.rfl (by omega)) (by omega)) (by omega) (by decide)) rfl) rfl) rfl) RhX.rfl hux) hnt hlocks hce hcv hcl hP9 hD9 hS9 (by show (2 * (at10 - at9) - 1) + 1 ≤ (2 * (sz - at9) + 20); omega) (by show (11 * (2 * (at10 - at9) - 1)) + 6 ≤ (11 * (2 * (sz - at9) + 20)); omega))
    obtain ⟨w, _⟩ := u34
    obtain ⟨hw35, h39, hO⟩ := hw35
    have h39 : dp + 1 ≤ 20 := h39
    obtain rfl : v36 = none := hw35
    have hO : OKP G h0 a (upd (upd (upd (upd F 2 (nI sz)) 9 (nI at10)) 10 (nI (dp + 1))) 11 (nI sg11)) R Z (updA B 10 f12) J K7 w := hO.to rfl
    refine W.widen (k := (2 * (at10 - at9) - 1)) (n := (11 * (2 * (at10 - at9) - 1))) (by show (2 * (at10 - at9) - 1) + 0 ≤ (2 * (at10 - at9) - 1); omega) (by show (11 * (2 * (at10 - at9) - 1)) + 0 ≤ (11 * (2 * (at10 - at9) - 1)); omega) ?_
    refine W.eq (g2 := F0 m 21 ls []) rfl ?_
    refine p_new (s9 := 1) (C := RX7) (T := TX7) (N := 11) (ci := 13) (fs := [.int 0, .int 0, .int 0, .int 0, .int 0, .int 0, .null, .null, .null, .null, .null]) hx hb hq pin_wsX70 tyX7 tyX7_ok hown (hq _ pw_870) (hq _ pw_871) (hq _ pw_872) hE hP hD hS hA hO rfl nw_X7 (by decide) (fun q => by rw [rep_1 (show (kN K7 q 1 0).1 q = 1 from if_pos rfl)]; unfold fsNode kN; simp only [if_true]; rfl) (by show (2 * (at10 - at9) - 1) + 1 ≤ (2 * (sz - at9) + 20); omega) (by show (11 * (2 * (at10 - at9) - 1)) + 11 ≤ (11 * (2 * (sz - at9) + 20)); omega) dX8_expression_21 (fun q40 H w hq41 hP hD hS hO => ?_)
    have hf42 : (kN K7 q40 1 0).1 r6 = 1 := (if_neg (fun z => by have z2 := hf23; rw [z, hq41] at z2; exact absurd z2 (by decide))).trans hf23
    have hf43 : (kN K7 q40 1 0).1 q40 = 1 := if_pos rfl
    refine W.widen (k := ((2 * (at10 - at9) - 1) + 1)) (n := ((11 * (2 * (at10 - at9) - 1)) + 11)) (by show (2 * (at10 - at9) - 1) + 1 ≤ ((2 * (at10 - at9) - 1) + 1); omega) (by show (11 * (2 * (at10 - at9) - 1)) + 11 ≤ ((11 * (2 * (at10 - at9) - 1)) + 11); omega) ?_
    refine lv_dup hx hb dX8_expression_24 rfl ?_
    refine lv_bipush (v := 20) hx hb dX8_expression_25 (by decide) ?_
    refine lv_aload_n hx hb dX8_expression_27 rfl (lv_at hl 1 rfl) ?_
    refine lv_bipush (v := 41) hx hb dX8_expression_28 (by decide) ?_
    have hO : OKW G h0 a (upd (upd (upd (upd (upd (upd (upd (upd (upd F 2 (nI sz)) 9 (nI at9)) 10 (nI dp)) 11 (nI sg)) 9 (nI at10)) 10 (nI (dp + 1))) 11 (nI sg11)) 2 (nI sz)) 9 (nI at10)) R Z (updA B 10 f12) J ((kN K7 q40 1 0).1) (fun q99 x99 => x99 = rep G a (kN K7 q40 1 0) q99) w := hO.to rfl
    obtain ⟨_, qr47, hqr48⟩ := hO.2.1 23 _ (sg_23 G h0 a _ _ _ _ _)
    refine pn_V0 (G := G) (As := [.int 41]) (rest := [.int 20, .ref q40, .ref q40]) hx hb hml hown hq hE hX pX0_al hP hD hS hA hl.1 (P_take l G h0 a (upd (upd (upd (upd (upd (upd (upd F 2 (nI sz)) 9 (nI at9)) 10 (nI dp)) 11 (nI sg)) 9 (nI at10)) 10 (nI (dp + 1))) 11 (nI sg11)) R Z (updA B 10 f12) J ((kN K7 q40 1 0).1) (fun q99 x99 => x99 = rep G a (kN K7 q40 1 0) q99) w 41 at10 sz (by omega) (by omega) (by decide) hO hl0) (gV pw_793 pw_794 pw_795 pw_796 pw_781) hV_X8_take qr47 5 hqr48 rfl rfl rfl (Nat.le_of_ble_eq_true rfl) dX8_expression_30 ⟨(by show ((2 * (at10 - at9) - 1) + 1) + 1 ≤ (2 * (sz - at9) + 20); omega), (by show ((11 * (2 * (at10 - at9) - 1)) + 11) + 6 ≤ (11 * (2 * (sz - at9) + 20)); omega)⟩ ⟨(by show 7 + 1 ≤ (40 * n + 40); omega), (by show 8 + (2 + 11) + 122 ≤ (1300 * n + 1300); omega)⟩ (fun v46 u44 H locs hw45 hP hD hS => ?_) (fun ux ce9 q9 H9 locs9 hux hP9 hD9 hS9 hce hcv hcl => pb_out ux (ThQ.up (Thx.same (Thx.same (Thx.b (Thx.f (Thx.f (Thx.f Thx.rfl (by omega)) (by omega)) (by omega)) (by omega) (by decide)) rfl) rfl) RhX.rfl hux) hnt hlocks hce hcv hcl hP9 hD9 hS9 (by show ((2 * (at10 - at9) - 1) + 1) + 1 ≤ (2 * (sz - at9) + 20); omega) (by show ((11 * (2 * (at10 - at9) - 1)) + 11) + 6 ≤ (11 * (2 * (sz - at9) + 20)); omega))
    obtain ⟨w, _⟩ := u44
    obtain ⟨hw45, h49, h50, hO⟩ := hw45
    have h49 : at10 + 1 ≤ sz := h49
    have h50 : tkN ((B 7)) sz 67 (nI at10) = 41 := h50
    obtain rfl : v46 = some (.int (nI at10)) := hw45
    have hO : OKP G h0 a (upd (upd (upd (upd F 2 (nI sz)) 9 (nI (at10 + 1))) 10 (nI (dp + 1))) 11 (nI sg11)) R Z (updA B 10 f12) J (kN K7 q40 1 0) w := hO.to rfl
    refine W.widen (k := ((2 * (at10 - at9) - 1) + 1)) (n := ((11 * (2 * (at10 - at9) - 1)) + 11)) (by show ((2 * (at10 - at9) - 1) + 1) + 0 ≤ ((2 * (at10 - at9) - 1) + 1); omega) (by show ((11 * (2 * (at10 - at9) - 1)) + 11) + 0 ≤ ((11 * (2 * (at10 - at9) - 1)) + 11); omega) ?_
    refine W.eq (g2 := F0 m 33 ls [.int (nI at10), .int 20, .ref q40, .ref q40]) rfl ?_
    refine lv_aload_n hx hb dX8_expression_33 rfl (lv_at hl 0 rfl) ?_
    refine p_get (v := .int ((kN K7 q40 1 0).2.1 2 r6)) (C := RX7) (Tc := TX7) (N := 11) (ci := 13) hx hb hq pin_wsX70 hown hE hP hO (by rw [hf42]; decide) (rep_1 hf42) rfl 2 (by decide) (hq _ pw_937) (fun _ h9 => h9) rfl dX8_expression_34 ?_
    have hO : OKP G h0 a (upd (upd (upd (upd F 2 (nI sz)) 9 (nI (at10 + 1))) 10 (nI (dp + 1))) 11 (nI sg11)) R Z (updA B 10 f12) J (kN K7 q40 1 0) w := hO.to rfl
    obtain ⟨qr54, hqr55⟩ := p_recv hO (by rw [hf43]; decide) (rep_1 hf43)
    refine pc_I0 (G := G) (As := [.int 20, .int (nI at10), .int ((kN K7 q40 1 0).2.1 2 r6)]) (rest := [.ref q40]) hx hb hml hown hq hE hX pX0_al hP hD hS hA hl.1 (N_init l G h0 a (upd (upd (upd (upd F 2 (nI sz)) 9 (nI (at10 + 1))) 10 (nI (dp + 1))) 11 (nI sg11)) R Z (updA B 10 f12) J (kN K7 q40 1 0) w q40 20 (nI at10) ((kN K7 q40 1 0).2.1 2 r6) (by omega) hO) pw_874 pw_875 pw_872 pw_765 rfl hS_X7_init rfl (Nat.le_of_ble_eq_true rfl) dX8_expression_37 ⟨(by show ((2 * (at10 - at9) - 1) + 1) + 0 ≤ (2 * (sz - at9) + 20); omega), (by show ((11 * (2 * (at10 - at9) - 1)) + 11) + 0 ≤ (11 * (2 * (sz - at9) + 20)); omega)⟩ ⟨(by show 2 + 1 ≤ (40 * n + 40); omega), (by show 8 + (4 + 11) + 60 ≤ (1300 * n + 1300); omega)⟩ (fun v53 u51 H locs hw52 hP hD hS => ?_)
    obtain ⟨w, _⟩ := u51
    obtain ⟨hw52, hO⟩ := hw52
    obtain rfl : v53 = none := hw52
    have hf56 : (kI (kI (kI (kN K7 q40 1 0) 0 q40 20) 1 q40 (nI at10)) 2 q40 ((kN K7 q40 1 0).2.1 2 r6)).1 r6 = 1 := hf42
    have hf57 : (kI (kI (kI (kN K7 q40 1 0) 0 q40 20) 1 q40 (nI at10)) 2 q40 ((kN K7 q40 1 0).2.1 2 r6)).1 q40 = 1 := hf43
    have hO : OKP G h0 a (upd (upd (upd (upd F 2 (nI sz)) 9 (nI (at10 + 1))) 10 (nI (dp + 1))) 11 (nI sg11)) R Z (updA B 10 f12) J (kI (kI (kI (kN K7 q40 1 0) 0 q40 20) 1 q40 (nI at10)) 2 q40 ((kN K7 q40 1 0).2.1 2 r6)) w := hO.to rfl
    refine W.widen (k := ((2 * (at10 - at9) - 1) + 1)) (n := ((11 * (2 * (at10 - at9) - 1)) + 11)) (by show ((2 * (at10 - at9) - 1) + 1) + 0 ≤ ((2 * (at10 - at9) - 1) + 1); omega) (by show ((11 * (2 * (at10 - at9) - 1)) + 11) + 0 ≤ ((11 * (2 * (at10 - at9) - 1)) + 11); omega) ?_
    refine W.eq (g2 := F0 m 40 ls [.ref q40]) rfl ?_
    change OKP G h0 a (upd (upd (upd (upd F 2 (nI sz)) 9 (nI (at10 + 1))) 10 (nI (dp + 1))) 11 (nI sg11)) R Z (updA B 10 f12) J (mkN K7 q40 20 (nI at10) ((kN K7 q40 1 0).2.1 2 r6)) w at hO
    obtain ⟨K58, hK59⟩ : ∃ z : PK, z = (mkN K7 q40 20 (nI at10) ((kN K7 q40 1 0).2.1 2 r6)) := ⟨_, rfl⟩
    rw [← hK59] at hO
    have htk60 : NwT (B 7) sz (B 10) f12 K K58 at9 (at10 + 1) := by rw [hK59]; exact NwT.new (NwT.le htk20 (show _ ≤ (at10 + 1) by omega)) hq41 (TkP.no (by decide))
    have hf61 : K58.1 q40 = 1 := by rw [hK59]; exact mkN_T
    have hf62 : K58.2.1 0 q40 = 20 := by rw [hK59]; exact mkN_0
    have hf63 : K58.2.1 2 q40 = ((kN K7 q40 1 0).2.1 2 r6) := by rw [hK59]; exact mkN_2
    have hf64 : K58.2.2.1 0 q40 = none := by rw [hK59]; exact mkN_C
    have hf65 : K58.2.2.1 1 q40 = none := by rw [hK59]; exact mkN_C
    have hf66 : K58.2.2.1 2 q40 = none := by rw [hK59]; exact mkN_C
    have hf67 : K58.2.2.1 3 q40 = none := by rw [hK59]; exact mkN_C
    have hf68 : K58.2.2.1 4 q40 = none := by rw [hK59]; exact mkN_C
    have hf69 : K58.1 r6 = 1 := by rw [hK59]; exact ((mkN_ext hq41 r6 (by rw [hf23]; decide)).1).trans hf23
    have hns70 : NwS K K58 g (gset g8 q40 0 0 0) := by rw [hK59]; exact NwS.node hns21 hq41
    have hq71 : K.1 q40 = 0 := old_T hns21.2.1 hq41
    have hg72 : (gset g8 q40 0 0 0) 0 q40 = 0 := gset_0
    have hno73 : NoO K58 (gset g8 q40 0 0 0) q40 := by rw [hK59]; exact NoO.new hns21.1 hq41
    have hxq74 : ¬ r6 = q40 := fun z => by have z2 := hf23; rw [z, hq41] at z2; exact absurd z2 (by decide)
    have hrk75 : (gset g8 q40 0 0 0) 2 r6 = k13 := (gset_ne hxq74).trans hrk22
    have hxq : ¬ r6 = q40 := fun z => by have z2 := hf23; rw [z, hq41] at z2; exact absurd z2 (by decide)
    have hg8 : (gset g8 q40 0 0 0) 0 r6 = g8 0 r6 := gset_ne hxq
    refine lv_astore_n (lv' := [(2, .ref q40), (1, .ref r6), (0, .ref (a 3))]) hx hb dX8_expression_40 rfl hl (by decide) rfl (fun ls hl => ?_)
    refine lv_aload_n hx hb dX8_expression_41 rfl (lv_at hl 0 rfl) ?_
    refine lv_aload_n hx hb dX8_expression_42 rfl (lv_at hl 1 rfl) ?_
    refine p_put (v := .ref r6) (ty := (.object "JinjaTongue$Node")) (C := RX7) (Tc := TX7) (N := 11) (ci := 13) (K' := (kC K58 0 q40 (some r6))) hx hb hq pin_wsX70 tyX7 tyX7_ok nmX7 hown hE hP hD hS hO (by rw [hf61]; decide) (rep_1 hf61) rfl 6 (by decide) (hq _ pw_938) (fun _ h9 => h9) rfl (by decide +kernel) rfl rfl (Nat.le_of_ble_eq_true rfl) rfl (by rw [rep_1 (show (kC K58 0 q40 (some r6)).1 q40 = 1 from hf61), pc_0] <;> rfl) (fun p9 hp9 => rep_kC hp9) dX8_expression_43 (fun H locs w hP hD hS hO => ?_)
    obtain ⟨K76, hK77⟩ : ∃ z : PK, z = (kC K58 0 q40 (some r6)) := ⟨_, rfl⟩
    rw [← hK77] at hO
    have hf78 : K76.1 q40 = 1 := (by rw [hK77]; exact hf61)
    have hf79 : K76.2.1 0 q40 = 20 := (by rw [hK77]; exact hf62)
    have hf80 : K76.2.1 2 q40 = ((kN K7 q40 1 0).2.1 2 r6) := (by rw [hK77]; exact hf63)
    have hf81 : K76.2.2.1 1 q40 = none := (by rw [hK77]; exact (kC_of (by decide)).trans hf65)
    have hf82 : K76.2.2.1 2 q40 = none := (by rw [hK77]; exact (kC_of (by decide)).trans hf66)
    have hf83 : K76.2.2.1 3 q40 = none := (by rw [hK77]; exact (kC_of (by decide)).trans hf67)
    have hf84 : K76.2.2.1 4 q40 = none := (by rw [hK77]; exact (kC_of (by decide)).trans hf68)
    have hf85 : K76.1 r6 = 1 := (by rw [hK77]; exact hf69)
    have hf86 : K76.2.2.1 0 q40 = some r6 := by rw [hK77]; exact kC_eq
    have htk87 : NwT (B 7) sz (B 10) f12 K K76 at9 (at10 + 1) := by rw [hK77]; exact NwT.put htk60
    have hns88 : NwS K K76 g (gset g8 q40 0 0 0) := by rw [hK77]; exact NwS.put hns70 hq71 hg72
    have hno89 : NoO K76 (gset g8 q40 0 0 0) q40 := by rw [hK77]; exact hno73
    refine lv_aload_n hx hb dX8_expression_46 rfl (lv_at hl 0 rfl) ?_
    refine lv_aload_n hx hb dX8_expression_47 rfl (lv_at hl 2 rfl) ?_
    have hO : OKP G h0 a (upd (upd (upd (upd (upd (upd (upd (upd (upd (upd (upd F 2 (nI sz)) 9 (nI at9)) 10 (nI dp)) 11 (nI sg)) 9 (nI (at10 + 1))) 10 (nI (dp + 1))) 11 (nI sg11)) 2 (nI sz)) 9 (nI (at10 + 1))) 10 (nI (dp + 1))) 11 (nI sg11)) R Z (updA B 10 f12) J K76 w := hO.to rfl
    obtain ⟨_, qr93, hqr94⟩ := hO.2.1 23 _ (sg_23 G h0 a _ _ _ _ _)
    refine pn_V0 (G := G) (As := []) (rest := [.ref q40]) hx hb hml hown hq hE hX pX0_al hP hD hS hA hl.1 ((ihe (by omega)) h0 a (upd (upd (upd (upd (upd (upd (upd F 2 (nI sz)) 9 (nI at9)) 10 (nI dp)) 11 (nI sg)) 9 (nI (at10 + 1))) 10 (nI (dp + 1))) 11 (nI sg11)) R Z (updA B 10 f12) J K76 w (at10 + 1) sz (dp + 1) sg11 0 (gset g8 q40 0 0 0) (by omega) (by omega) (by omega) (by omega) hns88.1 (fun o9 h9 => absurd h9 (by omega)) hO hl0) (gV pw_916 pw_917 pw_918 pw_796 pw_942) hV_X8_expression qr93 5 hqr94 rfl rfl rfl (Nat.le_of_ble_eq_true rfl) dX8_expression_48 ⟨(by show ((2 * (at10 - at9) - 1) + 1) + (2 * (sz - (at10 + 1)) + 20) ≤ (2 * (sz - at9) + 20); omega), (by show ((11 * (2 * (at10 - at9) - 1)) + 11) + (11 * (2 * (sz - (at10 + 1)) + 20)) ≤ (11 * (2 * (sz - at9) + 20)); omega)⟩ ⟨(by show (40 * (n - 1) + 40) + 1 ≤ (40 * n + 40); omega), (by show 8 + (3 + 11) + (1300 * (n - 1) + 1300) ≤ (1300 * n + 1300); omega)⟩ (fun v92 u90 H locs hw91 hP hD hS => ?_) (fun ux ce9 q9 H9 locs9 hux hP9 hD9 hS9 hce hcv hcl => pb_out ux (ThQ.up (Thx.same (Thx.same (Thx.same (Thx.same (Thx.b (Thx.f (Thx.f (Thx.f Thx.rfl (by omega)) (by omega)) (by omega)) (by omega) (by decide)) rfl) rfl) rfl) rfl) RhX.rfl hux) hnt hlocks hce hcv hcl hP9 hD9 hS9 (by show ((2 * (at10 - at9) - 1) + 1) + (2 * (sz - (at10 + 1)) + 20) ≤ (2 * (sz - at9) + 20); omega) (by show ((11 * (2 * (at10 - at9) - 1)) + 11) + (11 * (2 * (sz - (at10 + 1)) + 20)) ≤ (11 * (2 * (sz - at9) + 20)); omega))
    obtain ⟨w, r95, K96, g97, at98, sg99, f100, k101⟩ := u90
    obtain ⟨hw91, h102, h103, h104, h105, h106, h107, hO⟩ := hw91
    have h102 : NwR K76 K96 (gset g8 q40 0 0 0) g97 r95 0 k101 (5 * (20 - (dp + 1)) + 6 + (sg99 - sg11)) := h102
    have h103 : (at10 + 1) ≤ rS k101 ∧ rS k101 + 1 ≤ rE k101 ∧ rE k101 ≤ at98 ∧ 1 ≤ rD k101 ∧ rD k101 ≤ 9 * (20 - (dp + 1)) + (sg99 - sg11) + 1 := h103
    have h104 : (at10 + 1) + 1 ≤ at98 ∧ at98 ≤ sz := h104
    have h105 : sg11 ≤ sg99 ∧ sg99 ≤ 60 := h105
    have h106 : ¬ tkN ((B 7)) sz 67 (nI (at10 + 1)) = 37 := h106
    have h107 : NwT ((B 7)) sz (f12) f100 K76 K96 (at10 + 1) at98 := h107
    obtain rfl : v92 = some (.ref r95) := hw91
    have hf108 : K96.1 q40 = 1 := (((h102).2.1.1 q40 (by rw [hf78]; decide)).1).trans hf78
    have hf109 : K96.2.1 0 q40 = 20 := (((h102).2.1.1 q40 (by rw [hf78]; decide)).2.1 0).trans hf79
    have hf110 : K96.2.1 2 q40 = ((kN K7 q40 1 0).2.1 2 r6) := (((h102).2.1.1 q40 (by rw [hf78]; decide)).2.1 2).trans hf80
    have hf111 : K96.2.2.1 1 q40 = none := (((h102).2.1.1 q40 (by rw [hf78]; decide)).2.2.1 1).trans hf81
    have hf112 : K96.2.2.1 2 q40 = none := (((h102).2.1.1 q40 (by rw [hf78]; decide)).2.2.1 2).trans hf82
    have hf113 : K96.2.2.1 3 q40 = none := (((h102).2.1.1 q40 (by rw [hf78]; decide)).2.2.1 3).trans hf83
    have hf114 : K96.2.2.1 4 q40 = none := (((h102).2.1.1 q40 (by rw [hf78]; decide)).2.2.1 4).trans hf84
    have hf115 : K96.1 r6 = 1 := (((h102).2.1.1 r6 (by rw [hf85]; decide)).1).trans hf85
    have hf116 : K96.2.2.1 0 q40 = some r6 := (((h102).2.1.1 q40 (by rw [hf78]; decide)).2.2.1 0).trans hf86
    have hO : OKP G h0 a (upd (upd (upd (upd F 2 (nI sz)) 9 (nI at98)) 10 (nI (dp + 1))) 11 (nI sg99)) R Z (updA B 10 f100) J K96 w := hO.to rfl
    refine W.widen (k := (((2 * (at10 - at9) - 1) + 1) + (2 * (at98 - (at10 + 1)) - 1))) (n := (((11 * (2 * (at10 - at9) - 1)) + 11) + (11 * (2 * (at98 - (at10 + 1)) - 1)))) (by show ((2 * (at10 - at9) - 1) + 1) + (2 * (at98 - (at10 + 1)) - 1) ≤ (((2 * (at10 - at9) - 1) + 1) + (2 * (at98 - (at10 + 1)) - 1)); omega) (by show ((11 * (2 * (at10 - at9) - 1)) + 11) + (11 * (2 * (at98 - (at10 + 1)) - 1)) ≤ (((11 * (2 * (at10 - at9) - 1)) + 11) + (11 * (2 * (at98 - (at10 + 1)) - 1))); omega) ?_
    refine W.eq (g2 := F0 m 51 ls [.ref r95, .ref q40]) rfl ?_
    have htk117 : NwT (B 7) sz (B 10) f100 K K96 at9 at98 := (NwT.call htk87 h107 (by omega))
    have hns118 : NwS K K96 g g97 := NwS.call hns88 h102 (fun o9 h9 => absurd h9 (by omega))
    have hrk119 : g97 2 r6 = k13 := (h102.2.1.2 r6 (by rw [hf85]; decide) 2).trans hrk75
    have hrk120 : g97 2 r95 = k101 := h102.2.2.1.2.2.2.2.2.1
    have hf121 : K96.1 r95 = 1 := h102.2.2.1.2.1
    have hg122 : g97 0 q40 = 0 := (h102.2.1.2 q40 (by rw [hf78]; decide) 0).trans hg72
    have hno123 : NoO K96 g97 q40 := NoO.call hno89 h102 hf78 (by omega)
    have hgz124 : g97 0 r6 = (gset g8 q40 0 0 0) 0 r6 := h102.2.1.2 r6 (by rw [hf85]; decide) 0
    have hgy125 := h102.2.2.1
    have hgy125a := hgy125.2.2.1
    have hgy125b := hgy125.2.2.2.1
    refine p_put (v := .ref r95) (ty := (.object "JinjaTongue$Node")) (C := RX7) (Tc := TX7) (N := 11) (ci := 13) (K' := (kC K96 1 q40 (some r95))) hx hb hq pin_wsX70 tyX7 tyX7_ok nmX7 hown hE hP hD hS hO (by rw [hf108]; decide) (rep_1 hf108) rfl 7 (by decide) (hq _ pw_910) (fun _ h9 => h9) rfl (by decide +kernel) rfl rfl (Nat.le_of_ble_eq_true rfl) rfl (by rw [rep_1 (show (kC K96 1 q40 (some r95)).1 q40 = 1 from hf108), pc_1] <;> rfl) (fun p9 hp9 => rep_kC hp9) dX8_expression_51 (fun H locs w hP hD hS hO => ?_)
    obtain ⟨K126, hK127⟩ : ∃ z : PK, z = (kC K96 1 q40 (some r95)) := ⟨_, rfl⟩
    rw [← hK127] at hO
    have hf128 : K126.1 q40 = 1 := (by rw [hK127]; exact hf108)
    have hf129 : K126.2.1 0 q40 = 20 := (by rw [hK127]; exact hf109)
    have hf130 : K126.2.1 2 q40 = ((kN K7 q40 1 0).2.1 2 r6) := (by rw [hK127]; exact hf110)
    have hf131 : K126.2.2.1 2 q40 = none := (by rw [hK127]; exact (kC_of (by decide)).trans hf112)
    have hf132 : K126.2.2.1 3 q40 = none := (by rw [hK127]; exact (kC_of (by decide)).trans hf113)
    have hf133 : K126.2.2.1 4 q40 = none := (by rw [hK127]; exact (kC_of (by decide)).trans hf114)
    have hf134 : K126.1 r6 = 1 := (by rw [hK127]; exact hf115)
    have hf135 : K126.2.2.1 0 q40 = some r6 := (by rw [hK127]; exact (kC_of (by decide)).trans hf116)
    have hf136 : K126.1 r95 = 1 := (by rw [hK127]; exact hf121)
    have hf137 : K126.2.2.1 1 q40 = some r95 := by rw [hK127]; exact kC_eq
    have htk138 : NwT (B 7) sz (B 10) f100 K K126 at9 at98 := by rw [hK127]; exact NwT.put htk117
    have hns139 : NwS K K126 g g97 := by rw [hK127]; exact NwS.put hns118 hq71 hg122
    have hno140 : NoO K126 g97 q40 := by rw [hK127]; exact hno123
    refine lv_aload_n hx hb dX8_expression_54 rfl (lv_at hl 2 rfl) ?_
    refine lv_bipush (v := 42) hx hb dX8_expression_55 (by decide) ?_
    have hO : OKW G h0 a (upd (upd (upd (upd (upd (upd (upd (upd (upd F 2 (nI sz)) 9 (nI at9)) 10 (nI dp)) 11 (nI sg)) 9 (nI at98)) 10 (nI (dp + 1))) 11 (nI sg99)) 2 (nI sz)) 9 (nI at98)) R Z (updA B 10 f100) J K126.1 (fun q99 x99 => x99 = rep G a K126 q99) w := hO.to rfl
    obtain ⟨_, qr144, hqr145⟩ := hO.2.1 23 _ (sg_23 G h0 a _ _ _ _ _)
    refine pn_V0 (G := G) (As := [.int 42]) (rest := []) hx hb hml hown hq hE hX pX0_al hP hD hS hA hl.1 (P_take l G h0 a (upd (upd (upd (upd (upd (upd (upd F 2 (nI sz)) 9 (nI at9)) 10 (nI dp)) 11 (nI sg)) 9 (nI at98)) 10 (nI (dp + 1))) 11 (nI sg99)) R Z (updA B 10 f100) J K126.1 (fun q99 x99 => x99 = rep G a K126 q99) w 42 at98 sz (by omega) (by omega) (by decide) hO hl0) (gV pw_793 pw_794 pw_795 pw_796 pw_781) hV_X8_take qr144 5 hqr145 rfl rfl rfl (Nat.le_of_ble_eq_true rfl) dX8_expression_57 ⟨(by show (((2 * (at10 - at9) - 1) + 1) + (2 * (at98 - (at10 + 1)) - 1)) + 1 ≤ (2 * (sz - at9) + 20); omega), (by show (((11 * (2 * (at10 - at9) - 1)) + 11) + (11 * (2 * (at98 - (at10 + 1)) - 1))) + 6 ≤ (11 * (2 * (sz - at9) + 20)); omega)⟩ ⟨(by show 7 + 1 ≤ (40 * n + 40); omega), (by show 8 + (2 + 11) + 122 ≤ (1300 * n + 1300); omega)⟩ (fun v143 u141 H locs hw142 hP hD hS => ?_) (fun ux ce9 q9 H9 locs9 hux hP9 hD9 hS9 hce hcv hcl => pb_out ux (ThQ.up (Thx.same (Thx.same (Thx.b (Thx.f (Thx.f (Thx.f Thx.rfl (by omega)) (by omega)) (by omega)) (by omega) (by decide)) rfl) rfl) RhX.rfl hux) hnt hlocks hce hcv hcl hP9 hD9 hS9 (by show (((2 * (at10 - at9) - 1) + 1) + (2 * (at98 - (at10 + 1)) - 1)) + 1 ≤ (2 * (sz - at9) + 20); omega) (by show (((11 * (2 * (at10 - at9) - 1)) + 11) + (11 * (2 * (at98 - (at10 + 1)) - 1))) + 6 ≤ (11 * (2 * (sz - at9) + 20)); omega))
    obtain ⟨w, _⟩ := u141
    obtain ⟨hw142, h146, h147, hO⟩ := hw142
    have h146 : at98 + 1 ≤ sz := h146
    have h147 : tkN ((B 7)) sz 67 (nI at98) = 42 := h147
    obtain rfl : v143 = some (.int (nI at98)) := hw142
    have hO : OKP G h0 a (upd (upd (upd (upd F 2 (nI sz)) 9 (nI (at98 + 1))) 10 (nI (dp + 1))) 11 (nI sg99)) R Z (updA B 10 f100) J K126 w := hO.to rfl
    refine W.widen (k := (((2 * (at10 - at9) - 1) + 1) + (2 * (at98 - (at10 + 1)) - 1))) (n := (((11 * (2 * (at10 - at9) - 1)) + 11) + (11 * (2 * (at98 - (at10 + 1)) - 1)))) (by show (((2 * (at10 - at9) - 1) + 1) + (2 * (at98 - (at10 + 1)) - 1)) + 0 ≤ (((2 * (at10 - at9) - 1) + 1) + (2 * (at98 - (at10 + 1)) - 1)); omega) (by show (((11 * (2 * (at10 - at9) - 1)) + 11) + (11 * (2 * (at98 - (at10 + 1)) - 1))) + 0 ≤ (((11 * (2 * (at10 - at9) - 1)) + 11) + (11 * (2 * (at98 - (at10 + 1)) - 1))); omega) ?_
    refine W.eq (g2 := F0 m 60 ls [.int (nI at98)]) rfl ?_
    refine lv_pop hx hb dX8_expression_60 rfl ?_
    refine lv_aload_n hx hb dX8_expression_61 rfl (lv_at hl 0 rfl) ?_
    refine lv_aload_n hx hb dX8_expression_62 rfl (lv_at hl 2 rfl) ?_
    have hO : OKP G h0 a (upd (upd (upd (upd (upd (upd (upd (upd (upd (upd (upd F 2 (nI sz)) 9 (nI at9)) 10 (nI dp)) 11 (nI sg)) 9 (nI (at98 + 1))) 10 (nI (dp + 1))) 11 (nI sg99)) 2 (nI sz)) 9 (nI (at98 + 1))) 10 (nI (dp + 1))) 11 (nI sg99)) R Z (updA B 10 f100) J K126 w := hO.to rfl
    obtain ⟨_, qr151, hqr152⟩ := hO.2.1 23 _ (sg_23 G h0 a _ _ _ _ _)
    refine pn_V0 (G := G) (As := []) (rest := [.ref q40]) hx hb hml hown hq hE hX pX0_al hP hD hS hA hl.1 ((ihe (by omega)) h0 a (upd (upd (upd (upd (upd (upd (upd F 2 (nI sz)) 9 (nI at9)) 10 (nI dp)) 11 (nI sg)) 9 (nI (at98 + 1))) 10 (nI (dp + 1))) 11 (nI sg99)) R Z (updA B 10 f100) J K126 w (at98 + 1) sz (dp + 1) sg99 0 g97 (by omega) (by omega) (by omega) (by omega) hns139.1 (fun o9 h9 => absurd h9 (by omega)) hO hl0) (gV pw_916 pw_917 pw_918 pw_796 pw_942) hV_X8_expression qr151 5 hqr152 rfl rfl rfl (Nat.le_of_ble_eq_true rfl) dX8_expression_63 ⟨(by show (((2 * (at10 - at9) - 1) + 1) + (2 * (at98 - (at10 + 1)) - 1)) + (2 * (sz - (at98 + 1)) + 20) ≤ (2 * (sz - at9) + 20); omega), (by show (((11 * (2 * (at10 - at9) - 1)) + 11) + (11 * (2 * (at98 - (at10 + 1)) - 1))) + (11 * (2 * (sz - (at98 + 1)) + 20)) ≤ (11 * (2 * (sz - at9) + 20)); omega)⟩ ⟨(by show (40 * (n - 1) + 40) + 1 ≤ (40 * n + 40); omega), (by show 8 + (3 + 11) + (1300 * (n - 1) + 1300) ≤ (1300 * n + 1300); omega)⟩ (fun v150 u148 H locs hw149 hP hD hS => ?_) (fun ux ce9 q9 H9 locs9 hux hP9 hD9 hS9 hce hcv hcl => pb_out ux (ThQ.up (Thx.same (Thx.same (Thx.same (Thx.same (Thx.b (Thx.f (Thx.f (Thx.f Thx.rfl (by omega)) (by omega)) (by omega)) (by omega) (by decide)) rfl) rfl) rfl) rfl) RhX.rfl hux) hnt hlocks hce hcv hcl hP9 hD9 hS9 (by show (((2 * (at10 - at9) - 1) + 1) + (2 * (at98 - (at10 + 1)) - 1)) + (2 * (sz - (at98 + 1)) + 20) ≤ (2 * (sz - at9) + 20); omega) (by show (((11 * (2 * (at10 - at9) - 1)) + 11) + (11 * (2 * (at98 - (at10 + 1)) - 1))) + (11 * (2 * (sz - (at98 + 1)) + 20)) ≤ (11 * (2 * (sz - at9) + 20)); omega))
    obtain ⟨w, r153, K154, g155, at156, sg157, f158, k159⟩ := u148
    obtain ⟨hw149, h160, h161, h162, h163, h164, h165, hO⟩ := hw149
    have h160 : NwR K126 K154 g97 g155 r153 0 k159 (5 * (20 - (dp + 1)) + 6 + (sg157 - sg99)) := h160
    have h161 : (at98 + 1) ≤ rS k159 ∧ rS k159 + 1 ≤ rE k159 ∧ rE k159 ≤ at156 ∧ 1 ≤ rD k159 ∧ rD k159 ≤ 9 * (20 - (dp + 1)) + (sg157 - sg99) + 1 := h161
    have h162 : (at98 + 1) + 1 ≤ at156 ∧ at156 ≤ sz := h162
    have h163 : sg99 ≤ sg157 ∧ sg157 ≤ 60 := h163
    have h164 : ¬ tkN ((B 7)) sz 67 (nI (at98 + 1)) = 37 := h164
    have h165 : NwT ((B 7)) sz (f100) f158 K126 K154 (at98 + 1) at156 := h165
    obtain rfl : v150 = some (.ref r153) := hw149
    have hf166 : K154.1 q40 = 1 := (((h160).2.1.1 q40 (by rw [hf128]; decide)).1).trans hf128
    have hf167 : K154.2.1 0 q40 = 20 := (((h160).2.1.1 q40 (by rw [hf128]; decide)).2.1 0).trans hf129
    have hf168 : K154.2.1 2 q40 = ((kN K7 q40 1 0).2.1 2 r6) := (((h160).2.1.1 q40 (by rw [hf128]; decide)).2.1 2).trans hf130
    have hf169 : K154.2.2.1 2 q40 = none := (((h160).2.1.1 q40 (by rw [hf128]; decide)).2.2.1 2).trans hf131
    have hf170 : K154.2.2.1 3 q40 = none := (((h160).2.1.1 q40 (by rw [hf128]; decide)).2.2.1 3).trans hf132
    have hf171 : K154.2.2.1 4 q40 = none := (((h160).2.1.1 q40 (by rw [hf128]; decide)).2.2.1 4).trans hf133
    have hf172 : K154.1 r6 = 1 := (((h160).2.1.1 r6 (by rw [hf134]; decide)).1).trans hf134
    have hf173 : K154.2.2.1 0 q40 = some r6 := (((h160).2.1.1 q40 (by rw [hf128]; decide)).2.2.1 0).trans hf135
    have hf174 : K154.1 r95 = 1 := (((h160).2.1.1 r95 (by rw [hf136]; decide)).1).trans hf136
    have hf175 : K154.2.2.1 1 q40 = some r95 := (((h160).2.1.1 q40 (by rw [hf128]; decide)).2.2.1 1).trans hf137
    have hO : OKP G h0 a (upd (upd (upd (upd F 2 (nI sz)) 9 (nI at156)) 10 (nI (dp + 1))) 11 (nI sg157)) R Z (updA B 10 f158) J K154 w := hO.to rfl
    refine W.widen (k := ((((2 * (at10 - at9) - 1) + 1) + (2 * (at98 - (at10 + 1)) - 1)) + (2 * (at156 - (at98 + 1)) - 1))) (n := ((((11 * (2 * (at10 - at9) - 1)) + 11) + (11 * (2 * (at98 - (at10 + 1)) - 1))) + (11 * (2 * (at156 - (at98 + 1)) - 1)))) (by show (((2 * (at10 - at9) - 1) + 1) + (2 * (at98 - (at10 + 1)) - 1)) + (2 * (at156 - (at98 + 1)) - 1) ≤ ((((2 * (at10 - at9) - 1) + 1) + (2 * (at98 - (at10 + 1)) - 1)) + (2 * (at156 - (at98 + 1)) - 1)); omega) (by show (((11 * (2 * (at10 - at9) - 1)) + 11) + (11 * (2 * (at98 - (at10 + 1)) - 1))) + (11 * (2 * (at156 - (at98 + 1)) - 1)) ≤ ((((11 * (2 * (at10 - at9) - 1)) + 11) + (11 * (2 * (at98 - (at10 + 1)) - 1))) + (11 * (2 * (at156 - (at98 + 1)) - 1))); omega) ?_
    refine W.eq (g2 := F0 m 66 ls [.ref r153, .ref q40]) rfl ?_
    have htk176 : NwT (B 7) sz (B 10) f158 K K154 at9 at156 := (NwT.call htk138 h165 (by omega))
    have hns177 : NwS K K154 g g155 := NwS.call hns139 h160 (fun o9 h9 => absurd h9 (by omega))
    have hrk178 : g155 2 r6 = k13 := (h160.2.1.2 r6 (by rw [hf134]; decide) 2).trans hrk119
    have hrk179 : g155 2 r95 = k101 := (h160.2.1.2 r95 (by rw [hf136]; decide) 2).trans hrk120
    have hrk180 : g155 2 r153 = k159 := h160.2.2.1.2.2.2.2.2.1
    have hf181 : K154.1 r153 = 1 := h160.2.2.1.2.1
    have hg182 : g155 0 q40 = 0 := (h160.2.1.2 q40 (by rw [hf128]; decide) 0).trans hg122
    have hno183 : NoO K154 g155 q40 := NoO.call hno140 h160 hf128 (by omega)
    have hgz184 : g155 0 r6 = g97 0 r6 := h160.2.1.2 r6 (by rw [hf134]; decide) 0
    have hgz185 : g155 0 r95 = g97 0 r95 := h160.2.1.2 r95 (by rw [hf136]; decide) 0
    have hgy186 := h160.2.2.1
    have hgy186a := hgy186.2.2.1
    have hgy186b := hgy186.2.2.2.1
    refine p_put (v := .ref r153) (ty := (.object "JinjaTongue$Node")) (C := RX7) (Tc := TX7) (N := 11) (ci := 13) (K' := (kC K154 2 q40 (some r153))) hx hb hq pin_wsX70 tyX7 tyX7_ok nmX7 hown hE hP hD hS hO (by rw [hf166]; decide) (rep_1 hf166) rfl 8 (by decide) (hq _ pw_943) (fun _ h9 => h9) rfl (by decide +kernel) rfl rfl (Nat.le_of_ble_eq_true rfl) rfl (by rw [rep_1 (show (kC K154 2 q40 (some r153)).1 q40 = 1 from hf166), pc_2] <;> rfl) (fun p9 hp9 => rep_kC hp9) dX8_expression_66 (fun H locs w hP hD hS hO => ?_)
    obtain ⟨K187, hK188⟩ : ∃ z : PK, z = (kC K154 2 q40 (some r153)) := ⟨_, rfl⟩
    rw [← hK188] at hO
    have hf189 : K187.1 q40 = 1 := (by rw [hK188]; exact hf166)
    have hf190 : K187.2.1 0 q40 = 20 := (by rw [hK188]; exact hf167)
    have hf191 : K187.2.1 2 q40 = ((kN K7 q40 1 0).2.1 2 r6) := (by rw [hK188]; exact hf168)
    have hf192 : K187.2.2.1 3 q40 = none := (by rw [hK188]; exact (kC_of (by decide)).trans hf170)
    have hf193 : K187.2.2.1 4 q40 = none := (by rw [hK188]; exact (kC_of (by decide)).trans hf171)
    have hf194 : K187.1 r6 = 1 := (by rw [hK188]; exact hf172)
    have hf195 : K187.2.2.1 0 q40 = some r6 := (by rw [hK188]; exact (kC_of (by decide)).trans hf173)
    have hf196 : K187.1 r95 = 1 := (by rw [hK188]; exact hf174)
    have hf197 : K187.2.2.1 1 q40 = some r95 := (by rw [hK188]; exact (kC_of (by decide)).trans hf175)
    have hf198 : K187.1 r153 = 1 := (by rw [hK188]; exact hf181)
    have hf199 : K187.2.2.1 2 q40 = some r153 := by rw [hK188]; exact kC_eq
    have htk200 : NwT (B 7) sz (B 10) f158 K K187 at9 at156 := by rw [hK188]; exact NwT.put htk176
    have hns201 : NwS K K187 g g155 := by rw [hK188]; exact NwS.put hns177 hq71 hg182
    have hno202 : NoO K187 g155 q40 := by rw [hK188]; exact hno183
    refine lv_aload_n hx hb dX8_expression_69 rfl (lv_at hl 2 rfl) ?_
    have hO : OKW G h0 a (upd (upd (upd (upd (upd F 2 (nI sz)) 9 (nI at156)) 10 (nI (dp + 1))) 11 (nI sg157)) 10 (nI (dp + 1))) R Z (updA B 10 f158) J K187.1 (fun q99 x99 => x99 = rep G a K187 q99) w := hO.to rfl
    obtain ⟨_, qr206, hqr207⟩ := hO.2.1 23 _ (sg_23 G h0 a _ _ _ _ _)
    refine pc_V0 (G := G) (As := []) (rest := []) hx hb hml hown hq hE hX pX0_al hP hD hS hA hl.1 (P_leave l G h0 a (upd (upd (upd (upd F 2 (nI sz)) 9 (nI at156)) 10 (nI (dp + 1))) 11 (nI sg157)) R Z (updA B 10 f158) J K187.1 (fun q99 x99 => x99 = rep G a K187 q99) w (dp + 1) (by omega) hO) (gV pw_950 pw_951 pw_952 pw_796 pw_906) hV_X8_leave qr206 5 hqr207 rfl rfl rfl (Nat.le_of_ble_eq_true rfl) dX8_expression_70 ⟨(by show ((((2 * (at10 - at9) - 1) + 1) + (2 * (at98 - (at10 + 1)) - 1)) + (2 * (at156 - (at98 + 1)) - 1)) + 0 ≤ (2 * (sz - at9) + 20); omega), (by show ((((11 * (2 * (at10 - at9) - 1)) + 11) + (11 * (2 * (at98 - (at10 + 1)) - 1))) + (11 * (2 * (at156 - (at98 + 1)) - 1))) + 0 ≤ (11 * (2 * (sz - at9) + 20)); omega)⟩ ⟨(by show 2 + 1 ≤ (40 * n + 40); omega), (by show 8 + (1 + 11) + 60 ≤ (1300 * n + 1300); omega)⟩ (fun v205 u203 H locs hw204 hP hD hS => ?_)
    obtain ⟨w, _⟩ := u203
    obtain ⟨hw204, hO⟩ := hw204
    obtain rfl : v205 = none := hw204
    have hO : OKP G h0 a (upd (upd (upd (upd F 2 (nI sz)) 9 (nI at156)) 10 (nI ((dp + 1) - 1))) 11 (nI sg157)) R Z (updA B 10 f158) J K187 w := hO.to rfl
    refine W.widen (k := ((((2 * (at10 - at9) - 1) + 1) + (2 * (at98 - (at10 + 1)) - 1)) + (2 * (at156 - (at98 + 1)) - 1))) (n := ((((11 * (2 * (at10 - at9) - 1)) + 11) + (11 * (2 * (at98 - (at10 + 1)) - 1))) + (11 * (2 * (at156 - (at98 + 1)) - 1)))) (by show ((((2 * (at10 - at9) - 1) + 1) + (2 * (at98 - (at10 + 1)) - 1)) + (2 * (at156 - (at98 + 1)) - 1)) + 0 ≤ ((((2 * (at10 - at9) - 1) + 1) + (2 * (at98 - (at10 + 1)) - 1)) + (2 * (at156 - (at98 + 1)) - 1)); omega) (by show ((((11 * (2 * (at10 - at9) - 1)) + 11) + (11 * (2 * (at98 - (at10 + 1)) - 1))) + (11 * (2 * (at156 - (at98 + 1)) - 1))) + 0 ≤ ((((11 * (2 * (at10 - at9) - 1)) + 11) + (11 * (2 * (at98 - (at10 + 1)) - 1))) + (11 * (2 * (at156 - (at98 + 1)) - 1))); omega) ?_
    refine W.eq (g2 := F0 m 73 ls []) rfl ?_
    refine lv_aload_n hx hb dX8_expression_73 rfl (lv_at hl 0 rfl) ?_
    refine W_size (fun hz1 hz2 => ?_)
    refine vx_ret ?_
    obtain ⟨k9208, k9208I, k9208S, k9208E, k9208M, k9208N, k9208X, k9208D⟩ := rk_ex (s := at9) (e := at156) (m := (rE k13)) (n := (rE k101)) (x := 0) (d := (9 * (20 - dp) + (sg157 - sg) + 1)) (by omega)
    have hkid : ∀ f9 y9 : Nat, f9 ≤ 3 → K187.2.2.1 f9 q40 = some y9 → K187.1 y9 = 1 ∧ 1 ≤ g155 0 y9 ∧ g155 0 y9 < (5 * (20 - dp) + 6 + (sg157 - sg)) := by
      intro f9 y9 hf9 hy9
      rcases (show f9 = 0 ∨ f9 = 1 ∨ f9 = 2 ∨ f9 = 3 by omega) with rfl | rfl | rfl | rfl
      · rw [hf195] at hy9; cases hy9; exact ⟨hf194, (by omega), by omega⟩
      · rw [hf197] at hy9; cases hy9; exact ⟨hf196, (by omega), by omega⟩
      · rw [hf199] at hy9; cases hy9; exact ⟨hf198, (by omega), by omega⟩
      · rw [hf192] at hy9; cases hy9
    have hkc209 : ∀ f9 y9 : Nat, f9 ≤ 3 → K187.2.2.1 f9 q40 = some y9 → Kch (K187.2.1 0 q40) f9 (K187.2.1 0 y9) k9208 (g155 2 y9) := by
      intro f9 y9 hf9 hy9
      rcases (show f9 = 0 ∨ f9 = 1 ∨ f9 = 2 ∨ f9 = 3 by omega) with rfl | rfl | rfl | rfl
      · rw [hf195] at hy9; cases hy9; rw [hrk178]; rw [hf190] <;> exact ⟨(fun z => absurd z (by decide)), (fun z => absurd z (by decide)), (fun z => absurd z (by decide)), (fun z => absurd z (by decide)), (fun z => absurd z (by decide)), (fun z => absurd z (by decide)), (fun _ _ => (by omega)), (fun _ z => absurd z (by decide)), (fun _ z => absurd z (by decide)), (fun z => absurd z (by decide)), (fun z => absurd z (by decide)), (fun z => absurd z (by decide)), (fun z => absurd z (by decide)), (fun z => absurd z (by decide)), (fun z => absurd z (by decide)), (fun z => absurd z (by decide)), (fun z => absurd z (by decide)), (fun z => absurd z (by decide)), (fun z => absurd z (by decide)), (fun z => absurd z (by decide)), (fun z => absurd z (by decide)), (fun z => absurd z (by decide)), (fun z => absurd z (by decide)), (fun z => absurd z (by decide))⟩
      · rw [hf197] at hy9; cases hy9; rw [hrk179]; rw [hf190] <;> exact ⟨(fun z => absurd z (by decide)), (fun z => absurd z (by decide)), (fun z => absurd z (by decide)), (fun z => absurd z (by decide)), (fun z => absurd z (by decide)), (fun z => absurd z (by decide)), (fun _ z => absurd z (by decide)), (fun _ _ => (by omega)), (fun _ z => absurd z (by decide)), (fun z => absurd z (by decide)), (fun z => absurd z (by decide)), (fun z => absurd z (by decide)), (fun z => absurd z (by decide)), (fun z => absurd z (by decide)), (fun z => absurd z (by decide)), (fun z => absurd z (by decide)), (fun z => absurd z (by decide)), (fun z => absurd z (by decide)), (fun z => absurd z (by decide)), (fun z => absurd z (by decide)), (fun z => absurd z (by decide)), (fun z => absurd z (by decide)), (fun z => absurd z (by decide)), (fun z => absurd z (by decide))⟩
      · rw [hf199] at hy9; cases hy9; rw [hrk180]; rw [hf190] <;> exact ⟨(fun z => absurd z (by decide)), (fun z => absurd z (by decide)), (fun z => absurd z (by decide)), (fun z => absurd z (by decide)), (fun z => absurd z (by decide)), (fun z => absurd z (by decide)), (fun _ z => absurd z (by decide)), (fun _ z => absurd z (by decide)), (fun _ _ => (by omega)), (fun z => absurd z (by decide)), (fun z => absurd z (by decide)), (fun z => absurd z (by decide)), (fun z => absurd z (by decide)), (fun z => absurd z (by decide)), (fun z => absurd z (by decide)), (fun z => absurd z (by decide)), (fun z => absurd z (by decide)), (fun z => absurd z (by decide)), (fun z => absurd z (by decide)), (fun z => absurd z (by decide)), (fun z => absurd z (by decide)), (fun z => absurd z (by decide)), (fun z => absurd z (by decide)), (fun z => absurd z (by decide))⟩
      · rw [hf192] at hy9; cases hy9
    have hdn := NwS.done1I (q := q40) (L := (5 * (20 - dp) + 6 + (sg157 - sg))) (O := O) (k := k9208) hns201 hq71 hf189 hg182 (by omega) ⟨k9208I, (by rw [hf190] <;> exact ⟨(fun z => absurd z (by decide)), (fun z => absurd z (by decide)), (fun z => absurd z (by decide))⟩)⟩ (by rw [hf190]; exact ⟨fun z => absurd z (by decide), fun z => absurd z (by decide), fun _ => ⟨(by show ¬ K187.2.2.1 0 q40 = none; rw [hf195]; intro z; cases z), (by show ¬ K187.2.2.1 1 q40 = none; rw [hf197]; intro z; cases z), (by show ¬ K187.2.2.1 2 q40 = none; rw [hf199]; intro z; cases z)⟩, fun z => absurd z (by decide), fun z => absurd z (by decide)⟩) (fun f9 z => by rw [hf190] at z; rcases z with ⟨z, _⟩ | ⟨z | z | z, _⟩ <;> exact absurd z (by decide)) hkid hf193 hno202 hkc209 how
    have hz210 : NwR K K187 g (gset g155 q40 (5 * (20 - dp) + 6 + (sg157 - sg)) O k9208) q40 O k9208 (5 * (20 - dp) + 6 + (sg157 - sg)) := hdn
    have hz211 : at9 ≤ rS k9208 ∧ rS k9208 + 1 ≤ rE k9208 ∧ rE k9208 ≤ at156 ∧ 1 ≤ rD k9208 ∧ rD k9208 ≤ 9 * (20 - dp) + (sg157 - sg) + 1 := (by omega)
    have hz212 : at9 + 1 ≤ at156 ∧ at156 ≤ sz := (by omega)
    have hz213 : sg ≤ sg157 ∧ sg157 ≤ 60 := (by omega)
    have hz214 : ¬ tkN (B 7) sz 67 (nI at9) = 37 := h18
    have hz215 : NwT (B 7) sz (B 10) f158 K K187 at9 at156 := (NwT.le htk200 (by omega))
    have hO : OKP G h0 a (upd (upd (upd (upd F 2 (nI sz)) 9 (nI at156)) 10 (nI dp)) 11 (nI sg157)) R Z (updA B 10 f158) J K187 w := hO.to rfl
    refine W.widen (k := (2 * (sz - at9) + 20)) (n := (11 * (2 * (sz - at9) + 20))) (by omega) (by omega) ?_
    have hzz1 : H.size ≤ s.heap.size + ((2 * (at156 - at9) - 1)) := (by have z : ((((2 * (at10 - at9) - 1) + 1) + (2 * (at98 - (at10 + 1)) - 1)) + (2 * (at156 - (at98 + 1)) - 1)) ≤ (2 * (at156 - at9) - 1) := (by omega); omega)
    have hzz2 : hSl H ≤ hSl s.heap + ((11 * (2 * (at156 - at9) - 1))) := (by have z : ((((11 * (2 * (at10 - at9) - 1)) + 11) + (11 * (2 * (at98 - (at10 + 1)) - 1))) + (11 * (2 * (at156 - (at98 + 1)) - 1))) ≤ (11 * (2 * (at156 - at9) - 1)) := (by omega); omega)
    exact W.aret (v := .ref q40) hx hb hr (Or.inl ⟨_, rfl⟩) (Or.inr ⟨_, rfl⟩) (fun t99 ht99 hW99 => ⟨⟨_, (w, (q40, K187, (gset g155 q40 (5 * (20 - dp) + 6 + (sg157 - sg)) O k9208), at156, sg157, f158, k9208)), rfl, ⟨rfl, hz210, hz211, hz212, hz213, hz214, hz215, hO⟩, by rw [ht99]; exact hP, hD, by rw [ht99]; exact hzz1, by rw [ht99]; exact hzz2⟩, hS.F ht99⟩) hS.2.2 dX8_expression_74
  · have n216 : r29 = 0 := (nI_eq (a := r29) (b := 0) (by omega) (by omega)).mp c32
    refine lv_aload_n hx hb dX8_expression_15 rfl (lv_at hl 0 rfl) ?_
    refine W_size (fun hz1 hz2 => ?_)
    refine vx_ret ?_
    have how9 := NwR.up (L' := 5 * (20 - dp) + 6 + (sg11 - sg)) (NwR.own (O2 := O) h14 how) (by omega)
    have hz217 : NwR K K7 g (gset g8 r6 (g8 0 r6) O k13) r6 O k13 (5 * (20 - dp) + 6 + (sg11 - sg)) := how9
    have hz218 : at9 ≤ rS k13 ∧ rS k13 + 1 ≤ rE k13 ∧ rE k13 ≤ at10 ∧ 1 ≤ rD k13 ∧ rD k13 ≤ 9 * (20 - dp) + (sg11 - sg) + 1 := (by omega)
    have hz219 : at9 + 1 ≤ at10 ∧ at10 ≤ sz := (by omega)
    have hz220 : sg ≤ sg11 ∧ sg11 ≤ 60 := (by omega)
    have hz221 : ¬ tkN (B 7) sz 67 (nI at9) = 37 := h18
    have hz222 : NwT (B 7) sz (B 10) f12 K K7 at9 at10 := (NwT.le htk20 (by omega))
    have hO : OKP G h0 a (upd (upd (upd (upd F 2 (nI sz)) 9 (nI at10)) 10 (nI dp)) 11 (nI sg11)) R Z (updA B 10 f12) J K7 w := hO.to rfl
    refine W.widen (k := (2 * (sz - at9) + 20)) (n := (11 * (2 * (sz - at9) + 20))) (by omega) (by omega) ?_
    have hzz1 : H.size ≤ s.heap.size + ((2 * (at10 - at9) - 1)) := (by have z : (2 * (at10 - at9) - 1) ≤ (2 * (at10 - at9) - 1) := (by omega); omega)
    have hzz2 : hSl H ≤ hSl s.heap + ((11 * (2 * (at10 - at9) - 1))) := (by have z : (11 * (2 * (at10 - at9) - 1)) ≤ (11 * (2 * (at10 - at9) - 1)) := (by omega); omega)
    exact W.aret (v := .ref r6) hx hb hr (Or.inl ⟨_, rfl⟩) (Or.inr ⟨_, rfl⟩) (fun t99 ht99 hW99 => ⟨⟨_, (w, (r6, K7, (gset g8 r6 (g8 0 r6) O k13), at10, sg11, f12, k13)), rfl, ⟨rfl, hz217, hz218, hz219, hz220, hz221, hz222, hO⟩, by rw [ht99]; exact hP, hD, by rw [ht99]; exact hzz1, by rw [ht99]; exact hzz2⟩, hS.F ht99⟩) hS.2.2 dX8_expression_16
theorem PS_all (l : Launch) (G : pT) (n : Nat) (hpf : PPf l G n) : ∀ d : Nat, PSg l G n d := by
  intro d
  induction d using Nat.strongRecOn with
  | ind d ih =>
    intro h0 a F R Z B J K w ls9 at9 sz dp sg O g hsz hat hdp hsg hwn how hls hO hl0
    exact P_signed l G h0 a F R Z B J K w ls9 d n at9 sz dp sg O g hsz hat hdp hsg hwn how hls hpf (fun d9 hd9 => ih d9 hd9) hO hl0
theorem PE_all (l : Launch) (G : pT) : ∀ n : Nat, PEx l G n ∧ PPf l G n := by
  intro n
  induction n with
  | zero =>
    have hp : PPf l G 0 := by
      intro h0 a F R Z B J K w at9 sz dp sg O g hsz hat hdp hsg hwn how hO hl0
      exact P_prefixed l G h0 a F R Z B J K w 0 at9 sz dp sg O g hsz hat hdp hsg hwn how (fun z => absurd z (by omega)) (fun z => absurd z (by omega)) hO hl0
    refine ⟨?_, hp⟩
    intro h0 a F R Z B J K w at9 sz dp sg O g hsz hat hdp hsg hwn how hO hl0
    exact P_expression l G h0 a F R Z B J K w 0 at9 sz dp sg O g hsz hat hdp hsg hwn how (PS_all l G 0 hp 10) (fun z => absurd z (by omega)) hO hl0
  | succ n ih =>
    have hp : PPf l G (n + 1) := by
      intro h0 a F R Z B J K w at9 sz dp sg O g hsz hat hdp hsg hwn how hO hl0
      exact P_prefixed l G h0 a F R Z B J K w (n + 1) at9 sz dp sg O g hsz hat hdp hsg hwn how (fun _ => ih.1) (fun _ => ih.2) hO hl0
    refine ⟨?_, hp⟩
    intro h0 a F R Z B J K w at9 sz dp sg O g hsz hat hdp hsg hwn how hO hl0
    exact P_expression l G h0 a F R Z B J K w (n + 1) at9 sz dp sg O g hsz hat hdp hsg hwn how (PS_all l G (n + 1) hp 10) (fun _ => ih.1) hO hl0
theorem IhE.all (l : Launch) (G : pT) (n : Nat) : IhE l G n := fun _ => (PE_all l G (n - 1)).1
