theorem dX8_expression_0 : decode cX8_expression 0 = .ok (.aload_n 0, 1) := by decide +kernel
theorem dX8_expression_1 : decode cX8_expression 1 = .ok (.iconst 1, 1) := by decide +kernel
theorem dX8_expression_2 : decode cX8_expression 2 = .ok (.invokevirtual 245, 3) := by decide +kernel
theorem dX8_expression_5 : decode cX8_expression 5 = .ok (.astore_n 1, 1) := by decide +kernel
theorem dX8_expression_6 : decode cX8_expression 6 = .ok (.aload_n 0, 1) := by decide +kernel
theorem dX8_expression_7 : decode cX8_expression 7 = .ok (.bipush 41, 2) := by decide +kernel
theorem dX8_expression_9 : decode cX8_expression 9 = .ok (.invokevirtual 36, 3) := by decide +kernel
theorem dX8_expression_12 : decode cX8_expression 12 = .ok (.ifCond .ne 5, 3) := by decide +kernel
theorem dX8_expression_17 : decode cX8_expression 17 = .ok (.aload_n 0, 1) := by decide +kernel
theorem dX8_expression_18 : decode cX8_expression 18 = .ok (.invokevirtual 180, 3) := by decide +kernel
theorem dX8_expression_21 : decode cX8_expression 21 = .ok (.new 143, 3) := by decide +kernel
theorem dX8_expression_24 : decode cX8_expression 24 = .ok (.dup, 1) := by decide +kernel
theorem dX8_expression_25 : decode cX8_expression 25 = .ok (.bipush 20, 2) := by decide +kernel
theorem dX8_expression_27 : decode cX8_expression 27 = .ok (.aload_n 0, 1) := by decide +kernel
theorem dX8_expression_28 : decode cX8_expression 28 = .ok (.bipush 41, 2) := by decide +kernel
theorem dX8_expression_30 : decode cX8_expression 30 = .ok (.invokevirtual 53, 3) := by decide +kernel
theorem dX8_expression_33 : decode cX8_expression 33 = .ok (.aload_n 1, 1) := by decide +kernel
theorem dX8_expression_34 : decode cX8_expression 34 = .ok (.getfield 248, 3) := by decide +kernel
theorem dX8_expression_37 : decode cX8_expression 37 = .ok (.invokespecial 145, 3) := by decide +kernel
theorem dX8_expression_40 : decode cX8_expression 40 = .ok (.astore_n 2, 1) := by decide +kernel
theorem dX8_expression_41 : decode cX8_expression 41 = .ok (.aload_n 2, 1) := by decide +kernel
theorem dX8_expression_42 : decode cX8_expression 42 = .ok (.aload_n 1, 1) := by decide +kernel
theorem dX8_expression_43 : decode cX8_expression 43 = .ok (.putfield 165, 3) := by decide +kernel
theorem dX8_expression_46 : decode cX8_expression 46 = .ok (.aload_n 2, 1) := by decide +kernel
theorem dX8_expression_47 : decode cX8_expression 47 = .ok (.aload_n 0, 1) := by decide +kernel
theorem dX8_expression_48 : decode cX8_expression 48 = .ok (.invokevirtual 196, 3) := by decide +kernel
theorem dX8_expression_51 : decode cX8_expression 51 = .ok (.putfield 230, 3) := by decide +kernel
theorem dX8_expression_54 : decode cX8_expression 54 = .ok (.aload_n 0, 1) := by decide +kernel
theorem dX8_expression_55 : decode cX8_expression 55 = .ok (.bipush 42, 2) := by decide +kernel
theorem dX8_expression_57 : decode cX8_expression 57 = .ok (.invokevirtual 53, 3) := by decide +kernel
theorem dX8_expression_60 : decode cX8_expression 60 = .ok (.pop, 1) := by decide +kernel
theorem dX8_expression_61 : decode cX8_expression 61 = .ok (.aload_n 2, 1) := by decide +kernel
theorem dX8_expression_62 : decode cX8_expression 62 = .ok (.aload_n 0, 1) := by decide +kernel
theorem dX8_expression_63 : decode cX8_expression 63 = .ok (.invokevirtual 196, 3) := by decide +kernel
theorem dX8_expression_66 : decode cX8_expression 66 = .ok (.putfield 236, 3) := by decide +kernel
theorem dX8_expression_69 : decode cX8_expression 69 = .ok (.aload_n 0, 1) := by decide +kernel
theorem dX8_expression_70 : decode cX8_expression 70 = .ok (.invokevirtual 190, 3) := by decide +kernel
theorem dX8_expression_73 : decode cX8_expression 73 = .ok (.aload_n 2, 1) := by decide +kernel
theorem dX8_expression_74 : decode cX8_expression 74 = .ok (.areturn, 1) := by decide +kernel
theorem dX8_expression_15 : decode cX8_expression 15 = .ok (.aload_n 1, 1) := by decide +kernel
theorem dX8_expression_16 : decode cX8_expression 16 = .ok (.areturn, 1) := by decide +kernel
set_option maxHeartbeats 40000000 in
set_option maxRecDepth 100000 in
theorem P_expression (l : Launch) (G : pT) (h0 : Nat) (a : Nat → Nat) (F : Nat → Int32) (R : Nat → Value) (Z : Int64) (B : Nat → Nat → Int32) (J : Nat → Nat → Int64) (K : PK) (w : va_W) (n : Nat) (at9 : Nat) (sz : Nat) (dp : Nat) (sg : Nat) (O : Nat) (g : Nat → Nat → Nat) (hsz : sz ≤ 5000) (hat : at9 ≤ sz) (hdp : dp + n = 20) (hsg : sg ≤ 60) (hwn : WN K g) (how : ∀ o : Nat, O = o + 1 → K.1 o = 1 ∧ g 0 o = 0 ∧ ¬ K.2.1 0 o = 32) (hsn : PSg l G n 10) (ihe : IhE l G n) (hO : OKP G h0 a (upd (upd (upd (upd F 2 (nI sz)) 9 (nI at9)) 10 (nI dp)) 11 (nI sg)) R Z B J K w) (hl0 : l.stackTraces = false) : PBn l G pX0 yX8_expression cX8_expression 3 (some (.object "JinjaTongue$Node")) ({ frames := (40 * n + 40), cells := (2 * (sz - at9) + 20), slots := (11 * (2 * (sz - at9) + 20)), locals := (1300 * n + 1300) }) [.ref (a 3)] w (fun (v : Option Value) (u : va_W × (Nat × PK × (Nat → Nat → Nat) × Nat × Nat × (Nat → Int32))) => v = some (.ref u.2.1) ∧ (NwR K u.2.2.1 g u.2.2.2.1 u.2.1 O at9 (5 * (20 - dp) + 6 + (u.2.2.2.2.2.1 - sg))) ∧ (at9 + 1 ≤ u.2.2.2.2.1 ∧ u.2.2.2.2.1 ≤ sz) ∧ (sg ≤ u.2.2.2.2.2.1 ∧ u.2.2.2.2.2.1 ≤ 60) ∧ (OKP G h0 a (upd (upd (upd (upd F 2 (nI sz)) 9 (nI u.2.2.2.2.1)) 10 (nI dp)) 11 (nI u.2.2.2.2.2.1)) R Z (updA B 10 u.2.2.2.2.2.2) J u.2.2.1 u.1)) (fun u => u.1) (fun (u : va_W × (Nat × PK × (Nat → Nat → Nat) × Nat × Nat × (Nat → Int32))) => (2 * (u.2.2.2.2.1 - at9) - 1)) (fun (u : va_W × (Nat × PK × (Nat → Nat → Nat) × Nat × Nat × (Nat → Int32))) => (11 * (2 * (u.2.2.2.2.1 - at9) - 1))) (fun (u : va_W × (Nat → Int32) × (Nat → Value) × (Nat → Nat → Int32)) => ThQ G h0 a (upd (upd (upd (upd F 2 (nI sz)) 9 (nI at9)) 10 (nI dp)) 11 (nI sg)) R Z B J u) (fun u => u.1) := by
  intro sz
  refine vx_ofW (cc := cX8_expression) (maxL := 3) (ret := (some (.object "JinjaTongue$Node"))) (by decide) rfl ?_
  intro p e s m args below meth c s₁ B9 hml hnt hv
  obtain ⟨rfl, hsz, hP, hD0, hE, hX⟩ := hv
  have hx := B9.exec
  have hb := B9.bytes
  have hr := B9.returns
  have hts := atoms_spec (ws := Cond.code yX8_expression cX8_expression 3 (some (.object "JinjaTongue$Node")) :: pw) B9.pre
  have hq : ∀ w ∈ pw, w.before _ s = true := fun w h => hts w (List.mem_cons_of_mem _ h)
  have hown : s.vm.findClass RX8 = some m.cls := findClass_of_methodNamed B9.named
  have hlocks := B9.notSynchronized
  subst hsz
  have hD := hD0.self (sz := s.heap.size)
  have hA : ∀ q : Nat, s.heap.size ≤ q → va_A w s.heap.size q := fun q h => Or.inr h
  generalize va_A w s.heap.size = A at hD hE hA ⊢
  have hS : va_S A s.heap s.heap [] := va_S.rf
  have hl := lv_entry ([.ref (a 3)]) (n := 3) (Nat.le_of_ble_eq_true rfl)
  rw [lg_entry_eq]
  generalize (lg_sl ([.ref (a 3)]) ++ List.replicate (3 - (lg_sl ([.ref (a 3)])).length) Slot.unset).toArray = ls at hl ⊢
  have hl : lv_has ls 3 [(0, .ref (a 3))] := hl
  have hns0 : NwS K K g g := NwS.nil hwn
  refine lv_aload_n hx hb dX8_expression_0 rfl (lv_at hl 0 rfl) ?_
  refine lv_iconst (v := 1) hx hb dX8_expression_1 (by decide) ?_
  have hO : OKP G h0 a (upd (upd (upd (upd (upd (upd (upd (upd F 2 (nI sz)) 9 (nI at9)) 10 (nI dp)) 11 (nI sg)) 2 (nI sz)) 9 (nI at9)) 10 (nI dp)) 11 (nI sg)) R Z B J K w := hO.to rfl
  obtain ⟨_, qr4, hqr5⟩ := hO.2.1 23 _ (sg_23 G h0 a _ _ _ _ _)
  refine pn_V0 (G := G) (As := [.int (nI 1)]) (rest := []) hx hb hml hown hq hE hX pX0_al hP hD hS hA hl.1 (hsn h0 a (upd (upd (upd (upd F 2 (nI sz)) 9 (nI at9)) 10 (nI dp)) 11 (nI sg)) R Z B J K w 1 at9 sz dp sg 0 g (by omega) (by omega) (by omega) (by omega) hwn (fun o9 h9 => absurd h9 (by omega)) (by omega) hO hl0) (gV pw_944 pw_945 pw_946 pw_796 pw_979) hV_X8_signed qr4 5 hqr5 rfl rfl rfl (Nat.le_of_ble_eq_true rfl) dX8_expression_2 ⟨(by show 0 + (2 * (sz - at9) + 20) ≤ (2 * (sz - at9) + 20); omega), (by show 0 + (11 * (2 * (sz - at9) + 20)) ≤ (11 * (2 * (sz - at9) + 20)); omega)⟩ ⟨(by show (40 * n + 24 + 10) + 1 ≤ (40 * n + 40); omega), (by show 8 + (7 + 11) + (1300 * n + 600 + 30 * 10) ≤ (1300 * n + 1300); omega)⟩ (fun v3 u1 H locs hw2 hP hD hS => ?_) (fun ux ce9 q9 H9 locs9 hux hP9 hD9 hS9 hce hcv hcl => pb_out ux (ThQ.up (Thx.same (Thx.same (Thx.same (Thx.same Thx.rfl rfl) rfl) rfl) rfl) RhX.rfl hux) hnt hlocks hce hcv hcl hP9 hD9 hS9 (by show 0 + (2 * (sz - at9) + 20) ≤ (2 * (sz - at9) + 20); omega) (by show 0 + (11 * (2 * (sz - at9) + 20)) ≤ (11 * (2 * (sz - at9) + 20)); omega))
  obtain ⟨w, r6, K7, g8, at10, sg11, f12⟩ := u1
  obtain ⟨hw2, h13, h14, h15, hO⟩ := hw2
  have h13 : NwR K K7 g g8 r6 0 at9 ((5 * (20 - dp) + 4 + (sg11 - sg))) := h13
  have h14 : at9 + 1 ≤ at10 ∧ at10 ≤ sz := h14
  have h15 : sg ≤ sg11 ∧ sg11 ≤ 60 := h15
  obtain rfl : v3 = some (.ref r6) := hw2
  have hO : OKP G h0 a (upd (upd (upd (upd F 2 (nI sz)) 9 (nI at10)) 10 (nI dp)) 11 (nI sg11)) R Z (updA B 10 f12) J K7 w := hO.to rfl
  refine W.widen (k := (2 * (at10 - at9) - 1)) (n := (11 * (2 * (at10 - at9) - 1))) (by show 0 + (2 * (at10 - at9) - 1) ≤ (2 * (at10 - at9) - 1); omega) (by show 0 + (11 * (2 * (at10 - at9) - 1)) ≤ (11 * (2 * (at10 - at9) - 1)); omega) ?_
  refine W.eq (g2 := F0 m 5 ls [.ref r6]) rfl ?_
  have hns16 : NwS K K7 g g8 := NwS.call hns0 h13 (fun o9 h9 => absurd h9 (by omega))
  have hf17 : K7.1 r6 = 1 := h13.2.2.1.2.1
  have hsr := h13.2.2.1
  have hsr1 := hsr.2.2.1
  have hsr2 := hsr.2.2.2.1
  refine lv_astore_n (lv' := [(1, .ref r6), (0, .ref (a 3))]) hx hb dX8_expression_5 rfl hl (by decide) rfl (fun ls hl => ?_)
  refine lv_aload_n hx hb dX8_expression_6 rfl (lv_at hl 1 rfl) ?_
  refine lv_bipush (v := 41) hx hb dX8_expression_7 (by decide) ?_
  have hO : OKW G h0 a (upd (upd (upd (upd (upd (upd F 2 (nI sz)) 9 (nI at10)) 10 (nI dp)) 11 (nI sg11)) 2 (nI sz)) 9 (nI at10)) R Z (updA B 10 f12) J K7.1 (fun q99 x99 => x99 = rep G a K7 q99) w := hO.to rfl
  obtain ⟨_, qr21, hqr22⟩ := hO.2.1 23 _ (sg_23 G h0 a _ _ _ _ _)
  refine pc_V0 (G := G) (As := [.int 41]) (rest := []) hx hb hml hown hq hE hX pX0_al hP hD hS hA hl.1 (P_sees l G h0 a (upd (upd (upd (upd F 2 (nI sz)) 9 (nI at10)) 10 (nI dp)) 11 (nI sg11)) R Z (updA B 10 f12) J K7.1 (fun q99 x99 => x99 = rep G a K7 q99) w 41 at10 sz (by omega) (by omega) hO) (gV pw_803 pw_804 pw_805 pw_796 pw_775) hV_X8_sees qr21 5 hqr22 rfl rfl rfl (Nat.le_of_ble_eq_true rfl) dX8_expression_9 ⟨(by show (2 * (at10 - at9) - 1) + 0 ≤ (2 * (sz - at9) + 20); omega), (by show (11 * (2 * (at10 - at9) - 1)) + 0 ≤ (11 * (2 * (sz - at9) + 20)); omega)⟩ ⟨(by show 3 + 1 ≤ (40 * n + 40); omega), (by show 8 + (2 + 11) + 81 ≤ (1300 * n + 1300); omega)⟩ (fun v20 u18 H locs hw19 hP hD hS => ?_)
  obtain ⟨w, r23⟩ := u18
  obtain ⟨hw19, h24, hO⟩ := hw19
  have h24 : r23 ≤ 1 := h24
  obtain rfl : v20 = some (.int (nI r23)) := hw19
  have hO : OKP G h0 a (upd (upd (upd (upd F 2 (nI sz)) 9 (nI at10)) 10 (nI dp)) 11 (nI sg11)) R Z (updA B 10 f12) J K7 w := hO.to rfl
  refine W.widen (k := (2 * (at10 - at9) - 1)) (n := (11 * (2 * (at10 - at9) - 1))) (by show (2 * (at10 - at9) - 1) + 0 ≤ (2 * (at10 - at9) - 1); omega) (by show (11 * (2 * (at10 - at9) - 1)) + 0 ≤ (11 * (2 * (at10 - at9) - 1)); omega) ?_
  refine W.eq (g2 := F0 m 12 ls [.int (nI r23)]) rfl ?_
  refine lv_if_ne (tgt := 17) hx hb dX8_expression_12 (by decide) (fun c25 => ?_) (fun c25 => ?_)
  · have n26 : ¬ (r23 = 0) := fun h9 => c25 ((nI_eq (a := r23) (b := 0) (by omega) (by omega)).mpr h9)
    refine lv_aload_n hx hb dX8_expression_17 rfl (lv_at hl 1 rfl) ?_
    have hO : OKW G h0 a (upd (upd (upd (upd (upd (upd (upd (upd (upd F 2 (nI sz)) 9 (nI at9)) 10 (nI dp)) 11 (nI sg)) 9 (nI at10)) 11 (nI sg11)) 2 (nI sz)) 9 (nI at10)) 10 (nI dp)) R Z (updA B 10 f12) J K7.1 (fun q99 x99 => x99 = rep G a K7 q99) w := hO.to rfl
    obtain ⟨_, qr30, hqr31⟩ := hO.2.1 23 _ (sg_23 G h0 a _ _ _ _ _)
    refine pn_V0 (G := G) (As := []) (rest := []) hx hb hml hown hq hE hX pX0_al hP hD hS hA hl.1 (P_enter l G h0 a (upd (upd (upd (upd (upd (upd F 2 (nI sz)) 9 (nI at9)) 10 (nI dp)) 11 (nI sg)) 9 (nI at10)) 11 (nI sg11)) R Z (updA B 10 f12) J K7.1 (fun q99 x99 => x99 = rep G a K7 q99) w dp at10 sz (by omega) (by omega) (by omega) hO hl0) (gV pw_947 pw_948 pw_949 pw_796 pw_905) hV_X8_enter qr30 5 hqr31 rfl rfl rfl (Nat.le_of_ble_eq_true rfl) dX8_expression_18 ⟨(by show (2 * (at10 - at9) - 1) + 1 ≤ (2 * (sz - at9) + 20); omega), (by show (11 * (2 * (at10 - at9) - 1)) + 6 ≤ (11 * (2 * (sz - at9) + 20)); omega)⟩ ⟨(by show 7 + 1 ≤ (40 * n + 40); omega), (by show 8 + (1 + 11) + 122 ≤ (1300 * n + 1300); omega)⟩ (fun v29 u27 H locs hw28 hP hD hS => ?_) (fun ux ce9 q9 H9 locs9 hux hP9 hD9 hS9 hce hcv hcl => pb_out ux (ThQ.up (Thx.same (Thx.same (Thx.same (Thx.b (Thx.f (Thx.f Thx.rfl (by omega)) (by omega)) (by omega) (by decide)) rfl) rfl) rfl) RhX.rfl hux) hnt hlocks hce hcv hcl hP9 hD9 hS9 (by show (2 * (at10 - at9) - 1) + 1 ≤ (2 * (sz - at9) + 20); omega) (by show (11 * (2 * (at10 - at9) - 1)) + 6 ≤ (11 * (2 * (sz - at9) + 20)); omega))
    obtain ⟨w, _⟩ := u27
    obtain ⟨hw28, h32, hO⟩ := hw28
    have h32 : dp + 1 ≤ 20 := h32
    obtain rfl : v29 = none := hw28
    have hO : OKP G h0 a (upd (upd (upd (upd F 2 (nI sz)) 9 (nI at10)) 10 (nI (dp + 1))) 11 (nI sg11)) R Z (updA B 10 f12) J K7 w := hO.to rfl
    refine W.widen (k := (2 * (at10 - at9) - 1)) (n := (11 * (2 * (at10 - at9) - 1))) (by show (2 * (at10 - at9) - 1) + 0 ≤ (2 * (at10 - at9) - 1); omega) (by show (11 * (2 * (at10 - at9) - 1)) + 0 ≤ (11 * (2 * (at10 - at9) - 1)); omega) ?_
    refine W.eq (g2 := F0 m 21 ls []) rfl ?_
    refine p_new (s9 := 1) (C := RX7) (T := TX7) (N := 11) (ci := 13) (fs := [.int 0, .int 0, .int 0, .int 0, .int 0, .int 0, .null, .null, .null, .null, .null]) hx hb hq pin_wsX70 tyX7 tyX7_ok hown (hq _ pw_870) (hq _ pw_871) (hq _ pw_872) hE hP hD hS hA hO rfl nw_X7 (by decide) (fun q => by rw [rep_1 (show (kN K7 q 1 0).1 q = 1 from if_pos rfl)]; unfold fsNode kN; simp only [if_true]; rfl) (by show (2 * (at10 - at9) - 1) + 1 ≤ (2 * (sz - at9) + 20); omega) (by show (11 * (2 * (at10 - at9) - 1)) + 11 ≤ (11 * (2 * (sz - at9) + 20)); omega) dX8_expression_21 (fun q33 H w hq34 hP hD hS hO => ?_)
    have hf35 : (kN K7 q33 1 0).1 r6 = 1 := (if_neg (fun z => by have z2 := hf17; rw [z, hq34] at z2; exact absurd z2 (by decide))).trans hf17
    have hf36 : (kN K7 q33 1 0).1 q33 = 1 := if_pos rfl
    refine W.widen (k := ((2 * (at10 - at9) - 1) + 1)) (n := ((11 * (2 * (at10 - at9) - 1)) + 11)) (by show (2 * (at10 - at9) - 1) + 1 ≤ ((2 * (at10 - at9) - 1) + 1); omega) (by show (11 * (2 * (at10 - at9) - 1)) + 11 ≤ ((11 * (2 * (at10 - at9) - 1)) + 11); omega) ?_
    refine lv_dup hx hb dX8_expression_24 rfl ?_
    refine lv_bipush (v := 20) hx hb dX8_expression_25 (by decide) ?_
    refine lv_aload_n hx hb dX8_expression_27 rfl (lv_at hl 1 rfl) ?_
    refine lv_bipush (v := 41) hx hb dX8_expression_28 (by decide) ?_
    have hO : OKW G h0 a (upd (upd (upd (upd (upd (upd (upd (upd (upd F 2 (nI sz)) 9 (nI at9)) 10 (nI dp)) 11 (nI sg)) 9 (nI at10)) 10 (nI (dp + 1))) 11 (nI sg11)) 2 (nI sz)) 9 (nI at10)) R Z (updA B 10 f12) J ((kN K7 q33 1 0).1) (fun q99 x99 => x99 = rep G a (kN K7 q33 1 0) q99) w := hO.to rfl
    obtain ⟨_, qr40, hqr41⟩ := hO.2.1 23 _ (sg_23 G h0 a _ _ _ _ _)
    refine pn_V0 (G := G) (As := [.int 41]) (rest := [.int 20, .ref q33, .ref q33]) hx hb hml hown hq hE hX pX0_al hP hD hS hA hl.1 (P_take l G h0 a (upd (upd (upd (upd (upd (upd (upd F 2 (nI sz)) 9 (nI at9)) 10 (nI dp)) 11 (nI sg)) 9 (nI at10)) 10 (nI (dp + 1))) 11 (nI sg11)) R Z (updA B 10 f12) J ((kN K7 q33 1 0).1) (fun q99 x99 => x99 = rep G a (kN K7 q33 1 0) q99) w 41 at10 sz (by omega) (by omega) (by decide) hO hl0) (gV pw_793 pw_794 pw_795 pw_796 pw_781) hV_X8_take qr40 5 hqr41 rfl rfl rfl (Nat.le_of_ble_eq_true rfl) dX8_expression_30 ⟨(by show ((2 * (at10 - at9) - 1) + 1) + 1 ≤ (2 * (sz - at9) + 20); omega), (by show ((11 * (2 * (at10 - at9) - 1)) + 11) + 6 ≤ (11 * (2 * (sz - at9) + 20)); omega)⟩ ⟨(by show 7 + 1 ≤ (40 * n + 40); omega), (by show 8 + (2 + 11) + 122 ≤ (1300 * n + 1300); omega)⟩ (fun v39 u37 H locs hw38 hP hD hS => ?_) (fun ux ce9 q9 H9 locs9 hux hP9 hD9 hS9 hce hcv hcl => pb_out ux (ThQ.up (Thx.same (Thx.same (Thx.b (Thx.f (Thx.f (Thx.f Thx.rfl (by omega)) (by omega)) (by omega)) (by omega) (by decide)) rfl) rfl) RhX.rfl hux) hnt hlocks hce hcv hcl hP9 hD9 hS9 (by show ((2 * (at10 - at9) - 1) + 1) + 1 ≤ (2 * (sz - at9) + 20); omega) (by show ((11 * (2 * (at10 - at9) - 1)) + 11) + 6 ≤ (11 * (2 * (sz - at9) + 20)); omega))
    obtain ⟨w, _⟩ := u37
    obtain ⟨hw38, h42, hO⟩ := hw38
    have h42 : at10 + 1 ≤ sz := h42
    obtain rfl : v39 = some (.int (nI at10)) := hw38
    have hO : OKP G h0 a (upd (upd (upd (upd F 2 (nI sz)) 9 (nI (at10 + 1))) 10 (nI (dp + 1))) 11 (nI sg11)) R Z (updA B 10 f12) J (kN K7 q33 1 0) w := hO.to rfl
    refine W.widen (k := ((2 * (at10 - at9) - 1) + 1)) (n := ((11 * (2 * (at10 - at9) - 1)) + 11)) (by show ((2 * (at10 - at9) - 1) + 1) + 0 ≤ ((2 * (at10 - at9) - 1) + 1); omega) (by show ((11 * (2 * (at10 - at9) - 1)) + 11) + 0 ≤ ((11 * (2 * (at10 - at9) - 1)) + 11); omega) ?_
    refine W.eq (g2 := F0 m 33 ls [.int (nI at10), .int 20, .ref q33, .ref q33]) rfl ?_
    refine lv_aload_n hx hb dX8_expression_33 rfl (lv_at hl 0 rfl) ?_
    refine p_get (v := .int ((kN K7 q33 1 0).2.1 2 r6)) (C := RX7) (Tc := TX7) (N := 11) (ci := 13) hx hb hq pin_wsX70 hown hE hP hO (by rw [hf35]; decide) (rep_1 hf35) rfl 2 (by decide) (hq _ pw_937) (fun _ h9 => h9) rfl dX8_expression_34 ?_
    have hO : OKP G h0 a (upd (upd (upd (upd F 2 (nI sz)) 9 (nI (at10 + 1))) 10 (nI (dp + 1))) 11 (nI sg11)) R Z (updA B 10 f12) J (kN K7 q33 1 0) w := hO.to rfl
    obtain ⟨qr46, hqr47⟩ := p_recv hO (by rw [hf36]; decide) (rep_1 hf36)
    refine pc_I0 (G := G) (As := [.int 20, .int (nI at10), .int ((kN K7 q33 1 0).2.1 2 r6)]) (rest := [.ref q33]) hx hb hml hown hq hE hX pX0_al hP hD hS hA hl.1 (N_init l G h0 a (upd (upd (upd (upd F 2 (nI sz)) 9 (nI (at10 + 1))) 10 (nI (dp + 1))) 11 (nI sg11)) R Z (updA B 10 f12) J (kN K7 q33 1 0) w q33 20 (nI at10) ((kN K7 q33 1 0).2.1 2 r6) (by omega) hO) pw_874 pw_875 pw_872 pw_765 rfl hS_X7_init rfl (Nat.le_of_ble_eq_true rfl) dX8_expression_37 ⟨(by show ((2 * (at10 - at9) - 1) + 1) + 0 ≤ (2 * (sz - at9) + 20); omega), (by show ((11 * (2 * (at10 - at9) - 1)) + 11) + 0 ≤ (11 * (2 * (sz - at9) + 20)); omega)⟩ ⟨(by show 2 + 1 ≤ (40 * n + 40); omega), (by show 8 + (4 + 11) + 60 ≤ (1300 * n + 1300); omega)⟩ (fun v45 u43 H locs hw44 hP hD hS => ?_)
    obtain ⟨w, _⟩ := u43
    obtain ⟨hw44, hO⟩ := hw44
    obtain rfl : v45 = none := hw44
    have hf48 : (kI (kI (kI (kN K7 q33 1 0) 0 q33 20) 1 q33 (nI at10)) 2 q33 ((kN K7 q33 1 0).2.1 2 r6)).1 r6 = 1 := hf35
    have hf49 : (kI (kI (kI (kN K7 q33 1 0) 0 q33 20) 1 q33 (nI at10)) 2 q33 ((kN K7 q33 1 0).2.1 2 r6)).1 q33 = 1 := hf36
    have hO : OKP G h0 a (upd (upd (upd (upd F 2 (nI sz)) 9 (nI (at10 + 1))) 10 (nI (dp + 1))) 11 (nI sg11)) R Z (updA B 10 f12) J (kI (kI (kI (kN K7 q33 1 0) 0 q33 20) 1 q33 (nI at10)) 2 q33 ((kN K7 q33 1 0).2.1 2 r6)) w := hO.to rfl
    refine W.widen (k := ((2 * (at10 - at9) - 1) + 1)) (n := ((11 * (2 * (at10 - at9) - 1)) + 11)) (by show ((2 * (at10 - at9) - 1) + 1) + 0 ≤ ((2 * (at10 - at9) - 1) + 1); omega) (by show ((11 * (2 * (at10 - at9) - 1)) + 11) + 0 ≤ ((11 * (2 * (at10 - at9) - 1)) + 11); omega) ?_
    refine W.eq (g2 := F0 m 40 ls [.ref q33]) rfl ?_
    change OKP G h0 a (upd (upd (upd (upd F 2 (nI sz)) 9 (nI (at10 + 1))) 10 (nI (dp + 1))) 11 (nI sg11)) R Z (updA B 10 f12) J (mkN K7 q33 20 (nI at10) ((kN K7 q33 1 0).2.1 2 r6)) w at hO
    obtain ⟨K50, hK51⟩ : ∃ z : PK, z = (mkN K7 q33 20 (nI at10) ((kN K7 q33 1 0).2.1 2 r6)) := ⟨_, rfl⟩
    rw [← hK51] at hO
    have hf52 : K50.1 q33 = 1 := by rw [hK51]; exact mkN_T
    have hf53 : K50.2.1 0 q33 = 20 := by rw [hK51]; exact mkN_0
    have hf54 : K50.2.1 2 q33 = ((kN K7 q33 1 0).2.1 2 r6) := by rw [hK51]; exact mkN_2
    have hf55 : K50.2.2.1 0 q33 = none := by rw [hK51]; exact mkN_C
    have hf56 : K50.2.2.1 1 q33 = none := by rw [hK51]; exact mkN_C
    have hf57 : K50.2.2.1 2 q33 = none := by rw [hK51]; exact mkN_C
    have hf58 : K50.2.2.1 3 q33 = none := by rw [hK51]; exact mkN_C
    have hf59 : K50.2.2.1 4 q33 = none := by rw [hK51]; exact mkN_C
    have hf60 : K50.1 r6 = 1 := by rw [hK51]; exact ((mkN_ext hq34 r6 (by rw [hf17]; decide)).1).trans hf17
    have hns61 : NwS K K50 g (gset g8 q33 0 0 0) := by rw [hK51]; exact NwS.node hns16 hq34
    have hq62 : K.1 q33 = 0 := old_T hns16.2.1 hq34
    have hg63 : (gset g8 q33 0 0 0) 0 q33 = 0 := gset_0
    have hno64 : NoO K50 (gset g8 q33 0 0 0) q33 := by rw [hK51]; exact NoO.new hns16.1 hq34
    have hxq : ¬ r6 = q33 := fun z => by have z2 := hf17; rw [z, hq34] at z2; exact absurd z2 (by decide)
    have hg8 : (gset g8 q33 0 0 0) 0 r6 = g8 0 r6 := gset_ne hxq
    refine lv_astore_n (lv' := [(2, .ref q33), (1, .ref r6), (0, .ref (a 3))]) hx hb dX8_expression_40 rfl hl (by decide) rfl (fun ls hl => ?_)
    refine lv_aload_n hx hb dX8_expression_41 rfl (lv_at hl 0 rfl) ?_
    refine lv_aload_n hx hb dX8_expression_42 rfl (lv_at hl 1 rfl) ?_
    refine p_put (v := .ref r6) (ty := (.object "JinjaTongue$Node")) (C := RX7) (Tc := TX7) (N := 11) (ci := 13) (K' := (kC K50 0 q33 (some r6))) hx hb hq pin_wsX70 tyX7 tyX7_ok nmX7 hown hE hP hD hS hO (by rw [hf52]; decide) (rep_1 hf52) rfl 6 (by decide) (hq _ pw_938) (fun _ h9 => h9) rfl (by decide +kernel) rfl rfl (Nat.le_of_ble_eq_true rfl) rfl (by rw [rep_1 (show (kC K50 0 q33 (some r6)).1 q33 = 1 from hf52), pc_0] <;> rfl) (fun p9 hp9 => rep_kC hp9) dX8_expression_43 (fun H locs w hP hD hS hO => ?_)
    obtain ⟨K65, hK66⟩ : ∃ z : PK, z = (kC K50 0 q33 (some r6)) := ⟨_, rfl⟩
    rw [← hK66] at hO
    have hf67 : K65.1 q33 = 1 := (by rw [hK66]; exact hf52)
    have hf68 : K65.2.1 0 q33 = 20 := (by rw [hK66]; exact hf53)
    have hf69 : K65.2.1 2 q33 = ((kN K7 q33 1 0).2.1 2 r6) := (by rw [hK66]; exact hf54)
    have hf70 : K65.2.2.1 1 q33 = none := (by rw [hK66]; exact (kC_of (by decide)).trans hf56)
    have hf71 : K65.2.2.1 2 q33 = none := (by rw [hK66]; exact (kC_of (by decide)).trans hf57)
    have hf72 : K65.2.2.1 3 q33 = none := (by rw [hK66]; exact (kC_of (by decide)).trans hf58)
    have hf73 : K65.2.2.1 4 q33 = none := (by rw [hK66]; exact (kC_of (by decide)).trans hf59)
    have hf74 : K65.1 r6 = 1 := (by rw [hK66]; exact hf60)
    have hf75 : K65.2.2.1 0 q33 = some r6 := by rw [hK66]; exact kC_eq
    have hns76 : NwS K K65 g (gset g8 q33 0 0 0) := by rw [hK66]; exact NwS.put hns61 hq62 hg63
    have hno77 : NoO K65 (gset g8 q33 0 0 0) q33 := by rw [hK66]; exact hno64
    refine lv_aload_n hx hb dX8_expression_46 rfl (lv_at hl 0 rfl) ?_
    refine lv_aload_n hx hb dX8_expression_47 rfl (lv_at hl 2 rfl) ?_
    have hO : OKP G h0 a (upd (upd (upd (upd (upd (upd (upd (upd (upd (upd (upd F 2 (nI sz)) 9 (nI at9)) 10 (nI dp)) 11 (nI sg)) 9 (nI (at10 + 1))) 10 (nI (dp + 1))) 11 (nI sg11)) 2 (nI sz)) 9 (nI (at10 + 1))) 10 (nI (dp + 1))) 11 (nI sg11)) R Z (updA B 10 f12) J K65 w := hO.to rfl
    obtain ⟨_, qr81, hqr82⟩ := hO.2.1 23 _ (sg_23 G h0 a _ _ _ _ _)
    refine pn_V0 (G := G) (As := []) (rest := [.ref q33]) hx hb hml hown hq hE hX pX0_al hP hD hS hA hl.1 ((ihe (by omega)) h0 a (upd (upd (upd (upd (upd (upd (upd F 2 (nI sz)) 9 (nI at9)) 10 (nI dp)) 11 (nI sg)) 9 (nI (at10 + 1))) 10 (nI (dp + 1))) 11 (nI sg11)) R Z (updA B 10 f12) J K65 w (at10 + 1) sz (dp + 1) sg11 0 (gset g8 q33 0 0 0) (by omega) (by omega) (by omega) (by omega) hns76.1 (fun o9 h9 => absurd h9 (by omega)) hO hl0) (gV pw_916 pw_917 pw_918 pw_796 pw_942) hV_X8_expression qr81 5 hqr82 rfl rfl rfl (Nat.le_of_ble_eq_true rfl) dX8_expression_48 ⟨(by show ((2 * (at10 - at9) - 1) + 1) + (2 * (sz - (at10 + 1)) + 20) ≤ (2 * (sz - at9) + 20); omega), (by show ((11 * (2 * (at10 - at9) - 1)) + 11) + (11 * (2 * (sz - (at10 + 1)) + 20)) ≤ (11 * (2 * (sz - at9) + 20)); omega)⟩ ⟨(by show (40 * (n - 1) + 40) + 1 ≤ (40 * n + 40); omega), (by show 8 + (3 + 11) + (1300 * (n - 1) + 1300) ≤ (1300 * n + 1300); omega)⟩ (fun v80 u78 H locs hw79 hP hD hS => ?_) (fun ux ce9 q9 H9 locs9 hux hP9 hD9 hS9 hce hcv hcl => pb_out ux (ThQ.up (Thx.same (Thx.same (Thx.same (Thx.same (Thx.b (Thx.f (Thx.f (Thx.f Thx.rfl (by omega)) (by omega)) (by omega)) (by omega) (by decide)) rfl) rfl) rfl) rfl) RhX.rfl hux) hnt hlocks hce hcv hcl hP9 hD9 hS9 (by show ((2 * (at10 - at9) - 1) + 1) + (2 * (sz - (at10 + 1)) + 20) ≤ (2 * (sz - at9) + 20); omega) (by show ((11 * (2 * (at10 - at9) - 1)) + 11) + (11 * (2 * (sz - (at10 + 1)) + 20)) ≤ (11 * (2 * (sz - at9) + 20)); omega))
    obtain ⟨w, r83, K84, g85, at86, sg87, f88⟩ := u78
    obtain ⟨hw79, h89, h90, h91, hO⟩ := hw79
    have h89 : NwR K65 K84 (gset g8 q33 0 0 0) g85 r83 0 (at10 + 1) (5 * (20 - (dp + 1)) + 6 + (sg87 - sg11)) := h89
    have h90 : (at10 + 1) + 1 ≤ at86 ∧ at86 ≤ sz := h90
    have h91 : sg11 ≤ sg87 ∧ sg87 ≤ 60 := h91
    obtain rfl : v80 = some (.ref r83) := hw79
    have hf92 : K84.1 q33 = 1 := (((h89).2.1.1 q33 (by rw [hf67]; decide)).1).trans hf67
    have hf93 : K84.2.1 0 q33 = 20 := (((h89).2.1.1 q33 (by rw [hf67]; decide)).2.1 0).trans hf68
    have hf94 : K84.2.1 2 q33 = ((kN K7 q33 1 0).2.1 2 r6) := (((h89).2.1.1 q33 (by rw [hf67]; decide)).2.1 2).trans hf69
    have hf95 : K84.2.2.1 1 q33 = none := (((h89).2.1.1 q33 (by rw [hf67]; decide)).2.2.1 1).trans hf70
    have hf96 : K84.2.2.1 2 q33 = none := (((h89).2.1.1 q33 (by rw [hf67]; decide)).2.2.1 2).trans hf71
    have hf97 : K84.2.2.1 3 q33 = none := (((h89).2.1.1 q33 (by rw [hf67]; decide)).2.2.1 3).trans hf72
    have hf98 : K84.2.2.1 4 q33 = none := (((h89).2.1.1 q33 (by rw [hf67]; decide)).2.2.1 4).trans hf73
    have hf99 : K84.1 r6 = 1 := (((h89).2.1.1 r6 (by rw [hf74]; decide)).1).trans hf74
    have hf100 : K84.2.2.1 0 q33 = some r6 := (((h89).2.1.1 q33 (by rw [hf67]; decide)).2.2.1 0).trans hf75
    have hO : OKP G h0 a (upd (upd (upd (upd F 2 (nI sz)) 9 (nI at86)) 10 (nI (dp + 1))) 11 (nI sg87)) R Z (updA B 10 f88) J K84 w := hO.to rfl
    refine W.widen (k := (((2 * (at10 - at9) - 1) + 1) + (2 * (at86 - (at10 + 1)) - 1))) (n := (((11 * (2 * (at10 - at9) - 1)) + 11) + (11 * (2 * (at86 - (at10 + 1)) - 1)))) (by show ((2 * (at10 - at9) - 1) + 1) + (2 * (at86 - (at10 + 1)) - 1) ≤ (((2 * (at10 - at9) - 1) + 1) + (2 * (at86 - (at10 + 1)) - 1)); omega) (by show ((11 * (2 * (at10 - at9) - 1)) + 11) + (11 * (2 * (at86 - (at10 + 1)) - 1)) ≤ (((11 * (2 * (at10 - at9) - 1)) + 11) + (11 * (2 * (at86 - (at10 + 1)) - 1))); omega) ?_
    refine W.eq (g2 := F0 m 51 ls [.ref r83, .ref q33]) rfl ?_
    have hns101 : NwS K K84 g g85 := NwS.call hns76 h89 (fun o9 h9 => absurd h9 (by omega))
    have hf102 : K84.1 r83 = 1 := h89.2.2.1.2.1
    have hg103 : g85 0 q33 = 0 := (h89.2.1.2 q33 (by rw [hf67]; decide) 0).trans hg63
    have hno104 : NoO K84 g85 q33 := NoO.call hno77 h89 hf67 (by omega)
    have hgz105 : g85 0 r6 = (gset g8 q33 0 0 0) 0 r6 := h89.2.1.2 r6 (by rw [hf74]; decide) 0
    have hgy106 := h89.2.2.1
    have hgy106a := hgy106.2.2.1
    have hgy106b := hgy106.2.2.2.1
    refine p_put (v := .ref r83) (ty := (.object "JinjaTongue$Node")) (C := RX7) (Tc := TX7) (N := 11) (ci := 13) (K' := (kC K84 1 q33 (some r83))) hx hb hq pin_wsX70 tyX7 tyX7_ok nmX7 hown hE hP hD hS hO (by rw [hf92]; decide) (rep_1 hf92) rfl 7 (by decide) (hq _ pw_910) (fun _ h9 => h9) rfl (by decide +kernel) rfl rfl (Nat.le_of_ble_eq_true rfl) rfl (by rw [rep_1 (show (kC K84 1 q33 (some r83)).1 q33 = 1 from hf92), pc_1] <;> rfl) (fun p9 hp9 => rep_kC hp9) dX8_expression_51 (fun H locs w hP hD hS hO => ?_)
    obtain ⟨K107, hK108⟩ : ∃ z : PK, z = (kC K84 1 q33 (some r83)) := ⟨_, rfl⟩
    rw [← hK108] at hO
    have hf109 : K107.1 q33 = 1 := (by rw [hK108]; exact hf92)
    have hf110 : K107.2.1 0 q33 = 20 := (by rw [hK108]; exact hf93)
    have hf111 : K107.2.1 2 q33 = ((kN K7 q33 1 0).2.1 2 r6) := (by rw [hK108]; exact hf94)
    have hf112 : K107.2.2.1 2 q33 = none := (by rw [hK108]; exact (kC_of (by decide)).trans hf96)
    have hf113 : K107.2.2.1 3 q33 = none := (by rw [hK108]; exact (kC_of (by decide)).trans hf97)
    have hf114 : K107.2.2.1 4 q33 = none := (by rw [hK108]; exact (kC_of (by decide)).trans hf98)
    have hf115 : K107.1 r6 = 1 := (by rw [hK108]; exact hf99)
    have hf116 : K107.2.2.1 0 q33 = some r6 := (by rw [hK108]; exact (kC_of (by decide)).trans hf100)
    have hf117 : K107.1 r83 = 1 := (by rw [hK108]; exact hf102)
    have hf118 : K107.2.2.1 1 q33 = some r83 := by rw [hK108]; exact kC_eq
    have hns119 : NwS K K107 g g85 := by rw [hK108]; exact NwS.put hns101 hq62 hg103
    have hno120 : NoO K107 g85 q33 := by rw [hK108]; exact hno104
    refine lv_aload_n hx hb dX8_expression_54 rfl (lv_at hl 2 rfl) ?_
    refine lv_bipush (v := 42) hx hb dX8_expression_55 (by decide) ?_
    have hO : OKW G h0 a (upd (upd (upd (upd (upd (upd (upd (upd (upd F 2 (nI sz)) 9 (nI at9)) 10 (nI dp)) 11 (nI sg)) 9 (nI at86)) 10 (nI (dp + 1))) 11 (nI sg87)) 2 (nI sz)) 9 (nI at86)) R Z (updA B 10 f88) J K107.1 (fun q99 x99 => x99 = rep G a K107 q99) w := hO.to rfl
    obtain ⟨_, qr124, hqr125⟩ := hO.2.1 23 _ (sg_23 G h0 a _ _ _ _ _)
    refine pn_V0 (G := G) (As := [.int 42]) (rest := []) hx hb hml hown hq hE hX pX0_al hP hD hS hA hl.1 (P_take l G h0 a (upd (upd (upd (upd (upd (upd (upd F 2 (nI sz)) 9 (nI at9)) 10 (nI dp)) 11 (nI sg)) 9 (nI at86)) 10 (nI (dp + 1))) 11 (nI sg87)) R Z (updA B 10 f88) J K107.1 (fun q99 x99 => x99 = rep G a K107 q99) w 42 at86 sz (by omega) (by omega) (by decide) hO hl0) (gV pw_793 pw_794 pw_795 pw_796 pw_781) hV_X8_take qr124 5 hqr125 rfl rfl rfl (Nat.le_of_ble_eq_true rfl) dX8_expression_57 ⟨(by show (((2 * (at10 - at9) - 1) + 1) + (2 * (at86 - (at10 + 1)) - 1)) + 1 ≤ (2 * (sz - at9) + 20); omega), (by show (((11 * (2 * (at10 - at9) - 1)) + 11) + (11 * (2 * (at86 - (at10 + 1)) - 1))) + 6 ≤ (11 * (2 * (sz - at9) + 20)); omega)⟩ ⟨(by show 7 + 1 ≤ (40 * n + 40); omega), (by show 8 + (2 + 11) + 122 ≤ (1300 * n + 1300); omega)⟩ (fun v123 u121 H locs hw122 hP hD hS => ?_) (fun ux ce9 q9 H9 locs9 hux hP9 hD9 hS9 hce hcv hcl => pb_out ux (ThQ.up (Thx.same (Thx.same (Thx.b (Thx.f (Thx.f (Thx.f Thx.rfl (by omega)) (by omega)) (by omega)) (by omega) (by decide)) rfl) rfl) RhX.rfl hux) hnt hlocks hce hcv hcl hP9 hD9 hS9 (by show (((2 * (at10 - at9) - 1) + 1) + (2 * (at86 - (at10 + 1)) - 1)) + 1 ≤ (2 * (sz - at9) + 20); omega) (by show (((11 * (2 * (at10 - at9) - 1)) + 11) + (11 * (2 * (at86 - (at10 + 1)) - 1))) + 6 ≤ (11 * (2 * (sz - at9) + 20)); omega))
    obtain ⟨w, _⟩ := u121
    obtain ⟨hw122, h126, hO⟩ := hw122
    have h126 : at86 + 1 ≤ sz := h126
    obtain rfl : v123 = some (.int (nI at86)) := hw122
    have hO : OKP G h0 a (upd (upd (upd (upd F 2 (nI sz)) 9 (nI (at86 + 1))) 10 (nI (dp + 1))) 11 (nI sg87)) R Z (updA B 10 f88) J K107 w := hO.to rfl
    refine W.widen (k := (((2 * (at10 - at9) - 1) + 1) + (2 * (at86 - (at10 + 1)) - 1))) (n := (((11 * (2 * (at10 - at9) - 1)) + 11) + (11 * (2 * (at86 - (at10 + 1)) - 1)))) (by show (((2 * (at10 - at9) - 1) + 1) + (2 * (at86 - (at10 + 1)) - 1)) + 0 ≤ (((2 * (at10 - at9) - 1) + 1) + (2 * (at86 - (at10 + 1)) - 1)); omega) (by show (((11 * (2 * (at10 - at9) - 1)) + 11) + (11 * (2 * (at86 - (at10 + 1)) - 1))) + 0 ≤ (((11 * (2 * (at10 - at9) - 1)) + 11) + (11 * (2 * (at86 - (at10 + 1)) - 1))); omega) ?_
    refine W.eq (g2 := F0 m 60 ls [.int (nI at86)]) rfl ?_
    refine lv_pop hx hb dX8_expression_60 rfl ?_
    refine lv_aload_n hx hb dX8_expression_61 rfl (lv_at hl 0 rfl) ?_
    refine lv_aload_n hx hb dX8_expression_62 rfl (lv_at hl 2 rfl) ?_
    have hO : OKP G h0 a (upd (upd (upd (upd (upd (upd (upd (upd (upd (upd (upd F 2 (nI sz)) 9 (nI at9)) 10 (nI dp)) 11 (nI sg)) 9 (nI (at86 + 1))) 10 (nI (dp + 1))) 11 (nI sg87)) 2 (nI sz)) 9 (nI (at86 + 1))) 10 (nI (dp + 1))) 11 (nI sg87)) R Z (updA B 10 f88) J K107 w := hO.to rfl
    obtain ⟨_, qr130, hqr131⟩ := hO.2.1 23 _ (sg_23 G h0 a _ _ _ _ _)
    refine pn_V0 (G := G) (As := []) (rest := [.ref q33]) hx hb hml hown hq hE hX pX0_al hP hD hS hA hl.1 ((ihe (by omega)) h0 a (upd (upd (upd (upd (upd (upd (upd F 2 (nI sz)) 9 (nI at9)) 10 (nI dp)) 11 (nI sg)) 9 (nI (at86 + 1))) 10 (nI (dp + 1))) 11 (nI sg87)) R Z (updA B 10 f88) J K107 w (at86 + 1) sz (dp + 1) sg87 0 g85 (by omega) (by omega) (by omega) (by omega) hns119.1 (fun o9 h9 => absurd h9 (by omega)) hO hl0) (gV pw_916 pw_917 pw_918 pw_796 pw_942) hV_X8_expression qr130 5 hqr131 rfl rfl rfl (Nat.le_of_ble_eq_true rfl) dX8_expression_63 ⟨(by show (((2 * (at10 - at9) - 1) + 1) + (2 * (at86 - (at10 + 1)) - 1)) + (2 * (sz - (at86 + 1)) + 20) ≤ (2 * (sz - at9) + 20); omega), (by show (((11 * (2 * (at10 - at9) - 1)) + 11) + (11 * (2 * (at86 - (at10 + 1)) - 1))) + (11 * (2 * (sz - (at86 + 1)) + 20)) ≤ (11 * (2 * (sz - at9) + 20)); omega)⟩ ⟨(by show (40 * (n - 1) + 40) + 1 ≤ (40 * n + 40); omega), (by show 8 + (3 + 11) + (1300 * (n - 1) + 1300) ≤ (1300 * n + 1300); omega)⟩ (fun v129 u127 H locs hw128 hP hD hS => ?_) (fun ux ce9 q9 H9 locs9 hux hP9 hD9 hS9 hce hcv hcl => pb_out ux (ThQ.up (Thx.same (Thx.same (Thx.same (Thx.same (Thx.b (Thx.f (Thx.f (Thx.f Thx.rfl (by omega)) (by omega)) (by omega)) (by omega) (by decide)) rfl) rfl) rfl) rfl) RhX.rfl hux) hnt hlocks hce hcv hcl hP9 hD9 hS9 (by show (((2 * (at10 - at9) - 1) + 1) + (2 * (at86 - (at10 + 1)) - 1)) + (2 * (sz - (at86 + 1)) + 20) ≤ (2 * (sz - at9) + 20); omega) (by show (((11 * (2 * (at10 - at9) - 1)) + 11) + (11 * (2 * (at86 - (at10 + 1)) - 1))) + (11 * (2 * (sz - (at86 + 1)) + 20)) ≤ (11 * (2 * (sz - at9) + 20)); omega))
    obtain ⟨w, r132, K133, g134, at135, sg136, f137⟩ := u127
    obtain ⟨hw128, h138, h139, h140, hO⟩ := hw128
    have h138 : NwR K107 K133 g85 g134 r132 0 (at86 + 1) (5 * (20 - (dp + 1)) + 6 + (sg136 - sg87)) := h138
    have h139 : (at86 + 1) + 1 ≤ at135 ∧ at135 ≤ sz := h139
    have h140 : sg87 ≤ sg136 ∧ sg136 ≤ 60 := h140
    obtain rfl : v129 = some (.ref r132) := hw128
    have hf141 : K133.1 q33 = 1 := (((h138).2.1.1 q33 (by rw [hf109]; decide)).1).trans hf109
    have hf142 : K133.2.1 0 q33 = 20 := (((h138).2.1.1 q33 (by rw [hf109]; decide)).2.1 0).trans hf110
    have hf143 : K133.2.1 2 q33 = ((kN K7 q33 1 0).2.1 2 r6) := (((h138).2.1.1 q33 (by rw [hf109]; decide)).2.1 2).trans hf111
    have hf144 : K133.2.2.1 2 q33 = none := (((h138).2.1.1 q33 (by rw [hf109]; decide)).2.2.1 2).trans hf112
    have hf145 : K133.2.2.1 3 q33 = none := (((h138).2.1.1 q33 (by rw [hf109]; decide)).2.2.1 3).trans hf113
    have hf146 : K133.2.2.1 4 q33 = none := (((h138).2.1.1 q33 (by rw [hf109]; decide)).2.2.1 4).trans hf114
    have hf147 : K133.1 r6 = 1 := (((h138).2.1.1 r6 (by rw [hf115]; decide)).1).trans hf115
    have hf148 : K133.2.2.1 0 q33 = some r6 := (((h138).2.1.1 q33 (by rw [hf109]; decide)).2.2.1 0).trans hf116
    have hf149 : K133.1 r83 = 1 := (((h138).2.1.1 r83 (by rw [hf117]; decide)).1).trans hf117
    have hf150 : K133.2.2.1 1 q33 = some r83 := (((h138).2.1.1 q33 (by rw [hf109]; decide)).2.2.1 1).trans hf118
    have hO : OKP G h0 a (upd (upd (upd (upd F 2 (nI sz)) 9 (nI at135)) 10 (nI (dp + 1))) 11 (nI sg136)) R Z (updA B 10 f137) J K133 w := hO.to rfl
    refine W.widen (k := ((((2 * (at10 - at9) - 1) + 1) + (2 * (at86 - (at10 + 1)) - 1)) + (2 * (at135 - (at86 + 1)) - 1))) (n := ((((11 * (2 * (at10 - at9) - 1)) + 11) + (11 * (2 * (at86 - (at10 + 1)) - 1))) + (11 * (2 * (at135 - (at86 + 1)) - 1)))) (by show (((2 * (at10 - at9) - 1) + 1) + (2 * (at86 - (at10 + 1)) - 1)) + (2 * (at135 - (at86 + 1)) - 1) ≤ ((((2 * (at10 - at9) - 1) + 1) + (2 * (at86 - (at10 + 1)) - 1)) + (2 * (at135 - (at86 + 1)) - 1)); omega) (by show (((11 * (2 * (at10 - at9) - 1)) + 11) + (11 * (2 * (at86 - (at10 + 1)) - 1))) + (11 * (2 * (at135 - (at86 + 1)) - 1)) ≤ ((((11 * (2 * (at10 - at9) - 1)) + 11) + (11 * (2 * (at86 - (at10 + 1)) - 1))) + (11 * (2 * (at135 - (at86 + 1)) - 1))); omega) ?_
    refine W.eq (g2 := F0 m 66 ls [.ref r132, .ref q33]) rfl ?_
    have hns151 : NwS K K133 g g134 := NwS.call hns119 h138 (fun o9 h9 => absurd h9 (by omega))
    have hf152 : K133.1 r132 = 1 := h138.2.2.1.2.1
    have hg153 : g134 0 q33 = 0 := (h138.2.1.2 q33 (by rw [hf109]; decide) 0).trans hg103
    have hno154 : NoO K133 g134 q33 := NoO.call hno120 h138 hf109 (by omega)
    have hgz155 : g134 0 r6 = g85 0 r6 := h138.2.1.2 r6 (by rw [hf115]; decide) 0
    have hgz156 : g134 0 r83 = g85 0 r83 := h138.2.1.2 r83 (by rw [hf117]; decide) 0
    have hgy157 := h138.2.2.1
    have hgy157a := hgy157.2.2.1
    have hgy157b := hgy157.2.2.2.1
    refine p_put (v := .ref r132) (ty := (.object "JinjaTongue$Node")) (C := RX7) (Tc := TX7) (N := 11) (ci := 13) (K' := (kC K133 2 q33 (some r132))) hx hb hq pin_wsX70 tyX7 tyX7_ok nmX7 hown hE hP hD hS hO (by rw [hf141]; decide) (rep_1 hf141) rfl 8 (by decide) (hq _ pw_943) (fun _ h9 => h9) rfl (by decide +kernel) rfl rfl (Nat.le_of_ble_eq_true rfl) rfl (by rw [rep_1 (show (kC K133 2 q33 (some r132)).1 q33 = 1 from hf141), pc_2] <;> rfl) (fun p9 hp9 => rep_kC hp9) dX8_expression_66 (fun H locs w hP hD hS hO => ?_)
    obtain ⟨K158, hK159⟩ : ∃ z : PK, z = (kC K133 2 q33 (some r132)) := ⟨_, rfl⟩
    rw [← hK159] at hO
    have hf160 : K158.1 q33 = 1 := (by rw [hK159]; exact hf141)
    have hf161 : K158.2.1 0 q33 = 20 := (by rw [hK159]; exact hf142)
    have hf162 : K158.2.1 2 q33 = ((kN K7 q33 1 0).2.1 2 r6) := (by rw [hK159]; exact hf143)
    have hf163 : K158.2.2.1 3 q33 = none := (by rw [hK159]; exact (kC_of (by decide)).trans hf145)
    have hf164 : K158.2.2.1 4 q33 = none := (by rw [hK159]; exact (kC_of (by decide)).trans hf146)
    have hf165 : K158.1 r6 = 1 := (by rw [hK159]; exact hf147)
    have hf166 : K158.2.2.1 0 q33 = some r6 := (by rw [hK159]; exact (kC_of (by decide)).trans hf148)
    have hf167 : K158.1 r83 = 1 := (by rw [hK159]; exact hf149)
    have hf168 : K158.2.2.1 1 q33 = some r83 := (by rw [hK159]; exact (kC_of (by decide)).trans hf150)
    have hf169 : K158.1 r132 = 1 := (by rw [hK159]; exact hf152)
    have hf170 : K158.2.2.1 2 q33 = some r132 := by rw [hK159]; exact kC_eq
    have hns171 : NwS K K158 g g134 := by rw [hK159]; exact NwS.put hns151 hq62 hg153
    have hno172 : NoO K158 g134 q33 := by rw [hK159]; exact hno154
    refine lv_aload_n hx hb dX8_expression_69 rfl (lv_at hl 2 rfl) ?_
    have hO : OKW G h0 a (upd (upd (upd (upd (upd F 2 (nI sz)) 9 (nI at135)) 10 (nI (dp + 1))) 11 (nI sg136)) 10 (nI (dp + 1))) R Z (updA B 10 f137) J K158.1 (fun q99 x99 => x99 = rep G a K158 q99) w := hO.to rfl
    obtain ⟨_, qr176, hqr177⟩ := hO.2.1 23 _ (sg_23 G h0 a _ _ _ _ _)
    refine pc_V0 (G := G) (As := []) (rest := []) hx hb hml hown hq hE hX pX0_al hP hD hS hA hl.1 (P_leave l G h0 a (upd (upd (upd (upd F 2 (nI sz)) 9 (nI at135)) 10 (nI (dp + 1))) 11 (nI sg136)) R Z (updA B 10 f137) J K158.1 (fun q99 x99 => x99 = rep G a K158 q99) w (dp + 1) (by omega) hO) (gV pw_950 pw_951 pw_952 pw_796 pw_906) hV_X8_leave qr176 5 hqr177 rfl rfl rfl (Nat.le_of_ble_eq_true rfl) dX8_expression_70 ⟨(by show ((((2 * (at10 - at9) - 1) + 1) + (2 * (at86 - (at10 + 1)) - 1)) + (2 * (at135 - (at86 + 1)) - 1)) + 0 ≤ (2 * (sz - at9) + 20); omega), (by show ((((11 * (2 * (at10 - at9) - 1)) + 11) + (11 * (2 * (at86 - (at10 + 1)) - 1))) + (11 * (2 * (at135 - (at86 + 1)) - 1))) + 0 ≤ (11 * (2 * (sz - at9) + 20)); omega)⟩ ⟨(by show 2 + 1 ≤ (40 * n + 40); omega), (by show 8 + (1 + 11) + 60 ≤ (1300 * n + 1300); omega)⟩ (fun v175 u173 H locs hw174 hP hD hS => ?_)
    obtain ⟨w, _⟩ := u173
    obtain ⟨hw174, hO⟩ := hw174
    obtain rfl : v175 = none := hw174
    have hO : OKP G h0 a (upd (upd (upd (upd F 2 (nI sz)) 9 (nI at135)) 10 (nI ((dp + 1) - 1))) 11 (nI sg136)) R Z (updA B 10 f137) J K158 w := hO.to rfl
    refine W.widen (k := ((((2 * (at10 - at9) - 1) + 1) + (2 * (at86 - (at10 + 1)) - 1)) + (2 * (at135 - (at86 + 1)) - 1))) (n := ((((11 * (2 * (at10 - at9) - 1)) + 11) + (11 * (2 * (at86 - (at10 + 1)) - 1))) + (11 * (2 * (at135 - (at86 + 1)) - 1)))) (by show ((((2 * (at10 - at9) - 1) + 1) + (2 * (at86 - (at10 + 1)) - 1)) + (2 * (at135 - (at86 + 1)) - 1)) + 0 ≤ ((((2 * (at10 - at9) - 1) + 1) + (2 * (at86 - (at10 + 1)) - 1)) + (2 * (at135 - (at86 + 1)) - 1)); omega) (by show ((((11 * (2 * (at10 - at9) - 1)) + 11) + (11 * (2 * (at86 - (at10 + 1)) - 1))) + (11 * (2 * (at135 - (at86 + 1)) - 1))) + 0 ≤ ((((11 * (2 * (at10 - at9) - 1)) + 11) + (11 * (2 * (at86 - (at10 + 1)) - 1))) + (11 * (2 * (at135 - (at86 + 1)) - 1))); omega) ?_
    refine W.eq (g2 := F0 m 73 ls []) rfl ?_
    refine lv_aload_n hx hb dX8_expression_73 rfl (lv_at hl 0 rfl) ?_
    refine W_size (fun hz1 hz2 => ?_)
    refine vx_ret ?_
    have hkid : ∀ f9 y9 : Nat, f9 ≤ 3 → K158.2.2.1 f9 q33 = some y9 → K158.1 y9 = 1 ∧ 1 ≤ g134 0 y9 ∧ g134 0 y9 < (5 * (20 - dp) + 6 + (sg136 - sg)) := by
      intro f9 y9 hf9 hy9
      rcases (show f9 = 0 ∨ f9 = 1 ∨ f9 = 2 ∨ f9 = 3 by omega) with rfl | rfl | rfl | rfl
      · rw [hf166] at hy9; cases hy9; exact ⟨hf165, (by omega), by omega⟩
      · rw [hf168] at hy9; cases hy9; exact ⟨hf167, (by omega), by omega⟩
      · rw [hf170] at hy9; cases hy9; exact ⟨hf169, (by omega), by omega⟩
      · rw [hf163] at hy9; cases hy9
    have hdn := NwS.done1 (q := q33) (L := (5 * (20 - dp) + 6 + (sg136 - sg))) (O := O) (k := at9) hns171 hq62 hf160 hg153 (by omega) (by omega) (by rw [hf161]; exact ⟨fun z => absurd z (by decide), fun z => absurd z (by decide), fun _ => ⟨(by show ¬ K158.2.2.1 0 q33 = none; rw [hf166]; intro z; cases z), (by show ¬ K158.2.2.1 1 q33 = none; rw [hf168]; intro z; cases z), (by show ¬ K158.2.2.1 2 q33 = none; rw [hf170]; intro z; cases z)⟩, fun z => absurd z (by decide), fun z => absurd z (by decide)⟩) (fun f9 z => by rw [hf161] at z; rcases z with ⟨z, _⟩ | ⟨z | z | z, _⟩ <;> exact absurd z (by decide)) hkid hf164 hno172 (fun f9 x9 _ _ => Kch.no (by rw [hf161]; decide)) how
    have hz178 : NwR K K158 g (gset g134 q33 (5 * (20 - dp) + 6 + (sg136 - sg)) O at9) q33 O at9 (5 * (20 - dp) + 6 + (sg136 - sg)) := hdn
    have hz179 : at9 + 1 ≤ at135 ∧ at135 ≤ sz := (by omega)
    have hz180 : sg ≤ sg136 ∧ sg136 ≤ 60 := (by omega)
    have hO : OKP G h0 a (upd (upd (upd (upd F 2 (nI sz)) 9 (nI at135)) 10 (nI dp)) 11 (nI sg136)) R Z (updA B 10 f137) J K158 w := hO.to rfl
    refine W.widen (k := (2 * (sz - at9) + 20)) (n := (11 * (2 * (sz - at9) + 20))) (by omega) (by omega) ?_
    have hzz1 : H.size ≤ s.heap.size + ((2 * (at135 - at9) - 1)) := (by have z : ((((2 * (at10 - at9) - 1) + 1) + (2 * (at86 - (at10 + 1)) - 1)) + (2 * (at135 - (at86 + 1)) - 1)) ≤ (2 * (at135 - at9) - 1) := (by omega); omega)
    have hzz2 : hSl H ≤ hSl s.heap + ((11 * (2 * (at135 - at9) - 1))) := (by have z : ((((11 * (2 * (at10 - at9) - 1)) + 11) + (11 * (2 * (at86 - (at10 + 1)) - 1))) + (11 * (2 * (at135 - (at86 + 1)) - 1))) ≤ (11 * (2 * (at135 - at9) - 1)) := (by omega); omega)
    exact W.aret (v := .ref q33) hx hb hr (Or.inl ⟨_, rfl⟩) (Or.inr ⟨_, rfl⟩) (fun t99 ht99 hW99 => ⟨⟨_, (w, (q33, K158, (gset g134 q33 (5 * (20 - dp) + 6 + (sg136 - sg)) O at9), at135, sg136, f137)), rfl, ⟨rfl, hz178, hz179, hz180, hO⟩, by rw [ht99]; exact hP, hD, by rw [ht99]; exact hzz1, by rw [ht99]; exact hzz2⟩, hS.F ht99⟩) hS.2.2 dX8_expression_74
  · have n181 : r23 = 0 := (nI_eq (a := r23) (b := 0) (by omega) (by omega)).mp c25
    refine lv_aload_n hx hb dX8_expression_15 rfl (lv_at hl 0 rfl) ?_
    refine W_size (fun hz1 hz2 => ?_)
    refine vx_ret ?_
    have how9 := NwR.up (L' := 5 * (20 - dp) + 6 + (sg11 - sg)) (NwR.own (O2 := O) (k2 := at9) h13 (by omega) (by omega) how) (by omega)
    have hz182 : NwR K K7 g (gset g8 r6 (g8 0 r6) O at9) r6 O at9 (5 * (20 - dp) + 6 + (sg11 - sg)) := how9
    have hz183 : at9 + 1 ≤ at10 ∧ at10 ≤ sz := (by omega)
    have hz184 : sg ≤ sg11 ∧ sg11 ≤ 60 := (by omega)
    have hO : OKP G h0 a (upd (upd (upd (upd F 2 (nI sz)) 9 (nI at10)) 10 (nI dp)) 11 (nI sg11)) R Z (updA B 10 f12) J K7 w := hO.to rfl
    refine W.widen (k := (2 * (sz - at9) + 20)) (n := (11 * (2 * (sz - at9) + 20))) (by omega) (by omega) ?_
    have hzz1 : H.size ≤ s.heap.size + ((2 * (at10 - at9) - 1)) := (by have z : (2 * (at10 - at9) - 1) ≤ (2 * (at10 - at9) - 1) := (by omega); omega)
    have hzz2 : hSl H ≤ hSl s.heap + ((11 * (2 * (at10 - at9) - 1))) := (by have z : (11 * (2 * (at10 - at9) - 1)) ≤ (11 * (2 * (at10 - at9) - 1)) := (by omega); omega)
    exact W.aret (v := .ref r6) hx hb hr (Or.inl ⟨_, rfl⟩) (Or.inr ⟨_, rfl⟩) (fun t99 ht99 hW99 => ⟨⟨_, (w, (r6, K7, (gset g8 r6 (g8 0 r6) O at9), at10, sg11, f12)), rfl, ⟨rfl, hz182, hz183, hz184, hO⟩, by rw [ht99]; exact hP, hD, by rw [ht99]; exact hzz1, by rw [ht99]; exact hzz2⟩, hS.F ht99⟩) hS.2.2 dX8_expression_16
theorem PS_all (l : Launch) (G : pT) (n : Nat) (hpf : PPf l G n) : ∀ d : Nat, PSg l G n d := by
  intro d
  induction d using Nat.strongRecOn with
  | ind d ih =>
    intro h0 a F R Z B J K w ls9 at9 sz dp sg O g hsz hat hdp hsg hwn how hls hO hl0
    exact P_signed l G h0 a F R Z B J K w ls9 d n at9 sz dp sg O g hsz hat hdp hsg hwn how hls hpf (fun d9 hd9 => ih d9 hd9) hO hl0
theorem PE_all (l : Launch) (G : pT) : ∀ n : Nat, PEx l G n ∧ PPf l G n := by
  intro n
  induction n with
  | zero =>
    have hp : PPf l G 0 := by
      intro h0 a F R Z B J K w at9 sz dp sg O g hsz hat hdp hsg hwn how hO hl0
      exact P_prefixed l G h0 a F R Z B J K w 0 at9 sz dp sg O g hsz hat hdp hsg hwn how (fun z => absurd z (by omega)) (fun z => absurd z (by omega)) hO hl0
    refine ⟨?_, hp⟩
    intro h0 a F R Z B J K w at9 sz dp sg O g hsz hat hdp hsg hwn how hO hl0
    exact P_expression l G h0 a F R Z B J K w 0 at9 sz dp sg O g hsz hat hdp hsg hwn how (PS_all l G 0 hp 10) (fun z => absurd z (by omega)) hO hl0
  | succ n ih =>
    have hp : PPf l G (n + 1) := by
      intro h0 a F R Z B J K w at9 sz dp sg O g hsz hat hdp hsg hwn how hO hl0
      exact P_prefixed l G h0 a F R Z B J K w (n + 1) at9 sz dp sg O g hsz hat hdp hsg hwn how (fun _ => ih.1) (fun _ => ih.2) hO hl0
    refine ⟨?_, hp⟩
    intro h0 a F R Z B J K w at9 sz dp sg O g hsz hat hdp hsg hwn how hO hl0
    exact P_expression l G h0 a F R Z B J K w (n + 1) at9 sz dp sg O g hsz hat hdp hsg hwn how (PS_all l G (n + 1) hp 10) (fun _ => ih.1) hO hl0
theorem IhE.all (l : Launch) (G : pT) (n : Nat) : IhE l G n := fun _ => (PE_all l G (n - 1)).1
