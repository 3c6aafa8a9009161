theorem dX8_dotted_0 : decode cX8_dotted 0 = .ok (.aload_n 0, 1) := by decide +kernel
theorem dX8_dotted_1 : decode cX8_dotted 1 = .ok (.bipush 40, 2) := by decide +kernel
theorem dX8_dotted_3 : decode cX8_dotted 3 = .ok (.invokevirtual 53, 3) := by decide +kernel
theorem dX8_dotted_6 : decode cX8_dotted 6 = .ok (.pop, 1) := by decide +kernel
theorem dX8_dotted_7 : decode cX8_dotted 7 = .ok (.aload_n 0, 1) := by decide +kernel
theorem dX8_dotted_8 : decode cX8_dotted 8 = .ok (.bipush 16, 2) := by decide +kernel
theorem dX8_dotted_10 : decode cX8_dotted 10 = .ok (.invokevirtual 80, 3) := by decide +kernel
theorem dX8_dotted_13 : decode cX8_dotted 13 = .ok (.istore_n 2, 1) := by decide +kernel
theorem dX8_dotted_14 : decode cX8_dotted 14 = .ok (.iload_n 2, 1) := by decide +kernel
theorem dX8_dotted_15 : decode cX8_dotted 15 = .ok (.ifCond .eq 12, 3) := by decide +kernel
theorem dX8_dotted_27 : decode cX8_dotted 27 = .ok (.aload_n 0, 1) := by decide +kernel
theorem dX8_dotted_28 : decode cX8_dotted 28 = .ok (.bipush 65, 2) := by decide +kernel
theorem dX8_dotted_30 : decode cX8_dotted 30 = .ok (.invokevirtual 53, 3) := by decide +kernel
theorem dX8_dotted_33 : decode cX8_dotted 33 = .ok (.istore_n 3, 1) := by decide +kernel
theorem dX8_dotted_34 : decode cX8_dotted 34 = .ok (.iload_n 2, 1) := by decide +kernel
theorem dX8_dotted_35 : decode cX8_dotted 35 = .ok (.ifCond .ne 16, 3) := by decide +kernel
theorem dX8_dotted_38 : decode cX8_dotted 38 = .ok (.aload_n 0, 1) := by decide +kernel
theorem dX8_dotted_39 : decode cX8_dotted 39 = .ok (.bipush 34, 2) := by decide +kernel
theorem dX8_dotted_41 : decode cX8_dotted 41 = .ok (.invokevirtual 36, 3) := by decide +kernel
theorem dX8_dotted_44 : decode cX8_dotted 44 = .ok (.ifCond .eq 7, 3) := by decide +kernel
theorem dX8_dotted_51 : decode cX8_dotted 51 = .ok (.iconst 0, 1) := by decide +kernel
theorem dX8_dotted_52 : decode cX8_dotted 52 = .ok (.istore 4, 2) := by decide +kernel
theorem dX8_dotted_54 : decode cX8_dotted 54 = .ok (.new 143, 3) := by decide +kernel
theorem dX8_dotted_57 : decode cX8_dotted 57 = .ok (.dup, 1) := by decide +kernel
theorem dX8_dotted_58 : decode cX8_dotted 58 = .ok (.iload_n 2, 1) := by decide +kernel
theorem dX8_dotted_59 : decode cX8_dotted 59 = .ok (.ifCond .eq 8, 3) := by decide +kernel
theorem dX8_dotted_67 : decode cX8_dotted 67 = .ok (.iload 4, 2) := by decide +kernel
theorem dX8_dotted_69 : decode cX8_dotted 69 = .ok (.ifCond .eq 8, 3) := by decide +kernel
theorem dX8_dotted_77 : decode cX8_dotted 77 = .ok (.bipush 12, 2) := by decide +kernel
theorem dX8_dotted_79 : decode cX8_dotted 79 = .ok (.iload_n 3, 1) := by decide +kernel
theorem dX8_dotted_80 : decode cX8_dotted 80 = .ok (.aload_n 1, 1) := by decide +kernel
theorem dX8_dotted_81 : decode cX8_dotted 81 = .ok (.getfield 248, 3) := by decide +kernel
theorem dX8_dotted_84 : decode cX8_dotted 84 = .ok (.invokespecial 145, 3) := by decide +kernel
theorem dX8_dotted_87 : decode cX8_dotted 87 = .ok (.astore 5, 2) := by decide +kernel
theorem dX8_dotted_89 : decode cX8_dotted 89 = .ok (.aload 5, 2) := by decide +kernel
theorem dX8_dotted_91 : decode cX8_dotted 91 = .ok (.aload_n 1, 1) := by decide +kernel
theorem dX8_dotted_92 : decode cX8_dotted 92 = .ok (.putfield 165, 3) := by decide +kernel
theorem dX8_dotted_95 : decode cX8_dotted 95 = .ok (.iload 4, 2) := by decide +kernel
theorem dX8_dotted_97 : decode cX8_dotted 97 = .ok (.ifCond .eq 9, 3) := by decide +kernel
theorem dX8_dotted_106 : decode cX8_dotted 106 = .ok (.aload 5, 2) := by decide +kernel
theorem dX8_dotted_108 : decode cX8_dotted 108 = .ok (.areturn, 1) := by decide +kernel
theorem dX8_dotted_47 : decode cX8_dotted 47 = .ok (.iconst 1, 1) := by decide +kernel
theorem dX8_dotted_48 : decode cX8_dotted 48 = .ok (.goto 4, 3) := by decide +kernel
theorem dX8_dotted_72 : decode cX8_dotted 72 = .ok (.bipush 10, 2) := by decide +kernel
theorem dX8_dotted_74 : decode cX8_dotted 74 = .ok (.goto 5, 3) := by decide +kernel
theorem dX8_dotted_100 : decode cX8_dotted 100 = .ok (.aload_n 0, 1) := by decide +kernel
theorem dX8_dotted_101 : decode cX8_dotted 101 = .ok (.aload 5, 2) := by decide +kernel
theorem dX8_dotted_103 : decode cX8_dotted 103 = .ok (.invokevirtual 276, 3) := by decide +kernel
theorem dX8_dotted_18 : decode cX8_dotted 18 = .ok (.aload_n 0, 1) := by decide +kernel
theorem dX8_dotted_19 : decode cX8_dotted 19 = .ok (.getfield 17, 3) := by decide +kernel
theorem dX8_dotted_22 : decode cX8_dotted 22 = .ok (.iconst 1, 1) := by decide +kernel
theorem dX8_dotted_23 : decode cX8_dotted 23 = .ok (.isub, 1) := by decide +kernel
theorem dX8_dotted_24 : decode cX8_dotted 24 = .ok (.goto 9, 3) := by decide +kernel
theorem dX8_dotted_62 : decode cX8_dotted 62 = .ok (.bipush 13, 2) := by decide +kernel
theorem dX8_dotted_64 : decode cX8_dotted 64 = .ok (.goto 15, 3) := by decide +kernel
set_option maxHeartbeats 16000000 in
set_option maxRecDepth 100000 in
theorem P_dotted (l : Launch) (G : pT) (h0 : Nat) (a : Nat → Nat) (F : Nat → Int32) (R : Nat → Value) (Z : Int64) (B : Nat → Nat → Int32) (J : Nat → Nat → Int64) (K : PK) (w : va_W) (x0 : Nat) (sb : Nat) (kr : Nat) (n : Nat) (at9 : Nat) (sz : Nat) (dp : Nat) (sg : Nat) (O : Nat) (g : Nat → Nat → Nat) (hsz : sz ≤ 5000) (hat : at9 ≤ sz) (hdp : dp + n = 20) (hsg : sg ≤ 60) (hwn : WN K g) (how : ∀ o : Nat, O = o + 1 → K.1 o = 1 ∧ g 0 o = 0 ∧ ¬ K.2.1 0 o = 32) (hx0 : K.1 x0 = 1) (hx1 : 1 ≤ g 0 x0) (hx2 : sb + 1 ≤ sg ∧ g 0 x0 + 1 ≤ 5 * (20 - dp) + 3 + (sg - sb)) (hkr : kr ≤ 6000) (ihe : IhE l G n) (hO : OKP G h0 a (upd (upd (upd (upd F 2 (nI sz)) 9 (nI at9)) 10 (nI dp)) 11 (nI sg)) R Z B J K w) (hl0 : l.stackTraces = false) : PBn l G pX0 yX8_dotted cX8_dotted 6 (some (.object "JinjaTongue$Node")) ({ frames := (40 * n + 16), cells := (2 * (sz - at9) + 19), slots := (11 * (2 * (sz - at9) + 19)), locals := (1300 * n + 480) }) [.ref (a 3), .ref x0] w (fun (v : Option Value) (u : va_W × (Nat × PK × (Nat → Nat → Nat) × Nat × Nat × (Nat → Int32))) => v = some (.ref u.2.1) ∧ (NwR K u.2.2.1 g u.2.2.2.1 u.2.1 O kr ((5 * (20 - dp) + 3 + (u.2.2.2.2.2.1 - sb)))) ∧ (at9 + 2 ≤ u.2.2.2.2.1 ∧ u.2.2.2.2.1 ≤ sz) ∧ (sg ≤ u.2.2.2.2.2.1 ∧ u.2.2.2.2.2.1 ≤ 60) ∧ (OKP G h0 a (upd (upd (upd (upd F 2 (nI sz)) 9 (nI u.2.2.2.2.1)) 10 (nI dp)) 11 (nI u.2.2.2.2.2.1)) R Z (updA B 10 u.2.2.2.2.2.2) J u.2.2.1 u.1)) (fun u => u.1) (fun (u : va_W × (Nat × PK × (Nat → Nat → Nat) × Nat × Nat × (Nat → Int32))) => (2 * (u.2.2.2.2.1 - at9) - 3)) (fun (u : va_W × (Nat × PK × (Nat → Nat → Nat) × Nat × Nat × (Nat → Int32))) => (11 * (2 * (u.2.2.2.2.1 - at9) - 3))) (fun (u : va_W × (Nat → Int32) × (Nat → Value) × (Nat → Nat → Int32)) => ThQ G h0 a (upd (upd (upd (upd F 2 (nI sz)) 9 (nI at9)) 10 (nI dp)) 11 (nI sg)) R Z B J u) (fun u => u.1) := by
  intro sz
  refine vx_ofW (cc := cX8_dotted) (maxL := 6) (ret := (some (.object "JinjaTongue$Node"))) (by decide) rfl ?_
  intro p e s m args below meth c s₁ B9 hml hnt hv
  obtain ⟨rfl, hsz, hP, hD0, hE, hX⟩ := hv
  have hx := B9.exec
  have hb := B9.bytes
  have hr := B9.returns
  have hts := atoms_spec (ws := Cond.code yX8_dotted cX8_dotted 6 (some (.object "JinjaTongue$Node")) :: pw) B9.pre
  have hq : ∀ w ∈ pw, w.before _ s = true := fun w h => hts w (List.mem_cons_of_mem _ h)
  have hown : s.vm.findClass RX8 = some m.cls := findClass_of_methodNamed B9.named
  have hlocks := B9.notSynchronized
  subst hsz
  have hD := hD0.self (sz := s.heap.size)
  have hA : ∀ q : Nat, s.heap.size ≤ q → va_A w s.heap.size q := fun q h => Or.inr h
  generalize va_A w s.heap.size = A at hD hE hA ⊢
  have hS : va_S A s.heap s.heap [] := va_S.rf
  have hl := lv_entry ([.ref (a 3), .ref x0]) (n := 6) (Nat.le_of_ble_eq_true rfl)
  rw [lg_entry_eq]
  generalize (lg_sl ([.ref (a 3), .ref x0]) ++ List.replicate (6 - (lg_sl ([.ref (a 3), .ref x0])).length) Slot.unset).toArray = ls at hl ⊢
  have hl : lv_has ls 6 [(0, .ref (a 3)), (1, .ref x0)] := hl
  have hns0 : NwS K K g g := NwS.nil hwn
  refine lv_aload_n hx hb dX8_dotted_0 rfl (lv_at hl 0 rfl) ?_
  refine lv_bipush (v := 40) hx hb dX8_dotted_1 (by decide) ?_
  have hO : OKW G h0 a (upd (upd (upd (upd (upd (upd F 2 (nI sz)) 9 (nI at9)) 10 (nI dp)) 11 (nI sg)) 2 (nI sz)) 9 (nI at9)) R Z B J K.1 (fun q99 x99 => x99 = rep G a K q99) w := hO.to rfl
  obtain ⟨_, qr4, hqr5⟩ := hO.2.1 23 _ (sg_23 G h0 a _ _ _ _ _)
  refine pn_V0 (G := G) (As := [.int 40]) (rest := []) hx hb hml hown hq hE hX pX0_al hP hD hS hA hl.1 (P_take l G h0 a (upd (upd (upd (upd F 2 (nI sz)) 9 (nI at9)) 10 (nI dp)) 11 (nI sg)) R Z B J K.1 (fun q99 x99 => x99 = rep G a K q99) w 40 at9 sz (by omega) (by omega) (by decide) hO hl0) (gV pw_793 pw_794 pw_795 pw_796 pw_781) hV_X8_take qr4 5 hqr5 rfl rfl rfl (Nat.le_of_ble_eq_true rfl) dX8_dotted_3 ⟨(by show 0 + 1 ≤ (2 * (sz - at9) + 19); omega), (by show 0 + 6 ≤ (11 * (2 * (sz - at9) + 19)); omega)⟩ ⟨(by show 7 + 1 ≤ (40 * n + 16); omega), (by show 8 + (2 + 11) + 122 ≤ (1300 * n + 480); omega)⟩ (fun v3 u1 H locs hw2 hP hD hS => ?_) (fun ux ce9 q9 H9 locs9 hux hP9 hD9 hS9 hce hcv hcl => pb_out ux (ThQ.up (Thx.same (Thx.same Thx.rfl rfl) rfl) RhX.rfl hux) hnt hlocks hce hcv hcl hP9 hD9 hS9 (by show 0 + 1 ≤ (2 * (sz - at9) + 19); omega) (by show 0 + 6 ≤ (11 * (2 * (sz - at9) + 19)); omega))
  obtain ⟨w, _⟩ := u1
  obtain ⟨hw2, h6, hO⟩ := hw2
  have h6 : at9 + 1 ≤ sz := h6
  obtain rfl : v3 = some (.int (nI at9)) := hw2
  have hO : OKP G h0 a (upd (upd (upd (upd F 2 (nI sz)) 9 (nI (at9 + 1))) 10 (nI dp)) 11 (nI sg)) R Z B J K w := hO.to rfl
  refine W.widen (k := 0) (n := 0) (by show 0 + 0 ≤ 0; omega) (by show 0 + 0 ≤ 0; omega) ?_
  refine W.eq (g2 := F0 m 6 ls [.int (nI at9)]) rfl ?_
  refine lv_pop hx hb dX8_dotted_6 rfl ?_
  refine lv_aload_n hx hb dX8_dotted_7 rfl (lv_at hl 0 rfl) ?_
  refine lv_bipush (v := 16) hx hb dX8_dotted_8 (by decide) ?_
  have hO : OKW G h0 a (upd (upd (upd (upd (upd (upd F 2 (nI sz)) 9 (nI (at9 + 1))) 10 (nI dp)) 11 (nI sg)) 2 (nI sz)) 9 (nI (at9 + 1))) R Z B J K.1 (fun q99 x99 => x99 = rep G a K q99) w := hO.to rfl
  obtain ⟨_, qr10, hqr11⟩ := hO.2.1 23 _ (sg_23 G h0 a _ _ _ _ _)
  refine pc_V0 (G := G) (As := [.int 16]) (rest := []) hx hb hml hown hq hE hX pX0_al hP hD hS hA hl.1 (P_takeIf l G h0 a (upd (upd (upd (upd F 2 (nI sz)) 9 (nI (at9 + 1))) 10 (nI dp)) 11 (nI sg)) R Z B J K.1 (fun q99 x99 => x99 = rep G a K q99) w 16 (at9 + 1) sz (by omega) (by omega) (by decide) hO) (gV pw_797 pw_798 pw_799 pw_796 pw_789) hV_X8_takeIf qr10 5 hqr11 rfl rfl rfl (Nat.le_of_ble_eq_true rfl) dX8_dotted_10 ⟨(by show 0 + 0 ≤ (2 * (sz - at9) + 19); omega), (by show 0 + 0 ≤ (11 * (2 * (sz - at9) + 19)); omega)⟩ ⟨(by show 3 + 1 ≤ (40 * n + 16); omega), (by show 8 + (2 + 11) + 81 ≤ (1300 * n + 480); omega)⟩ (fun v9 u7 H locs hw8 hP hD hS => ?_)
  obtain ⟨w, r12⟩ := u7
  obtain ⟨hw8, h13, h14, hO⟩ := hw8
  have h13 : r12 ≤ 1 := h13
  have h14 : (at9 + 1) + r12 ≤ sz := h14
  obtain rfl : v9 = some (.int (nI r12)) := hw8
  have hO : OKP G h0 a (upd (upd (upd (upd F 2 (nI sz)) 9 (nI ((at9 + 1) + r12))) 10 (nI dp)) 11 (nI sg)) R Z B J K w := hO.to rfl
  refine W.widen (k := 0) (n := 0) (Nat.le_of_ble_eq_true rfl) (Nat.le_of_ble_eq_true rfl) ?_
  refine W.eq (g2 := F0 m 13 ls [.int (nI r12)]) rfl ?_
  refine lv_istore_n (lv' := [(2, .int (nI r12)), (0, .ref (a 3)), (1, .ref x0)]) hx hb dX8_dotted_13 rfl hl (by decide) rfl (fun ls hl => ?_)
  refine lv_iload_n hx hb dX8_dotted_14 rfl (lv_at hl 0 rfl) ?_
  refine lv_if_eq (tgt := 27) hx hb dX8_dotted_15 (by decide) (fun c15 => ?_) (fun c15 => ?_)
  · have n16 : r12 = 0 := (nI_eq (a := r12) (b := 0) (by omega) (by omega)).mp c15
    refine lv_aload_n hx hb dX8_dotted_27 rfl (lv_at hl 1 rfl) ?_
    refine lv_bipush (v := 65) hx hb dX8_dotted_28 (by decide) ?_
    have hO : OKW G h0 a (upd (upd (upd (upd (upd (upd (upd F 2 (nI sz)) 9 (nI at9)) 10 (nI dp)) 11 (nI sg)) 9 (nI ((at9 + 1) + r12))) 2 (nI sz)) 9 (nI ((at9 + 1) + r12))) R Z B J K.1 (fun q99 x99 => x99 = rep G a K q99) w := hO.to rfl
    obtain ⟨_, qr20, hqr21⟩ := hO.2.1 23 _ (sg_23 G h0 a _ _ _ _ _)
    refine pn_V0 (G := G) (As := [.int 65]) (rest := []) hx hb hml hown hq hE hX pX0_al hP hD hS hA hl.1 (P_take l G h0 a (upd (upd (upd (upd (upd F 2 (nI sz)) 9 (nI at9)) 10 (nI dp)) 11 (nI sg)) 9 (nI ((at9 + 1) + r12))) R Z B J K.1 (fun q99 x99 => x99 = rep G a K q99) w 65 ((at9 + 1) + r12) sz (by omega) (by omega) (by decide) hO hl0) (gV pw_793 pw_794 pw_795 pw_796 pw_781) hV_X8_take qr20 5 hqr21 rfl rfl rfl (Nat.le_of_ble_eq_true rfl) dX8_dotted_30 ⟨(by show 0 + 1 ≤ (2 * (sz - at9) + 19); omega), (by show 0 + 6 ≤ (11 * (2 * (sz - at9) + 19)); omega)⟩ ⟨(by show 7 + 1 ≤ (40 * n + 16); omega), (by show 8 + (2 + 11) + 122 ≤ (1300 * n + 480); omega)⟩ (fun v19 u17 H locs hw18 hP hD hS => ?_) (fun ux ce9 q9 H9 locs9 hux hP9 hD9 hS9 hce hcv hcl => pb_out ux (ThQ.up (Thx.same (Thx.same (Thx.f Thx.rfl (by omega)) rfl) rfl) RhX.rfl hux) hnt hlocks hce hcv hcl hP9 hD9 hS9 (by show 0 + 1 ≤ (2 * (sz - at9) + 19); omega) (by show 0 + 6 ≤ (11 * (2 * (sz - at9) + 19)); omega))
    obtain ⟨w, _⟩ := u17
    obtain ⟨hw18, h22, hO⟩ := hw18
    have h22 : ((at9 + 1) + r12) + 1 ≤ sz := h22
    obtain rfl : v19 = some (.int (nI ((at9 + 1) + r12))) := hw18
    have hO : OKP G h0 a (upd (upd (upd (upd F 2 (nI sz)) 9 (nI (((at9 + 1) + r12) + 1))) 10 (nI dp)) 11 (nI sg)) R Z B J K w := hO.to rfl
    refine W.widen (k := 0) (n := 0) (by show 0 + 0 ≤ 0; omega) (by show 0 + 0 ≤ 0; omega) ?_
    refine W.eq (g2 := F0 m 33 ls [.int (nI ((at9 + 1) + r12))]) rfl ?_
    refine lv_istore_n (lv' := [(3, .int (nI ((at9 + 1) + r12))), (2, .int (nI r12)), (0, .ref (a 3)), (1, .ref x0)]) hx hb dX8_dotted_33 rfl hl (by decide) rfl (fun ls hl => ?_)
    refine lv_iload_n hx hb dX8_dotted_34 rfl (lv_at hl 1 rfl) ?_
    refine lv_if_ne (tgt := 51) hx hb dX8_dotted_35 (by decide) (fun c23 => (by have n24 : ¬ (r12 = 0) := fun h9 => c23 ((nI_eq (a := r12) (b := 0) (by omega) (by omega)).mpr h9); omega)) (fun c23 => ?_)
    refine lv_aload_n hx hb dX8_dotted_38 rfl (lv_at hl 2 rfl) ?_
    refine lv_bipush (v := 34) hx hb dX8_dotted_39 (by decide) ?_
    have hO : OKW G h0 a (upd (upd (upd (upd (upd (upd F 2 (nI sz)) 9 (nI (((at9 + 1) + r12) + 1))) 10 (nI dp)) 11 (nI sg)) 2 (nI sz)) 9 (nI (((at9 + 1) + r12) + 1))) R Z B J K.1 (fun q99 x99 => x99 = rep G a K q99) w := hO.to rfl
    obtain ⟨_, qr28, hqr29⟩ := hO.2.1 23 _ (sg_23 G h0 a _ _ _ _ _)
    refine pc_V0 (G := G) (As := [.int 34]) (rest := []) hx hb hml hown hq hE hX pX0_al hP hD hS hA hl.1 (P_sees l G h0 a (upd (upd (upd (upd F 2 (nI sz)) 9 (nI (((at9 + 1) + r12) + 1))) 10 (nI dp)) 11 (nI sg)) R Z B J K.1 (fun q99 x99 => x99 = rep G a K q99) w 34 (((at9 + 1) + r12) + 1) sz (by omega) (by omega) hO) (gV pw_803 pw_804 pw_805 pw_796 pw_775) hV_X8_sees qr28 5 hqr29 rfl rfl rfl (Nat.le_of_ble_eq_true rfl) dX8_dotted_41 ⟨(by show 0 + 0 ≤ (2 * (sz - at9) + 19); omega), (by show 0 + 0 ≤ (11 * (2 * (sz - at9) + 19)); omega)⟩ ⟨(by show 3 + 1 ≤ (40 * n + 16); omega), (by show 8 + (2 + 11) + 81 ≤ (1300 * n + 480); omega)⟩ (fun v27 u25 H locs hw26 hP hD hS => ?_)
    obtain ⟨w, r30⟩ := u25
    obtain ⟨hw26, h31, hO⟩ := hw26
    have h31 : r30 ≤ 1 := h31
    obtain rfl : v27 = some (.int (nI r30)) := hw26
    have hO : OKP G h0 a (upd (upd (upd (upd F 2 (nI sz)) 9 (nI (((at9 + 1) + r12) + 1))) 10 (nI dp)) 11 (nI sg)) R Z B J K w := hO.to rfl
    refine W.widen (k := 0) (n := 0) (Nat.le_of_ble_eq_true rfl) (Nat.le_of_ble_eq_true rfl) ?_
    refine W.eq (g2 := F0 m 44 ls [.int (nI r30)]) rfl ?_
    refine lv_if_eq (tgt := 51) hx hb dX8_dotted_44 (by decide) (fun c32 => ?_) (fun c32 => ?_)
    · have n33 : r30 = 0 := (nI_eq (a := r30) (b := 0) (by omega) (by omega)).mp c32
      refine lv_iconst (v := 0) hx hb dX8_dotted_51 (by decide) ?_
      refine lv_istore (lv' := [(4, .int 0), (3, .int (nI ((at9 + 1) + r12))), (2, .int (nI r12)), (0, .ref (a 3)), (1, .ref x0)]) hx hb dX8_dotted_52 hl (by decide) rfl (fun ls hl => ?_)
      refine p_new (s9 := 1) (C := RX7) (T := TX7) (N := 11) (ci := 13) (fs := [.int 0, .int 0, .int 0, .int 0, .int 0, .int 0, .null, .null, .null, .null, .null]) hx hb hq pin_wsX70 tyX7 tyX7_ok hown (hq _ pw_870) (hq _ pw_871) (hq _ pw_872) hE hP hD hS hA hO rfl nw_X7 (by decide) (fun q => by rw [rep_1 (show (kN K q 1 0).1 q = 1 from if_pos rfl)]; unfold fsNode kN; simp only [if_true]; rfl) (by show 0 + 1 ≤ (2 * (sz - at9) + 19); omega) (by show 0 + 11 ≤ (11 * (2 * (sz - at9) + 19)); omega) dX8_dotted_54 (fun q34 H w hq35 hP hD hS hO => ?_)
      have hf36 : (kN K q34 1 0).1 x0 = 1 := (if_neg (fun z => by have z2 := hx0; rw [z, hq35] at z2; exact absurd z2 (by decide))).trans hx0
      have hf37 : (kN K q34 1 0).1 q34 = 1 := if_pos rfl
      refine W.widen (k := 1) (n := 11) (by show 0 + 1 ≤ 1; omega) (by show 0 + 11 ≤ 11; omega) ?_
      refine lv_dup hx hb dX8_dotted_57 rfl ?_
      refine lv_iload_n hx hb dX8_dotted_58 rfl (lv_at hl 2 rfl) ?_
      refine lv_if_eq (tgt := 67) hx hb dX8_dotted_59 (by decide) (fun c38 => ?_) (fun c38 => (by have n39 : ¬ (r12 = 0) := fun h9 => c38 ((nI_eq (a := r12) (b := 0) (by omega) (by omega)).mpr h9); omega))
      refine lv_iload hx hb dX8_dotted_67 (lv_at hl 0 rfl) ?_
      refine lv_if_eq (tgt := 77) hx hb dX8_dotted_69 (by decide) (fun c40 => ?_) (fun c40 => absurd c40 (by decide))
      refine lv_bipush (v := 12) hx hb dX8_dotted_77 (by decide) ?_
      refine lv_iload_n hx hb dX8_dotted_79 rfl (lv_at hl 1 rfl) ?_
      refine lv_aload_n hx hb dX8_dotted_80 rfl (lv_at hl 4 rfl) ?_
      refine p_get (v := .int ((kN K q34 1 0).2.1 2 x0)) (C := RX7) (Tc := TX7) (N := 11) (ci := 13) hx hb hq pin_wsX70 hown hE hP hO (by rw [hf36]; decide) (rep_1 hf36) rfl 2 (by decide) (hq _ pw_937) (fun _ h9 => h9) rfl dX8_dotted_81 ?_
      have hO : OKP G h0 a (upd (upd (upd (upd F 2 (nI sz)) 9 (nI (((at9 + 1) + r12) + 1))) 10 (nI dp)) 11 (nI sg)) R Z B J (kN K q34 1 0) w := hO.to rfl
      obtain ⟨qr44, hqr45⟩ := p_recv hO (by rw [hf37]; decide) (rep_1 hf37)
      refine pc_I0 (G := G) (As := [.int 12, .int (nI ((at9 + 1) + r12)), .int ((kN K q34 1 0).2.1 2 x0)]) (rest := [.ref q34]) hx hb hml hown hq hE hX pX0_al hP hD hS hA hl.1 (N_init l G h0 a (upd (upd (upd (upd F 2 (nI sz)) 9 (nI (((at9 + 1) + r12) + 1))) 10 (nI dp)) 11 (nI sg)) R Z B J (kN K q34 1 0) w q34 12 (nI ((at9 + 1) + r12)) ((kN K q34 1 0).2.1 2 x0) (by omega) hO) pw_874 pw_875 pw_872 pw_765 rfl hS_X7_init rfl (Nat.le_of_ble_eq_true rfl) dX8_dotted_84 ⟨(by show 1 + 0 ≤ (2 * (sz - at9) + 19); omega), (by show 11 + 0 ≤ (11 * (2 * (sz - at9) + 19)); omega)⟩ ⟨(by show 2 + 1 ≤ (40 * n + 16); omega), (by show 8 + (4 + 11) + 60 ≤ (1300 * n + 480); omega)⟩ (fun v43 u41 H locs hw42 hP hD hS => ?_)
      obtain ⟨w, _⟩ := u41
      obtain ⟨hw42, hO⟩ := hw42
      obtain rfl : v43 = none := hw42
      have hf46 : (kI (kI (kI (kN K q34 1 0) 0 q34 12) 1 q34 (nI ((at9 + 1) + r12))) 2 q34 ((kN K q34 1 0).2.1 2 x0)).1 x0 = 1 := hf36
      have hf47 : (kI (kI (kI (kN K q34 1 0) 0 q34 12) 1 q34 (nI ((at9 + 1) + r12))) 2 q34 ((kN K q34 1 0).2.1 2 x0)).1 q34 = 1 := hf37
      have hO : OKP G h0 a (upd (upd (upd (upd F 2 (nI sz)) 9 (nI (((at9 + 1) + r12) + 1))) 10 (nI dp)) 11 (nI sg)) R Z B J (kI (kI (kI (kN K q34 1 0) 0 q34 12) 1 q34 (nI ((at9 + 1) + r12))) 2 q34 ((kN K q34 1 0).2.1 2 x0)) w := hO.to rfl
      refine W.widen (k := 1) (n := 11) (by show 1 + 0 ≤ 1; omega) (by show 11 + 0 ≤ 11; omega) ?_
      refine W.eq (g2 := F0 m 87 ls [.ref q34]) rfl ?_
      change OKP G h0 a (upd (upd (upd (upd F 2 (nI sz)) 9 (nI (((at9 + 1) + r12) + 1))) 10 (nI dp)) 11 (nI sg)) R Z B J (mkN K q34 12 (nI ((at9 + 1) + r12)) ((kN K q34 1 0).2.1 2 x0)) w at hO
      obtain ⟨K48, hK49⟩ : ∃ z : PK, z = (mkN K q34 12 (nI ((at9 + 1) + r12)) ((kN K q34 1 0).2.1 2 x0)) := ⟨_, rfl⟩
      rw [← hK49] at hO
      have hf50 : K48.1 q34 = 1 := by rw [hK49]; exact mkN_T
      have hf51 : K48.2.1 0 q34 = 12 := by rw [hK49]; exact mkN_0
      have hf52 : K48.2.1 2 q34 = ((kN K q34 1 0).2.1 2 x0) := by rw [hK49]; exact mkN_2
      have hf53 : K48.2.2.1 0 q34 = none := by rw [hK49]; exact mkN_C
      have hf54 : K48.2.2.1 1 q34 = none := by rw [hK49]; exact mkN_C
      have hf55 : K48.2.2.1 2 q34 = none := by rw [hK49]; exact mkN_C
      have hf56 : K48.2.2.1 3 q34 = none := by rw [hK49]; exact mkN_C
      have hf57 : K48.2.2.1 4 q34 = none := by rw [hK49]; exact mkN_C
      have hf58 : K48.1 x0 = 1 := by rw [hK49]; exact ((mkN_ext hq35 x0 (by rw [hx0]; decide)).1).trans hx0
      have hns59 : NwS K K48 g (gset g q34 0 0 0) := by rw [hK49]; exact NwS.node hns0 hq35
      have hq60 : K.1 q34 = 0 := old_T hns0.2.1 hq35
      have hg61 : (gset g q34 0 0 0) 0 q34 = 0 := gset_0
      have hno62 : NoO K48 (gset g q34 0 0 0) q34 := by rw [hK49]; exact NoO.new hns0.1 hq35
      refine lv_astore (lv' := [(5, .ref q34), (4, .int 0), (3, .int (nI ((at9 + 1) + r12))), (2, .int (nI r12)), (0, .ref (a 3)), (1, .ref x0)]) hx hb dX8_dotted_87 hl (by decide) rfl (fun ls hl => ?_)
      refine lv_aload hx hb dX8_dotted_89 (lv_at hl 0 rfl) ?_
      refine lv_aload_n hx hb dX8_dotted_91 rfl (lv_at hl 5 rfl) ?_
      refine p_put (v := .ref x0) (ty := (.object "JinjaTongue$Node")) (C := RX7) (Tc := TX7) (N := 11) (ci := 13) (K' := (kC K48 0 q34 (some x0))) hx hb hq pin_wsX70 tyX7 tyX7_ok nmX7 hown hE hP hD hS hO (by rw [hf50]; decide) (rep_1 hf50) rfl 6 (by decide) (hq _ pw_938) (fun _ h9 => h9) rfl (by decide +kernel) rfl rfl (Nat.le_of_ble_eq_true rfl) rfl (by rw [rep_1 (show (kC K48 0 q34 (some x0)).1 q34 = 1 from hf50), pc_0] <;> rfl) (fun p9 hp9 => rep_kC hp9) dX8_dotted_92 (fun H locs w hP hD hS hO => ?_)
      obtain ⟨K63, hK64⟩ : ∃ z : PK, z = (kC K48 0 q34 (some x0)) := ⟨_, rfl⟩
      rw [← hK64] at hO
      have hf65 : K63.1 q34 = 1 := (by rw [hK64]; exact hf50)
      have hf66 : K63.2.1 0 q34 = 12 := (by rw [hK64]; exact hf51)
      have hf67 : K63.2.1 2 q34 = ((kN K q34 1 0).2.1 2 x0) := (by rw [hK64]; exact hf52)
      have hf68 : K63.2.2.1 1 q34 = none := (by rw [hK64]; exact (kC_of (by decide)).trans hf54)
      have hf69 : K63.2.2.1 2 q34 = none := (by rw [hK64]; exact (kC_of (by decide)).trans hf55)
      have hf70 : K63.2.2.1 3 q34 = none := (by rw [hK64]; exact (kC_of (by decide)).trans hf56)
      have hf71 : K63.2.2.1 4 q34 = none := (by rw [hK64]; exact (kC_of (by decide)).trans hf57)
      have hf72 : K63.1 x0 = 1 := (by rw [hK64]; exact hf58)
      have hf73 : K63.2.2.1 0 q34 = some x0 := by rw [hK64]; exact kC_eq
      have hns74 : NwS K K63 g (gset g q34 0 0 0) := by rw [hK64]; exact NwS.put hns59 hq60 hg61
      have hno75 : NoO K63 (gset g q34 0 0 0) q34 := by rw [hK64]; exact hno62
      refine lv_iload hx hb dX8_dotted_95 (lv_at hl 1 rfl) ?_
      refine lv_if_eq (tgt := 106) hx hb dX8_dotted_97 (by decide) (fun c76 => ?_) (fun c76 => absurd c76 (by decide))
      refine lv_aload hx hb dX8_dotted_106 (lv_at hl 0 rfl) ?_
      refine W_size (fun hz1 hz2 => ?_)
      refine vx_ret ?_
      have hg8 : (gset g q34 0 0 0) 0 x0 = g 0 x0 := hns74.2.1.2 x0 (by rw [hx0]; decide) 0
      have hkid : ∀ f9 y9 : Nat, f9 ≤ 3 → K63.2.2.1 f9 q34 = some y9 → K63.1 y9 = 1 ∧ 1 ≤ (gset g q34 0 0 0) 0 y9 ∧ (gset g q34 0 0 0) 0 y9 < (5 * (20 - dp) + 3 + (sg - sb)) := by
        intro f9 y9 hf9 hy9
        rcases (show f9 = 0 ∨ f9 = 1 ∨ f9 = 2 ∨ f9 = 3 by omega) with rfl | rfl | rfl | rfl
        · rw [hf73] at hy9; cases hy9; exact ⟨hf72, (by omega), by omega⟩
        · rw [hf68] at hy9; cases hy9
        · rw [hf69] at hy9; cases hy9
        · rw [hf70] at hy9; cases hy9
      have hdn := NwS.done1 (q := q34) (L := (5 * (20 - dp) + 3 + (sg - sb))) (O := O) (k := kr) hns74 hq60 hf65 hg61 (by omega) (by omega) (by rw [hf66]; exact ⟨fun _ => (by show ¬ K63.2.2.1 0 q34 = none; rw [hf73]; intro z; cases z), fun z => absurd z (by decide), fun z => absurd z (by decide), fun z => absurd z (by decide), fun z => absurd z (by decide)⟩) (fun f9 z => by rw [hf66] at z; rcases z with ⟨z, _⟩ | ⟨z | z | z, _⟩ <;> exact absurd z (by decide)) hkid hf71 hno75 (fun f9 x9 _ _ => Kch.no (by rw [hf66]; decide)) how
      have hz77 : NwR K K63 g (gset (gset g q34 0 0 0) q34 (5 * (20 - dp) + 3 + (sg - sb)) O kr) q34 O kr ((5 * (20 - dp) + 3 + (sg - sb))) := hdn
      have hz78 : at9 + 2 ≤ (((at9 + 1) + r12) + 1) ∧ (((at9 + 1) + r12) + 1) ≤ sz := (by omega)
      have hz79 : sg ≤ sg ∧ sg ≤ 60 := (by omega)
      have hO : OKP G h0 a (upd (upd (upd (upd F 2 (nI sz)) 9 (nI (((at9 + 1) + r12) + 1))) 10 (nI dp)) 11 (nI sg)) R Z (updA B 10 (B 10)) J K63 w := hO.to rfl
      refine W.widen (k := (2 * (sz - at9) + 19)) (n := (11 * (2 * (sz - at9) + 19))) (by omega) (by omega) ?_
      have hzz1 : H.size ≤ s.heap.size + ((2 * ((((at9 + 1) + r12) + 1) - at9) - 3)) := (by have z : 1 ≤ (2 * ((((at9 + 1) + r12) + 1) - at9) - 3) := (by omega); omega)
      have hzz2 : hSl H ≤ hSl s.heap + ((11 * (2 * ((((at9 + 1) + r12) + 1) - at9) - 3))) := (by have z : 11 ≤ (11 * (2 * ((((at9 + 1) + r12) + 1) - at9) - 3)) := (by omega); omega)
      exact W.aret (v := .ref q34) hx hb hr (Or.inl ⟨_, rfl⟩) (Or.inr ⟨_, rfl⟩) (fun t99 ht99 hW99 => ⟨⟨_, (w, (q34, K63, (gset (gset g q34 0 0 0) q34 (5 * (20 - dp) + 3 + (sg - sb)) O kr), (((at9 + 1) + r12) + 1), sg, (B 10))), rfl, ⟨rfl, hz77, hz78, hz79, hO⟩, by rw [ht99]; exact hP, hD, by rw [ht99]; exact hzz1, by rw [ht99]; exact hzz2⟩, hS.F ht99⟩) hS.2.2 dX8_dotted_108
    · have n80 : ¬ (r30 = 0) := fun h9 => c32 ((nI_eq (a := r30) (b := 0) (by omega) (by omega)).mpr h9)
      refine lv_iconst (v := 1) hx hb dX8_dotted_47 (by decide) ?_
      refine lv_goto (tgt := 52) hx hb dX8_dotted_48 (by decide) ?_
      refine lv_istore (lv' := [(4, .int 1), (3, .int (nI ((at9 + 1) + r12))), (2, .int (nI r12)), (0, .ref (a 3)), (1, .ref x0)]) hx hb dX8_dotted_52 hl (by decide) rfl (fun ls hl => ?_)
      refine p_new (s9 := 1) (C := RX7) (T := TX7) (N := 11) (ci := 13) (fs := [.int 0, .int 0, .int 0, .int 0, .int 0, .int 0, .null, .null, .null, .null, .null]) hx hb hq pin_wsX70 tyX7 tyX7_ok hown (hq _ pw_870) (hq _ pw_871) (hq _ pw_872) hE hP hD hS hA hO rfl nw_X7 (by decide) (fun q => by rw [rep_1 (show (kN K q 1 0).1 q = 1 from if_pos rfl)]; unfold fsNode kN; simp only [if_true]; rfl) (by show 0 + 1 ≤ (2 * (sz - at9) + 19); omega) (by show 0 + 11 ≤ (11 * (2 * (sz - at9) + 19)); omega) dX8_dotted_54 (fun q81 H w hq82 hP hD hS hO => ?_)
      have hf83 : (kN K q81 1 0).1 x0 = 1 := (if_neg (fun z => by have z2 := hx0; rw [z, hq82] at z2; exact absurd z2 (by decide))).trans hx0
      have hf84 : (kN K q81 1 0).1 q81 = 1 := if_pos rfl
      refine W.widen (k := 1) (n := 11) (by show 0 + 1 ≤ 1; omega) (by show 0 + 11 ≤ 11; omega) ?_
      refine lv_dup hx hb dX8_dotted_57 rfl ?_
      refine lv_iload_n hx hb dX8_dotted_58 rfl (lv_at hl 2 rfl) ?_
      refine lv_if_eq (tgt := 67) hx hb dX8_dotted_59 (by decide) (fun c85 => ?_) (fun c85 => (by have n86 : ¬ (r12 = 0) := fun h9 => c85 ((nI_eq (a := r12) (b := 0) (by omega) (by omega)).mpr h9); omega))
      refine lv_iload hx hb dX8_dotted_67 (lv_at hl 0 rfl) ?_
      refine lv_if_eq (tgt := 77) hx hb dX8_dotted_69 (by decide) (fun c87 => absurd c87 (by decide)) (fun c87 => ?_)
      refine lv_bipush (v := 10) hx hb dX8_dotted_72 (by decide) ?_
      refine lv_goto (tgt := 79) hx hb dX8_dotted_74 (by decide) ?_
      refine lv_iload_n hx hb dX8_dotted_79 rfl (lv_at hl 1 rfl) ?_
      refine lv_aload_n hx hb dX8_dotted_80 rfl (lv_at hl 4 rfl) ?_
      refine p_get (v := .int ((kN K q81 1 0).2.1 2 x0)) (C := RX7) (Tc := TX7) (N := 11) (ci := 13) hx hb hq pin_wsX70 hown hE hP hO (by rw [hf83]; decide) (rep_1 hf83) rfl 2 (by decide) (hq _ pw_937) (fun _ h9 => h9) rfl dX8_dotted_81 ?_
      have hO : OKP G h0 a (upd (upd (upd (upd F 2 (nI sz)) 9 (nI (((at9 + 1) + r12) + 1))) 10 (nI dp)) 11 (nI sg)) R Z B J (kN K q81 1 0) w := hO.to rfl
      obtain ⟨qr91, hqr92⟩ := p_recv hO (by rw [hf84]; decide) (rep_1 hf84)
      refine pc_I0 (G := G) (As := [.int 10, .int (nI ((at9 + 1) + r12)), .int ((kN K q81 1 0).2.1 2 x0)]) (rest := [.ref q81]) hx hb hml hown hq hE hX pX0_al hP hD hS hA hl.1 (N_init l G h0 a (upd (upd (upd (upd F 2 (nI sz)) 9 (nI (((at9 + 1) + r12) + 1))) 10 (nI dp)) 11 (nI sg)) R Z B J (kN K q81 1 0) w q81 10 (nI ((at9 + 1) + r12)) ((kN K q81 1 0).2.1 2 x0) (by omega) hO) pw_874 pw_875 pw_872 pw_765 rfl hS_X7_init rfl (Nat.le_of_ble_eq_true rfl) dX8_dotted_84 ⟨(by show 1 + 0 ≤ (2 * (sz - at9) + 19); omega), (by show 11 + 0 ≤ (11 * (2 * (sz - at9) + 19)); omega)⟩ ⟨(by show 2 + 1 ≤ (40 * n + 16); omega), (by show 8 + (4 + 11) + 60 ≤ (1300 * n + 480); omega)⟩ (fun v90 u88 H locs hw89 hP hD hS => ?_)
      obtain ⟨w, _⟩ := u88
      obtain ⟨hw89, hO⟩ := hw89
      obtain rfl : v90 = none := hw89
      have hf93 : (kI (kI (kI (kN K q81 1 0) 0 q81 10) 1 q81 (nI ((at9 + 1) + r12))) 2 q81 ((kN K q81 1 0).2.1 2 x0)).1 x0 = 1 := hf83
      have hf94 : (kI (kI (kI (kN K q81 1 0) 0 q81 10) 1 q81 (nI ((at9 + 1) + r12))) 2 q81 ((kN K q81 1 0).2.1 2 x0)).1 q81 = 1 := hf84
      have hO : OKP G h0 a (upd (upd (upd (upd F 2 (nI sz)) 9 (nI (((at9 + 1) + r12) + 1))) 10 (nI dp)) 11 (nI sg)) R Z B J (kI (kI (kI (kN K q81 1 0) 0 q81 10) 1 q81 (nI ((at9 + 1) + r12))) 2 q81 ((kN K q81 1 0).2.1 2 x0)) w := hO.to rfl
      refine W.widen (k := 1) (n := 11) (by show 1 + 0 ≤ 1; omega) (by show 11 + 0 ≤ 11; omega) ?_
      refine W.eq (g2 := F0 m 87 ls [.ref q81]) rfl ?_
      change OKP G h0 a (upd (upd (upd (upd F 2 (nI sz)) 9 (nI (((at9 + 1) + r12) + 1))) 10 (nI dp)) 11 (nI sg)) R Z B J (mkN K q81 10 (nI ((at9 + 1) + r12)) ((kN K q81 1 0).2.1 2 x0)) w at hO
      obtain ⟨K95, hK96⟩ : ∃ z : PK, z = (mkN K q81 10 (nI ((at9 + 1) + r12)) ((kN K q81 1 0).2.1 2 x0)) := ⟨_, rfl⟩
      rw [← hK96] at hO
      have hf97 : K95.1 q81 = 1 := by rw [hK96]; exact mkN_T
      have hf98 : K95.2.1 0 q81 = 10 := by rw [hK96]; exact mkN_0
      have hf99 : K95.2.1 2 q81 = ((kN K q81 1 0).2.1 2 x0) := by rw [hK96]; exact mkN_2
      have hf100 : K95.2.2.1 0 q81 = none := by rw [hK96]; exact mkN_C
      have hf101 : K95.2.2.1 1 q81 = none := by rw [hK96]; exact mkN_C
      have hf102 : K95.2.2.1 2 q81 = none := by rw [hK96]; exact mkN_C
      have hf103 : K95.2.2.1 3 q81 = none := by rw [hK96]; exact mkN_C
      have hf104 : K95.2.2.1 4 q81 = none := by rw [hK96]; exact mkN_C
      have hf105 : K95.1 x0 = 1 := by rw [hK96]; exact ((mkN_ext hq82 x0 (by rw [hx0]; decide)).1).trans hx0
      have hns106 : NwS K K95 g (gset g q81 0 0 0) := by rw [hK96]; exact NwS.node hns0 hq82
      have hq107 : K.1 q81 = 0 := old_T hns0.2.1 hq82
      have hg108 : (gset g q81 0 0 0) 0 q81 = 0 := gset_0
      have hno109 : NoO K95 (gset g q81 0 0 0) q81 := by rw [hK96]; exact NoO.new hns0.1 hq82
      refine lv_astore (lv' := [(5, .ref q81), (4, .int 1), (3, .int (nI ((at9 + 1) + r12))), (2, .int (nI r12)), (0, .ref (a 3)), (1, .ref x0)]) hx hb dX8_dotted_87 hl (by decide) rfl (fun ls hl => ?_)
      refine lv_aload hx hb dX8_dotted_89 (lv_at hl 0 rfl) ?_
      refine lv_aload_n hx hb dX8_dotted_91 rfl (lv_at hl 5 rfl) ?_
      refine p_put (v := .ref x0) (ty := (.object "JinjaTongue$Node")) (C := RX7) (Tc := TX7) (N := 11) (ci := 13) (K' := (kC K95 0 q81 (some x0))) hx hb hq pin_wsX70 tyX7 tyX7_ok nmX7 hown hE hP hD hS hO (by rw [hf97]; decide) (rep_1 hf97) rfl 6 (by decide) (hq _ pw_938) (fun _ h9 => h9) rfl (by decide +kernel) rfl rfl (Nat.le_of_ble_eq_true rfl) rfl (by rw [rep_1 (show (kC K95 0 q81 (some x0)).1 q81 = 1 from hf97), pc_0] <;> rfl) (fun p9 hp9 => rep_kC hp9) dX8_dotted_92 (fun H locs w hP hD hS hO => ?_)
      obtain ⟨K110, hK111⟩ : ∃ z : PK, z = (kC K95 0 q81 (some x0)) := ⟨_, rfl⟩
      rw [← hK111] at hO
      have hf112 : K110.1 q81 = 1 := (by rw [hK111]; exact hf97)
      have hf113 : K110.2.1 0 q81 = 10 := (by rw [hK111]; exact hf98)
      have hf114 : K110.2.1 2 q81 = ((kN K q81 1 0).2.1 2 x0) := (by rw [hK111]; exact hf99)
      have hf115 : K110.2.2.1 1 q81 = none := (by rw [hK111]; exact (kC_of (by decide)).trans hf101)
      have hf116 : K110.2.2.1 2 q81 = none := (by rw [hK111]; exact (kC_of (by decide)).trans hf102)
      have hf117 : K110.2.2.1 3 q81 = none := (by rw [hK111]; exact (kC_of (by decide)).trans hf103)
      have hf118 : K110.2.2.1 4 q81 = none := (by rw [hK111]; exact (kC_of (by decide)).trans hf104)
      have hf119 : K110.1 x0 = 1 := (by rw [hK111]; exact hf105)
      have hf120 : K110.2.2.1 0 q81 = some x0 := by rw [hK111]; exact kC_eq
      have hns121 : NwS K K110 g (gset g q81 0 0 0) := by rw [hK111]; exact NwS.put hns106 hq107 hg108
      have hno122 : NoO K110 (gset g q81 0 0 0) q81 := by rw [hK111]; exact hno109
      refine lv_iload hx hb dX8_dotted_95 (lv_at hl 1 rfl) ?_
      refine lv_if_eq (tgt := 106) hx hb dX8_dotted_97 (by decide) (fun c123 => absurd c123 (by decide)) (fun c123 => ?_)
      refine lv_aload_n hx hb dX8_dotted_100 rfl (lv_at hl 4 rfl) ?_
      refine lv_aload hx hb dX8_dotted_101 (lv_at hl 0 rfl) ?_
      have hO : OKP G h0 a (upd (upd (upd (upd (upd (upd (upd (upd (upd F 2 (nI sz)) 9 (nI at9)) 10 (nI dp)) 11 (nI sg)) 9 (nI (((at9 + 1) + r12) + 1))) 2 (nI sz)) 9 (nI (((at9 + 1) + r12) + 1))) 10 (nI dp)) 11 (nI sg)) R Z B J K110 w := hO.to rfl
      obtain ⟨_, qr127, hqr128⟩ := hO.2.1 23 _ (sg_23 G h0 a _ _ _ _ _)
      refine pn_V0 (G := G) (As := [.ref q81]) (rest := []) hx hb hml hown hq hE hX pX0_al hP hD hS hA hl.1 (P_arguments l G h0 a (upd (upd (upd (upd (upd F 2 (nI sz)) 9 (nI at9)) 10 (nI dp)) 11 (nI sg)) 9 (nI (((at9 + 1) + r12) + 1))) R Z B J K110 w q81 n (((at9 + 1) + r12) + 1) sz dp sg (gset g q81 0 0 0) (by omega) (by omega) (by omega) (by omega) hns121.1 hf112 hg108 hf115 hno122 (by rw [hf113]; decide) ihe hO hl0) (gV pw_939 pw_940 pw_941 pw_796 pw_986) hV_X8_arguments qr127 5 hqr128 rfl rfl rfl (Nat.le_of_ble_eq_true rfl) dX8_dotted_103 ⟨(by show 1 + (2 * (sz - (((at9 + 1) + r12) + 1)) + 18) ≤ (2 * (sz - at9) + 19); omega), (by show 11 + (11 * (2 * (sz - (((at9 + 1) + r12) + 1)) + 18)) ≤ (11 * (2 * (sz - at9) + 19)); omega)⟩ ⟨(by show (40 * n + 12) + 1 ≤ (40 * n + 16); omega), (by show 8 + (6 + 11) + (1300 * n + 400) ≤ (1300 * n + 480); omega)⟩ (fun v126 u124 H locs hw125 hP hD hS => ?_) (fun ux ce9 q9 H9 locs9 hux hP9 hD9 hS9 hce hcv hcl => pb_out ux (ThQ.up (Thx.same (Thx.same (Thx.same (Thx.same (Thx.f Thx.rfl (by omega)) rfl) rfl) rfl) rfl) RhX.rfl hux) hnt hlocks hce hcv hcl hP9 hD9 hS9 (by show 1 + (2 * (sz - (((at9 + 1) + r12) + 1)) + 18) ≤ (2 * (sz - at9) + 19); omega) (by show 11 + (11 * (2 * (sz - (((at9 + 1) + r12) + 1)) + 18)) ≤ (11 * (2 * (sz - at9) + 19)); omega))
      obtain ⟨w, K129, g130, at131, sg132, f133⟩ := u124
      obtain ⟨hw125, h134, h135, h136, h137, hO⟩ := hw125
      have h134 : (((at9 + 1) + r12) + 1) + 2 ≤ at131 ∧ at131 ≤ sz := h134
      have h135 : sg ≤ sg132 ∧ sg132 ≤ 60 := h135
      have h136 : ArS K110 K129 (gset g q81 0 0 0) g130 q81 (5 * (20 - (dp + 1)) + 6 + (sg132 - sg)) := h136
      have h137 : dp + 1 ≤ 20 := h137
      obtain rfl : v126 = none := hw125
      have hO : OKP G h0 a (upd (upd (upd (upd F 2 (nI sz)) 9 (nI at131)) 10 (nI dp)) 11 (nI sg132)) R Z (updA B 10 f133) J K129 w := hO.to rfl
      refine W.widen (k := (1 + (2 * (at131 - (((at9 + 1) + r12) + 1)) - 4))) (n := (11 + (11 * (2 * (at131 - (((at9 + 1) + r12) + 1)) - 4)))) (by show 1 + (2 * (at131 - (((at9 + 1) + r12) + 1)) - 4) ≤ (1 + (2 * (at131 - (((at9 + 1) + r12) + 1)) - 4)); omega) (by show 11 + (11 * (2 * (at131 - (((at9 + 1) + r12) + 1)) - 4)) ≤ (11 + (11 * (2 * (at131 - (((at9 + 1) + r12) + 1)) - 4))); omega) ?_
      refine W.eq (g2 := F0 m 106 ls []) rfl ?_
      refine lv_aload hx hb dX8_dotted_106 (lv_at hl 0 rfl) ?_
      refine W_size (fun hz1 hz2 => ?_)
      refine vx_ret ?_
      have hxT := hf119
      have hxz := fun z => h136.2.2.1 x0 (by rw [hxT]; decide) z
      have hg8 := (hxz 0).trans (hns121.2.1.2 x0 (by rw [hx0]; decide) 0)
      have hxq : ¬ x0 = q81 := fun z => by have z2 := hq107; rw [← z, hx0] at z2; exact absurd z2 (by decide)
      have hx9 := (h136.2.1 x0 (by rw [hxT]; decide) hxq).1.trans hxT
      have hns9 := NwS.args hns121 h136 hf112 hq107
      have hcc := h136.2.2.2.1
      have hdn := NwS.doneA (L := (5 * (20 - dp) + 3 + (sg132 - sb))) (O := O) (k := kr) hns9 h136 hq107 (by omega) (by omega) (Or.inl ((hcc.2.2.1 0 (by decide)).trans hf113)) (Or.inr ⟨x0, (hcc.2.2.2 0 (by decide)).trans hf120, hx9, by omega, by omega⟩) ((hcc.2.2.2 2 (by decide)).trans hf116) ((hcc.2.2.2 3 (by decide)).trans hf117) ((hcc.2.2.2 4 (by decide)).trans hf118) how
      have hz138 : NwR K K129 g (gset g130 q81 (5 * (20 - dp) + 3 + (sg132 - sb)) O kr) q81 O kr ((5 * (20 - dp) + 3 + (sg132 - sb))) := hdn
      have hz139 : at9 + 2 ≤ at131 ∧ at131 ≤ sz := (by omega)
      have hz140 : sg ≤ sg132 ∧ sg132 ≤ 60 := (by omega)
      have hO : OKP G h0 a (upd (upd (upd (upd F 2 (nI sz)) 9 (nI at131)) 10 (nI dp)) 11 (nI sg132)) R Z (updA B 10 f133) J K129 w := hO.to rfl
      refine W.widen (k := (2 * (sz - at9) + 19)) (n := (11 * (2 * (sz - at9) + 19))) (by omega) (by omega) ?_
      have hzz1 : H.size ≤ s.heap.size + ((2 * (at131 - at9) - 3)) := (by have z : (1 + (2 * (at131 - (((at9 + 1) + r12) + 1)) - 4)) ≤ (2 * (at131 - at9) - 3) := (by omega); omega)
      have hzz2 : hSl H ≤ hSl s.heap + ((11 * (2 * (at131 - at9) - 3))) := (by have z : (11 + (11 * (2 * (at131 - (((at9 + 1) + r12) + 1)) - 4))) ≤ (11 * (2 * (at131 - at9) - 3)) := (by omega); omega)
      exact W.aret (v := .ref q81) hx hb hr (Or.inl ⟨_, rfl⟩) (Or.inr ⟨_, rfl⟩) (fun t99 ht99 hW99 => ⟨⟨_, (w, (q81, K129, (gset g130 q81 (5 * (20 - dp) + 3 + (sg132 - sb)) O kr), at131, sg132, f133)), rfl, ⟨rfl, hz138, hz139, hz140, hO⟩, by rw [ht99]; exact hP, hD, by rw [ht99]; exact hzz1, by rw [ht99]; exact hzz2⟩, hS.F ht99⟩) hS.2.2 dX8_dotted_108
  · have n141 : ¬ (r12 = 0) := fun h9 => c15 ((nI_eq (a := r12) (b := 0) (by omega) (by omega)).mpr h9)
    refine lv_aload_n hx hb dX8_dotted_18 rfl (lv_at hl 1 rfl) ?_
    refine c_get (v := .int (nI ((at9 + 1) + r12))) (C := RX8) (Tc := TX8) (N := 5) (ci := 5) hx hb hq pin_wsX80 hown hE hP hO 23 (sg_23 G h0 a _ _ _ _ _) rfl 2 (by decide) (hq _ pw_776) (fun _ h9 => h9) rfl dX8_dotted_19 ?_
    refine lv_iconst (v := 1) hx hb dX8_dotted_22 (by decide) ?_
    refine lv_isub hx hb dX8_dotted_23 ?_
    refine lv_topi (fun x142 e143 => ?_)
    obtain rfl : x142 = nI (((at9 + 1) + r12) - 1) := e143.trans (nI_subN (a := 1) (b := ((at9 + 1) + r12)) (by omega))
    refine lv_goto (tgt := 33) hx hb dX8_dotted_24 (by decide) ?_
    refine lv_istore_n (lv' := [(3, .int (nI (((at9 + 1) + r12) - 1))), (2, .int (nI r12)), (0, .ref (a 3)), (1, .ref x0)]) hx hb dX8_dotted_33 rfl hl (by decide) rfl (fun ls hl => ?_)
    refine lv_iload_n hx hb dX8_dotted_34 rfl (lv_at hl 1 rfl) ?_
    refine lv_if_ne (tgt := 51) hx hb dX8_dotted_35 (by decide) (fun c144 => ?_) (fun c144 => (by have n145 : r12 = 0 := (nI_eq (a := r12) (b := 0) (by omega) (by omega)).mp c144; omega))
    refine lv_iconst (v := 0) hx hb dX8_dotted_51 (by decide) ?_
    refine lv_istore (lv' := [(4, .int 0), (3, .int (nI (((at9 + 1) + r12) - 1))), (2, .int (nI r12)), (0, .ref (a 3)), (1, .ref x0)]) hx hb dX8_dotted_52 hl (by decide) rfl (fun ls hl => ?_)
    refine p_new (s9 := 1) (C := RX7) (T := TX7) (N := 11) (ci := 13) (fs := [.int 0, .int 0, .int 0, .int 0, .int 0, .int 0, .null, .null, .null, .null, .null]) hx hb hq pin_wsX70 tyX7 tyX7_ok hown (hq _ pw_870) (hq _ pw_871) (hq _ pw_872) hE hP hD hS hA hO rfl nw_X7 (by decide) (fun q => by rw [rep_1 (show (kN K q 1 0).1 q = 1 from if_pos rfl)]; unfold fsNode kN; simp only [if_true]; rfl) (by show 0 + 1 ≤ (2 * (sz - at9) + 19); omega) (by show 0 + 11 ≤ (11 * (2 * (sz - at9) + 19)); omega) dX8_dotted_54 (fun q146 H w hq147 hP hD hS hO => ?_)
    have hf148 : (kN K q146 1 0).1 x0 = 1 := (if_neg (fun z => by have z2 := hx0; rw [z, hq147] at z2; exact absurd z2 (by decide))).trans hx0
    have hf149 : (kN K q146 1 0).1 q146 = 1 := if_pos rfl
    refine W.widen (k := 1) (n := 11) (by show 0 + 1 ≤ 1; omega) (by show 0 + 11 ≤ 11; omega) ?_
    refine lv_dup hx hb dX8_dotted_57 rfl ?_
    refine lv_iload_n hx hb dX8_dotted_58 rfl (lv_at hl 2 rfl) ?_
    refine lv_if_eq (tgt := 67) hx hb dX8_dotted_59 (by decide) (fun c150 => (by have n151 : r12 = 0 := (nI_eq (a := r12) (b := 0) (by omega) (by omega)).mp c150; omega)) (fun c150 => ?_)
    refine lv_bipush (v := 13) hx hb dX8_dotted_62 (by decide) ?_
    refine lv_goto (tgt := 79) hx hb dX8_dotted_64 (by decide) ?_
    refine lv_iload_n hx hb dX8_dotted_79 rfl (lv_at hl 1 rfl) ?_
    refine lv_aload_n hx hb dX8_dotted_80 rfl (lv_at hl 4 rfl) ?_
    refine p_get (v := .int ((kN K q146 1 0).2.1 2 x0)) (C := RX7) (Tc := TX7) (N := 11) (ci := 13) hx hb hq pin_wsX70 hown hE hP hO (by rw [hf148]; decide) (rep_1 hf148) rfl 2 (by decide) (hq _ pw_937) (fun _ h9 => h9) rfl dX8_dotted_81 ?_
    have hO : OKP G h0 a (upd (upd (upd (upd F 2 (nI sz)) 9 (nI ((at9 + 1) + r12))) 10 (nI dp)) 11 (nI sg)) R Z B J (kN K q146 1 0) w := hO.to rfl
    obtain ⟨qr155, hqr156⟩ := p_recv hO (by rw [hf149]; decide) (rep_1 hf149)
    refine pc_I0 (G := G) (As := [.int 13, .int (nI (((at9 + 1) + r12) - 1)), .int ((kN K q146 1 0).2.1 2 x0)]) (rest := [.ref q146]) hx hb hml hown hq hE hX pX0_al hP hD hS hA hl.1 (N_init l G h0 a (upd (upd (upd (upd F 2 (nI sz)) 9 (nI ((at9 + 1) + r12))) 10 (nI dp)) 11 (nI sg)) R Z B J (kN K q146 1 0) w q146 13 (nI (((at9 + 1) + r12) - 1)) ((kN K q146 1 0).2.1 2 x0) (by omega) hO) pw_874 pw_875 pw_872 pw_765 rfl hS_X7_init rfl (Nat.le_of_ble_eq_true rfl) dX8_dotted_84 ⟨(by show 1 + 0 ≤ (2 * (sz - at9) + 19); omega), (by show 11 + 0 ≤ (11 * (2 * (sz - at9) + 19)); omega)⟩ ⟨(by show 2 + 1 ≤ (40 * n + 16); omega), (by show 8 + (4 + 11) + 60 ≤ (1300 * n + 480); omega)⟩ (fun v154 u152 H locs hw153 hP hD hS => ?_)
    obtain ⟨w, _⟩ := u152
    obtain ⟨hw153, hO⟩ := hw153
    obtain rfl : v154 = none := hw153
    have hf157 : (kI (kI (kI (kN K q146 1 0) 0 q146 13) 1 q146 (nI (((at9 + 1) + r12) - 1))) 2 q146 ((kN K q146 1 0).2.1 2 x0)).1 x0 = 1 := hf148
    have hf158 : (kI (kI (kI (kN K q146 1 0) 0 q146 13) 1 q146 (nI (((at9 + 1) + r12) - 1))) 2 q146 ((kN K q146 1 0).2.1 2 x0)).1 q146 = 1 := hf149
    have hO : OKP G h0 a (upd (upd (upd (upd F 2 (nI sz)) 9 (nI ((at9 + 1) + r12))) 10 (nI dp)) 11 (nI sg)) R Z B J (kI (kI (kI (kN K q146 1 0) 0 q146 13) 1 q146 (nI (((at9 + 1) + r12) - 1))) 2 q146 ((kN K q146 1 0).2.1 2 x0)) w := hO.to rfl
    refine W.widen (k := 1) (n := 11) (by show 1 + 0 ≤ 1; omega) (by show 11 + 0 ≤ 11; omega) ?_
    refine W.eq (g2 := F0 m 87 ls [.ref q146]) rfl ?_
    change OKP G h0 a (upd (upd (upd (upd F 2 (nI sz)) 9 (nI ((at9 + 1) + r12))) 10 (nI dp)) 11 (nI sg)) R Z B J (mkN K q146 13 (nI (((at9 + 1) + r12) - 1)) ((kN K q146 1 0).2.1 2 x0)) w at hO
    obtain ⟨K159, hK160⟩ : ∃ z : PK, z = (mkN K q146 13 (nI (((at9 + 1) + r12) - 1)) ((kN K q146 1 0).2.1 2 x0)) := ⟨_, rfl⟩
    rw [← hK160] at hO
    have hf161 : K159.1 q146 = 1 := by rw [hK160]; exact mkN_T
    have hf162 : K159.2.1 0 q146 = 13 := by rw [hK160]; exact mkN_0
    have hf163 : K159.2.1 2 q146 = ((kN K q146 1 0).2.1 2 x0) := by rw [hK160]; exact mkN_2
    have hf164 : K159.2.2.1 0 q146 = none := by rw [hK160]; exact mkN_C
    have hf165 : K159.2.2.1 1 q146 = none := by rw [hK160]; exact mkN_C
    have hf166 : K159.2.2.1 2 q146 = none := by rw [hK160]; exact mkN_C
    have hf167 : K159.2.2.1 3 q146 = none := by rw [hK160]; exact mkN_C
    have hf168 : K159.2.2.1 4 q146 = none := by rw [hK160]; exact mkN_C
    have hf169 : K159.1 x0 = 1 := by rw [hK160]; exact ((mkN_ext hq147 x0 (by rw [hx0]; decide)).1).trans hx0
    have hns170 : NwS K K159 g (gset g q146 0 0 0) := by rw [hK160]; exact NwS.node hns0 hq147
    have hq171 : K.1 q146 = 0 := old_T hns0.2.1 hq147
    have hg172 : (gset g q146 0 0 0) 0 q146 = 0 := gset_0
    have hno173 : NoO K159 (gset g q146 0 0 0) q146 := by rw [hK160]; exact NoO.new hns0.1 hq147
    refine lv_astore (lv' := [(5, .ref q146), (4, .int 0), (3, .int (nI (((at9 + 1) + r12) - 1))), (2, .int (nI r12)), (0, .ref (a 3)), (1, .ref x0)]) hx hb dX8_dotted_87 hl (by decide) rfl (fun ls hl => ?_)
    refine lv_aload hx hb dX8_dotted_89 (lv_at hl 0 rfl) ?_
    refine lv_aload_n hx hb dX8_dotted_91 rfl (lv_at hl 5 rfl) ?_
    refine p_put (v := .ref x0) (ty := (.object "JinjaTongue$Node")) (C := RX7) (Tc := TX7) (N := 11) (ci := 13) (K' := (kC K159 0 q146 (some x0))) hx hb hq pin_wsX70 tyX7 tyX7_ok nmX7 hown hE hP hD hS hO (by rw [hf161]; decide) (rep_1 hf161) rfl 6 (by decide) (hq _ pw_938) (fun _ h9 => h9) rfl (by decide +kernel) rfl rfl (Nat.le_of_ble_eq_true rfl) rfl (by rw [rep_1 (show (kC K159 0 q146 (some x0)).1 q146 = 1 from hf161), pc_0] <;> rfl) (fun p9 hp9 => rep_kC hp9) dX8_dotted_92 (fun H locs w hP hD hS hO => ?_)
    obtain ⟨K174, hK175⟩ : ∃ z : PK, z = (kC K159 0 q146 (some x0)) := ⟨_, rfl⟩
    rw [← hK175] at hO
    have hf176 : K174.1 q146 = 1 := (by rw [hK175]; exact hf161)
    have hf177 : K174.2.1 0 q146 = 13 := (by rw [hK175]; exact hf162)
    have hf178 : K174.2.1 2 q146 = ((kN K q146 1 0).2.1 2 x0) := (by rw [hK175]; exact hf163)
    have hf179 : K174.2.2.1 1 q146 = none := (by rw [hK175]; exact (kC_of (by decide)).trans hf165)
    have hf180 : K174.2.2.1 2 q146 = none := (by rw [hK175]; exact (kC_of (by decide)).trans hf166)
    have hf181 : K174.2.2.1 3 q146 = none := (by rw [hK175]; exact (kC_of (by decide)).trans hf167)
    have hf182 : K174.2.2.1 4 q146 = none := (by rw [hK175]; exact (kC_of (by decide)).trans hf168)
    have hf183 : K174.1 x0 = 1 := (by rw [hK175]; exact hf169)
    have hf184 : K174.2.2.1 0 q146 = some x0 := by rw [hK175]; exact kC_eq
    have hns185 : NwS K K174 g (gset g q146 0 0 0) := by rw [hK175]; exact NwS.put hns170 hq171 hg172
    have hno186 : NoO K174 (gset g q146 0 0 0) q146 := by rw [hK175]; exact hno173
    refine lv_iload hx hb dX8_dotted_95 (lv_at hl 1 rfl) ?_
    refine lv_if_eq (tgt := 106) hx hb dX8_dotted_97 (by decide) (fun c187 => ?_) (fun c187 => absurd c187 (by decide))
    refine lv_aload hx hb dX8_dotted_106 (lv_at hl 0 rfl) ?_
    refine W_size (fun hz1 hz2 => ?_)
    refine vx_ret ?_
    have hg8 : (gset g q146 0 0 0) 0 x0 = g 0 x0 := hns185.2.1.2 x0 (by rw [hx0]; decide) 0
    have hkid : ∀ f9 y9 : Nat, f9 ≤ 3 → K174.2.2.1 f9 q146 = some y9 → K174.1 y9 = 1 ∧ 1 ≤ (gset g q146 0 0 0) 0 y9 ∧ (gset g q146 0 0 0) 0 y9 < (5 * (20 - dp) + 3 + (sg - sb)) := by
      intro f9 y9 hf9 hy9
      rcases (show f9 = 0 ∨ f9 = 1 ∨ f9 = 2 ∨ f9 = 3 by omega) with rfl | rfl | rfl | rfl
      · rw [hf184] at hy9; cases hy9; exact ⟨hf183, (by omega), by omega⟩
      · rw [hf179] at hy9; cases hy9
      · rw [hf180] at hy9; cases hy9
      · rw [hf181] at hy9; cases hy9
    have hdn := NwS.done1 (q := q146) (L := (5 * (20 - dp) + 3 + (sg - sb))) (O := O) (k := kr) hns185 hq171 hf176 hg172 (by omega) (by omega) (by rw [hf177]; exact ⟨fun _ => (by show ¬ K174.2.2.1 0 q146 = none; rw [hf184]; intro z; cases z), fun z => absurd z (by decide), fun z => absurd z (by decide), fun z => absurd z (by decide), fun z => absurd z (by decide)⟩) (fun f9 z => by rw [hf177] at z; rcases z with ⟨z, _⟩ | ⟨z | z | z, _⟩ <;> exact absurd z (by decide)) hkid hf182 hno186 (fun f9 x9 _ _ => Kch.no (by rw [hf177]; decide)) how
    have hz188 : NwR K K174 g (gset (gset g q146 0 0 0) q146 (5 * (20 - dp) + 3 + (sg - sb)) O kr) q146 O kr ((5 * (20 - dp) + 3 + (sg - sb))) := hdn
    have hz189 : at9 + 2 ≤ ((at9 + 1) + r12) ∧ ((at9 + 1) + r12) ≤ sz := (by omega)
    have hz190 : sg ≤ sg ∧ sg ≤ 60 := (by omega)
    have hO : OKP G h0 a (upd (upd (upd (upd F 2 (nI sz)) 9 (nI ((at9 + 1) + r12))) 10 (nI dp)) 11 (nI sg)) R Z (updA B 10 (B 10)) J K174 w := hO.to rfl
    refine W.widen (k := (2 * (sz - at9) + 19)) (n := (11 * (2 * (sz - at9) + 19))) (by omega) (by omega) ?_
    have hzz1 : H.size ≤ s.heap.size + ((2 * (((at9 + 1) + r12) - at9) - 3)) := (by have z : 1 ≤ (2 * (((at9 + 1) + r12) - at9) - 3) := (by omega); omega)
    have hzz2 : hSl H ≤ hSl s.heap + ((11 * (2 * (((at9 + 1) + r12) - at9) - 3))) := (by have z : 11 ≤ (11 * (2 * (((at9 + 1) + r12) - at9) - 3)) := (by omega); omega)
    exact W.aret (v := .ref q146) hx hb hr (Or.inl ⟨_, rfl⟩) (Or.inr ⟨_, rfl⟩) (fun t99 ht99 hW99 => ⟨⟨_, (w, (q146, K174, (gset (gset g q146 0 0 0) q146 (5 * (20 - dp) + 3 + (sg - sb)) O kr), ((at9 + 1) + r12), sg, (B 10))), rfl, ⟨rfl, hz188, hz189, hz190, hO⟩, by rw [ht99]; exact hP, hD, by rw [ht99]; exact hzz1, by rw [ht99]; exact hzz2⟩, hS.F ht99⟩) hS.2.2 dX8_dotted_108
