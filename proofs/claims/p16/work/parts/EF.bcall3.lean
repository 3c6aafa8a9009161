theorem dX8_dotted_0 : decode cX8_dotted 0 = .ok (.aload_n 0, 1) := by decide +kernel
theorem dX8_dotted_1 : decode cX8_dotted 1 = .ok (.bipush 40, 2) := by decide +kernel
theorem dX8_dotted_3 : decode cX8_dotted 3 = .ok (.invokevirtual 53, 3) := by decide +kernel
theorem dX8_dotted_6 : decode cX8_dotted 6 = .ok (.pop, 1) := by decide +kernel
theorem dX8_dotted_7 : decode cX8_dotted 7 = .ok (.aload_n 0, 1) := by decide +kernel
theorem dX8_dotted_8 : decode cX8_dotted 8 = .ok (.bipush 16, 2) := by decide +kernel
theorem dX8_dotted_10 : decode cX8_dotted 10 = .ok (.invokevirtual 80, 3) := by decide +kernel
theorem dX8_dotted_13 : decode cX8_dotted 13 = .ok (.istore_n 2, 1) := by decide +kernel
theorem dX8_dotted_14 : decode cX8_dotted 14 = .ok (.iload_n 2, 1) := by decide +kernel
theorem dX8_dotted_15 : decode cX8_dotted 15 = .ok (.ifCond .eq 12, 3) := by decide +kernel
theorem dX8_dotted_27 : decode cX8_dotted 27 = .ok (.aload_n 0, 1) := by decide +kernel
theorem dX8_dotted_28 : decode cX8_dotted 28 = .ok (.bipush 65, 2) := by decide +kernel
theorem dX8_dotted_30 : decode cX8_dotted 30 = .ok (.invokevirtual 53, 3) := by decide +kernel
theorem dX8_dotted_33 : decode cX8_dotted 33 = .ok (.istore_n 3, 1) := by decide +kernel
theorem dX8_dotted_34 : decode cX8_dotted 34 = .ok (.iload_n 2, 1) := by decide +kernel
theorem dX8_dotted_35 : decode cX8_dotted 35 = .ok (.ifCond .ne 16, 3) := by decide +kernel
theorem dX8_dotted_38 : decode cX8_dotted 38 = .ok (.aload_n 0, 1) := by decide +kernel
theorem dX8_dotted_39 : decode cX8_dotted 39 = .ok (.bipush 34, 2) := by decide +kernel
theorem dX8_dotted_41 : decode cX8_dotted 41 = .ok (.invokevirtual 36, 3) := by decide +kernel
theorem dX8_dotted_44 : decode cX8_dotted 44 = .ok (.ifCond .eq 7, 3) := by decide +kernel
theorem dX8_dotted_51 : decode cX8_dotted 51 = .ok (.iconst 0, 1) := by decide +kernel
theorem dX8_dotted_52 : decode cX8_dotted 52 = .ok (.istore 4, 2) := by decide +kernel
theorem dX8_dotted_54 : decode cX8_dotted 54 = .ok (.new 143, 3) := by decide +kernel
theorem dX8_dotted_57 : decode cX8_dotted 57 = .ok (.dup, 1) := by decide +kernel
theorem dX8_dotted_58 : decode cX8_dotted 58 = .ok (.iload_n 2, 1) := by decide +kernel
theorem dX8_dotted_59 : decode cX8_dotted 59 = .ok (.ifCond .eq 8, 3) := by decide +kernel
theorem dX8_dotted_67 : decode cX8_dotted 67 = .ok (.iload 4, 2) := by decide +kernel
theorem dX8_dotted_69 : decode cX8_dotted 69 = .ok (.ifCond .eq 8, 3) := by decide +kernel
theorem dX8_dotted_77 : decode cX8_dotted 77 = .ok (.bipush 12, 2) := by decide +kernel
theorem dX8_dotted_79 : decode cX8_dotted 79 = .ok (.iload_n 3, 1) := by decide +kernel
theorem dX8_dotted_80 : decode cX8_dotted 80 = .ok (.aload_n 1, 1) := by decide +kernel
theorem dX8_dotted_81 : decode cX8_dotted 81 = .ok (.getfield 248, 3) := by decide +kernel
theorem dX8_dotted_84 : decode cX8_dotted 84 = .ok (.invokespecial 145, 3) := by decide +kernel
theorem dX8_dotted_87 : decode cX8_dotted 87 = .ok (.astore 5, 2) := by decide +kernel
theorem dX8_dotted_89 : decode cX8_dotted 89 = .ok (.aload 5, 2) := by decide +kernel
theorem dX8_dotted_91 : decode cX8_dotted 91 = .ok (.aload_n 1, 1) := by decide +kernel
theorem dX8_dotted_92 : decode cX8_dotted 92 = .ok (.putfield 165, 3) := by decide +kernel
theorem dX8_dotted_95 : decode cX8_dotted 95 = .ok (.iload 4, 2) := by decide +kernel
theorem dX8_dotted_97 : decode cX8_dotted 97 = .ok (.ifCond .eq 9, 3) := by decide +kernel
theorem dX8_dotted_106 : decode cX8_dotted 106 = .ok (.aload 5, 2) := by decide +kernel
theorem dX8_dotted_108 : decode cX8_dotted 108 = .ok (.areturn, 1) := by decide +kernel
theorem dX8_dotted_47 : decode cX8_dotted 47 = .ok (.iconst 1, 1) := by decide +kernel
theorem dX8_dotted_48 : decode cX8_dotted 48 = .ok (.goto 4, 3) := by decide +kernel
theorem dX8_dotted_72 : decode cX8_dotted 72 = .ok (.bipush 10, 2) := by decide +kernel
theorem dX8_dotted_74 : decode cX8_dotted 74 = .ok (.goto 5, 3) := by decide +kernel
theorem dX8_dotted_100 : decode cX8_dotted 100 = .ok (.aload_n 0, 1) := by decide +kernel
theorem dX8_dotted_101 : decode cX8_dotted 101 = .ok (.aload 5, 2) := by decide +kernel
theorem dX8_dotted_103 : decode cX8_dotted 103 = .ok (.invokevirtual 276, 3) := by decide +kernel
theorem dX8_dotted_18 : decode cX8_dotted 18 = .ok (.aload_n 0, 1) := by decide +kernel
theorem dX8_dotted_19 : decode cX8_dotted 19 = .ok (.getfield 17, 3) := by decide +kernel
theorem dX8_dotted_22 : decode cX8_dotted 22 = .ok (.iconst 1, 1) := by decide +kernel
theorem dX8_dotted_23 : decode cX8_dotted 23 = .ok (.isub, 1) := by decide +kernel
theorem dX8_dotted_24 : decode cX8_dotted 24 = .ok (.goto 9, 3) := by decide +kernel
theorem dX8_dotted_62 : decode cX8_dotted 62 = .ok (.bipush 13, 2) := by decide +kernel
theorem dX8_dotted_64 : decode cX8_dotted 64 = .ok (.goto 15, 3) := by decide +kernel
set_option maxHeartbeats 16000000 in
set_option maxRecDepth 100000 in
theorem P_dotted (l : Launch) (G : pT) (h0 : Nat) (a : Nat → Nat) (F : Nat → Int32) (R : Nat → Value) (Z : Int64) (B : Nat → Nat → Int32) (J : Nat → Nat → Int64) (K : PK) (w : va_W) (x0 : Nat) (sb : Nat) (kx : Nat) (st9 : Nat) (n : Nat) (at9 : Nat) (sz : Nat) (dp : Nat) (sg : Nat) (O : Nat) (g : Nat → Nat → Nat) (hsz : sz ≤ 5000) (hat : at9 ≤ sz) (hdp : dp + n = 20) (hsg : sg ≤ 60) (hwn : WN K g) (how : ∀ o : Nat, O = o + 1 → K.1 o = 1 ∧ g 0 o = 0 ∧ ¬ K.2.1 0 o = 32) (hx0 : K.1 x0 = 1) (hx1 : 1 ≤ g 0 x0) (hx2 : sb + 1 ≤ sg ∧ g 0 x0 + 1 ≤ 5 * (20 - dp) + 3 + (sg - sb)) (hxk : g 2 x0 = kx) (hxi : st9 ≤ rS kx ∧ rS kx + 1 ≤ rE kx ∧ rE kx ≤ at9 ∧ 1 ≤ rD kx ∧ rD kx ≤ 9 * (20 - dp) + (sg - sb) + 1) (ihe : IhE l G n) (hO : OKP G h0 a (upd (upd (upd (upd F 2 (nI sz)) 9 (nI at9)) 10 (nI dp)) 11 (nI sg)) R Z B J K w) (hl0 : l.stackTraces = false) : PBn l G pX0 yX8_dotted cX8_dotted 6 (some (.object "JinjaTongue$Node")) ({ frames := (40 * n + 16), cells := (2 * (sz - at9) + 19), slots := (11 * (2 * (sz - at9) + 19)), locals := (1300 * n + 480) }) [.ref (a 3), .ref x0] w (fun (v : Option Value) (u : va_W × (Nat × PK × (Nat → Nat → Nat) × Nat × Nat × (Nat → Int32) × Nat)) => v = some (.ref u.2.1) ∧ (NwR K u.2.2.1 g u.2.2.2.1 u.2.1 O u.2.2.2.2.2.2.2 ((5 * (20 - dp) + 3 + (u.2.2.2.2.2.1 - sb)))) ∧ (rS u.2.2.2.2.2.2.2 = st9 ∧ rS u.2.2.2.2.2.2.2 + 1 ≤ rE u.2.2.2.2.2.2.2 ∧ rE u.2.2.2.2.2.2.2 ≤ u.2.2.2.2.1 ∧ 1 ≤ rD u.2.2.2.2.2.2.2 ∧ rD u.2.2.2.2.2.2.2 ≤ 9 * (20 - dp) + (u.2.2.2.2.2.1 - sb) + 1) ∧ (at9 + 2 ≤ u.2.2.2.2.1 ∧ u.2.2.2.2.1 ≤ sz) ∧ (sg ≤ u.2.2.2.2.2.1 ∧ u.2.2.2.2.2.1 ≤ 60) ∧ (NwT (B 7) sz (B 10) u.2.2.2.2.2.2.1 K u.2.2.1 at9 u.2.2.2.2.1) ∧ (OKP G h0 a (upd (upd (upd (upd F 2 (nI sz)) 9 (nI u.2.2.2.2.1)) 10 (nI dp)) 11 (nI u.2.2.2.2.2.1)) R Z (updA B 10 u.2.2.2.2.2.2.1) J u.2.2.1 u.1)) (fun u => u.1) (fun (u : va_W × (Nat × PK × (Nat → Nat → Nat) × Nat × Nat × (Nat → Int32) × Nat)) => (2 * (u.2.2.2.2.1 - at9) - 3)) (fun (u : va_W × (Nat × PK × (Nat → Nat → Nat) × Nat × Nat × (Nat → Int32) × Nat)) => (11 * (2 * (u.2.2.2.2.1 - at9) - 3))) (fun (u : va_W × (Nat → Int32) × (Nat → Value) × (Nat → Nat → Int32)) => ThQ G h0 a (upd (upd (upd (upd F 2 (nI sz)) 9 (nI at9)) 10 (nI dp)) 11 (nI sg)) R Z B J u) (fun u => u.1) := by
  intro sz
  refine vx_ofW (cc := cX8_dotted) (maxL := 6) (ret := (some (.object "JinjaTongue$Node"))) (by decide) rfl ?_
  intro p e s m args below meth c s₁ B9 hml hnt hv
  obtain ⟨rfl, hsz, hP, hD0, hE, hX⟩ := hv
  have hx := B9.exec
  have hb := B9.bytes
  have hr := B9.returns
  have hts := atoms_spec (ws := Cond.code yX8_dotted cX8_dotted 6 (some (.object "JinjaTongue$Node")) :: pw) B9.pre
  have hq : ∀ w ∈ pw, w.before _ s = true := fun w h => hts w (List.mem_cons_of_mem _ h)
  have hown : s.vm.findClass RX8 = some m.cls := findClass_of_methodNamed B9.named
  have hlocks := B9.notSynchronized
  subst hsz
  have hD := hD0.self (sz := s.heap.size)
  have hA : ∀ q : Nat, s.heap.size ≤ q → va_A w s.heap.size q := fun q h => Or.inr h
  generalize va_A w s.heap.size = A at hD hE hA ⊢
  have hS : va_S A s.heap s.heap [] := va_S.rf
  have hl := lv_entry ([.ref (a 3), .ref x0]) (n := 6) (Nat.le_of_ble_eq_true rfl)
  rw [lg_entry_eq]
  generalize (lg_sl ([.ref (a 3), .ref x0]) ++ List.replicate (6 - (lg_sl ([.ref (a 3), .ref x0])).length) Slot.unset).toArray = ls at hl ⊢
  have hl : lv_has ls 6 [(0, .ref (a 3)), (1, .ref x0)] := hl
  have htk0 : NwT (B 7) sz (B 10) (B 10) K K at9 at9 := NwT.nil
  have hns0 : NwS K K g g := NwS.nil hwn
  refine lv_aload_n hx hb dX8_dotted_0 rfl (lv_at hl 0 rfl) ?_
  refine lv_bipush (v := 40) hx hb dX8_dotted_1 (by decide) ?_
  have hO : OKW G h0 a (upd (upd (upd (upd (upd (upd F 2 (nI sz)) 9 (nI at9)) 10 (nI dp)) 11 (nI sg)) 2 (nI sz)) 9 (nI at9)) R Z B J K.1 (fun q99 x99 => x99 = rep G a K q99) w := hO.to rfl
  obtain ⟨_, qr4, hqr5⟩ := hO.2.1 23 _ (sg_23 G h0 a _ _ _ _ _)
  refine pn_V0 (G := G) (As := [.int 40]) (rest := []) hx hb hml hown hq hE hX pX0_al hP hD hS hA hl.1 (P_take l G h0 a (upd (upd (upd (upd F 2 (nI sz)) 9 (nI at9)) 10 (nI dp)) 11 (nI sg)) R Z B J K.1 (fun q99 x99 => x99 = rep G a K q99) w 40 at9 sz (by omega) (by omega) (by decide) hO hl0) (gV pw_793 pw_794 pw_795 pw_796 pw_781) hV_X8_take qr4 5 hqr5 rfl rfl rfl (Nat.le_of_ble_eq_true rfl) dX8_dotted_3 ⟨(by show 0 + 1 ≤ (2 * (sz - at9) + 19); omega), (by show 0 + 6 ≤ (11 * (2 * (sz - at9) + 19)); omega)⟩ ⟨(by show 7 + 1 ≤ (40 * n + 16); omega), (by show 8 + (2 + 11) + 122 ≤ (1300 * n + 480); omega)⟩ (fun v3 u1 H locs hw2 hP hD hS => ?_) (fun ux ce9 q9 H9 locs9 hux hP9 hD9 hS9 hce hcv hcl => pb_out ux (ThQ.up (Thx.same (Thx.same Thx.rfl rfl) rfl) RhX.rfl hux) hnt hlocks hce hcv hcl hP9 hD9 hS9 (by show 0 + 1 ≤ (2 * (sz - at9) + 19); omega) (by show 0 + 6 ≤ (11 * (2 * (sz - at9) + 19)); omega))
  obtain ⟨w, _⟩ := u1
  obtain ⟨hw2, h6, h7, hO⟩ := hw2
  have h6 : at9 + 1 ≤ sz := h6
  have h7 : tkN ((B 7)) sz 67 (nI at9) = 40 := h7
  obtain rfl : v3 = some (.int (nI at9)) := hw2
  have hO : OKP G h0 a (upd (upd (upd (upd F 2 (nI sz)) 9 (nI (at9 + 1))) 10 (nI dp)) 11 (nI sg)) R Z B J K w := hO.to rfl
  refine W.widen (k := 0) (n := 0) (by show 0 + 0 ≤ 0; omega) (by show 0 + 0 ≤ 0; omega) ?_
  refine W.eq (g2 := F0 m 6 ls [.int (nI at9)]) rfl ?_
  refine lv_pop hx hb dX8_dotted_6 rfl ?_
  refine lv_aload_n hx hb dX8_dotted_7 rfl (lv_at hl 0 rfl) ?_
  refine lv_bipush (v := 16) hx hb dX8_dotted_8 (by decide) ?_
  have hO : OKW G h0 a (upd (upd (upd (upd (upd (upd F 2 (nI sz)) 9 (nI (at9 + 1))) 10 (nI dp)) 11 (nI sg)) 2 (nI sz)) 9 (nI (at9 + 1))) R Z B J K.1 (fun q99 x99 => x99 = rep G a K q99) w := hO.to rfl
  obtain ⟨_, qr11, hqr12⟩ := hO.2.1 23 _ (sg_23 G h0 a _ _ _ _ _)
  refine pc_V0 (G := G) (As := [.int 16]) (rest := []) hx hb hml hown hq hE hX pX0_al hP hD hS hA hl.1 (P_takeIf l G h0 a (upd (upd (upd (upd F 2 (nI sz)) 9 (nI (at9 + 1))) 10 (nI dp)) 11 (nI sg)) R Z B J K.1 (fun q99 x99 => x99 = rep G a K q99) w 16 (at9 + 1) sz (by omega) (by omega) (by decide) hO) (gV pw_797 pw_798 pw_799 pw_796 pw_789) hV_X8_takeIf qr11 5 hqr12 rfl rfl rfl (Nat.le_of_ble_eq_true rfl) dX8_dotted_10 ⟨(by show 0 + 0 ≤ (2 * (sz - at9) + 19); omega), (by show 0 + 0 ≤ (11 * (2 * (sz - at9) + 19)); omega)⟩ ⟨(by show 3 + 1 ≤ (40 * n + 16); omega), (by show 8 + (2 + 11) + 81 ≤ (1300 * n + 480); omega)⟩ (fun v10 u8 H locs hw9 hP hD hS => ?_)
  obtain ⟨w, r13⟩ := u8
  obtain ⟨hw9, h14, h15, h16, hO⟩ := hw9
  have h14 : r13 ≤ 1 := h14
  have h15 : (at9 + 1) + r13 ≤ sz := h15
  have h16 : SeQ ((B 7)) sz (at9 + 1) 16 r13 := h16
  obtain rfl : v10 = some (.int (nI r13)) := hw9
  have hO : OKP G h0 a (upd (upd (upd (upd F 2 (nI sz)) 9 (nI ((at9 + 1) + r13))) 10 (nI dp)) 11 (nI sg)) R Z B J K w := hO.to rfl
  refine W.widen (k := 0) (n := 0) (Nat.le_of_ble_eq_true rfl) (Nat.le_of_ble_eq_true rfl) ?_
  refine W.eq (g2 := F0 m 13 ls [.int (nI r13)]) rfl ?_
  refine lv_istore_n (lv' := [(2, .int (nI r13)), (0, .ref (a 3)), (1, .ref x0)]) hx hb dX8_dotted_13 rfl hl (by decide) rfl (fun ls hl => ?_)
  refine lv_iload_n hx hb dX8_dotted_14 rfl (lv_at hl 0 rfl) ?_
  refine lv_if_eq (tgt := 27) hx hb dX8_dotted_15 (by decide) (fun c17 => ?_) (fun c17 => ?_)
  · have n18 : r13 = 0 := (nI_eq (a := r13) (b := 0) (by omega) (by omega)).mp c17
    refine lv_aload_n hx hb dX8_dotted_27 rfl (lv_at hl 1 rfl) ?_
    refine lv_bipush (v := 65) hx hb dX8_dotted_28 (by decide) ?_
    have hO : OKW G h0 a (upd (upd (upd (upd (upd (upd (upd F 2 (nI sz)) 9 (nI at9)) 10 (nI dp)) 11 (nI sg)) 9 (nI ((at9 + 1) + r13))) 2 (nI sz)) 9 (nI ((at9 + 1) + r13))) R Z B J K.1 (fun q99 x99 => x99 = rep G a K q99) w := hO.to rfl
    obtain ⟨_, qr22, hqr23⟩ := hO.2.1 23 _ (sg_23 G h0 a _ _ _ _ _)
    refine pn_V0 (G := G) (As := [.int 65]) (rest := []) hx hb hml hown hq hE hX pX0_al hP hD hS hA hl.1 (P_take l G h0 a (upd (upd (upd (upd (upd F 2 (nI sz)) 9 (nI at9)) 10 (nI dp)) 11 (nI sg)) 9 (nI ((at9 + 1) + r13))) R Z B J K.1 (fun q99 x99 => x99 = rep G a K q99) w 65 ((at9 + 1) + r13) sz (by omega) (by omega) (by decide) hO hl0) (gV pw_793 pw_794 pw_795 pw_796 pw_781) hV_X8_take qr22 5 hqr23 rfl rfl rfl (Nat.le_of_ble_eq_true rfl) dX8_dotted_30 ⟨(by show 0 + 1 ≤ (2 * (sz - at9) + 19); omega), (by show 0 + 6 ≤ (11 * (2 * (sz - at9) + 19)); omega)⟩ ⟨(by show 7 + 1 ≤ (40 * n + 16); omega), (by show 8 + (2 + 11) + 122 ≤ (1300 * n + 480); omega)⟩ (fun v21 u19 H locs hw20 hP hD hS => ?_) (fun ux ce9 q9 H9 locs9 hux hP9 hD9 hS9 hce hcv hcl => pb_out ux (ThQ.up (Thx.same (Thx.same (Thx.f Thx.rfl (by omega)) rfl) rfl) RhX.rfl hux) hnt hlocks hce hcv hcl hP9 hD9 hS9 (by show 0 + 1 ≤ (2 * (sz - at9) + 19); omega) (by show 0 + 6 ≤ (11 * (2 * (sz - at9) + 19)); omega))
    obtain ⟨w, _⟩ := u19
    obtain ⟨hw20, h24, h25, hO⟩ := hw20
    have h24 : ((at9 + 1) + r13) + 1 ≤ sz := h24
    have h25 : tkN ((B 7)) sz 67 (nI ((at9 + 1) + r13)) = 65 := h25
    obtain rfl : v21 = some (.int (nI ((at9 + 1) + r13))) := hw20
    have hO : OKP G h0 a (upd (upd (upd (upd F 2 (nI sz)) 9 (nI (((at9 + 1) + r13) + 1))) 10 (nI dp)) 11 (nI sg)) R Z B J K w := hO.to rfl
    refine W.widen (k := 0) (n := 0) (by show 0 + 0 ≤ 0; omega) (by show 0 + 0 ≤ 0; omega) ?_
    refine W.eq (g2 := F0 m 33 ls [.int (nI ((at9 + 1) + r13))]) rfl ?_
    refine lv_istore_n (lv' := [(3, .int (nI ((at9 + 1) + r13))), (2, .int (nI r13)), (0, .ref (a 3)), (1, .ref x0)]) hx hb dX8_dotted_33 rfl hl (by decide) rfl (fun ls hl => ?_)
    refine lv_iload_n hx hb dX8_dotted_34 rfl (lv_at hl 1 rfl) ?_
    refine lv_if_ne (tgt := 51) hx hb dX8_dotted_35 (by decide) (fun c26 => (by have n27 : ¬ (r13 = 0) := fun h9 => c26 ((nI_eq (a := r13) (b := 0) (by omega) (by omega)).mpr h9); omega)) (fun c26 => ?_)
    refine lv_aload_n hx hb dX8_dotted_38 rfl (lv_at hl 2 rfl) ?_
    refine lv_bipush (v := 34) hx hb dX8_dotted_39 (by decide) ?_
    have hO : OKW G h0 a (upd (upd (upd (upd (upd (upd F 2 (nI sz)) 9 (nI (((at9 + 1) + r13) + 1))) 10 (nI dp)) 11 (nI sg)) 2 (nI sz)) 9 (nI (((at9 + 1) + r13) + 1))) R Z B J K.1 (fun q99 x99 => x99 = rep G a K q99) w := hO.to rfl
    obtain ⟨_, qr31, hqr32⟩ := hO.2.1 23 _ (sg_23 G h0 a _ _ _ _ _)
    refine pc_V0 (G := G) (As := [.int 34]) (rest := []) hx hb hml hown hq hE hX pX0_al hP hD hS hA hl.1 (P_sees l G h0 a (upd (upd (upd (upd F 2 (nI sz)) 9 (nI (((at9 + 1) + r13) + 1))) 10 (nI dp)) 11 (nI sg)) R Z B J K.1 (fun q99 x99 => x99 = rep G a K q99) w 34 (((at9 + 1) + r13) + 1) sz (by omega) (by omega) hO) (gV pw_803 pw_804 pw_805 pw_796 pw_775) hV_X8_sees qr31 5 hqr32 rfl rfl rfl (Nat.le_of_ble_eq_true rfl) dX8_dotted_41 ⟨(by show 0 + 0 ≤ (2 * (sz - at9) + 19); omega), (by show 0 + 0 ≤ (11 * (2 * (sz - at9) + 19)); omega)⟩ ⟨(by show 3 + 1 ≤ (40 * n + 16); omega), (by show 8 + (2 + 11) + 81 ≤ (1300 * n + 480); omega)⟩ (fun v30 u28 H locs hw29 hP hD hS => ?_)
    obtain ⟨w, r33⟩ := u28
    obtain ⟨hw29, h34, h35, hO⟩ := hw29
    have h34 : r33 ≤ 1 := h34
    have h35 : SeQ ((B 7)) sz (((at9 + 1) + r13) + 1) 34 r33 := h35
    obtain rfl : v30 = some (.int (nI r33)) := hw29
    have hO : OKP G h0 a (upd (upd (upd (upd F 2 (nI sz)) 9 (nI (((at9 + 1) + r13) + 1))) 10 (nI dp)) 11 (nI sg)) R Z B J K w := hO.to rfl
    refine W.widen (k := 0) (n := 0) (Nat.le_of_ble_eq_true rfl) (Nat.le_of_ble_eq_true rfl) ?_
    refine W.eq (g2 := F0 m 44 ls [.int (nI r33)]) rfl ?_
    refine lv_if_eq (tgt := 51) hx hb dX8_dotted_44 (by decide) (fun c36 => ?_) (fun c36 => ?_)
    · have n37 : r33 = 0 := (nI_eq (a := r33) (b := 0) (by omega) (by omega)).mp c36
      refine lv_iconst (v := 0) hx hb dX8_dotted_51 (by decide) ?_
      refine lv_istore (lv' := [(4, .int 0), (3, .int (nI ((at9 + 1) + r13))), (2, .int (nI r13)), (0, .ref (a 3)), (1, .ref x0)]) hx hb dX8_dotted_52 hl (by decide) rfl (fun ls hl => ?_)
      refine p_new (s9 := 1) (C := RX7) (T := TX7) (N := 11) (ci := 13) (fs := [.int 0, .int 0, .int 0, .int 0, .int 0, .int 0, .null, .null, .null, .null, .null]) hx hb hq pin_wsX70 tyX7 tyX7_ok hown (hq _ pw_870) (hq _ pw_871) (hq _ pw_872) hE hP hD hS hA hO rfl nw_X7 (by decide) (fun q => by rw [rep_1 (show (kN K q 1 0).1 q = 1 from if_pos rfl)]; unfold fsNode kN; simp only [if_true]; rfl) (by show 0 + 1 ≤ (2 * (sz - at9) + 19); omega) (by show 0 + 11 ≤ (11 * (2 * (sz - at9) + 19)); omega) dX8_dotted_54 (fun q38 H w hq39 hP hD hS hO => ?_)
      have hf40 : (kN K q38 1 0).1 x0 = 1 := (if_neg (fun z => by have z2 := hx0; rw [z, hq39] at z2; exact absurd z2 (by decide))).trans hx0
      have hf41 : (kN K q38 1 0).1 q38 = 1 := if_pos rfl
      refine W.widen (k := 1) (n := 11) (by show 0 + 1 ≤ 1; omega) (by show 0 + 11 ≤ 11; omega) ?_
      refine lv_dup hx hb dX8_dotted_57 rfl ?_
      refine lv_iload_n hx hb dX8_dotted_58 rfl (lv_at hl 2 rfl) ?_
      refine lv_if_eq (tgt := 67) hx hb dX8_dotted_59 (by decide) (fun c42 => ?_) (fun c42 => (by have n43 : ¬ (r13 = 0) := fun h9 => c42 ((nI_eq (a := r13) (b := 0) (by omega) (by omega)).mpr h9); omega))
      refine lv_iload hx hb dX8_dotted_67 (lv_at hl 0 rfl) ?_
      refine lv_if_eq (tgt := 77) hx hb dX8_dotted_69 (by decide) (fun c44 => ?_) (fun c44 => absurd c44 (by decide))
      refine lv_bipush (v := 12) hx hb dX8_dotted_77 (by decide) ?_
      refine lv_iload_n hx hb dX8_dotted_79 rfl (lv_at hl 1 rfl) ?_
      refine lv_aload_n hx hb dX8_dotted_80 rfl (lv_at hl 4 rfl) ?_
      refine p_get (v := .int ((kN K q38 1 0).2.1 2 x0)) (C := RX7) (Tc := TX7) (N := 11) (ci := 13) hx hb hq pin_wsX70 hown hE hP hO (by rw [hf40]; decide) (rep_1 hf40) rfl 2 (by decide) (hq _ pw_937) (fun _ h9 => h9) rfl dX8_dotted_81 ?_
      have hO : OKP G h0 a (upd (upd (upd (upd F 2 (nI sz)) 9 (nI (((at9 + 1) + r13) + 1))) 10 (nI dp)) 11 (nI sg)) R Z B J (kN K q38 1 0) w := hO.to rfl
      obtain ⟨qr48, hqr49⟩ := p_recv hO (by rw [hf41]; decide) (rep_1 hf41)
      refine pc_I0 (G := G) (As := [.int 12, .int (nI ((at9 + 1) + r13)), .int ((kN K q38 1 0).2.1 2 x0)]) (rest := [.ref q38]) hx hb hml hown hq hE hX pX0_al hP hD hS hA hl.1 (N_init l G h0 a (upd (upd (upd (upd F 2 (nI sz)) 9 (nI (((at9 + 1) + r13) + 1))) 10 (nI dp)) 11 (nI sg)) R Z B J (kN K q38 1 0) w q38 12 (nI ((at9 + 1) + r13)) ((kN K q38 1 0).2.1 2 x0) (by omega) hO) pw_874 pw_875 pw_872 pw_765 rfl hS_X7_init rfl (Nat.le_of_ble_eq_true rfl) dX8_dotted_84 ⟨(by show 1 + 0 ≤ (2 * (sz - at9) + 19); omega), (by show 11 + 0 ≤ (11 * (2 * (sz - at9) + 19)); omega)⟩ ⟨(by show 2 + 1 ≤ (40 * n + 16); omega), (by show 8 + (4 + 11) + 60 ≤ (1300 * n + 480); omega)⟩ (fun v47 u45 H locs hw46 hP hD hS => ?_)
      obtain ⟨w, _⟩ := u45
      obtain ⟨hw46, hO⟩ := hw46
      obtain rfl : v47 = none := hw46
      have hf50 : (kI (kI (kI (kN K q38 1 0) 0 q38 12) 1 q38 (nI ((at9 + 1) + r13))) 2 q38 ((kN K q38 1 0).2.1 2 x0)).1 x0 = 1 := hf40
      have hf51 : (kI (kI (kI (kN K q38 1 0) 0 q38 12) 1 q38 (nI ((at9 + 1) + r13))) 2 q38 ((kN K q38 1 0).2.1 2 x0)).1 q38 = 1 := hf41
      have hO : OKP G h0 a (upd (upd (upd (upd F 2 (nI sz)) 9 (nI (((at9 + 1) + r13) + 1))) 10 (nI dp)) 11 (nI sg)) R Z B J (kI (kI (kI (kN K q38 1 0) 0 q38 12) 1 q38 (nI ((at9 + 1) + r13))) 2 q38 ((kN K q38 1 0).2.1 2 x0)) w := hO.to rfl
      refine W.widen (k := 1) (n := 11) (by show 1 + 0 ≤ 1; omega) (by show 11 + 0 ≤ 11; omega) ?_
      refine W.eq (g2 := F0 m 87 ls [.ref q38]) rfl ?_
      change OKP G h0 a (upd (upd (upd (upd F 2 (nI sz)) 9 (nI (((at9 + 1) + r13) + 1))) 10 (nI dp)) 11 (nI sg)) R Z B J (mkN K q38 12 (nI ((at9 + 1) + r13)) ((kN K q38 1 0).2.1 2 x0)) w at hO
      obtain ⟨K52, hK53⟩ : ∃ z : PK, z = (mkN K q38 12 (nI ((at9 + 1) + r13)) ((kN K q38 1 0).2.1 2 x0)) := ⟨_, rfl⟩
      rw [← hK53] at hO
      have htk54 : NwT (B 7) sz (B 10) (B 10) K K52 at9 (((at9 + 1) + r13) + 1) := by rw [hK53]; exact NwT.new (NwT.le htk0 (show _ ≤ (((at9 + 1) + r13) + 1) by omega)) hq39 (TkP.no (by decide))
      have hf55 : K52.1 q38 = 1 := by rw [hK53]; exact mkN_T
      have hf56 : K52.2.1 0 q38 = 12 := by rw [hK53]; exact mkN_0
      have hf57 : K52.2.1 2 q38 = ((kN K q38 1 0).2.1 2 x0) := by rw [hK53]; exact mkN_2
      have hf58 : K52.2.2.1 0 q38 = none := by rw [hK53]; exact mkN_C
      have hf59 : K52.2.2.1 1 q38 = none := by rw [hK53]; exact mkN_C
      have hf60 : K52.2.2.1 2 q38 = none := by rw [hK53]; exact mkN_C
      have hf61 : K52.2.2.1 3 q38 = none := by rw [hK53]; exact mkN_C
      have hf62 : K52.2.2.1 4 q38 = none := by rw [hK53]; exact mkN_C
      have hf63 : K52.1 x0 = 1 := by rw [hK53]; exact ((mkN_ext hq39 x0 (by rw [hx0]; decide)).1).trans hx0
      have hns64 : NwS K K52 g (gset g q38 0 0 0) := by rw [hK53]; exact NwS.node hns0 hq39
      have hq65 : K.1 q38 = 0 := old_T hns0.2.1 hq39
      have hg66 : (gset g q38 0 0 0) 0 q38 = 0 := gset_0
      have hno67 : NoO K52 (gset g q38 0 0 0) q38 := by rw [hK53]; exact NoO.new hns0.1 hq39
      have hxq68 : ¬ x0 = q38 := fun z => by have z2 := hx0; rw [z, hq39] at z2; exact absurd z2 (by decide)
      have hrk69 : (gset g q38 0 0 0) 2 x0 = kx := (gset_ne hxq68).trans hxk
      refine lv_astore (lv' := [(5, .ref q38), (4, .int 0), (3, .int (nI ((at9 + 1) + r13))), (2, .int (nI r13)), (0, .ref (a 3)), (1, .ref x0)]) hx hb dX8_dotted_87 hl (by decide) rfl (fun ls hl => ?_)
      refine lv_aload hx hb dX8_dotted_89 (lv_at hl 0 rfl) ?_
      refine lv_aload_n hx hb dX8_dotted_91 rfl (lv_at hl 5 rfl) ?_
      refine p_put (v := .ref x0) (ty := (.object "JinjaTongue$Node")) (C := RX7) (Tc := TX7) (N := 11) (ci := 13) (K' := (kC K52 0 q38 (some x0))) hx hb hq pin_wsX70 tyX7 tyX7_ok nmX7 hown hE hP hD hS hO (by rw [hf55]; decide) (rep_1 hf55) rfl 6 (by decide) (hq _ pw_938) (fun _ h9 => h9) rfl (by decide +kernel) rfl rfl (Nat.le_of_ble_eq_true rfl) rfl (by rw [rep_1 (show (kC K52 0 q38 (some x0)).1 q38 = 1 from hf55), pc_0] <;> rfl) (fun p9 hp9 => rep_kC hp9) dX8_dotted_92 (fun H locs w hP hD hS hO => ?_)
      obtain ⟨K70, hK71⟩ : ∃ z : PK, z = (kC K52 0 q38 (some x0)) := ⟨_, rfl⟩
      rw [← hK71] at hO
      have hf72 : K70.1 q38 = 1 := (by rw [hK71]; exact hf55)
      have hf73 : K70.2.1 0 q38 = 12 := (by rw [hK71]; exact hf56)
      have hf74 : K70.2.1 2 q38 = ((kN K q38 1 0).2.1 2 x0) := (by rw [hK71]; exact hf57)
      have hf75 : K70.2.2.1 1 q38 = none := (by rw [hK71]; exact (kC_of (by decide)).trans hf59)
      have hf76 : K70.2.2.1 2 q38 = none := (by rw [hK71]; exact (kC_of (by decide)).trans hf60)
      have hf77 : K70.2.2.1 3 q38 = none := (by rw [hK71]; exact (kC_of (by decide)).trans hf61)
      have hf78 : K70.2.2.1 4 q38 = none := (by rw [hK71]; exact (kC_of (by decide)).trans hf62)
      have hf79 : K70.1 x0 = 1 := (by rw [hK71]; exact hf63)
      have hf80 : K70.2.2.1 0 q38 = some x0 := by rw [hK71]; exact kC_eq
      have htk81 : NwT (B 7) sz (B 10) (B 10) K K70 at9 (((at9 + 1) + r13) + 1) := by rw [hK71]; exact NwT.put htk54
      have hns82 : NwS K K70 g (gset g q38 0 0 0) := by rw [hK71]; exact NwS.put hns64 hq65 hg66
      have hno83 : NoO K70 (gset g q38 0 0 0) q38 := by rw [hK71]; exact hno67
      refine lv_iload hx hb dX8_dotted_95 (lv_at hl 1 rfl) ?_
      refine lv_if_eq (tgt := 106) hx hb dX8_dotted_97 (by decide) (fun c84 => ?_) (fun c84 => absurd c84 (by decide))
      refine lv_aload hx hb dX8_dotted_106 (lv_at hl 0 rfl) ?_
      refine W_size (fun hz1 hz2 => ?_)
      refine vx_ret ?_
      have hg8 : (gset g q38 0 0 0) 0 x0 = g 0 x0 := hns82.2.1.2 x0 (by rw [hx0]; decide) 0
      obtain ⟨k985, k985I, k985S, k985E, k985M, k985N, k985X, k985D⟩ := rk_ex (s := st9) (e := (((at9 + 1) + r13) + 1)) (m := st9) (n := st9) (x := 0) (d := (9 * (20 - dp) + (sg - sb) + 1)) (by omega)
      have hkid : ∀ f9 y9 : Nat, f9 ≤ 3 → K70.2.2.1 f9 q38 = some y9 → K70.1 y9 = 1 ∧ 1 ≤ (gset g q38 0 0 0) 0 y9 ∧ (gset g q38 0 0 0) 0 y9 < (5 * (20 - dp) + 3 + (sg - sb)) := by
        intro f9 y9 hf9 hy9
        rcases (show f9 = 0 ∨ f9 = 1 ∨ f9 = 2 ∨ f9 = 3 by omega) with rfl | rfl | rfl | rfl
        · rw [hf80] at hy9; cases hy9; exact ⟨hf79, (by omega), by omega⟩
        · rw [hf75] at hy9; cases hy9
        · rw [hf76] at hy9; cases hy9
        · rw [hf77] at hy9; cases hy9
      have hkc86 : ∀ f9 y9 : Nat, f9 ≤ 3 → K70.2.2.1 f9 q38 = some y9 → Kch (K70.2.1 0 q38) f9 (K70.2.1 0 y9) k985 ((gset g q38 0 0 0) 2 y9) := by
        intro f9 y9 hf9 hy9
        rcases (show f9 = 0 ∨ f9 = 1 ∨ f9 = 2 ∨ f9 = 3 by omega) with rfl | rfl | rfl | rfl
        · rw [hf80] at hy9; cases hy9; rw [hrk69]; rw [hf73] <;> exact ⟨(fun z => absurd z (by decide)), (fun z => absurd z (by decide)), (fun z => absurd z (by decide)), (fun _ _ => (by omega)), (fun z => absurd z (by decide)), (fun z => absurd z (by decide)), (fun z => absurd z (by decide)), (fun z => absurd z (by decide)), (fun z => absurd z (by decide)), (fun z => absurd z (by decide)), (fun z => absurd z (by decide)), (fun z => absurd z (by decide)), (fun z => absurd z (by decide)), (fun z => absurd z (by decide)), (fun z => absurd z (by decide)), (fun z => absurd z (by decide)), (fun z => absurd z (by decide)), (fun z => absurd z (by decide)), (fun z => absurd z (by decide)), (fun z => absurd z (by decide)), (fun z => absurd z (by decide)), (fun z => absurd z (by decide)), (fun z => absurd z (by decide)), (fun z => absurd z (by decide))⟩
        · rw [hf75] at hy9; cases hy9
        · rw [hf76] at hy9; cases hy9
        · rw [hf77] at hy9; cases hy9
      have hdn := NwS.done1I (q := q38) (L := (5 * (20 - dp) + 3 + (sg - sb))) (O := O) (k := k985) hns82 hq65 hf72 hg66 (by omega) ⟨k985I, (by rw [hf73] <;> exact ⟨(fun z => absurd z (by decide)), (fun z => absurd z (by decide)), (fun z => absurd z (by decide))⟩)⟩ (by rw [hf73]; exact ⟨fun _ => (by show ¬ K70.2.2.1 0 q38 = none; rw [hf80]; intro z; cases z), fun z => absurd z (by decide), fun z => absurd z (by decide), fun z => absurd z (by decide), fun z => absurd z (by decide)⟩) (fun f9 z => by rw [hf73] at z; rcases z with ⟨z, _⟩ | ⟨z | z | z, _⟩ <;> exact absurd z (by decide)) hkid hf78 hno83 hkc86 how
      have hz87 : NwR K K70 g (gset (gset g q38 0 0 0) q38 (5 * (20 - dp) + 3 + (sg - sb)) O k985) q38 O k985 ((5 * (20 - dp) + 3 + (sg - sb))) := hdn
      have hz88 : rS k985 = st9 ∧ rS k985 + 1 ≤ rE k985 ∧ rE k985 ≤ (((at9 + 1) + r13) + 1) ∧ 1 ≤ rD k985 ∧ rD k985 ≤ 9 * (20 - dp) + (sg - sb) + 1 := (by omega)
      have hz89 : at9 + 2 ≤ (((at9 + 1) + r13) + 1) ∧ (((at9 + 1) + r13) + 1) ≤ sz := (by omega)
      have hz90 : sg ≤ sg ∧ sg ≤ 60 := (by omega)
      have hz91 : NwT (B 7) sz (B 10) (B 10) K K70 at9 (((at9 + 1) + r13) + 1) := (NwT.le htk81 (by omega))
      have hO : OKP G h0 a (upd (upd (upd (upd F 2 (nI sz)) 9 (nI (((at9 + 1) + r13) + 1))) 10 (nI dp)) 11 (nI sg)) R Z (updA B 10 (B 10)) J K70 w := hO.to rfl
      refine W.widen (k := (2 * (sz - at9) + 19)) (n := (11 * (2 * (sz - at9) + 19))) (by omega) (by omega) ?_
      have hzz1 : H.size ≤ s.heap.size + ((2 * ((((at9 + 1) + r13) + 1) - at9) - 3)) := (by have z : 1 ≤ (2 * ((((at9 + 1) + r13) + 1) - at9) - 3) := (by omega); omega)
      have hzz2 : hSl H ≤ hSl s.heap + ((11 * (2 * ((((at9 + 1) + r13) + 1) - at9) - 3))) := (by have z : 11 ≤ (11 * (2 * ((((at9 + 1) + r13) + 1) - at9) - 3)) := (by omega); omega)
      exact W.aret (v := .ref q38) hx hb hr (Or.inl ⟨_, rfl⟩) (Or.inr ⟨_, rfl⟩) (fun t99 ht99 hW99 => ⟨⟨_, (w, (q38, K70, (gset (gset g q38 0 0 0) q38 (5 * (20 - dp) + 3 + (sg - sb)) O k985), (((at9 + 1) + r13) + 1), sg, (B 10), k985)), rfl, ⟨rfl, hz87, hz88, hz89, hz90, hz91, hO⟩, by rw [ht99]; exact hP, hD, by rw [ht99]; exact hzz1, by rw [ht99]; exact hzz2⟩, hS.F ht99⟩) hS.2.2 dX8_dotted_108
    · have n92 : ¬ (r33 = 0) := fun h9 => c36 ((nI_eq (a := r33) (b := 0) (by omega) (by omega)).mpr h9)
      refine lv_iconst (v := 1) hx hb dX8_dotted_47 (by decide) ?_
      refine lv_goto (tgt := 52) hx hb dX8_dotted_48 (by decide) ?_
      refine lv_istore (lv' := [(4, .int 1), (3, .int (nI ((at9 + 1) + r13))), (2, .int (nI r13)), (0, .ref (a 3)), (1, .ref x0)]) hx hb dX8_dotted_52 hl (by decide) rfl (fun ls hl => ?_)
      refine p_new (s9 := 1) (C := RX7) (T := TX7) (N := 11) (ci := 13) (fs := [.int 0, .int 0, .int 0, .int 0, .int 0, .int 0, .null, .null, .null, .null, .null]) hx hb hq pin_wsX70 tyX7 tyX7_ok hown (hq _ pw_870) (hq _ pw_871) (hq _ pw_872) hE hP hD hS hA hO rfl nw_X7 (by decide) (fun q => by rw [rep_1 (show (kN K q 1 0).1 q = 1 from if_pos rfl)]; unfold fsNode kN; simp only [if_true]; rfl) (by show 0 + 1 ≤ (2 * (sz - at9) + 19); omega) (by show 0 + 11 ≤ (11 * (2 * (sz - at9) + 19)); omega) dX8_dotted_54 (fun q93 H w hq94 hP hD hS hO => ?_)
      have hf95 : (kN K q93 1 0).1 x0 = 1 := (if_neg (fun z => by have z2 := hx0; rw [z, hq94] at z2; exact absurd z2 (by decide))).trans hx0
      have hf96 : (kN K q93 1 0).1 q93 = 1 := if_pos rfl
      refine W.widen (k := 1) (n := 11) (by show 0 + 1 ≤ 1; omega) (by show 0 + 11 ≤ 11; omega) ?_
      refine lv_dup hx hb dX8_dotted_57 rfl ?_
      refine lv_iload_n hx hb dX8_dotted_58 rfl (lv_at hl 2 rfl) ?_
      refine lv_if_eq (tgt := 67) hx hb dX8_dotted_59 (by decide) (fun c97 => ?_) (fun c97 => (by have n98 : ¬ (r13 = 0) := fun h9 => c97 ((nI_eq (a := r13) (b := 0) (by omega) (by omega)).mpr h9); omega))
      refine lv_iload hx hb dX8_dotted_67 (lv_at hl 0 rfl) ?_
      refine lv_if_eq (tgt := 77) hx hb dX8_dotted_69 (by decide) (fun c99 => absurd c99 (by decide)) (fun c99 => ?_)
      refine lv_bipush (v := 10) hx hb dX8_dotted_72 (by decide) ?_
      refine lv_goto (tgt := 79) hx hb dX8_dotted_74 (by decide) ?_
      refine lv_iload_n hx hb dX8_dotted_79 rfl (lv_at hl 1 rfl) ?_
      refine lv_aload_n hx hb dX8_dotted_80 rfl (lv_at hl 4 rfl) ?_
      refine p_get (v := .int ((kN K q93 1 0).2.1 2 x0)) (C := RX7) (Tc := TX7) (N := 11) (ci := 13) hx hb hq pin_wsX70 hown hE hP hO (by rw [hf95]; decide) (rep_1 hf95) rfl 2 (by decide) (hq _ pw_937) (fun _ h9 => h9) rfl dX8_dotted_81 ?_
      have hO : OKP G h0 a (upd (upd (upd (upd F 2 (nI sz)) 9 (nI (((at9 + 1) + r13) + 1))) 10 (nI dp)) 11 (nI sg)) R Z B J (kN K q93 1 0) w := hO.to rfl
      obtain ⟨qr103, hqr104⟩ := p_recv hO (by rw [hf96]; decide) (rep_1 hf96)
      refine pc_I0 (G := G) (As := [.int 10, .int (nI ((at9 + 1) + r13)), .int ((kN K q93 1 0).2.1 2 x0)]) (rest := [.ref q93]) hx hb hml hown hq hE hX pX0_al hP hD hS hA hl.1 (N_init l G h0 a (upd (upd (upd (upd F 2 (nI sz)) 9 (nI (((at9 + 1) + r13) + 1))) 10 (nI dp)) 11 (nI sg)) R Z B J (kN K q93 1 0) w q93 10 (nI ((at9 + 1) + r13)) ((kN K q93 1 0).2.1 2 x0) (by omega) hO) pw_874 pw_875 pw_872 pw_765 rfl hS_X7_init rfl (Nat.le_of_ble_eq_true rfl) dX8_dotted_84 ⟨(by show 1 + 0 ≤ (2 * (sz - at9) + 19); omega), (by show 11 + 0 ≤ (11 * (2 * (sz - at9) + 19)); omega)⟩ ⟨(by show 2 + 1 ≤ (40 * n + 16); omega), (by show 8 + (4 + 11) + 60 ≤ (1300 * n + 480); omega)⟩ (fun v102 u100 H locs hw101 hP hD hS => ?_)
      obtain ⟨w, _⟩ := u100
      obtain ⟨hw101, hO⟩ := hw101
      obtain rfl : v102 = none := hw101
      have hf105 : (kI (kI (kI (kN K q93 1 0) 0 q93 10) 1 q93 (nI ((at9 + 1) + r13))) 2 q93 ((kN K q93 1 0).2.1 2 x0)).1 x0 = 1 := hf95
      have hf106 : (kI (kI (kI (kN K q93 1 0) 0 q93 10) 1 q93 (nI ((at9 + 1) + r13))) 2 q93 ((kN K q93 1 0).2.1 2 x0)).1 q93 = 1 := hf96
      have hO : OKP G h0 a (upd (upd (upd (upd F 2 (nI sz)) 9 (nI (((at9 + 1) + r13) + 1))) 10 (nI dp)) 11 (nI sg)) R Z B J (kI (kI (kI (kN K q93 1 0) 0 q93 10) 1 q93 (nI ((at9 + 1) + r13))) 2 q93 ((kN K q93 1 0).2.1 2 x0)) w := hO.to rfl
      refine W.widen (k := 1) (n := 11) (by show 1 + 0 ≤ 1; omega) (by show 11 + 0 ≤ 11; omega) ?_
      refine W.eq (g2 := F0 m 87 ls [.ref q93]) rfl ?_
      change OKP G h0 a (upd (upd (upd (upd F 2 (nI sz)) 9 (nI (((at9 + 1) + r13) + 1))) 10 (nI dp)) 11 (nI sg)) R Z B J (mkN K q93 10 (nI ((at9 + 1) + r13)) ((kN K q93 1 0).2.1 2 x0)) w at hO
      obtain ⟨K107, hK108⟩ : ∃ z : PK, z = (mkN K q93 10 (nI ((at9 + 1) + r13)) ((kN K q93 1 0).2.1 2 x0)) := ⟨_, rfl⟩
      rw [← hK108] at hO
      have htk109 : NwT (B 7) sz (B 10) (B 10) K K107 at9 (((at9 + 1) + r13) + 1) := by rw [hK108]; exact NwT.new (NwT.le htk0 (show _ ≤ (((at9 + 1) + r13) + 1) by omega)) hq94 (TkP.no (by decide))
      have hf110 : K107.1 q93 = 1 := by rw [hK108]; exact mkN_T
      have hf111 : K107.2.1 0 q93 = 10 := by rw [hK108]; exact mkN_0
      have hf112 : K107.2.1 2 q93 = ((kN K q93 1 0).2.1 2 x0) := by rw [hK108]; exact mkN_2
      have hf113 : K107.2.2.1 0 q93 = none := by rw [hK108]; exact mkN_C
      have hf114 : K107.2.2.1 1 q93 = none := by rw [hK108]; exact mkN_C
      have hf115 : K107.2.2.1 2 q93 = none := by rw [hK108]; exact mkN_C
      have hf116 : K107.2.2.1 3 q93 = none := by rw [hK108]; exact mkN_C
      have hf117 : K107.2.2.1 4 q93 = none := by rw [hK108]; exact mkN_C
      have hf118 : K107.1 x0 = 1 := by rw [hK108]; exact ((mkN_ext hq94 x0 (by rw [hx0]; decide)).1).trans hx0
      have hns119 : NwS K K107 g (gset g q93 0 0 0) := by rw [hK108]; exact NwS.node hns0 hq94
      have hq120 : K.1 q93 = 0 := old_T hns0.2.1 hq94
      have hg121 : (gset g q93 0 0 0) 0 q93 = 0 := gset_0
      have hno122 : NoO K107 (gset g q93 0 0 0) q93 := by rw [hK108]; exact NoO.new hns0.1 hq94
      have hxq123 : ¬ x0 = q93 := fun z => by have z2 := hx0; rw [z, hq94] at z2; exact absurd z2 (by decide)
      have hrk124 : (gset g q93 0 0 0) 2 x0 = kx := (gset_ne hxq123).trans hxk
      refine lv_astore (lv' := [(5, .ref q93), (4, .int 1), (3, .int (nI ((at9 + 1) + r13))), (2, .int (nI r13)), (0, .ref (a 3)), (1, .ref x0)]) hx hb dX8_dotted_87 hl (by decide) rfl (fun ls hl => ?_)
      refine lv_aload hx hb dX8_dotted_89 (lv_at hl 0 rfl) ?_
      refine lv_aload_n hx hb dX8_dotted_91 rfl (lv_at hl 5 rfl) ?_
      refine p_put (v := .ref x0) (ty := (.object "JinjaTongue$Node")) (C := RX7) (Tc := TX7) (N := 11) (ci := 13) (K' := (kC K107 0 q93 (some x0))) hx hb hq pin_wsX70 tyX7 tyX7_ok nmX7 hown hE hP hD hS hO (by rw [hf110]; decide) (rep_1 hf110) rfl 6 (by decide) (hq _ pw_938) (fun _ h9 => h9) rfl (by decide +kernel) rfl rfl (Nat.le_of_ble_eq_true rfl) rfl (by rw [rep_1 (show (kC K107 0 q93 (some x0)).1 q93 = 1 from hf110), pc_0] <;> rfl) (fun p9 hp9 => rep_kC hp9) dX8_dotted_92 (fun H locs w hP hD hS hO => ?_)
      obtain ⟨K125, hK126⟩ : ∃ z : PK, z = (kC K107 0 q93 (some x0)) := ⟨_, rfl⟩
      rw [← hK126] at hO
      have hf127 : K125.1 q93 = 1 := (by rw [hK126]; exact hf110)
      have hf128 : K125.2.1 0 q93 = 10 := (by rw [hK126]; exact hf111)
      have hf129 : K125.2.1 2 q93 = ((kN K q93 1 0).2.1 2 x0) := (by rw [hK126]; exact hf112)
      have hf130 : K125.2.2.1 1 q93 = none := (by rw [hK126]; exact (kC_of (by decide)).trans hf114)
      have hf131 : K125.2.2.1 2 q93 = none := (by rw [hK126]; exact (kC_of (by decide)).trans hf115)
      have hf132 : K125.2.2.1 3 q93 = none := (by rw [hK126]; exact (kC_of (by decide)).trans hf116)
      have hf133 : K125.2.2.1 4 q93 = none := (by rw [hK126]; exact (kC_of (by decide)).trans hf117)
      have hf134 : K125.1 x0 = 1 := (by rw [hK126]; exact hf118)
      have hf135 : K125.2.2.1 0 q93 = some x0 := by rw [hK126]; exact kC_eq
      have htk136 : NwT (B 7) sz (B 10) (B 10) K K125 at9 (((at9 + 1) + r13) + 1) := by rw [hK126]; exact NwT.put htk109
      have hns137 : NwS K K125 g (gset g q93 0 0 0) := by rw [hK126]; exact NwS.put hns119 hq120 hg121
      have hno138 : NoO K125 (gset g q93 0 0 0) q93 := by rw [hK126]; exact hno122
      refine lv_iload hx hb dX8_dotted_95 (lv_at hl 1 rfl) ?_
      refine lv_if_eq (tgt := 106) hx hb dX8_dotted_97 (by decide) (fun c139 => absurd c139 (by decide)) (fun c139 => ?_)
      refine lv_aload_n hx hb dX8_dotted_100 rfl (lv_at hl 4 rfl) ?_
      refine lv_aload hx hb dX8_dotted_101 (lv_at hl 0 rfl) ?_
      have hO : OKP G h0 a (upd (upd (upd (upd (upd (upd (upd (upd (upd F 2 (nI sz)) 9 (nI at9)) 10 (nI dp)) 11 (nI sg)) 9 (nI (((at9 + 1) + r13) + 1))) 2 (nI sz)) 9 (nI (((at9 + 1) + r13) + 1))) 10 (nI dp)) 11 (nI sg)) R Z B J K125 w := hO.to rfl
      obtain ⟨_, qr143, hqr144⟩ := hO.2.1 23 _ (sg_23 G h0 a _ _ _ _ _)
      refine pn_V0 (G := G) (As := [.ref q93]) (rest := []) hx hb hml hown hq hE hX pX0_al hP hD hS hA hl.1 (P_arguments l G h0 a (upd (upd (upd (upd (upd F 2 (nI sz)) 9 (nI at9)) 10 (nI dp)) 11 (nI sg)) 9 (nI (((at9 + 1) + r13) + 1))) R Z B J K125 w q93 n (((at9 + 1) + r13) + 1) sz dp sg (gset g q93 0 0 0) (by omega) (by omega) (by omega) (by omega) hns137.1 hf127 hg121 hf130 hno138 (by rw [hf128]; decide) ihe hO hl0) (gV pw_939 pw_940 pw_941 pw_796 pw_986) hV_X8_arguments qr143 5 hqr144 rfl rfl rfl (Nat.le_of_ble_eq_true rfl) dX8_dotted_103 ⟨(by show 1 + (2 * (sz - (((at9 + 1) + r13) + 1)) + 18) ≤ (2 * (sz - at9) + 19); omega), (by show 11 + (11 * (2 * (sz - (((at9 + 1) + r13) + 1)) + 18)) ≤ (11 * (2 * (sz - at9) + 19)); omega)⟩ ⟨(by show (40 * n + 12) + 1 ≤ (40 * n + 16); omega), (by show 8 + (6 + 11) + (1300 * n + 400) ≤ (1300 * n + 480); omega)⟩ (fun v142 u140 H locs hw141 hP hD hS => ?_) (fun ux ce9 q9 H9 locs9 hux hP9 hD9 hS9 hce hcv hcl => pb_out ux (ThQ.up (Thx.same (Thx.same (Thx.same (Thx.same (Thx.f Thx.rfl (by omega)) rfl) rfl) rfl) rfl) RhX.rfl hux) hnt hlocks hce hcv hcl hP9 hD9 hS9 (by show 1 + (2 * (sz - (((at9 + 1) + r13) + 1)) + 18) ≤ (2 * (sz - at9) + 19); omega) (by show 11 + (11 * (2 * (sz - (((at9 + 1) + r13) + 1)) + 18)) ≤ (11 * (2 * (sz - at9) + 19)); omega))
      obtain ⟨w, K145, g146, at147, sg148, f149⟩ := u140
      obtain ⟨hw141, h150, h151, h152, h153, h154, hO⟩ := hw141
      have h150 : (((at9 + 1) + r13) + 1) + 2 ≤ at147 ∧ at147 ≤ sz := h150
      have h151 : sg ≤ sg148 ∧ sg148 ≤ 60 := h151
      have h152 : ArS K125 K145 (gset g q93 0 0 0) g146 q93 (5 * (20 - (dp + 1)) + 6 + (sg148 - sg)) ((((at9 + 1) + r13) + 1) + 1) (at147 - 1) (9 * (20 - (dp + 1)) + (sg148 - sg) + 1) := h152
      have h153 : dp + 1 ≤ 20 := h153
      have h154 : NwT ((B 7)) sz ((B 10)) f149 K125 K145 (((at9 + 1) + r13) + 1) at147 := h154
      obtain rfl : v142 = none := hw141
      have hO : OKP G h0 a (upd (upd (upd (upd F 2 (nI sz)) 9 (nI at147)) 10 (nI dp)) 11 (nI sg148)) R Z (updA B 10 f149) J K145 w := hO.to rfl
      refine W.widen (k := (1 + (2 * (at147 - (((at9 + 1) + r13) + 1)) - 4))) (n := (11 + (11 * (2 * (at147 - (((at9 + 1) + r13) + 1)) - 4)))) (by show 1 + (2 * (at147 - (((at9 + 1) + r13) + 1)) - 4) ≤ (1 + (2 * (at147 - (((at9 + 1) + r13) + 1)) - 4)); omega) (by show 11 + (11 * (2 * (at147 - (((at9 + 1) + r13) + 1)) - 4)) ≤ (11 + (11 * (2 * (at147 - (((at9 + 1) + r13) + 1)) - 4))); omega) ?_
      refine W.eq (g2 := F0 m 106 ls []) rfl ?_
      have htk155 : NwT (B 7) sz (B 10) f149 K K145 at9 at147 := (NwT.call htk136 h154 (by omega))
      refine lv_aload hx hb dX8_dotted_106 (lv_at hl 0 rfl) ?_
      refine W_size (fun hz1 hz2 => ?_)
      refine vx_ret ?_
      obtain ⟨k9156, k9156I, k9156S, k9156E, k9156M, k9156N, k9156X, k9156D⟩ := rk_ex (s := st9) (e := at147) (m := (rE kx + 1)) (n := at147) (x := 0) (d := (9 * (20 - dp) + (sg148 - sb) + 1)) (by omega)
      have hxT := hf134
      have hxz := fun z => h152.2.2.1 x0 (by rw [hxT]; decide) z
      have hg8 := (hxz 0).trans (hns137.2.1.2 x0 (by rw [hx0]; decide) 0)
      have hxq : ¬ x0 = q93 := fun z => by have z2 := hq120; rw [← z, hx0] at z2; exact absurd z2 (by decide)
      have hx9 := (h152.2.1 x0 (by rw [hxT]; decide) hxq).1.trans hxT
      have hgk := (hxz 2).trans hrk124
      have hns9 := NwS.args hns137 h152 hf127 hq120
      have hcc := h152.2.2.2.1
      have hdn := NwS.doneA (L := (5 * (20 - dp) + 3 + (sg148 - sb))) (O := O) (k := k9156) hns9 h152 hq120 (by omega) k9156I (by omega) (Or.inl ((hcc.2.2.1 0 (by decide)).trans hf128)) (Or.inr ⟨x0, (hcc.2.2.2 0 (by decide)).trans hf135, ⟨hx9, by omega, by omega⟩, by rw [hgk]; omega⟩) ((hcc.2.2.2 2 (by decide)).trans hf131) ((hcc.2.2.2 3 (by decide)).trans hf132) ((hcc.2.2.2 4 (by decide)).trans hf133) how
      have hz157 : NwR K K145 g (gset g146 q93 (5 * (20 - dp) + 3 + (sg148 - sb)) O k9156) q93 O k9156 ((5 * (20 - dp) + 3 + (sg148 - sb))) := hdn
      have hz158 : rS k9156 = st9 ∧ rS k9156 + 1 ≤ rE k9156 ∧ rE k9156 ≤ at147 ∧ 1 ≤ rD k9156 ∧ rD k9156 ≤ 9 * (20 - dp) + (sg148 - sb) + 1 := (by omega)
      have hz159 : at9 + 2 ≤ at147 ∧ at147 ≤ sz := (by omega)
      have hz160 : sg ≤ sg148 ∧ sg148 ≤ 60 := (by omega)
      have hz161 : NwT (B 7) sz (B 10) f149 K K145 at9 at147 := (NwT.le htk155 (by omega))
      have hO : OKP G h0 a (upd (upd (upd (upd F 2 (nI sz)) 9 (nI at147)) 10 (nI dp)) 11 (nI sg148)) R Z (updA B 10 f149) J K145 w := hO.to rfl
      refine W.widen (k := (2 * (sz - at9) + 19)) (n := (11 * (2 * (sz - at9) + 19))) (by omega) (by omega) ?_
      have hzz1 : H.size ≤ s.heap.size + ((2 * (at147 - at9) - 3)) := (by have z : (1 + (2 * (at147 - (((at9 + 1) + r13) + 1)) - 4)) ≤ (2 * (at147 - at9) - 3) := (by omega); omega)
      have hzz2 : hSl H ≤ hSl s.heap + ((11 * (2 * (at147 - at9) - 3))) := (by have z : (11 + (11 * (2 * (at147 - (((at9 + 1) + r13) + 1)) - 4))) ≤ (11 * (2 * (at147 - at9) - 3)) := (by omega); omega)
      exact W.aret (v := .ref q93) hx hb hr (Or.inl ⟨_, rfl⟩) (Or.inr ⟨_, rfl⟩) (fun t99 ht99 hW99 => ⟨⟨_, (w, (q93, K145, (gset g146 q93 (5 * (20 - dp) + 3 + (sg148 - sb)) O k9156), at147, sg148, f149, k9156)), rfl, ⟨rfl, hz157, hz158, hz159, hz160, hz161, hO⟩, by rw [ht99]; exact hP, hD, by rw [ht99]; exact hzz1, by rw [ht99]; exact hzz2⟩, hS.F ht99⟩) hS.2.2 dX8_dotted_108
  · have n162 : ¬ (r13 = 0) := fun h9 => c17 ((nI_eq (a := r13) (b := 0) (by omega) (by omega)).mpr h9)
    refine lv_aload_n hx hb dX8_dotted_18 rfl (lv_at hl 1 rfl) ?_
    refine c_get (v := .int (nI ((at9 + 1) + r13))) (C := RX8) (Tc := TX8) (N := 5) (ci := 5) hx hb hq pin_wsX80 hown hE hP hO 23 (sg_23 G h0 a _ _ _ _ _) rfl 2 (by decide) (hq _ pw_776) (fun _ h9 => h9) rfl dX8_dotted_19 ?_
    refine lv_iconst (v := 1) hx hb dX8_dotted_22 (by decide) ?_
    refine lv_isub hx hb dX8_dotted_23 ?_
    refine lv_topi (fun x163 e164 => ?_)
    obtain rfl : x163 = nI (((at9 + 1) + r13) - 1) := e164.trans (nI_subN (a := 1) (b := ((at9 + 1) + r13)) (by omega))
    refine lv_goto (tgt := 33) hx hb dX8_dotted_24 (by decide) ?_
    refine lv_istore_n (lv' := [(3, .int (nI (((at9 + 1) + r13) - 1))), (2, .int (nI r13)), (0, .ref (a 3)), (1, .ref x0)]) hx hb dX8_dotted_33 rfl hl (by decide) rfl (fun ls hl => ?_)
    refine lv_iload_n hx hb dX8_dotted_34 rfl (lv_at hl 1 rfl) ?_
    refine lv_if_ne (tgt := 51) hx hb dX8_dotted_35 (by decide) (fun c165 => ?_) (fun c165 => (by have n166 : r13 = 0 := (nI_eq (a := r13) (b := 0) (by omega) (by omega)).mp c165; omega))
    refine lv_iconst (v := 0) hx hb dX8_dotted_51 (by decide) ?_
    refine lv_istore (lv' := [(4, .int 0), (3, .int (nI (((at9 + 1) + r13) - 1))), (2, .int (nI r13)), (0, .ref (a 3)), (1, .ref x0)]) hx hb dX8_dotted_52 hl (by decide) rfl (fun ls hl => ?_)
    refine p_new (s9 := 1) (C := RX7) (T := TX7) (N := 11) (ci := 13) (fs := [.int 0, .int 0, .int 0, .int 0, .int 0, .int 0, .null, .null, .null, .null, .null]) hx hb hq pin_wsX70 tyX7 tyX7_ok hown (hq _ pw_870) (hq _ pw_871) (hq _ pw_872) hE hP hD hS hA hO rfl nw_X7 (by decide) (fun q => by rw [rep_1 (show (kN K q 1 0).1 q = 1 from if_pos rfl)]; unfold fsNode kN; simp only [if_true]; rfl) (by show 0 + 1 ≤ (2 * (sz - at9) + 19); omega) (by show 0 + 11 ≤ (11 * (2 * (sz - at9) + 19)); omega) dX8_dotted_54 (fun q167 H w hq168 hP hD hS hO => ?_)
    have hf169 : (kN K q167 1 0).1 x0 = 1 := (if_neg (fun z => by have z2 := hx0; rw [z, hq168] at z2; exact absurd z2 (by decide))).trans hx0
    have hf170 : (kN K q167 1 0).1 q167 = 1 := if_pos rfl
    refine W.widen (k := 1) (n := 11) (by show 0 + 1 ≤ 1; omega) (by show 0 + 11 ≤ 11; omega) ?_
    refine lv_dup hx hb dX8_dotted_57 rfl ?_
    refine lv_iload_n hx hb dX8_dotted_58 rfl (lv_at hl 2 rfl) ?_
    refine lv_if_eq (tgt := 67) hx hb dX8_dotted_59 (by decide) (fun c171 => (by have n172 : r13 = 0 := (nI_eq (a := r13) (b := 0) (by omega) (by omega)).mp c171; omega)) (fun c171 => ?_)
    refine lv_bipush (v := 13) hx hb dX8_dotted_62 (by decide) ?_
    refine lv_goto (tgt := 79) hx hb dX8_dotted_64 (by decide) ?_
    refine lv_iload_n hx hb dX8_dotted_79 rfl (lv_at hl 1 rfl) ?_
    refine lv_aload_n hx hb dX8_dotted_80 rfl (lv_at hl 4 rfl) ?_
    refine p_get (v := .int ((kN K q167 1 0).2.1 2 x0)) (C := RX7) (Tc := TX7) (N := 11) (ci := 13) hx hb hq pin_wsX70 hown hE hP hO (by rw [hf169]; decide) (rep_1 hf169) rfl 2 (by decide) (hq _ pw_937) (fun _ h9 => h9) rfl dX8_dotted_81 ?_
    have hO : OKP G h0 a (upd (upd (upd (upd F 2 (nI sz)) 9 (nI ((at9 + 1) + r13))) 10 (nI dp)) 11 (nI sg)) R Z B J (kN K q167 1 0) w := hO.to rfl
    obtain ⟨qr176, hqr177⟩ := p_recv hO (by rw [hf170]; decide) (rep_1 hf170)
    refine pc_I0 (G := G) (As := [.int 13, .int (nI (((at9 + 1) + r13) - 1)), .int ((kN K q167 1 0).2.1 2 x0)]) (rest := [.ref q167]) hx hb hml hown hq hE hX pX0_al hP hD hS hA hl.1 (N_init l G h0 a (upd (upd (upd (upd F 2 (nI sz)) 9 (nI ((at9 + 1) + r13))) 10 (nI dp)) 11 (nI sg)) R Z B J (kN K q167 1 0) w q167 13 (nI (((at9 + 1) + r13) - 1)) ((kN K q167 1 0).2.1 2 x0) (by omega) hO) pw_874 pw_875 pw_872 pw_765 rfl hS_X7_init rfl (Nat.le_of_ble_eq_true rfl) dX8_dotted_84 ⟨(by show 1 + 0 ≤ (2 * (sz - at9) + 19); omega), (by show 11 + 0 ≤ (11 * (2 * (sz - at9) + 19)); omega)⟩ ⟨(by show 2 + 1 ≤ (40 * n + 16); omega), (by show 8 + (4 + 11) + 60 ≤ (1300 * n + 480); omega)⟩ (fun v175 u173 H locs hw174 hP hD hS => ?_)
    obtain ⟨w, _⟩ := u173
    obtain ⟨hw174, hO⟩ := hw174
    obtain rfl : v175 = none := hw174
    have hf178 : (kI (kI (kI (kN K q167 1 0) 0 q167 13) 1 q167 (nI (((at9 + 1) + r13) - 1))) 2 q167 ((kN K q167 1 0).2.1 2 x0)).1 x0 = 1 := hf169
    have hf179 : (kI (kI (kI (kN K q167 1 0) 0 q167 13) 1 q167 (nI (((at9 + 1) + r13) - 1))) 2 q167 ((kN K q167 1 0).2.1 2 x0)).1 q167 = 1 := hf170
    have hO : OKP G h0 a (upd (upd (upd (upd F 2 (nI sz)) 9 (nI ((at9 + 1) + r13))) 10 (nI dp)) 11 (nI sg)) R Z B J (kI (kI (kI (kN K q167 1 0) 0 q167 13) 1 q167 (nI (((at9 + 1) + r13) - 1))) 2 q167 ((kN K q167 1 0).2.1 2 x0)) w := hO.to rfl
    refine W.widen (k := 1) (n := 11) (by show 1 + 0 ≤ 1; omega) (by show 11 + 0 ≤ 11; omega) ?_
    refine W.eq (g2 := F0 m 87 ls [.ref q167]) rfl ?_
    change OKP G h0 a (upd (upd (upd (upd F 2 (nI sz)) 9 (nI ((at9 + 1) + r13))) 10 (nI dp)) 11 (nI sg)) R Z B J (mkN K q167 13 (nI (((at9 + 1) + r13) - 1)) ((kN K q167 1 0).2.1 2 x0)) w at hO
    obtain ⟨K180, hK181⟩ : ∃ z : PK, z = (mkN K q167 13 (nI (((at9 + 1) + r13) - 1)) ((kN K q167 1 0).2.1 2 x0)) := ⟨_, rfl⟩
    rw [← hK181] at hO
    have htk182 : NwT (B 7) sz (B 10) (B 10) K K180 at9 ((at9 + 1) + r13) := by rw [hK181]; exact NwT.new (NwT.le htk0 (show _ ≤ ((at9 + 1) + r13) by omega)) hq168 (TkP.no (by decide))
    have hf183 : K180.1 q167 = 1 := by rw [hK181]; exact mkN_T
    have hf184 : K180.2.1 0 q167 = 13 := by rw [hK181]; exact mkN_0
    have hf185 : K180.2.1 2 q167 = ((kN K q167 1 0).2.1 2 x0) := by rw [hK181]; exact mkN_2
    have hf186 : K180.2.2.1 0 q167 = none := by rw [hK181]; exact mkN_C
    have hf187 : K180.2.2.1 1 q167 = none := by rw [hK181]; exact mkN_C
    have hf188 : K180.2.2.1 2 q167 = none := by rw [hK181]; exact mkN_C
    have hf189 : K180.2.2.1 3 q167 = none := by rw [hK181]; exact mkN_C
    have hf190 : K180.2.2.1 4 q167 = none := by rw [hK181]; exact mkN_C
    have hf191 : K180.1 x0 = 1 := by rw [hK181]; exact ((mkN_ext hq168 x0 (by rw [hx0]; decide)).1).trans hx0
    have hns192 : NwS K K180 g (gset g q167 0 0 0) := by rw [hK181]; exact NwS.node hns0 hq168
    have hq193 : K.1 q167 = 0 := old_T hns0.2.1 hq168
    have hg194 : (gset g q167 0 0 0) 0 q167 = 0 := gset_0
    have hno195 : NoO K180 (gset g q167 0 0 0) q167 := by rw [hK181]; exact NoO.new hns0.1 hq168
    have hxq196 : ¬ x0 = q167 := fun z => by have z2 := hx0; rw [z, hq168] at z2; exact absurd z2 (by decide)
    have hrk197 : (gset g q167 0 0 0) 2 x0 = kx := (gset_ne hxq196).trans hxk
    refine lv_astore (lv' := [(5, .ref q167), (4, .int 0), (3, .int (nI (((at9 + 1) + r13) - 1))), (2, .int (nI r13)), (0, .ref (a 3)), (1, .ref x0)]) hx hb dX8_dotted_87 hl (by decide) rfl (fun ls hl => ?_)
    refine lv_aload hx hb dX8_dotted_89 (lv_at hl 0 rfl) ?_
    refine lv_aload_n hx hb dX8_dotted_91 rfl (lv_at hl 5 rfl) ?_
    refine p_put (v := .ref x0) (ty := (.object "JinjaTongue$Node")) (C := RX7) (Tc := TX7) (N := 11) (ci := 13) (K' := (kC K180 0 q167 (some x0))) hx hb hq pin_wsX70 tyX7 tyX7_ok nmX7 hown hE hP hD hS hO (by rw [hf183]; decide) (rep_1 hf183) rfl 6 (by decide) (hq _ pw_938) (fun _ h9 => h9) rfl (by decide +kernel) rfl rfl (Nat.le_of_ble_eq_true rfl) rfl (by rw [rep_1 (show (kC K180 0 q167 (some x0)).1 q167 = 1 from hf183), pc_0] <;> rfl) (fun p9 hp9 => rep_kC hp9) dX8_dotted_92 (fun H locs w hP hD hS hO => ?_)
    obtain ⟨K198, hK199⟩ : ∃ z : PK, z = (kC K180 0 q167 (some x0)) := ⟨_, rfl⟩
    rw [← hK199] at hO
    have hf200 : K198.1 q167 = 1 := (by rw [hK199]; exact hf183)
    have hf201 : K198.2.1 0 q167 = 13 := (by rw [hK199]; exact hf184)
    have hf202 : K198.2.1 2 q167 = ((kN K q167 1 0).2.1 2 x0) := (by rw [hK199]; exact hf185)
    have hf203 : K198.2.2.1 1 q167 = none := (by rw [hK199]; exact (kC_of (by decide)).trans hf187)
    have hf204 : K198.2.2.1 2 q167 = none := (by rw [hK199]; exact (kC_of (by decide)).trans hf188)
    have hf205 : K198.2.2.1 3 q167 = none := (by rw [hK199]; exact (kC_of (by decide)).trans hf189)
    have hf206 : K198.2.2.1 4 q167 = none := (by rw [hK199]; exact (kC_of (by decide)).trans hf190)
    have hf207 : K198.1 x0 = 1 := (by rw [hK199]; exact hf191)
    have hf208 : K198.2.2.1 0 q167 = some x0 := by rw [hK199]; exact kC_eq
    have htk209 : NwT (B 7) sz (B 10) (B 10) K K198 at9 ((at9 + 1) + r13) := by rw [hK199]; exact NwT.put htk182
    have hns210 : NwS K K198 g (gset g q167 0 0 0) := by rw [hK199]; exact NwS.put hns192 hq193 hg194
    have hno211 : NoO K198 (gset g q167 0 0 0) q167 := by rw [hK199]; exact hno195
    refine lv_iload hx hb dX8_dotted_95 (lv_at hl 1 rfl) ?_
    refine lv_if_eq (tgt := 106) hx hb dX8_dotted_97 (by decide) (fun c212 => ?_) (fun c212 => absurd c212 (by decide))
    refine lv_aload hx hb dX8_dotted_106 (lv_at hl 0 rfl) ?_
    refine W_size (fun hz1 hz2 => ?_)
    refine vx_ret ?_
    have hg8 : (gset g q167 0 0 0) 0 x0 = g 0 x0 := hns210.2.1.2 x0 (by rw [hx0]; decide) 0
    obtain ⟨k9213, k9213I, k9213S, k9213E, k9213M, k9213N, k9213X, k9213D⟩ := rk_ex (s := st9) (e := ((at9 + 1) + r13)) (m := st9) (n := st9) (x := 0) (d := (9 * (20 - dp) + (sg - sb) + 1)) (by omega)
    have hkid : ∀ f9 y9 : Nat, f9 ≤ 3 → K198.2.2.1 f9 q167 = some y9 → K198.1 y9 = 1 ∧ 1 ≤ (gset g q167 0 0 0) 0 y9 ∧ (gset g q167 0 0 0) 0 y9 < (5 * (20 - dp) + 3 + (sg - sb)) := by
      intro f9 y9 hf9 hy9
      rcases (show f9 = 0 ∨ f9 = 1 ∨ f9 = 2 ∨ f9 = 3 by omega) with rfl | rfl | rfl | rfl
      · rw [hf208] at hy9; cases hy9; exact ⟨hf207, (by omega), by omega⟩
      · rw [hf203] at hy9; cases hy9
      · rw [hf204] at hy9; cases hy9
      · rw [hf205] at hy9; cases hy9
    have hkc214 : ∀ f9 y9 : Nat, f9 ≤ 3 → K198.2.2.1 f9 q167 = some y9 → Kch (K198.2.1 0 q167) f9 (K198.2.1 0 y9) k9213 ((gset g q167 0 0 0) 2 y9) := by
      intro f9 y9 hf9 hy9
      rcases (show f9 = 0 ∨ f9 = 1 ∨ f9 = 2 ∨ f9 = 3 by omega) with rfl | rfl | rfl | rfl
      · rw [hf208] at hy9; cases hy9; rw [hrk197]; rw [hf201] <;> exact ⟨(fun z => absurd z (by decide)), (fun z => absurd z (by decide)), (fun z => absurd z (by decide)), (fun _ _ => (by omega)), (fun z => absurd z (by decide)), (fun z => absurd z (by decide)), (fun z => absurd z (by decide)), (fun z => absurd z (by decide)), (fun z => absurd z (by decide)), (fun z => absurd z (by decide)), (fun z => absurd z (by decide)), (fun z => absurd z (by decide)), (fun z => absurd z (by decide)), (fun z => absurd z (by decide)), (fun z => absurd z (by decide)), (fun z => absurd z (by decide)), (fun z => absurd z (by decide)), (fun z => absurd z (by decide)), (fun z => absurd z (by decide)), (fun z => absurd z (by decide)), (fun z => absurd z (by decide)), (fun z => absurd z (by decide)), (fun z => absurd z (by decide)), (fun z => absurd z (by decide))⟩
      · rw [hf203] at hy9; cases hy9
      · rw [hf204] at hy9; cases hy9
      · rw [hf205] at hy9; cases hy9
    have hdn := NwS.done1I (q := q167) (L := (5 * (20 - dp) + 3 + (sg - sb))) (O := O) (k := k9213) hns210 hq193 hf200 hg194 (by omega) ⟨k9213I, (by rw [hf201] <;> exact ⟨(fun z => absurd z (by decide)), (fun z => absurd z (by decide)), (fun z => absurd z (by decide))⟩)⟩ (by rw [hf201]; exact ⟨fun _ => (by show ¬ K198.2.2.1 0 q167 = none; rw [hf208]; intro z; cases z), fun z => absurd z (by decide), fun z => absurd z (by decide), fun z => absurd z (by decide), fun z => absurd z (by decide)⟩) (fun f9 z => by rw [hf201] at z; rcases z with ⟨z, _⟩ | ⟨z | z | z, _⟩ <;> exact absurd z (by decide)) hkid hf206 hno211 hkc214 how
    have hz215 : NwR K K198 g (gset (gset g q167 0 0 0) q167 (5 * (20 - dp) + 3 + (sg - sb)) O k9213) q167 O k9213 ((5 * (20 - dp) + 3 + (sg - sb))) := hdn
    have hz216 : rS k9213 = st9 ∧ rS k9213 + 1 ≤ rE k9213 ∧ rE k9213 ≤ ((at9 + 1) + r13) ∧ 1 ≤ rD k9213 ∧ rD k9213 ≤ 9 * (20 - dp) + (sg - sb) + 1 := (by omega)
    have hz217 : at9 + 2 ≤ ((at9 + 1) + r13) ∧ ((at9 + 1) + r13) ≤ sz := (by omega)
    have hz218 : sg ≤ sg ∧ sg ≤ 60 := (by omega)
    have hz219 : NwT (B 7) sz (B 10) (B 10) K K198 at9 ((at9 + 1) + r13) := (NwT.le htk209 (by omega))
    have hO : OKP G h0 a (upd (upd (upd (upd F 2 (nI sz)) 9 (nI ((at9 + 1) + r13))) 10 (nI dp)) 11 (nI sg)) R Z (updA B 10 (B 10)) J K198 w := hO.to rfl
    refine W.widen (k := (2 * (sz - at9) + 19)) (n := (11 * (2 * (sz - at9) + 19))) (by omega) (by omega) ?_
    have hzz1 : H.size ≤ s.heap.size + ((2 * (((at9 + 1) + r13) - at9) - 3)) := (by have z : 1 ≤ (2 * (((at9 + 1) + r13) - at9) - 3) := (by omega); omega)
    have hzz2 : hSl H ≤ hSl s.heap + ((11 * (2 * (((at9 + 1) + r13) - at9) - 3))) := (by have z : 11 ≤ (11 * (2 * (((at9 + 1) + r13) - at9) - 3)) := (by omega); omega)
    exact W.aret (v := .ref q167) hx hb hr (Or.inl ⟨_, rfl⟩) (Or.inr ⟨_, rfl⟩) (fun t99 ht99 hW99 => ⟨⟨_, (w, (q167, K198, (gset (gset g q167 0 0 0) q167 (5 * (20 - dp) + 3 + (sg - sb)) O k9213), ((at9 + 1) + r13), sg, (B 10), k9213)), rfl, ⟨rfl, hz215, hz216, hz217, hz218, hz219, hO⟩, by rw [ht99]; exact hP, hD, by rw [ht99]; exact hzz1, by rw [ht99]; exact hzz2⟩, hS.F ht99⟩) hS.2.2 dX8_dotted_108
