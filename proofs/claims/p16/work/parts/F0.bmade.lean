theorem TtQ.ar {kd f1 r2 : Nat → Int32} {sz a : Nat} (h : TtQ kd sz f1 a) (e : r2 a = f1 a) : ¬ r2 a = 0 ∨ tkN kd sz 67 (nI a) = 13 ∨ tkN kd sz 67 (nI a) = 1 := by
  rcases h with h | h | ⟨_, h⟩
  · exact Or.inr (Or.inl h)
  · exact Or.inr (Or.inr h)
  · exact Or.inl (by rw [e, h]; decide)
theorem dX8_made_0 : decode cX8_made 0 = .ok (.aload_n 0, 1) := by decide +kernel
theorem dX8_made_1 : decode cX8_made 1 = .ok (.bipush 17, 2) := by decide +kernel
theorem dX8_made_3 : decode cX8_made 3 = .ok (.invokevirtual 53, 3) := by decide +kernel
theorem dX8_made_6 : decode cX8_made 6 = .ok (.istore_n 1, 1) := by decide +kernel
theorem dX8_made_7 : decode cX8_made 7 = .ok (.aload_n 0, 1) := by decide +kernel
theorem dX8_made_8 : decode cX8_made 8 = .ok (.iconst 0, 1) := by decide +kernel
theorem dX8_made_9 : decode cX8_made 9 = .ok (.invokevirtual 132, 3) := by decide +kernel
theorem dX8_made_12 : decode cX8_made 12 = .ok (.istore_n 2, 1) := by decide +kernel
theorem dX8_made_13 : decode cX8_made 13 = .ok (.aload_n 0, 1) := by decide +kernel
theorem dX8_made_14 : decode cX8_made 14 = .ok (.getfield 7, 3) := by decide +kernel
theorem dX8_made_17 : decode cX8_made 17 = .ok (.iload_n 2, 1) := by decide +kernel
theorem dX8_made_18 : decode cX8_made 18 = .ok (.invokevirtual 57, 3) := by decide +kernel
theorem dX8_made_21 : decode cX8_made 21 = .ok (.bipush 65, 2) := by decide +kernel
theorem dX8_made_23 : decode cX8_made 23 = .ok (.if_icmp .ne 46, 3) := by decide +kernel
theorem dX8_made_69 : decode cX8_made 69 = .ok (.new 143, 3) := by decide +kernel
theorem dX8_made_72 : decode cX8_made 72 = .ok (.dup, 1) := by decide +kernel
theorem dX8_made_73 : decode cX8_made 73 = .ok (.bipush 9, 2) := by decide +kernel
theorem dX8_made_75 : decode cX8_made 75 = .ok (.iload_n 2, 1) := by decide +kernel
theorem dX8_made_76 : decode cX8_made 76 = .ok (.iload_n 1, 1) := by decide +kernel
theorem dX8_made_77 : decode cX8_made 77 = .ok (.invokespecial 145, 3) := by decide +kernel
theorem dX8_made_80 : decode cX8_made 80 = .ok (.astore_n 3, 1) := by decide +kernel
theorem dX8_made_81 : decode cX8_made 81 = .ok (.aload_n 3, 1) := by decide +kernel
theorem dX8_made_82 : decode cX8_made 82 = .ok (.aload_n 0, 1) := by decide +kernel
theorem dX8_made_83 : decode cX8_made 83 = .ok (.bipush 36, 2) := by decide +kernel
theorem dX8_made_85 : decode cX8_made 85 = .ok (.bipush 37, 2) := by decide +kernel
theorem dX8_made_87 : decode cX8_made 87 = .ok (.invokevirtual 280, 3) := by decide +kernel
theorem dX8_made_90 : decode cX8_made 90 = .ok (.putfield 165, 3) := by decide +kernel
theorem dX8_made_93 : decode cX8_made 93 = .ok (.aload_n 3, 1) := by decide +kernel
theorem dX8_made_94 : decode cX8_made 94 = .ok (.areturn, 1) := by decide +kernel
theorem dX8_made_26 : decode cX8_made 26 = .ok (.aload_n 0, 1) := by decide +kernel
theorem dX8_made_27 : decode cX8_made 27 = .ok (.bipush 34, 2) := by decide +kernel
theorem dX8_made_29 : decode cX8_made 29 = .ok (.invokevirtual 36, 3) := by decide +kernel
theorem dX8_made_32 : decode cX8_made 32 = .ok (.ifCond .eq 37, 3) := by decide +kernel
theorem dX8_made_35 : decode cX8_made 35 = .ok (.aload_n 0, 1) := by decide +kernel
theorem dX8_made_36 : decode cX8_made 36 = .ok (.getfield 7, 3) := by decide +kernel
theorem dX8_made_39 : decode cX8_made 39 = .ok (.iload_n 2, 1) := by decide +kernel
theorem dX8_made_40 : decode cX8_made 40 = .ok (.iconst 2, 1) := by decide +kernel
theorem dX8_made_41 : decode cX8_made 41 = .ok (.invokevirtual 64, 3) := by decide +kernel
theorem dX8_made_44 : decode cX8_made 44 = .ok (.aload_n 0, 1) := by decide +kernel
theorem dX8_made_45 : decode cX8_made 45 = .ok (.bipush 34, 2) := by decide +kernel
theorem dX8_made_47 : decode cX8_made 47 = .ok (.invokevirtual 283, 3) := by decide +kernel
theorem dX8_made_50 : decode cX8_made 50 = .ok (.aload_n 0, 1) := by decide +kernel
theorem dX8_made_51 : decode cX8_made 51 = .ok (.bipush 35, 2) := by decide +kernel
theorem dX8_made_53 : decode cX8_made 53 = .ok (.invokevirtual 287, 3) := by decide +kernel
theorem dX8_made_56 : decode cX8_made 56 = .ok (.pop, 1) := by decide +kernel
theorem dX8_made_57 : decode cX8_made 57 = .ok (.new 143, 3) := by decide +kernel
theorem dX8_made_60 : decode cX8_made 60 = .ok (.dup, 1) := by decide +kernel
theorem dX8_made_61 : decode cX8_made 61 = .ok (.bipush 8, 2) := by decide +kernel
theorem dX8_made_63 : decode cX8_made 63 = .ok (.iload_n 2, 1) := by decide +kernel
theorem dX8_made_64 : decode cX8_made 64 = .ok (.iload_n 1, 1) := by decide +kernel
theorem dX8_made_65 : decode cX8_made 65 = .ok (.invokespecial 145, 3) := by decide +kernel
theorem dX8_made_68 : decode cX8_made 68 = .ok (.areturn, 1) := by decide +kernel
set_option maxHeartbeats 16000000 in
set_option maxRecDepth 100000 in
theorem P_made (l : Launch) (G : pT) (h0 : Nat) (a : Nat → Nat) (F : Nat → Int32) (R : Nat → Value) (Z : Int64) (B : Nat → Nat → Int32) (J : Nat → Nat → Int64) (K : PK) (w : va_W) (n : Nat) (at9 : Nat) (sz : Nat) (dp : Nat) (sg : Nat) (O : Nat) (g : Nat → Nat → Nat) (hsz : sz ≤ 5000) (hat : at9 ≤ sz) (hdp : dp + n = 20) (hsg : sg ≤ 60) (hwn : WN K g) (how : ∀ o : Nat, O = o + 1 → K.1 o = 1 ∧ g 0 o = 0 ∧ ¬ K.2.1 0 o = 32) (ihe : IhE l G n) (hO : OKP G h0 a (upd (upd (upd (upd F 2 (nI sz)) 9 (nI at9)) 10 (nI dp)) 11 (nI sg)) R Z B J K w) (hl0 : l.stackTraces = false) : PBn l G pX0 yX8_made cX8_made 4 (some (.object "JinjaTongue$Node")) ({ frames := (40 * n + 14), cells := (2 * (sz - at9) + 19), slots := (11 * (2 * (sz - at9) + 19)), locals := (1300 * n + 440) }) [.ref (a 3)] w (fun (v : Option Value) (u : va_W × (Nat × PK × (Nat → Nat → Nat) × Nat × Nat × (Nat → Int32) × Nat)) => v = some (.ref u.2.1) ∧ (NwR K u.2.2.1 g u.2.2.2.1 u.2.1 O u.2.2.2.2.2.2.2 ((5 * (20 - dp) + 2 + (u.2.2.2.2.2.1 - sg)))) ∧ (at9 ≤ rS u.2.2.2.2.2.2.2 ∧ rS u.2.2.2.2.2.2.2 + 1 ≤ rE u.2.2.2.2.2.2.2 ∧ rE u.2.2.2.2.2.2.2 ≤ u.2.2.2.2.1 ∧ 1 ≤ rD u.2.2.2.2.2.2.2 ∧ rD u.2.2.2.2.2.2.2 ≤ 9 * (20 - dp) + (u.2.2.2.2.2.1 - sg) + 1) ∧ (at9 + 4 ≤ u.2.2.2.2.1 ∧ u.2.2.2.2.1 ≤ sz) ∧ (sg ≤ u.2.2.2.2.2.1 ∧ u.2.2.2.2.2.1 ≤ 60) ∧ (NwT (B 7) sz (B 10) u.2.2.2.2.2.2.1 K u.2.2.1 at9 u.2.2.2.2.1) ∧ (OKP G h0 a (upd (upd (upd (upd F 2 (nI sz)) 9 (nI u.2.2.2.2.1)) 10 (nI dp)) 11 (nI u.2.2.2.2.2.1)) R Z (updA B 10 u.2.2.2.2.2.2.1) J u.2.2.1 u.1)) (fun u => u.1) (fun (u : va_W × (Nat × PK × (Nat → Nat → Nat) × Nat × Nat × (Nat → Int32) × Nat)) => (2 * (u.2.2.2.2.1 - at9) - 5)) (fun (u : va_W × (Nat × PK × (Nat → Nat → Nat) × Nat × Nat × (Nat → Int32) × Nat)) => (11 * (2 * (u.2.2.2.2.1 - at9) - 5))) (fun (u : va_W × (Nat → Int32) × (Nat → Value) × (Nat → Nat → Int32)) => ThQ G h0 a (upd (upd (upd (upd F 2 (nI sz)) 9 (nI at9)) 10 (nI dp)) 11 (nI sg)) R Z B J u) (fun u => u.1) := by
  intro sz
  refine vx_ofW (cc := cX8_made) (maxL := 4) (ret := (some (.object "JinjaTongue$Node"))) (by decide) rfl ?_
  intro p e s m args below meth c s₁ B9 hml hnt hv
  obtain ⟨rfl, hsz, hP, hD0, hE, hX⟩ := hv
  have hx := B9.exec
  have hb := B9.bytes
  have hr := B9.returns
  have hts := atoms_spec (ws := Cond.code yX8_made cX8_made 4 (some (.object "JinjaTongue$Node")) :: pw) B9.pre
  have hq : ∀ w ∈ pw, w.before _ s = true := fun w h => hts w (List.mem_cons_of_mem _ h)
  have hown : s.vm.findClass RX8 = some m.cls := findClass_of_methodNamed B9.named
  have hlocks := B9.notSynchronized
  subst hsz
  have hD := hD0.self (sz := s.heap.size)
  have hA : ∀ q : Nat, s.heap.size ≤ q → va_A w s.heap.size q := fun q h => Or.inr h
  generalize va_A w s.heap.size = A at hD hE hA ⊢
  have hS : va_S A s.heap s.heap [] := va_S.rf
  have hl := lv_entry ([.ref (a 3)]) (n := 4) (Nat.le_of_ble_eq_true rfl)
  rw [lg_entry_eq]
  generalize (lg_sl ([.ref (a 3)]) ++ List.replicate (4 - (lg_sl ([.ref (a 3)])).length) Slot.unset).toArray = ls at hl ⊢
  have hl : lv_has ls 4 [(0, .ref (a 3))] := hl
  have htk0 : NwT (B 7) sz (B 10) (B 10) K K at9 at9 := NwT.nil
  have hns0 : NwS K K g g := NwS.nil hwn
  refine lv_aload_n hx hb dX8_made_0 rfl (lv_at hl 0 rfl) ?_
  refine lv_bipush (v := 17) hx hb dX8_made_1 (by decide) ?_
  have hO : OKW G h0 a (upd (upd (upd (upd (upd (upd F 2 (nI sz)) 9 (nI at9)) 10 (nI dp)) 11 (nI sg)) 2 (nI sz)) 9 (nI at9)) R Z B J K.1 (fun q99 x99 => x99 = rep G a K q99) w := hO.to rfl
  obtain ⟨_, qr4, hqr5⟩ := hO.2.1 23 _ (sg_23 G h0 a _ _ _ _ _)
  refine pn_V0 (G := G) (As := [.int 17]) (rest := []) hx hb hml hown hq hE hX pX0_al hP hD hS hA hl.1 (P_take l G h0 a (upd (upd (upd (upd F 2 (nI sz)) 9 (nI at9)) 10 (nI dp)) 11 (nI sg)) R Z B J K.1 (fun q99 x99 => x99 = rep G a K q99) w 17 at9 sz (by omega) (by omega) (by decide) hO hl0) (gV pw_793 pw_794 pw_795 pw_796 pw_781) hV_X8_take qr4 5 hqr5 rfl rfl rfl (Nat.le_of_ble_eq_true rfl) dX8_made_3 ⟨(by show 0 + 1 ≤ (2 * (sz - at9) + 19); omega), (by show 0 + 6 ≤ (11 * (2 * (sz - at9) + 19)); omega)⟩ ⟨(by show 7 + 1 ≤ (40 * n + 14); omega), (by show 8 + (2 + 11) + 122 ≤ (1300 * n + 440); omega)⟩ (fun v3 u1 H locs hw2 hP hD hS => ?_) (fun ux ce9 q9 H9 locs9 hux hP9 hD9 hS9 hce hcv hcl => pb_out ux (ThQ.up (Thx.same (Thx.same Thx.rfl rfl) rfl) RhX.rfl hux) hnt hlocks hce hcv hcl hP9 hD9 hS9 (by show 0 + 1 ≤ (2 * (sz - at9) + 19); omega) (by show 0 + 6 ≤ (11 * (2 * (sz - at9) + 19)); omega))
  obtain ⟨w, _⟩ := u1
  obtain ⟨hw2, h6, h7, hO⟩ := hw2
  have h6 : at9 + 1 ≤ sz := h6
  have h7 : tkN ((B 7)) sz 67 (nI at9) = 17 := h7
  obtain rfl : v3 = some (.int (nI at9)) := hw2
  have hO : OKP G h0 a (upd (upd (upd (upd F 2 (nI sz)) 9 (nI (at9 + 1))) 10 (nI dp)) 11 (nI sg)) R Z B J K w := hO.to rfl
  refine W.widen (k := 0) (n := 0) (by show 0 + 0 ≤ 0; omega) (by show 0 + 0 ≤ 0; omega) ?_
  refine W.eq (g2 := F0 m 6 ls [.int (nI at9)]) rfl ?_
  refine lv_istore_n (lv' := [(1, .int (nI at9)), (0, .ref (a 3))]) hx hb dX8_made_6 rfl hl (by decide) rfl (fun ls hl => ?_)
  refine lv_aload_n hx hb dX8_made_7 rfl (lv_at hl 1 rfl) ?_
  refine lv_iconst (v := 0) hx hb dX8_made_8 (by decide) ?_
  have hO : OKW G h0 a (upd (upd (upd (upd (upd (upd (upd F 2 (nI sz)) 9 (nI at9)) 10 (nI dp)) 11 (nI sg)) 9 (nI (at9 + 1))) 2 (nI sz)) 9 (nI (at9 + 1))) R Z B J K.1 (fun q99 x99 => x99 = rep G a K q99) w := hO.to rfl
  obtain ⟨_, qr11, hqr12⟩ := hO.2.1 23 _ (sg_23 G h0 a _ _ _ _ _)
  refine pn_V0 (G := G) (As := [.int 0]) (rest := []) hx hb hml hown hq hE hX pX0_al hP hD hS hA hl.1 (P_takeType l G h0 a (upd (upd (upd (upd (upd F 2 (nI sz)) 9 (nI at9)) 10 (nI dp)) 11 (nI sg)) 9 (nI (at9 + 1))) R Z B J K.1 (fun q99 x99 => x99 = rep G a K q99) w 0 (at9 + 1) sz (by omega) (by omega) hO hl0) (gV pw_825 pw_826 pw_827 pw_796 pw_821) hV_X8_takeType qr11 5 hqr12 rfl rfl rfl (Nat.le_of_ble_eq_true rfl) dX8_made_9 ⟨(by show 0 + 1 ≤ (2 * (sz - at9) + 19); omega), (by show 0 + 6 ≤ (11 * (2 * (sz - at9) + 19)); omega)⟩ ⟨(by show 7 + 1 ≤ (40 * n + 14); omega), (by show 8 + (4 + 11) + 122 ≤ (1300 * n + 440); omega)⟩ (fun v10 u8 H locs hw9 hP hD hS => ?_) (fun ux ce9 q9 H9 locs9 hux hP9 hD9 hS9 hce hcv hcl => pb_out ux (ThQ.up (Thx.same (Thx.same (Thx.f Thx.rfl (by omega)) rfl) rfl) RhX.rfl hux) hnt hlocks hce hcv hcl hP9 hD9 hS9 (by show 0 + 1 ≤ (2 * (sz - at9) + 19); omega) (by show 0 + 6 ≤ (11 * (2 * (sz - at9) + 19)); omega))
  obtain ⟨w, at13, f14⟩ := u8
  obtain ⟨hw9, h15, h16, h17, h18, hO⟩ := hw9
  have h15 : (at9 + 1) + 1 ≤ at13 ∧ at13 ≤ sz := h15
  have h16 : RoS ((B 10)) f14 (at9 + 1) := h16
  have h17 : TtQ ((B 7)) sz f14 (at9 + 1) := h17
  have h18 : (0 : Int32) = 0 → at13 = (at9 + 1) + 1 := h18
  obtain rfl : v10 = some (.int (nI (at9 + 1))) := hw9
  have hO : OKP G h0 a (upd (upd (upd (upd F 2 (nI sz)) 9 (nI at13)) 10 (nI dp)) 11 (nI sg)) R Z (updA B 10 f14) J K w := hO.to rfl
  refine W.widen (k := 0) (n := 0) (by show 0 + 0 ≤ 0; omega) (by show 0 + 0 ≤ 0; omega) ?_
  refine W.eq (g2 := F0 m 12 ls [.int (nI (at9 + 1))]) rfl ?_
  have htk19 : NwT (B 7) sz (B 10) f14 K K at9 (at9 + 1) := (NwT.role htk0 h16 (by omega))
  have htt20 : at13 = (at9 + 1) + 1 := h18 rfl
  refine lv_istore_n (lv' := [(2, .int (nI (at9 + 1))), (1, .int (nI at9)), (0, .ref (a 3))]) hx hb dX8_made_12 rfl hl (by decide) rfl (fun ls hl => ?_)
  refine lv_aload_n hx hb dX8_made_13 rfl (lv_at hl 2 rfl) ?_
  refine c_get (v := .ref (a 1)) (C := RX8) (Tc := TX8) (N := 5) (ci := 5) hx hb hq pin_wsX80 hown hE hP hO 23 (sg_23 G h0 a _ _ _ _ _) rfl 0 (by decide) (hq _ pw_774) (fun _ h9 => h9) rfl dX8_made_14 ?_
  refine lv_iload_n hx hb dX8_made_17 rfl (lv_at hl 0 rfl) ?_
  have hO : OKW G h0 a (upd (upd (upd (upd (upd F 2 (nI sz)) 9 (nI at13)) 10 (nI dp)) 11 (nI sg)) 2 (nI sz)) R Z (updA B 10 f14) J K.1 (fun q99 x99 => x99 = rep G a K q99) w := hO.to rfl
  obtain ⟨_, qr24, hqr25⟩ := hO.2.1 2 _ (sg_2 G h0 a _ _ _ _ _)
  refine pc_V0 (G := G) (As := [.int (nI (at9 + 1))]) (rest := []) hx hb hml hown hq hE hX pX0_al hP hD hS hA hl.1 (K_kindX l G h0 a (upd (upd (upd (upd F 2 (nI sz)) 9 (nI at13)) 10 (nI dp)) 11 (nI sg)) R Z (updA B 10 f14) J K.1 (fun q99 x99 => x99 = rep G a K q99) w (nI (at9 + 1)) sz (by omega) hO) (gV pw_777 pw_193 pw_194 pw_59 pw_126) hV_X10_kindAt qr24 7 hqr25 rfl rfl rfl (Nat.le_of_ble_eq_true rfl) dX8_made_18 ⟨(by show 0 + 0 ≤ (2 * (sz - at9) + 19); omega), (by show 0 + 0 ≤ (11 * (2 * (sz - at9) + 19)); omega)⟩ ⟨(by show 2 + 1 ≤ (40 * n + 14); omega), (by show 8 + (2 + 11) + 60 ≤ (1300 * n + 440); omega)⟩ (fun v23 u21 H locs hw22 hP hD hS => ?_)
  obtain ⟨w, r26⟩ := u21
  obtain ⟨hw22, h27, h28, hO⟩ := hw22
  have h27 : r26 = 67 ∨ ∃ t : Nat, (nI (at9 + 1)) = nI t ∧ t < sz := h27
  have h28 : r26 = tkN ((B 7)) sz 67 (nI (at9 + 1)) := h28
  obtain rfl : v23 = some (.int r26) := hw22
  have hO : OKP G h0 a (upd (upd (upd (upd F 2 (nI sz)) 9 (nI at13)) 10 (nI dp)) 11 (nI sg)) R Z (updA B 10 f14) J K w := hO.to rfl
  refine W.widen (k := 0) (n := 0) (Nat.le_of_ble_eq_true rfl) (Nat.le_of_ble_eq_true rfl) ?_
  refine W.eq (g2 := F0 m 21 ls [.int r26]) rfl ?_
  refine lv_bipush (v := 65) hx hb dX8_made_21 (by decide) ?_
  refine lv_icmp_ne (tgt := 69) hx hb dX8_made_23 (by decide) (fun c29 => ?_) (fun c29 => ?_)
  · refine p_new (s9 := 1) (C := RX7) (T := TX7) (N := 11) (ci := 13) (fs := [.int 0, .int 0, .int 0, .int 0, .int 0, .int 0, .null, .null, .null, .null, .null]) hx hb hq pin_wsX70 tyX7 tyX7_ok hown (hq _ pw_870) (hq _ pw_871) (hq _ pw_872) hE hP hD hS hA hO rfl nw_X7 (by decide) (fun q => by rw [rep_1 (show (kN K q 1 0).1 q = 1 from if_pos rfl)]; unfold fsNode kN; simp only [if_true]; rfl) (by show 0 + 1 ≤ (2 * (sz - at9) + 19); omega) (by show 0 + 11 ≤ (11 * (2 * (sz - at9) + 19)); omega) dX8_made_69 (fun q30 H w hq31 hP hD hS hO => ?_)
    have hf32 : (kN K q30 1 0).1 q30 = 1 := if_pos rfl
    refine W.widen (k := 1) (n := 11) (by show 0 + 1 ≤ 1; omega) (by show 0 + 11 ≤ 11; omega) ?_
    refine lv_dup hx hb dX8_made_72 rfl ?_
    refine lv_bipush (v := 9) hx hb dX8_made_73 (by decide) ?_
    refine lv_iload_n hx hb dX8_made_75 rfl (lv_at hl 0 rfl) ?_
    refine lv_iload_n hx hb dX8_made_76 rfl (lv_at hl 1 rfl) ?_
    have hO : OKP G h0 a (upd (upd (upd (upd F 2 (nI sz)) 9 (nI at13)) 10 (nI dp)) 11 (nI sg)) R Z (updA B 10 f14) J (kN K q30 1 0) w := hO.to rfl
    obtain ⟨qr36, hqr37⟩ := p_recv hO (by rw [hf32]; decide) (rep_1 hf32)
    refine pc_I0 (G := G) (As := [.int 9, .int (nI (at9 + 1)), .int (nI at9)]) (rest := [.ref q30]) hx hb hml hown hq hE hX pX0_al hP hD hS hA hl.1 (N_init l G h0 a (upd (upd (upd (upd F 2 (nI sz)) 9 (nI at13)) 10 (nI dp)) 11 (nI sg)) R Z (updA B 10 f14) J (kN K q30 1 0) w q30 9 (nI (at9 + 1)) (nI at9) (by omega) hO) pw_874 pw_875 pw_872 pw_765 rfl hS_X7_init rfl (Nat.le_of_ble_eq_true rfl) dX8_made_77 ⟨(by show 1 + 0 ≤ (2 * (sz - at9) + 19); omega), (by show 11 + 0 ≤ (11 * (2 * (sz - at9) + 19)); omega)⟩ ⟨(by show 2 + 1 ≤ (40 * n + 14); omega), (by show 8 + (4 + 11) + 60 ≤ (1300 * n + 440); omega)⟩ (fun v35 u33 H locs hw34 hP hD hS => ?_)
    obtain ⟨w, _⟩ := u33
    obtain ⟨hw34, hO⟩ := hw34
    obtain rfl : v35 = none := hw34
    have hf38 : (kI (kI (kI (kN K q30 1 0) 0 q30 9) 1 q30 (nI (at9 + 1))) 2 q30 (nI at9)).1 q30 = 1 := hf32
    have hO : OKP G h0 a (upd (upd (upd (upd F 2 (nI sz)) 9 (nI at13)) 10 (nI dp)) 11 (nI sg)) R Z (updA B 10 f14) J (kI (kI (kI (kN K q30 1 0) 0 q30 9) 1 q30 (nI (at9 + 1))) 2 q30 (nI at9)) w := hO.to rfl
    refine W.widen (k := 1) (n := 11) (by show 1 + 0 ≤ 1; omega) (by show 11 + 0 ≤ 11; omega) ?_
    refine W.eq (g2 := F0 m 80 ls [.ref q30]) rfl ?_
    change OKP G h0 a (upd (upd (upd (upd F 2 (nI sz)) 9 (nI at13)) 10 (nI dp)) 11 (nI sg)) R Z (updA B 10 f14) J (mkN K q30 9 (nI (at9 + 1)) (nI at9)) w at hO
    obtain ⟨K39, hK40⟩ : ∃ z : PK, z = (mkN K q30 9 (nI (at9 + 1)) (nI at9)) := ⟨_, rfl⟩
    rw [← hK40] at hO
    have htk41 : NwT (B 7) sz f14 f14 K39 K39 at13 at13 := NwT.nil
    have hf42 : K39.1 q30 = 1 := by rw [hK40]; exact mkN_T
    have hf43 : K39.2.1 0 q30 = 9 := by rw [hK40]; exact mkN_0
    have hf44 : K39.2.1 2 q30 = (nI at9) := by rw [hK40]; exact mkN_2
    have hf45 : K39.2.2.1 0 q30 = none := by rw [hK40]; exact mkN_C
    have hf46 : K39.2.2.1 1 q30 = none := by rw [hK40]; exact mkN_C
    have hf47 : K39.2.2.1 2 q30 = none := by rw [hK40]; exact mkN_C
    have hf48 : K39.2.2.1 3 q30 = none := by rw [hK40]; exact mkN_C
    have hf49 : K39.2.2.1 4 q30 = none := by rw [hK40]; exact mkN_C
    have hns50 : NwS K K39 g (gset g q30 0 0 0) := by rw [hK40]; exact NwS.node hns0 hq31
    have hq51 : K.1 q30 = 0 := old_T hns0.2.1 hq31
    have hg52 : (gset g q30 0 0 0) 0 q30 = 0 := gset_0
    have hno53 : NoO K39 (gset g q30 0 0 0) q30 := by rw [hK40]; exact NoO.new hns0.1 hq31
    refine lv_astore_n (lv' := [(3, .ref q30), (2, .int (nI (at9 + 1))), (1, .int (nI at9)), (0, .ref (a 3))]) hx hb dX8_made_80 rfl hl (by decide) rfl (fun ls hl => ?_)
    refine lv_aload_n hx hb dX8_made_81 rfl (lv_at hl 0 rfl) ?_
    refine lv_aload_n hx hb dX8_made_82 rfl (lv_at hl 3 rfl) ?_
    refine lv_bipush (v := 36) hx hb dX8_made_83 (by decide) ?_
    refine lv_bipush (v := 37) hx hb dX8_made_85 (by decide) ?_
    have hO : OKP G h0 a (upd (upd (upd (upd (upd (upd (upd (upd (upd F 2 (nI sz)) 9 (nI at9)) 10 (nI dp)) 11 (nI sg)) 9 (nI at13)) 2 (nI sz)) 9 (nI at13)) 10 (nI dp)) 11 (nI sg)) R Z (updA B 10 f14) J K39 w := hO.to rfl
    obtain ⟨_, qr57, hqr58⟩ := hO.2.1 23 _ (sg_23 G h0 a _ _ _ _ _)
    refine pn_V0 (G := G) (As := [.int 36, .int 37]) (rest := [.ref q30]) hx hb hml hown hq hE hX pX0_al hP hD hS hA hl.1 (P_bracketed l G h0 a (upd (upd (upd (upd (upd F 2 (nI sz)) 9 (nI at9)) 10 (nI dp)) 11 (nI sg)) 9 (nI at13)) R Z (updA B 10 f14) J K39 w 36 37 n at13 sz dp sg 0 (gset g q30 0 0 0) (by omega) (by omega) (by omega) (by omega) hns50.1 (fun o9 h9 => absurd h9 (by omega)) (by decide) (by decide) ihe hO hl0) (gV pw_954 pw_955 pw_956 pw_796 pw_922) hV_X8_bracketed qr57 5 hqr58 rfl rfl rfl (Nat.le_of_ble_eq_true rfl) dX8_made_87 ⟨(by show 1 + (2 * (sz - at13) + 18) ≤ (2 * (sz - at9) + 19); omega), (by show 11 + (11 * (2 * (sz - at13) + 18)) ≤ (11 * (2 * (sz - at9) + 19)); omega)⟩ ⟨(by show (40 * n + 10) + 1 ≤ (40 * n + 14); omega), (by show 8 + (4 + 11) + (1300 * n + 330) ≤ (1300 * n + 440); omega)⟩ (fun v56 u54 H locs hw55 hP hD hS => ?_) (fun ux ce9 q9 H9 locs9 hux hP9 hD9 hS9 hce hcv hcl => pb_out ux (ThQ.up (Thx.same (Thx.same (Thx.same (Thx.same (Thx.b (Thx.f Thx.rfl (by omega)) (by omega) (by decide)) rfl) rfl) rfl) rfl) RhX.rfl hux) hnt hlocks hce hcv hcl hP9 hD9 hS9 (by show 1 + (2 * (sz - at13) + 18) ≤ (2 * (sz - at9) + 19); omega) (by show 11 + (11 * (2 * (sz - at13) + 18)) ≤ (11 * (2 * (sz - at9) + 19)); omega))
    obtain ⟨w, r59, K60, g61, at62, sg63, f64, k65⟩ := u54
    obtain ⟨hw55, h66, h67, h68, h69, h70, h71, h72, hO⟩ := hw55
    have h66 : NwR K39 K60 (gset g q30 0 0 0) g61 r59 0 k65 (5 * (20 - (dp + 1)) + 6 + (sg63 - sg)) := h66
    have h67 : at13 + 1 ≤ rS k65 ∧ rS k65 + 1 ≤ rE k65 ∧ rE k65 + 1 ≤ at62 ∧ 1 ≤ rD k65 ∧ rD k65 ≤ 9 * (20 - (dp + 1)) + (sg63 - sg) + 1 := h67
    have h68 : at13 + 3 ≤ at62 ∧ at62 ≤ sz := h68
    have h69 : sg ≤ sg63 ∧ sg63 ≤ 60 := h69
    have h70 : dp + 1 ≤ 20 := h70
    have h71 : ¬ tkN ((B 7)) sz 67 (nI (at13 + 1)) = 37 := h71
    have h72 : NwT ((B 7)) sz (f14) f64 K39 K60 at13 at62 := h72
    obtain rfl : v56 = some (.ref r59) := hw55
    have hf73 : K60.1 q30 = 1 := (((h66).2.1.1 q30 (by rw [hf42]; decide)).1).trans hf42
    have hf74 : K60.2.1 0 q30 = 9 := (((h66).2.1.1 q30 (by rw [hf42]; decide)).2.1 0).trans hf43
    have hf75 : K60.2.1 2 q30 = (nI at9) := (((h66).2.1.1 q30 (by rw [hf42]; decide)).2.1 2).trans hf44
    have hf76 : K60.2.2.1 0 q30 = none := (((h66).2.1.1 q30 (by rw [hf42]; decide)).2.2.1 0).trans hf45
    have hf77 : K60.2.2.1 1 q30 = none := (((h66).2.1.1 q30 (by rw [hf42]; decide)).2.2.1 1).trans hf46
    have hf78 : K60.2.2.1 2 q30 = none := (((h66).2.1.1 q30 (by rw [hf42]; decide)).2.2.1 2).trans hf47
    have hf79 : K60.2.2.1 3 q30 = none := (((h66).2.1.1 q30 (by rw [hf42]; decide)).2.2.1 3).trans hf48
    have hf80 : K60.2.2.1 4 q30 = none := (((h66).2.1.1 q30 (by rw [hf42]; decide)).2.2.1 4).trans hf49
    have hO : OKP G h0 a (upd (upd (upd (upd F 2 (nI sz)) 9 (nI at62)) 10 (nI dp)) 11 (nI sg63)) R Z (updA B 10 f64) J K60 w := hO.to rfl
    refine W.widen (k := (1 + (2 * (at62 - at13) - 5))) (n := (11 + (11 * (2 * (at62 - at13) - 5)))) (by show 1 + (2 * (at62 - at13) - 5) ≤ (1 + (2 * (at62 - at13) - 5)); omega) (by show 11 + (11 * (2 * (at62 - at13) - 5)) ≤ (11 + (11 * (2 * (at62 - at13) - 5))); omega) ?_
    refine W.eq (g2 := F0 m 90 ls [.ref r59, .ref q30]) rfl ?_
    have htk81 : NwT (B 7) sz f14 f64 K39 K60 at13 at62 := (NwT.call htk41 h72 (by omega))
    have hns82 : NwS K K60 g g61 := NwS.call hns50 h66 (fun o9 h9 => absurd h9 (by omega))
    have hrk83 : g61 2 r59 = k65 := h66.2.2.1.2.2.2.2.2.1
    have hf84 : K60.1 r59 = 1 := h66.2.2.1.2.1
    have hg85 : g61 0 q30 = 0 := (h66.2.1.2 q30 (by rw [hf42]; decide) 0).trans hg52
    have hno86 : NoO K60 g61 q30 := NoO.call hno53 h66 hf42 (by omega)
    refine p_put (v := .ref r59) (ty := (.object "JinjaTongue$Node")) (C := RX7) (Tc := TX7) (N := 11) (ci := 13) (K' := (kC K60 0 q30 (some r59))) hx hb hq pin_wsX70 tyX7 tyX7_ok nmX7 hown hE hP hD hS hO (by rw [hf73]; decide) (rep_1 hf73) rfl 6 (by decide) (hq _ pw_938) (fun _ h9 => h9) rfl (by decide +kernel) rfl rfl (Nat.le_of_ble_eq_true rfl) rfl (by rw [rep_1 (show (kC K60 0 q30 (some r59)).1 q30 = 1 from hf73), pc_0] <;> rfl) (fun p9 hp9 => rep_kC hp9) dX8_made_90 (fun H locs w hP hD hS hO => ?_)
    obtain ⟨K87, hK88⟩ : ∃ z : PK, z = (kC K60 0 q30 (some r59)) := ⟨_, rfl⟩
    rw [← hK88] at hO
    have hf89 : K87.1 q30 = 1 := (by rw [hK88]; exact hf73)
    have hf90 : K87.2.1 0 q30 = 9 := (by rw [hK88]; exact hf74)
    have hf91 : K87.2.1 2 q30 = (nI at9) := (by rw [hK88]; exact hf75)
    have hf92 : K87.2.2.1 1 q30 = none := (by rw [hK88]; exact (kC_of (by decide)).trans hf77)
    have hf93 : K87.2.2.1 2 q30 = none := (by rw [hK88]; exact (kC_of (by decide)).trans hf78)
    have hf94 : K87.2.2.1 3 q30 = none := (by rw [hK88]; exact (kC_of (by decide)).trans hf79)
    have hf95 : K87.2.2.1 4 q30 = none := (by rw [hK88]; exact (kC_of (by decide)).trans hf80)
    have hf96 : K87.1 r59 = 1 := (by rw [hK88]; exact hf84)
    have hf97 : K87.2.2.1 0 q30 = some r59 := by rw [hK88]; exact kC_eq
    have htk98 : NwT (B 7) sz f14 f64 K39 K87 at13 at62 := by rw [hK88]; exact NwT.put htk81
    have hns99 : NwS K K87 g g61 := by rw [hK88]; exact NwS.put hns82 hq51 hg85
    have hno100 : NoO K87 g61 q30 := by rw [hK88]; exact hno86
    refine lv_aload_n hx hb dX8_made_93 rfl (lv_at hl 0 rfl) ?_
    refine W_size (fun hz1 hz2 => ?_)
    refine vx_ret ?_
    obtain ⟨k9101, k9101I, k9101S, k9101E, k9101M, k9101N, k9101X, k9101D⟩ := rk_ex (s := at9) (e := at62) (m := at9) (n := at9) (x := 0) (d := (9 * (20 - dp) + (sg63 - sg) + 1)) (by omega)
    have hlr := h66.2.2.1
    have hlr1 := hlr.2.2.1
    have hlr2 := hlr.2.2.2.1
    have hkid : ∀ f9 y9 : Nat, f9 ≤ 3 → K87.2.2.1 f9 q30 = some y9 → K87.1 y9 = 1 ∧ 1 ≤ g61 0 y9 ∧ g61 0 y9 < (5 * (20 - dp) + 2 + (sg63 - sg)) := by
      intro f9 y9 hf9 hy9
      rcases (show f9 = 0 ∨ f9 = 1 ∨ f9 = 2 ∨ f9 = 3 by omega) with rfl | rfl | rfl | rfl
      · rw [hf97] at hy9; cases hy9; exact ⟨hf96, hlr1, by omega⟩
      · rw [hf92] at hy9; cases hy9
      · rw [hf93] at hy9; cases hy9
      · rw [hf94] at hy9; cases hy9
    have hkc102 : ∀ f9 y9 : Nat, f9 ≤ 3 → K87.2.2.1 f9 q30 = some y9 → Kch (K87.2.1 0 q30) f9 (K87.2.1 0 y9) k9101 (g61 2 y9) := by
      intro f9 y9 hf9 hy9
      rcases (show f9 = 0 ∨ f9 = 1 ∨ f9 = 2 ∨ f9 = 3 by omega) with rfl | rfl | rfl | rfl
      · rw [hf97] at hy9; cases hy9; rw [hrk83]; rw [hf90] <;> exact ⟨(fun z => absurd z (by decide)), (fun z => absurd z (by decide)), (fun z => absurd z (by decide)), (fun _ _ => (by omega)), (fun z => absurd z (by decide)), (fun z => absurd z (by decide)), (fun z => absurd z (by decide)), (fun z => absurd z (by decide)), (fun z => absurd z (by decide)), (fun z => absurd z (by decide)), (fun z => absurd z (by decide)), (fun z => absurd z (by decide)), (fun z => absurd z (by decide)), (fun z => absurd z (by decide)), (fun z => absurd z (by decide)), (fun z => absurd z (by decide)), (fun z => absurd z (by decide)), (fun z => absurd z (by decide)), (fun z => absurd z (by decide)), (fun z => absurd z (by decide)), (fun z => absurd z (by decide)), (fun z => absurd z (by decide)), (fun z => absurd z (by decide)), (fun z => absurd z (by decide))⟩
      · rw [hf92] at hy9; cases hy9
      · rw [hf93] at hy9; cases hy9
      · rw [hf94] at hy9; cases hy9
    have hdn := NwS.done1I (q := q30) (L := (5 * (20 - dp) + 2 + (sg63 - sg))) (O := O) (k := k9101) hns99 hq51 hf89 hg85 (by omega) ⟨k9101I, (by rw [hf90] <;> exact ⟨(fun z => absurd z (by decide)), (fun z => absurd z (by decide)), (fun z => absurd z (by decide))⟩)⟩ (by rw [hf90]; exact ⟨fun _ => (by show ¬ K87.2.2.1 0 q30 = none; rw [hf97]; intro z; cases z), fun z => absurd z (by decide), fun z => absurd z (by decide), fun z => absurd z (by decide), fun z => absurd z (by decide)⟩) (fun f9 z => by rw [hf90] at z; rcases z with ⟨z, _⟩ | ⟨z | z | z, _⟩ <;> exact absurd z (by decide)) hkid hf95 hno100 hkc102 how
    have hz103 : NwR K K87 g (gset g61 q30 (5 * (20 - dp) + 2 + (sg63 - sg)) O k9101) q30 O k9101 ((5 * (20 - dp) + 2 + (sg63 - sg))) := hdn
    have hz104 : at9 ≤ rS k9101 ∧ rS k9101 + 1 ≤ rE k9101 ∧ rE k9101 ≤ at62 ∧ 1 ≤ rD k9101 ∧ rD k9101 ≤ 9 * (20 - dp) + (sg63 - sg) + 1 := (by omega)
    have hz105 : at9 + 4 ≤ at62 ∧ at62 ≤ sz := (by omega)
    have hz106 : sg ≤ sg63 ∧ sg63 ≤ 60 := (by omega)
    have hz107 : NwT (B 7) sz (B 10) f64 K K87 at9 at62 := (NwT.late htk19 hq31 (by rw [← hK40]; exact htk98) (by omega) (TkP.kk9 ⟨(at9 + 1), by omega, rfl, TtQ.ar h17 (htk98.2.1 (at9 + 1) (by omega)), (by rw [show (at9 + 1) + 2 = at13 + 1 from by omega]; exact h71)⟩))
    have hO : OKP G h0 a (upd (upd (upd (upd F 2 (nI sz)) 9 (nI at62)) 10 (nI dp)) 11 (nI sg63)) R Z (updA B 10 f64) J K87 w := hO.to rfl
    refine W.widen (k := (2 * (sz - at9) + 19)) (n := (11 * (2 * (sz - at9) + 19))) (by omega) (by omega) ?_
    have hzz1 : H.size ≤ s.heap.size + ((2 * (at62 - at9) - 5)) := (by have z : (1 + (2 * (at62 - at13) - 5)) ≤ (2 * (at62 - at9) - 5) := (by omega); omega)
    have hzz2 : hSl H ≤ hSl s.heap + ((11 * (2 * (at62 - at9) - 5))) := (by have z : (11 + (11 * (2 * (at62 - at13) - 5))) ≤ (11 * (2 * (at62 - at9) - 5)) := (by omega); omega)
    exact W.aret (v := .ref q30) hx hb hr (Or.inl ⟨_, rfl⟩) (Or.inr ⟨_, rfl⟩) (fun t99 ht99 hW99 => ⟨⟨_, (w, (q30, K87, (gset g61 q30 (5 * (20 - dp) + 2 + (sg63 - sg)) O k9101), at62, sg63, f64, k9101)), rfl, ⟨rfl, hz103, hz104, hz105, hz106, hz107, hO⟩, by rw [ht99]; exact hP, hD, by rw [ht99]; exact hzz1, by rw [ht99]; exact hzz2⟩, hS.F ht99⟩) hS.2.2 dX8_made_94
  · refine lv_aload_n hx hb dX8_made_26 rfl (lv_at hl 2 rfl) ?_
    refine lv_bipush (v := 34) hx hb dX8_made_27 (by decide) ?_
    have hO : OKW G h0 a (upd (upd (upd (upd (upd (upd F 2 (nI sz)) 9 (nI at13)) 10 (nI dp)) 11 (nI sg)) 2 (nI sz)) 9 (nI at13)) R Z (updA B 10 f14) J K.1 (fun q99 x99 => x99 = rep G a K q99) w := hO.to rfl
    obtain ⟨_, qr111, hqr112⟩ := hO.2.1 23 _ (sg_23 G h0 a _ _ _ _ _)
    refine pc_V0 (G := G) (As := [.int 34]) (rest := []) hx hb hml hown hq hE hX pX0_al hP hD hS hA hl.1 (P_sees l G h0 a (upd (upd (upd (upd F 2 (nI sz)) 9 (nI at13)) 10 (nI dp)) 11 (nI sg)) R Z (updA B 10 f14) J K.1 (fun q99 x99 => x99 = rep G a K q99) w 34 at13 sz (by omega) (by omega) hO) (gV pw_803 pw_804 pw_805 pw_796 pw_775) hV_X8_sees qr111 5 hqr112 rfl rfl rfl (Nat.le_of_ble_eq_true rfl) dX8_made_29 ⟨(by show 0 + 0 ≤ (2 * (sz - at9) + 19); omega), (by show 0 + 0 ≤ (11 * (2 * (sz - at9) + 19)); omega)⟩ ⟨(by show 3 + 1 ≤ (40 * n + 14); omega), (by show 8 + (2 + 11) + 81 ≤ (1300 * n + 440); omega)⟩ (fun v110 u108 H locs hw109 hP hD hS => ?_)
    obtain ⟨w, r113⟩ := u108
    obtain ⟨hw109, h114, h115, hO⟩ := hw109
    have h114 : r113 ≤ 1 := h114
    have h115 : SeQ ((B 7)) sz at13 34 r113 := h115
    obtain rfl : v110 = some (.int (nI r113)) := hw109
    have hO : OKP G h0 a (upd (upd (upd (upd F 2 (nI sz)) 9 (nI at13)) 10 (nI dp)) 11 (nI sg)) R Z (updA B 10 f14) J K w := hO.to rfl
    refine W.widen (k := 0) (n := 0) (Nat.le_of_ble_eq_true rfl) (Nat.le_of_ble_eq_true rfl) ?_
    refine W.eq (g2 := F0 m 32 ls [.int (nI r113)]) rfl ?_
    refine lv_if_eq (tgt := 69) hx hb dX8_made_32 (by decide) (fun c116 => ?_) (fun c116 => ?_)
    · have n117 : r113 = 0 := (nI_eq (a := r113) (b := 0) (by omega) (by omega)).mp c116
      refine p_new (s9 := 1) (C := RX7) (T := TX7) (N := 11) (ci := 13) (fs := [.int 0, .int 0, .int 0, .int 0, .int 0, .int 0, .null, .null, .null, .null, .null]) hx hb hq pin_wsX70 tyX7 tyX7_ok hown (hq _ pw_870) (hq _ pw_871) (hq _ pw_872) hE hP hD hS hA hO rfl nw_X7 (by decide) (fun q => by rw [rep_1 (show (kN K q 1 0).1 q = 1 from if_pos rfl)]; unfold fsNode kN; simp only [if_true]; rfl) (by show 0 + 1 ≤ (2 * (sz - at9) + 19); omega) (by show 0 + 11 ≤ (11 * (2 * (sz - at9) + 19)); omega) dX8_made_69 (fun q118 H w hq119 hP hD hS hO => ?_)
      have hf120 : (kN K q118 1 0).1 q118 = 1 := if_pos rfl
      refine W.widen (k := 1) (n := 11) (by show 0 + 1 ≤ 1; omega) (by show 0 + 11 ≤ 11; omega) ?_
      refine lv_dup hx hb dX8_made_72 rfl ?_
      refine lv_bipush (v := 9) hx hb dX8_made_73 (by decide) ?_
      refine lv_iload_n hx hb dX8_made_75 rfl (lv_at hl 0 rfl) ?_
      refine lv_iload_n hx hb dX8_made_76 rfl (lv_at hl 1 rfl) ?_
      have hO : OKP G h0 a (upd (upd (upd (upd F 2 (nI sz)) 9 (nI at13)) 10 (nI dp)) 11 (nI sg)) R Z (updA B 10 f14) J (kN K q118 1 0) w := hO.to rfl
      obtain ⟨qr124, hqr125⟩ := p_recv hO (by rw [hf120]; decide) (rep_1 hf120)
      refine pc_I0 (G := G) (As := [.int 9, .int (nI (at9 + 1)), .int (nI at9)]) (rest := [.ref q118]) hx hb hml hown hq hE hX pX0_al hP hD hS hA hl.1 (N_init l G h0 a (upd (upd (upd (upd F 2 (nI sz)) 9 (nI at13)) 10 (nI dp)) 11 (nI sg)) R Z (updA B 10 f14) J (kN K q118 1 0) w q118 9 (nI (at9 + 1)) (nI at9) (by omega) hO) pw_874 pw_875 pw_872 pw_765 rfl hS_X7_init rfl (Nat.le_of_ble_eq_true rfl) dX8_made_77 ⟨(by show 1 + 0 ≤ (2 * (sz - at9) + 19); omega), (by show 11 + 0 ≤ (11 * (2 * (sz - at9) + 19)); omega)⟩ ⟨(by show 2 + 1 ≤ (40 * n + 14); omega), (by show 8 + (4 + 11) + 60 ≤ (1300 * n + 440); omega)⟩ (fun v123 u121 H locs hw122 hP hD hS => ?_)
      obtain ⟨w, _⟩ := u121
      obtain ⟨hw122, hO⟩ := hw122
      obtain rfl : v123 = none := hw122
      have hf126 : (kI (kI (kI (kN K q118 1 0) 0 q118 9) 1 q118 (nI (at9 + 1))) 2 q118 (nI at9)).1 q118 = 1 := hf120
      have hO : OKP G h0 a (upd (upd (upd (upd F 2 (nI sz)) 9 (nI at13)) 10 (nI dp)) 11 (nI sg)) R Z (updA B 10 f14) J (kI (kI (kI (kN K q118 1 0) 0 q118 9) 1 q118 (nI (at9 + 1))) 2 q118 (nI at9)) w := hO.to rfl
      refine W.widen (k := 1) (n := 11) (by show 1 + 0 ≤ 1; omega) (by show 11 + 0 ≤ 11; omega) ?_
      refine W.eq (g2 := F0 m 80 ls [.ref q118]) rfl ?_
      change OKP G h0 a (upd (upd (upd (upd F 2 (nI sz)) 9 (nI at13)) 10 (nI dp)) 11 (nI sg)) R Z (updA B 10 f14) J (mkN K q118 9 (nI (at9 + 1)) (nI at9)) w at hO
      obtain ⟨K127, hK128⟩ : ∃ z : PK, z = (mkN K q118 9 (nI (at9 + 1)) (nI at9)) := ⟨_, rfl⟩
      rw [← hK128] at hO
      have htk129 : NwT (B 7) sz f14 f14 K127 K127 at13 at13 := NwT.nil
      have hf130 : K127.1 q118 = 1 := by rw [hK128]; exact mkN_T
      have hf131 : K127.2.1 0 q118 = 9 := by rw [hK128]; exact mkN_0
      have hf132 : K127.2.1 2 q118 = (nI at9) := by rw [hK128]; exact mkN_2
      have hf133 : K127.2.2.1 0 q118 = none := by rw [hK128]; exact mkN_C
      have hf134 : K127.2.2.1 1 q118 = none := by rw [hK128]; exact mkN_C
      have hf135 : K127.2.2.1 2 q118 = none := by rw [hK128]; exact mkN_C
      have hf136 : K127.2.2.1 3 q118 = none := by rw [hK128]; exact mkN_C
      have hf137 : K127.2.2.1 4 q118 = none := by rw [hK128]; exact mkN_C
      have hns138 : NwS K K127 g (gset g q118 0 0 0) := by rw [hK128]; exact NwS.node hns0 hq119
      have hq139 : K.1 q118 = 0 := old_T hns0.2.1 hq119
      have hg140 : (gset g q118 0 0 0) 0 q118 = 0 := gset_0
      have hno141 : NoO K127 (gset g q118 0 0 0) q118 := by rw [hK128]; exact NoO.new hns0.1 hq119
      refine lv_astore_n (lv' := [(3, .ref q118), (2, .int (nI (at9 + 1))), (1, .int (nI at9)), (0, .ref (a 3))]) hx hb dX8_made_80 rfl hl (by decide) rfl (fun ls hl => ?_)
      refine lv_aload_n hx hb dX8_made_81 rfl (lv_at hl 0 rfl) ?_
      refine lv_aload_n hx hb dX8_made_82 rfl (lv_at hl 3 rfl) ?_
      refine lv_bipush (v := 36) hx hb dX8_made_83 (by decide) ?_
      refine lv_bipush (v := 37) hx hb dX8_made_85 (by decide) ?_
      have hO : OKP G h0 a (upd (upd (upd (upd (upd (upd (upd (upd (upd F 2 (nI sz)) 9 (nI at9)) 10 (nI dp)) 11 (nI sg)) 9 (nI at13)) 2 (nI sz)) 9 (nI at13)) 10 (nI dp)) 11 (nI sg)) R Z (updA B 10 f14) J K127 w := hO.to rfl
      obtain ⟨_, qr145, hqr146⟩ := hO.2.1 23 _ (sg_23 G h0 a _ _ _ _ _)
      refine pn_V0 (G := G) (As := [.int 36, .int 37]) (rest := [.ref q118]) hx hb hml hown hq hE hX pX0_al hP hD hS hA hl.1 (P_bracketed l G h0 a (upd (upd (upd (upd (upd F 2 (nI sz)) 9 (nI at9)) 10 (nI dp)) 11 (nI sg)) 9 (nI at13)) R Z (updA B 10 f14) J K127 w 36 37 n at13 sz dp sg 0 (gset g q118 0 0 0) (by omega) (by omega) (by omega) (by omega) hns138.1 (fun o9 h9 => absurd h9 (by omega)) (by decide) (by decide) ihe hO hl0) (gV pw_954 pw_955 pw_956 pw_796 pw_922) hV_X8_bracketed qr145 5 hqr146 rfl rfl rfl (Nat.le_of_ble_eq_true rfl) dX8_made_87 ⟨(by show 1 + (2 * (sz - at13) + 18) ≤ (2 * (sz - at9) + 19); omega), (by show 11 + (11 * (2 * (sz - at13) + 18)) ≤ (11 * (2 * (sz - at9) + 19)); omega)⟩ ⟨(by show (40 * n + 10) + 1 ≤ (40 * n + 14); omega), (by show 8 + (4 + 11) + (1300 * n + 330) ≤ (1300 * n + 440); omega)⟩ (fun v144 u142 H locs hw143 hP hD hS => ?_) (fun ux ce9 q9 H9 locs9 hux hP9 hD9 hS9 hce hcv hcl => pb_out ux (ThQ.up (Thx.same (Thx.same (Thx.same (Thx.same (Thx.b (Thx.f Thx.rfl (by omega)) (by omega) (by decide)) rfl) rfl) rfl) rfl) RhX.rfl hux) hnt hlocks hce hcv hcl hP9 hD9 hS9 (by show 1 + (2 * (sz - at13) + 18) ≤ (2 * (sz - at9) + 19); omega) (by show 11 + (11 * (2 * (sz - at13) + 18)) ≤ (11 * (2 * (sz - at9) + 19)); omega))
      obtain ⟨w, r147, K148, g149, at150, sg151, f152, k153⟩ := u142
      obtain ⟨hw143, h154, h155, h156, h157, h158, h159, h160, hO⟩ := hw143
      have h154 : NwR K127 K148 (gset g q118 0 0 0) g149 r147 0 k153 (5 * (20 - (dp + 1)) + 6 + (sg151 - sg)) := h154
      have h155 : at13 + 1 ≤ rS k153 ∧ rS k153 + 1 ≤ rE k153 ∧ rE k153 + 1 ≤ at150 ∧ 1 ≤ rD k153 ∧ rD k153 ≤ 9 * (20 - (dp + 1)) + (sg151 - sg) + 1 := h155
      have h156 : at13 + 3 ≤ at150 ∧ at150 ≤ sz := h156
      have h157 : sg ≤ sg151 ∧ sg151 ≤ 60 := h157
      have h158 : dp + 1 ≤ 20 := h158
      have h159 : ¬ tkN ((B 7)) sz 67 (nI (at13 + 1)) = 37 := h159
      have h160 : NwT ((B 7)) sz (f14) f152 K127 K148 at13 at150 := h160
      obtain rfl : v144 = some (.ref r147) := hw143
      have hf161 : K148.1 q118 = 1 := (((h154).2.1.1 q118 (by rw [hf130]; decide)).1).trans hf130
      have hf162 : K148.2.1 0 q118 = 9 := (((h154).2.1.1 q118 (by rw [hf130]; decide)).2.1 0).trans hf131
      have hf163 : K148.2.1 2 q118 = (nI at9) := (((h154).2.1.1 q118 (by rw [hf130]; decide)).2.1 2).trans hf132
      have hf164 : K148.2.2.1 0 q118 = none := (((h154).2.1.1 q118 (by rw [hf130]; decide)).2.2.1 0).trans hf133
      have hf165 : K148.2.2.1 1 q118 = none := (((h154).2.1.1 q118 (by rw [hf130]; decide)).2.2.1 1).trans hf134
      have hf166 : K148.2.2.1 2 q118 = none := (((h154).2.1.1 q118 (by rw [hf130]; decide)).2.2.1 2).trans hf135
      have hf167 : K148.2.2.1 3 q118 = none := (((h154).2.1.1 q118 (by rw [hf130]; decide)).2.2.1 3).trans hf136
      have hf168 : K148.2.2.1 4 q118 = none := (((h154).2.1.1 q118 (by rw [hf130]; decide)).2.2.1 4).trans hf137
      have hO : OKP G h0 a (upd (upd (upd (upd F 2 (nI sz)) 9 (nI at150)) 10 (nI dp)) 11 (nI sg151)) R Z (updA B 10 f152) J K148 w := hO.to rfl
      refine W.widen (k := (1 + (2 * (at150 - at13) - 5))) (n := (11 + (11 * (2 * (at150 - at13) - 5)))) (by show 1 + (2 * (at150 - at13) - 5) ≤ (1 + (2 * (at150 - at13) - 5)); omega) (by show 11 + (11 * (2 * (at150 - at13) - 5)) ≤ (11 + (11 * (2 * (at150 - at13) - 5))); omega) ?_
      refine W.eq (g2 := F0 m 90 ls [.ref r147, .ref q118]) rfl ?_
      have htk169 : NwT (B 7) sz f14 f152 K127 K148 at13 at150 := (NwT.call htk129 h160 (by omega))
      have hns170 : NwS K K148 g g149 := NwS.call hns138 h154 (fun o9 h9 => absurd h9 (by omega))
      have hrk171 : g149 2 r147 = k153 := h154.2.2.1.2.2.2.2.2.1
      have hf172 : K148.1 r147 = 1 := h154.2.2.1.2.1
      have hg173 : g149 0 q118 = 0 := (h154.2.1.2 q118 (by rw [hf130]; decide) 0).trans hg140
      have hno174 : NoO K148 g149 q118 := NoO.call hno141 h154 hf130 (by omega)
      refine p_put (v := .ref r147) (ty := (.object "JinjaTongue$Node")) (C := RX7) (Tc := TX7) (N := 11) (ci := 13) (K' := (kC K148 0 q118 (some r147))) hx hb hq pin_wsX70 tyX7 tyX7_ok nmX7 hown hE hP hD hS hO (by rw [hf161]; decide) (rep_1 hf161) rfl 6 (by decide) (hq _ pw_938) (fun _ h9 => h9) rfl (by decide +kernel) rfl rfl (Nat.le_of_ble_eq_true rfl) rfl (by rw [rep_1 (show (kC K148 0 q118 (some r147)).1 q118 = 1 from hf161), pc_0] <;> rfl) (fun p9 hp9 => rep_kC hp9) dX8_made_90 (fun H locs w hP hD hS hO => ?_)
      obtain ⟨K175, hK176⟩ : ∃ z : PK, z = (kC K148 0 q118 (some r147)) := ⟨_, rfl⟩
      rw [← hK176] at hO
      have hf177 : K175.1 q118 = 1 := (by rw [hK176]; exact hf161)
      have hf178 : K175.2.1 0 q118 = 9 := (by rw [hK176]; exact hf162)
      have hf179 : K175.2.1 2 q118 = (nI at9) := (by rw [hK176]; exact hf163)
      have hf180 : K175.2.2.1 1 q118 = none := (by rw [hK176]; exact (kC_of (by decide)).trans hf165)
      have hf181 : K175.2.2.1 2 q118 = none := (by rw [hK176]; exact (kC_of (by decide)).trans hf166)
      have hf182 : K175.2.2.1 3 q118 = none := (by rw [hK176]; exact (kC_of (by decide)).trans hf167)
      have hf183 : K175.2.2.1 4 q118 = none := (by rw [hK176]; exact (kC_of (by decide)).trans hf168)
      have hf184 : K175.1 r147 = 1 := (by rw [hK176]; exact hf172)
      have hf185 : K175.2.2.1 0 q118 = some r147 := by rw [hK176]; exact kC_eq
      have htk186 : NwT (B 7) sz f14 f152 K127 K175 at13 at150 := by rw [hK176]; exact NwT.put htk169
      have hns187 : NwS K K175 g g149 := by rw [hK176]; exact NwS.put hns170 hq139 hg173
      have hno188 : NoO K175 g149 q118 := by rw [hK176]; exact hno174
      refine lv_aload_n hx hb dX8_made_93 rfl (lv_at hl 0 rfl) ?_
      refine W_size (fun hz1 hz2 => ?_)
      refine vx_ret ?_
      obtain ⟨k9189, k9189I, k9189S, k9189E, k9189M, k9189N, k9189X, k9189D⟩ := rk_ex (s := at9) (e := at150) (m := at9) (n := at9) (x := 0) (d := (9 * (20 - dp) + (sg151 - sg) + 1)) (by omega)
      have hlr := h154.2.2.1
      have hlr1 := hlr.2.2.1
      have hlr2 := hlr.2.2.2.1
      have hkid : ∀ f9 y9 : Nat, f9 ≤ 3 → K175.2.2.1 f9 q118 = some y9 → K175.1 y9 = 1 ∧ 1 ≤ g149 0 y9 ∧ g149 0 y9 < (5 * (20 - dp) + 2 + (sg151 - sg)) := by
        intro f9 y9 hf9 hy9
        rcases (show f9 = 0 ∨ f9 = 1 ∨ f9 = 2 ∨ f9 = 3 by omega) with rfl | rfl | rfl | rfl
        · rw [hf185] at hy9; cases hy9; exact ⟨hf184, hlr1, by omega⟩
        · rw [hf180] at hy9; cases hy9
        · rw [hf181] at hy9; cases hy9
        · rw [hf182] at hy9; cases hy9
      have hkc190 : ∀ f9 y9 : Nat, f9 ≤ 3 → K175.2.2.1 f9 q118 = some y9 → Kch (K175.2.1 0 q118) f9 (K175.2.1 0 y9) k9189 (g149 2 y9) := by
        intro f9 y9 hf9 hy9
        rcases (show f9 = 0 ∨ f9 = 1 ∨ f9 = 2 ∨ f9 = 3 by omega) with rfl | rfl | rfl | rfl
        · rw [hf185] at hy9; cases hy9; rw [hrk171]; rw [hf178] <;> exact ⟨(fun z => absurd z (by decide)), (fun z => absurd z (by decide)), (fun z => absurd z (by decide)), (fun _ _ => (by omega)), (fun z => absurd z (by decide)), (fun z => absurd z (by decide)), (fun z => absurd z (by decide)), (fun z => absurd z (by decide)), (fun z => absurd z (by decide)), (fun z => absurd z (by decide)), (fun z => absurd z (by decide)), (fun z => absurd z (by decide)), (fun z => absurd z (by decide)), (fun z => absurd z (by decide)), (fun z => absurd z (by decide)), (fun z => absurd z (by decide)), (fun z => absurd z (by decide)), (fun z => absurd z (by decide)), (fun z => absurd z (by decide)), (fun z => absurd z (by decide)), (fun z => absurd z (by decide)), (fun z => absurd z (by decide)), (fun z => absurd z (by decide)), (fun z => absurd z (by decide))⟩
        · rw [hf180] at hy9; cases hy9
        · rw [hf181] at hy9; cases hy9
        · rw [hf182] at hy9; cases hy9
      have hdn := NwS.done1I (q := q118) (L := (5 * (20 - dp) + 2 + (sg151 - sg))) (O := O) (k := k9189) hns187 hq139 hf177 hg173 (by omega) ⟨k9189I, (by rw [hf178] <;> exact ⟨(fun z => absurd z (by decide)), (fun z => absurd z (by decide)), (fun z => absurd z (by decide))⟩)⟩ (by rw [hf178]; exact ⟨fun _ => (by show ¬ K175.2.2.1 0 q118 = none; rw [hf185]; intro z; cases z), fun z => absurd z (by decide), fun z => absurd z (by decide), fun z => absurd z (by decide), fun z => absurd z (by decide)⟩) (fun f9 z => by rw [hf178] at z; rcases z with ⟨z, _⟩ | ⟨z | z | z, _⟩ <;> exact absurd z (by decide)) hkid hf183 hno188 hkc190 how
      have hz191 : NwR K K175 g (gset g149 q118 (5 * (20 - dp) + 2 + (sg151 - sg)) O k9189) q118 O k9189 ((5 * (20 - dp) + 2 + (sg151 - sg))) := hdn
      have hz192 : at9 ≤ rS k9189 ∧ rS k9189 + 1 ≤ rE k9189 ∧ rE k9189 ≤ at150 ∧ 1 ≤ rD k9189 ∧ rD k9189 ≤ 9 * (20 - dp) + (sg151 - sg) + 1 := (by omega)
      have hz193 : at9 + 4 ≤ at150 ∧ at150 ≤ sz := (by omega)
      have hz194 : sg ≤ sg151 ∧ sg151 ≤ 60 := (by omega)
      have hz195 : NwT (B 7) sz (B 10) f152 K K175 at9 at150 := (NwT.late htk19 hq119 (by rw [← hK128]; exact htk186) (by omega) (TkP.kk9 ⟨(at9 + 1), by omega, rfl, TtQ.ar h17 (htk186.2.1 (at9 + 1) (by omega)), (by rw [show (at9 + 1) + 2 = at13 + 1 from by omega]; exact h159)⟩))
      have hO : OKP G h0 a (upd (upd (upd (upd F 2 (nI sz)) 9 (nI at150)) 10 (nI dp)) 11 (nI sg151)) R Z (updA B 10 f152) J K175 w := hO.to rfl
      refine W.widen (k := (2 * (sz - at9) + 19)) (n := (11 * (2 * (sz - at9) + 19))) (by omega) (by omega) ?_
      have hzz1 : H.size ≤ s.heap.size + ((2 * (at150 - at9) - 5)) := (by have z : (1 + (2 * (at150 - at13) - 5)) ≤ (2 * (at150 - at9) - 5) := (by omega); omega)
      have hzz2 : hSl H ≤ hSl s.heap + ((11 * (2 * (at150 - at9) - 5))) := (by have z : (11 + (11 * (2 * (at150 - at13) - 5))) ≤ (11 * (2 * (at150 - at9) - 5)) := (by omega); omega)
      exact W.aret (v := .ref q118) hx hb hr (Or.inl ⟨_, rfl⟩) (Or.inr ⟨_, rfl⟩) (fun t99 ht99 hW99 => ⟨⟨_, (w, (q118, K175, (gset g149 q118 (5 * (20 - dp) + 2 + (sg151 - sg)) O k9189), at150, sg151, f152, k9189)), rfl, ⟨rfl, hz191, hz192, hz193, hz194, hz195, hO⟩, by rw [ht99]; exact hP, hD, by rw [ht99]; exact hzz1, by rw [ht99]; exact hzz2⟩, hS.F ht99⟩) hS.2.2 dX8_made_94
    · have n196 : ¬ (r113 = 0) := fun h9 => c116 ((nI_eq (a := r113) (b := 0) (by omega) (by omega)).mpr h9)
      refine lv_aload_n hx hb dX8_made_35 rfl (lv_at hl 2 rfl) ?_
      refine c_get (v := .ref (a 1)) (C := RX8) (Tc := TX8) (N := 5) (ci := 5) hx hb hq pin_wsX80 hown hE hP hO 23 (sg_23 G h0 a _ _ _ _ _) rfl 0 (by decide) (hq _ pw_774) (fun _ h9 => h9) rfl dX8_made_36 ?_
      refine lv_iload_n hx hb dX8_made_39 rfl (lv_at hl 0 rfl) ?_
      refine lv_iconst (v := 2) hx hb dX8_made_40 (by decide) ?_
      have hO : OKW G h0 a (upd (upd (upd (upd (upd F 2 (nI sz)) 9 (nI at13)) 10 (nI dp)) 11 (nI sg)) 2 (nI sz)) R Z (updA B 10 f14) J K.1 (fun q99 x99 => x99 = rep G a K q99) w := hO.to rfl
      obtain ⟨_, qr200, hqr201⟩ := hO.2.1 2 _ (sg_2 G h0 a _ _ _ _ _)
      refine pc_V0 (G := G) (As := [.int (nI (at9 + 1)), .int 2]) (rest := []) hx hb hml hown hq hE hX pX0_al hP hD hS hA hl.1 (K_giveRoleX l G h0 a (upd (upd (upd (upd F 2 (nI sz)) 9 (nI at13)) 10 (nI dp)) 11 (nI sg)) R Z (updA B 10 f14) J K.1 (fun q99 x99 => x99 = rep G a K q99) w (at9 + 1) 2 sz (by omega) (by omega) (by first | decide | rfl) hO) (gV pw_822 pw_823 pw_824 pw_59 pw_819) hV_X10_giveRole qr200 7 hqr201 rfl rfl rfl (Nat.le_of_ble_eq_true rfl) dX8_made_41 ⟨(by show 0 + 0 ≤ (2 * (sz - at9) + 19); omega), (by show 0 + 0 ≤ (11 * (2 * (sz - at9) + 19)); omega)⟩ ⟨(by show 2 + 1 ≤ (40 * n + 14); omega), (by show 8 + (3 + 11) + 60 ≤ (1300 * n + 440); omega)⟩ (fun v199 u197 H locs hw198 hP hD hS => ?_)
      obtain ⟨w, _⟩ := u197
      obtain ⟨hw198, hO⟩ := hw198
      obtain rfl : v199 = none := hw198
      have hO : OKP G h0 a (upd (upd (upd (upd F 2 (nI sz)) 9 (nI at13)) 10 (nI dp)) 11 (nI sg)) R Z (updA B 10 (upd (f14) (at9 + 1) 2)) J K w := hO.to rfl
      refine W.widen (k := 0) (n := 0) (Nat.le_of_ble_eq_true rfl) (Nat.le_of_ble_eq_true rfl) ?_
      refine W.eq (g2 := F0 m 44 ls []) rfl ?_
      have htk202 : NwT (B 7) sz (B 10) (upd (f14) (at9 + 1) 2) K K at9 (at9 + 1) := (NwT.role0 htk19 (RoS.upd (fun _ _ => rfl) (by omega)))
      refine lv_aload_n hx hb dX8_made_44 rfl (lv_at hl 2 rfl) ?_
      refine lv_bipush (v := 34) hx hb dX8_made_45 (by decide) ?_
      have hO : OKW G h0 a (upd (upd (upd (upd (upd (upd (upd (upd F 2 (nI sz)) 9 (nI at9)) 10 (nI dp)) 11 (nI sg)) 9 (nI at13)) 2 (nI sz)) 9 (nI at13)) 10 (nI dp)) R Z (updA B 10 (upd (f14) (at9 + 1) 2)) J K.1 (fun q99 x99 => x99 = rep G a K q99) w := hO.to rfl
      obtain ⟨_, qr206, hqr207⟩ := hO.2.1 23 _ (sg_23 G h0 a _ _ _ _ _)
      refine pn_V0 (G := G) (As := [.int 34]) (rest := []) hx hb hml hown hq hE hX pX0_al hP hD hS hA hl.1 (P_openBracket l G h0 a (upd (upd (upd (upd (upd F 2 (nI sz)) 9 (nI at9)) 10 (nI dp)) 11 (nI sg)) 9 (nI at13)) R Z (updA B 10 (upd (f14) (at9 + 1) 2)) J K.1 (fun q99 x99 => x99 = rep G a K q99) w 34 dp at13 sz (by omega) (by omega) (by decide) (by omega) hO hl0) (gV pw_913 pw_914 pw_915 pw_796 pw_900) hV_X8_openBracket qr206 5 hqr207 rfl rfl rfl (Nat.le_of_ble_eq_true rfl) dX8_made_47 ⟨(by show 0 + 1 ≤ (2 * (sz - at9) + 19); omega), (by show 0 + 6 ≤ (11 * (2 * (sz - at9) + 19)); omega)⟩ ⟨(by show 7 + 1 ≤ (40 * n + 14); omega), (by show 8 + (2 + 11) + 122 ≤ (1300 * n + 440); omega)⟩ (fun v205 u203 H locs hw204 hP hD hS => ?_) (fun ux ce9 q9 H9 locs9 hux hP9 hD9 hS9 hce hcv hcl => pb_out ux (ThQ.up (Thx.same (Thx.same (Thx.same (Thx.b (Thx.f Thx.rfl (by omega)) (by omega) (by decide)) rfl) rfl) rfl) RhX.rfl hux) hnt hlocks hce hcv hcl hP9 hD9 hS9 (by show 0 + 1 ≤ (2 * (sz - at9) + 19); omega) (by show 0 + 6 ≤ (11 * (2 * (sz - at9) + 19)); omega))
      obtain ⟨w, _⟩ := u203
      obtain ⟨hw204, h208, h209, hO⟩ := hw204
      have h208 : at13 + 1 ≤ sz ∧ dp + 1 ≤ 20 := h208
      have h209 : tkN ((B 7)) sz 67 (nI at13) = 34 := h209
      obtain rfl : v205 = none := hw204
      have hO : OKP G h0 a (upd (upd (upd (upd F 2 (nI sz)) 9 (nI (at13 + 1))) 10 (nI (dp + 1))) 11 (nI sg)) R Z (updA B 10 (upd (f14) (at9 + 1) 2)) J K w := hO.to rfl
      refine W.widen (k := 0) (n := 0) (by show 0 + 0 ≤ 0; omega) (by show 0 + 0 ≤ 0; omega) ?_
      refine W.eq (g2 := F0 m 50 ls []) rfl ?_
      refine lv_aload_n hx hb dX8_made_50 rfl (lv_at hl 2 rfl) ?_
      refine lv_bipush (v := 35) hx hb dX8_made_51 (by decide) ?_
      have hO : OKW G h0 a (upd (upd (upd (upd (upd (upd (upd (upd (upd F 2 (nI sz)) 9 (nI at9)) 10 (nI dp)) 11 (nI sg)) 9 (nI (at13 + 1))) 10 (nI (dp + 1))) 2 (nI sz)) 9 (nI (at13 + 1))) 10 (nI (dp + 1))) R Z (updA B 10 (upd (f14) (at9 + 1) 2)) J K.1 (fun q99 x99 => x99 = rep G a K q99) w := hO.to rfl
      obtain ⟨_, qr213, hqr214⟩ := hO.2.1 23 _ (sg_23 G h0 a _ _ _ _ _)
      refine pn_V0 (G := G) (As := [.int 35]) (rest := []) hx hb hml hown hq hE hX pX0_al hP hD hS hA hl.1 (P_closeBracket l G h0 a (upd (upd (upd (upd (upd (upd F 2 (nI sz)) 9 (nI at9)) 10 (nI dp)) 11 (nI sg)) 9 (nI (at13 + 1))) 10 (nI (dp + 1))) R Z (updA B 10 (upd (f14) (at9 + 1) 2)) J K.1 (fun q99 x99 => x99 = rep G a K q99) w 35 (dp + 1) (at13 + 1) sz (by omega) (by omega) (by decide) (by omega) hO hl0) (gV pw_919 pw_920 pw_921 pw_796 pw_902) hV_X8_closeBracket qr213 5 hqr214 rfl rfl rfl (Nat.le_of_ble_eq_true rfl) dX8_made_53 ⟨(by show 0 + 1 ≤ (2 * (sz - at9) + 19); omega), (by show 0 + 6 ≤ (11 * (2 * (sz - at9) + 19)); omega)⟩ ⟨(by show 7 + 1 ≤ (40 * n + 14); omega), (by show 8 + (2 + 11) + 122 ≤ (1300 * n + 440); omega)⟩ (fun v212 u210 H locs hw211 hP hD hS => ?_) (fun ux ce9 q9 H9 locs9 hux hP9 hD9 hS9 hce hcv hcl => pb_out ux (ThQ.up (Thx.same (Thx.same (Thx.same (Thx.b (Thx.f (Thx.f Thx.rfl (by omega)) (by omega)) (by omega) (by decide)) rfl) rfl) rfl) RhX.rfl hux) hnt hlocks hce hcv hcl hP9 hD9 hS9 (by show 0 + 1 ≤ (2 * (sz - at9) + 19); omega) (by show 0 + 6 ≤ (11 * (2 * (sz - at9) + 19)); omega))
      obtain ⟨w, _⟩ := u210
      obtain ⟨hw211, h215, hO⟩ := hw211
      have h215 : (at13 + 1) + 1 ≤ sz := h215
      obtain rfl : v212 = some (.int (nI (at13 + 1))) := hw211
      have hO : OKP G h0 a (upd (upd (upd (upd F 2 (nI sz)) 9 (nI ((at13 + 1) + 1))) 10 (nI ((dp + 1) - 1))) 11 (nI sg)) R Z (updA B 10 (upd (f14) (at9 + 1) 2)) J K w := hO.to rfl
      refine W.widen (k := 0) (n := 0) (by show 0 + 0 ≤ 0; omega) (by show 0 + 0 ≤ 0; omega) ?_
      refine W.eq (g2 := F0 m 56 ls [.int (nI (at13 + 1))]) rfl ?_
      refine lv_pop hx hb dX8_made_56 rfl ?_
      refine p_new (s9 := 1) (C := RX7) (T := TX7) (N := 11) (ci := 13) (fs := [.int 0, .int 0, .int 0, .int 0, .int 0, .int 0, .null, .null, .null, .null, .null]) hx hb hq pin_wsX70 tyX7 tyX7_ok hown (hq _ pw_870) (hq _ pw_871) (hq _ pw_872) hE hP hD hS hA hO rfl nw_X7 (by decide) (fun q => by rw [rep_1 (show (kN K q 1 0).1 q = 1 from if_pos rfl)]; unfold fsNode kN; simp only [if_true]; rfl) (by show 0 + 1 ≤ (2 * (sz - at9) + 19); omega) (by show 0 + 11 ≤ (11 * (2 * (sz - at9) + 19)); omega) dX8_made_57 (fun q216 H w hq217 hP hD hS hO => ?_)
      have hf218 : (kN K q216 1 0).1 q216 = 1 := if_pos rfl
      refine W.widen (k := 1) (n := 11) (by show 0 + 1 ≤ 1; omega) (by show 0 + 11 ≤ 11; omega) ?_
      refine lv_dup hx hb dX8_made_60 rfl ?_
      refine lv_bipush (v := 8) hx hb dX8_made_61 (by decide) ?_
      refine lv_iload_n hx hb dX8_made_63 rfl (lv_at hl 0 rfl) ?_
      refine lv_iload_n hx hb dX8_made_64 rfl (lv_at hl 1 rfl) ?_
      have hO : OKP G h0 a (upd (upd (upd (upd F 2 (nI sz)) 9 (nI ((at13 + 1) + 1))) 10 (nI ((dp + 1) - 1))) 11 (nI sg)) R Z (updA B 10 (upd (f14) (at9 + 1) 2)) J (kN K q216 1 0) w := hO.to rfl
      obtain ⟨qr222, hqr223⟩ := p_recv hO (by rw [hf218]; decide) (rep_1 hf218)
      refine pc_I0 (G := G) (As := [.int 8, .int (nI (at9 + 1)), .int (nI at9)]) (rest := [.ref q216]) hx hb hml hown hq hE hX pX0_al hP hD hS hA hl.1 (N_init l G h0 a (upd (upd (upd (upd F 2 (nI sz)) 9 (nI ((at13 + 1) + 1))) 10 (nI ((dp + 1) - 1))) 11 (nI sg)) R Z (updA B 10 (upd (f14) (at9 + 1) 2)) J (kN K q216 1 0) w q216 8 (nI (at9 + 1)) (nI at9) (by omega) hO) pw_874 pw_875 pw_872 pw_765 rfl hS_X7_init rfl (Nat.le_of_ble_eq_true rfl) dX8_made_65 ⟨(by show 1 + 0 ≤ (2 * (sz - at9) + 19); omega), (by show 11 + 0 ≤ (11 * (2 * (sz - at9) + 19)); omega)⟩ ⟨(by show 2 + 1 ≤ (40 * n + 14); omega), (by show 8 + (4 + 11) + 60 ≤ (1300 * n + 440); omega)⟩ (fun v221 u219 H locs hw220 hP hD hS => ?_)
      obtain ⟨w, _⟩ := u219
      obtain ⟨hw220, hO⟩ := hw220
      obtain rfl : v221 = none := hw220
      have hf224 : (kI (kI (kI (kN K q216 1 0) 0 q216 8) 1 q216 (nI (at9 + 1))) 2 q216 (nI at9)).1 q216 = 1 := hf218
      have hO : OKP G h0 a (upd (upd (upd (upd F 2 (nI sz)) 9 (nI ((at13 + 1) + 1))) 10 (nI ((dp + 1) - 1))) 11 (nI sg)) R Z (updA B 10 (upd (f14) (at9 + 1) 2)) J (kI (kI (kI (kN K q216 1 0) 0 q216 8) 1 q216 (nI (at9 + 1))) 2 q216 (nI at9)) w := hO.to rfl
      refine W.widen (k := 1) (n := 11) (by show 1 + 0 ≤ 1; omega) (by show 11 + 0 ≤ 11; omega) ?_
      refine W.eq (g2 := F0 m 68 ls [.ref q216]) rfl ?_
      change OKP G h0 a (upd (upd (upd (upd F 2 (nI sz)) 9 (nI ((at13 + 1) + 1))) 10 (nI ((dp + 1) - 1))) 11 (nI sg)) R Z (updA B 10 (upd (f14) (at9 + 1) 2)) J (mkN K q216 8 (nI (at9 + 1)) (nI at9)) w at hO
      obtain ⟨K225, hK226⟩ : ∃ z : PK, z = (mkN K q216 8 (nI (at9 + 1)) (nI at9)) := ⟨_, rfl⟩
      rw [← hK226] at hO
      have htk227 : NwT (B 7) sz (B 10) (upd (f14) (at9 + 1) 2) K K225 at9 ((at13 + 1) + 1) := by rw [hK226]; exact NwT.new (NwT.le htk202 (show _ ≤ ((at13 + 1) + 1) by omega)) hq217 (TkP.k8 ⟨(at9 + 1), by omega, rfl, upd_eq, (by rw [← htt20]; exact h209)⟩)
      have hf228 : K225.1 q216 = 1 := by rw [hK226]; exact mkN_T
      have hf229 : K225.2.1 0 q216 = 8 := by rw [hK226]; exact mkN_0
      have hf230 : K225.2.1 2 q216 = (nI at9) := by rw [hK226]; exact mkN_2
      have hf231 : K225.2.2.1 0 q216 = none := by rw [hK226]; exact mkN_C
      have hf232 : K225.2.2.1 1 q216 = none := by rw [hK226]; exact mkN_C
      have hf233 : K225.2.2.1 2 q216 = none := by rw [hK226]; exact mkN_C
      have hf234 : K225.2.2.1 3 q216 = none := by rw [hK226]; exact mkN_C
      have hf235 : K225.2.2.1 4 q216 = none := by rw [hK226]; exact mkN_C
      have hns236 : NwS K K225 g (gset g q216 0 0 0) := by rw [hK226]; exact NwS.node hns0 hq217
      have hq237 : K.1 q216 = 0 := old_T hns0.2.1 hq217
      have hg238 : (gset g q216 0 0 0) 0 q216 = 0 := gset_0
      have hno239 : NoO K225 (gset g q216 0 0 0) q216 := by rw [hK226]; exact NoO.new hns0.1 hq217
      refine W_size (fun hz1 hz2 => ?_)
      refine vx_ret ?_
      obtain ⟨k9240, k9240I, k9240S, k9240E, k9240M, k9240N, k9240X, k9240D⟩ := rk_ex (s := at9) (e := ((at13 + 1) + 1)) (m := at9) (n := at9) (x := 0) (d := (9 * (20 - dp) + (sg - sg) + 1)) (by omega)
      have hkid : ∀ f9 y9 : Nat, f9 ≤ 3 → K225.2.2.1 f9 q216 = some y9 → K225.1 y9 = 1 ∧ 1 ≤ (gset g q216 0 0 0) 0 y9 ∧ (gset g q216 0 0 0) 0 y9 < (5 * (20 - dp) + 2 + (sg - sg)) := by
        intro f9 y9 hf9 hy9
        rcases (show f9 = 0 ∨ f9 = 1 ∨ f9 = 2 ∨ f9 = 3 by omega) with rfl | rfl | rfl | rfl
        · rw [hf231] at hy9; cases hy9
        · rw [hf232] at hy9; cases hy9
        · rw [hf233] at hy9; cases hy9
        · rw [hf234] at hy9; cases hy9
      have hkc241 : ∀ f9 y9 : Nat, f9 ≤ 3 → K225.2.2.1 f9 q216 = some y9 → Kch (K225.2.1 0 q216) f9 (K225.2.1 0 y9) k9240 ((gset g q216 0 0 0) 2 y9) := by
        intro f9 y9 hf9 hy9
        rcases (show f9 = 0 ∨ f9 = 1 ∨ f9 = 2 ∨ f9 = 3 by omega) with rfl | rfl | rfl | rfl
        · rw [hf231] at hy9; cases hy9
        · rw [hf232] at hy9; cases hy9
        · rw [hf233] at hy9; cases hy9
        · rw [hf234] at hy9; cases hy9
      have hdn := NwS.done1I (q := q216) (L := (5 * (20 - dp) + 2 + (sg - sg))) (O := O) (k := k9240) hns236 hq237 hf228 hg238 (by omega) ⟨k9240I, (by rw [hf229] <;> exact ⟨(fun z => absurd z (by decide)), (fun z => absurd z (by decide)), (fun z => absurd z (by decide))⟩)⟩ (by rw [hf229]; exact ⟨fun z => absurd z (by decide), fun z => absurd z (by decide), fun z => absurd z (by decide), fun z => absurd z (by decide), fun z => absurd z (by decide)⟩) (fun f9 z => by rw [hf229] at z; rcases z with ⟨z, _⟩ | ⟨z | z | z, _⟩ <;> exact absurd z (by decide)) hkid hf235 hno239 hkc241 how
      have hz242 : NwR K K225 g (gset (gset g q216 0 0 0) q216 (5 * (20 - dp) + 2 + (sg - sg)) O k9240) q216 O k9240 ((5 * (20 - dp) + 2 + (sg - sg))) := hdn
      have hz243 : at9 ≤ rS k9240 ∧ rS k9240 + 1 ≤ rE k9240 ∧ rE k9240 ≤ ((at13 + 1) + 1) ∧ 1 ≤ rD k9240 ∧ rD k9240 ≤ 9 * (20 - dp) + (sg - sg) + 1 := (by omega)
      have hz244 : at9 + 4 ≤ ((at13 + 1) + 1) ∧ ((at13 + 1) + 1) ≤ sz := (by omega)
      have hz245 : sg ≤ sg ∧ sg ≤ 60 := (by omega)
      have hz246 : NwT (B 7) sz (B 10) (upd (f14) (at9 + 1) 2) K K225 at9 ((at13 + 1) + 1) := (NwT.le htk227 (by omega))
      have hO : OKP G h0 a (upd (upd (upd (upd F 2 (nI sz)) 9 (nI ((at13 + 1) + 1))) 10 (nI dp)) 11 (nI sg)) R Z (updA B 10 (upd (f14) (at9 + 1) 2)) J K225 w := hO.to rfl
      refine W.widen (k := (2 * (sz - at9) + 19)) (n := (11 * (2 * (sz - at9) + 19))) (by omega) (by omega) ?_
      have hzz1 : H.size ≤ s.heap.size + ((2 * (((at13 + 1) + 1) - at9) - 5)) := (by have z : 1 ≤ (2 * (((at13 + 1) + 1) - at9) - 5) := (by omega); omega)
      have hzz2 : hSl H ≤ hSl s.heap + ((11 * (2 * (((at13 + 1) + 1) - at9) - 5))) := (by have z : 11 ≤ (11 * (2 * (((at13 + 1) + 1) - at9) - 5)) := (by omega); omega)
      exact W.aret (v := .ref q216) hx hb hr (Or.inl ⟨_, rfl⟩) (Or.inr ⟨_, rfl⟩) (fun t99 ht99 hW99 => ⟨⟨_, (w, (q216, K225, (gset (gset g q216 0 0 0) q216 (5 * (20 - dp) + 2 + (sg - sg)) O k9240), ((at13 + 1) + 1), sg, (upd (f14) (at9 + 1) 2), k9240)), rfl, ⟨rfl, hz242, hz243, hz244, hz245, hz246, hO⟩, by rw [ht99]; exact hP, hD, by rw [ht99]; exact hzz1, by rw [ht99]; exact hzz2⟩, hS.F ht99⟩) hS.2.2 dX8_made_68
