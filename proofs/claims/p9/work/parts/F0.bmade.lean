theorem dX8_made_0 : decode cX8_made 0 = .ok (.aload_n 0, 1) := by decide +kernel
theorem dX8_made_1 : decode cX8_made 1 = .ok (.bipush 17, 2) := by decide +kernel
theorem dX8_made_3 : decode cX8_made 3 = .ok (.invokevirtual 53, 3) := by decide +kernel
theorem dX8_made_6 : decode cX8_made 6 = .ok (.istore_n 1, 1) := by decide +kernel
theorem dX8_made_7 : decode cX8_made 7 = .ok (.aload_n 0, 1) := by decide +kernel
theorem dX8_made_8 : decode cX8_made 8 = .ok (.iconst 0, 1) := by decide +kernel
theorem dX8_made_9 : decode cX8_made 9 = .ok (.invokevirtual 132, 3) := by decide +kernel
theorem dX8_made_12 : decode cX8_made 12 = .ok (.istore_n 2, 1) := by decide +kernel
theorem dX8_made_13 : decode cX8_made 13 = .ok (.aload_n 0, 1) := by decide +kernel
theorem dX8_made_14 : decode cX8_made 14 = .ok (.getfield 7, 3) := by decide +kernel
theorem dX8_made_17 : decode cX8_made 17 = .ok (.iload_n 2, 1) := by decide +kernel
theorem dX8_made_18 : decode cX8_made 18 = .ok (.invokevirtual 57, 3) := by decide +kernel
theorem dX8_made_21 : decode cX8_made 21 = .ok (.bipush 65, 2) := by decide +kernel
theorem dX8_made_23 : decode cX8_made 23 = .ok (.if_icmp .ne 46, 3) := by decide +kernel
theorem dX8_made_69 : decode cX8_made 69 = .ok (.new 143, 3) := by decide +kernel
theorem dX8_made_72 : decode cX8_made 72 = .ok (.dup, 1) := by decide +kernel
theorem dX8_made_73 : decode cX8_made 73 = .ok (.bipush 9, 2) := by decide +kernel
theorem dX8_made_75 : decode cX8_made 75 = .ok (.iload_n 2, 1) := by decide +kernel
theorem dX8_made_76 : decode cX8_made 76 = .ok (.iload_n 1, 1) := by decide +kernel
theorem dX8_made_77 : decode cX8_made 77 = .ok (.invokespecial 145, 3) := by decide +kernel
theorem dX8_made_80 : decode cX8_made 80 = .ok (.astore_n 3, 1) := by decide +kernel
theorem dX8_made_81 : decode cX8_made 81 = .ok (.aload_n 3, 1) := by decide +kernel
theorem dX8_made_82 : decode cX8_made 82 = .ok (.aload_n 0, 1) := by decide +kernel
theorem dX8_made_83 : decode cX8_made 83 = .ok (.bipush 36, 2) := by decide +kernel
theorem dX8_made_85 : decode cX8_made 85 = .ok (.bipush 37, 2) := by decide +kernel
theorem dX8_made_87 : decode cX8_made 87 = .ok (.invokevirtual 280, 3) := by decide +kernel
theorem dX8_made_90 : decode cX8_made 90 = .ok (.putfield 165, 3) := by decide +kernel
theorem dX8_made_93 : decode cX8_made 93 = .ok (.aload_n 3, 1) := by decide +kernel
theorem dX8_made_94 : decode cX8_made 94 = .ok (.areturn, 1) := by decide +kernel
theorem dX8_made_26 : decode cX8_made 26 = .ok (.aload_n 0, 1) := by decide +kernel
theorem dX8_made_27 : decode cX8_made 27 = .ok (.bipush 34, 2) := by decide +kernel
theorem dX8_made_29 : decode cX8_made 29 = .ok (.invokevirtual 36, 3) := by decide +kernel
theorem dX8_made_32 : decode cX8_made 32 = .ok (.ifCond .eq 37, 3) := by decide +kernel
theorem dX8_made_35 : decode cX8_made 35 = .ok (.aload_n 0, 1) := by decide +kernel
theorem dX8_made_36 : decode cX8_made 36 = .ok (.getfield 7, 3) := by decide +kernel
theorem dX8_made_39 : decode cX8_made 39 = .ok (.iload_n 2, 1) := by decide +kernel
theorem dX8_made_40 : decode cX8_made 40 = .ok (.iconst 2, 1) := by decide +kernel
theorem dX8_made_41 : decode cX8_made 41 = .ok (.invokevirtual 64, 3) := by decide +kernel
theorem dX8_made_44 : decode cX8_made 44 = .ok (.aload_n 0, 1) := by decide +kernel
theorem dX8_made_45 : decode cX8_made 45 = .ok (.bipush 34, 2) := by decide +kernel
theorem dX8_made_47 : decode cX8_made 47 = .ok (.invokevirtual 283, 3) := by decide +kernel
theorem dX8_made_50 : decode cX8_made 50 = .ok (.aload_n 0, 1) := by decide +kernel
theorem dX8_made_51 : decode cX8_made 51 = .ok (.bipush 35, 2) := by decide +kernel
theorem dX8_made_53 : decode cX8_made 53 = .ok (.invokevirtual 287, 3) := by decide +kernel
theorem dX8_made_56 : decode cX8_made 56 = .ok (.pop, 1) := by decide +kernel
theorem dX8_made_57 : decode cX8_made 57 = .ok (.new 143, 3) := by decide +kernel
theorem dX8_made_60 : decode cX8_made 60 = .ok (.dup, 1) := by decide +kernel
theorem dX8_made_61 : decode cX8_made 61 = .ok (.bipush 8, 2) := by decide +kernel
theorem dX8_made_63 : decode cX8_made 63 = .ok (.iload_n 2, 1) := by decide +kernel
theorem dX8_made_64 : decode cX8_made 64 = .ok (.iload_n 1, 1) := by decide +kernel
theorem dX8_made_65 : decode cX8_made 65 = .ok (.invokespecial 145, 3) := by decide +kernel
theorem dX8_made_68 : decode cX8_made 68 = .ok (.areturn, 1) := by decide +kernel
set_option maxHeartbeats 16000000 in
set_option maxRecDepth 100000 in
theorem P_made (l : Launch) (G : pT) (h0 : Nat) (a : Nat → Nat) (F : Nat → Int32) (R : Nat → Value) (Z : Int64) (B : Nat → Nat → Int32) (J : Nat → Nat → Int64) (K : PK) (w : va_W) (n : Nat) (at9 : Nat) (sz : Nat) (dp : Nat) (sg : Nat) (O : Nat) (g : Nat → Nat → Nat) (hsz : sz ≤ 5000) (hat : at9 ≤ sz) (hdp : dp + n = 20) (hsg : sg ≤ 60) (hwn : WN K g) (how : ∀ o : Nat, O = o + 1 → K.1 o = 1 ∧ g 0 o = 0 ∧ ¬ K.2.1 0 o = 32) (ihe : IhE l G n) (hO : OKP G h0 a (upd (upd (upd (upd F 2 (nI sz)) 9 (nI at9)) 10 (nI dp)) 11 (nI sg)) R Z B J K w) (hl0 : l.stackTraces = false) : PBn l G pX0 yX8_made cX8_made 4 (some (.object "JinjaTongue$Node")) ({ frames := (40 * n + 14), cells := (2 * (sz - at9) + 19), slots := (11 * (2 * (sz - at9) + 19)), locals := (1300 * n + 440) }) [.ref (a 3)] w (fun (v : Option Value) (u : va_W × (Nat × PK × (Nat → Nat → Nat) × Nat × Nat × (Nat → Int32))) => v = some (.ref u.2.1) ∧ (NwR K u.2.2.1 g u.2.2.2.1 u.2.1 O at9 ((5 * (20 - dp) + 2 + (u.2.2.2.2.2.1 - sg)))) ∧ (at9 + 4 ≤ u.2.2.2.2.1 ∧ u.2.2.2.2.1 ≤ sz) ∧ (sg ≤ u.2.2.2.2.2.1 ∧ u.2.2.2.2.2.1 ≤ 60) ∧ (OKP G h0 a (upd (upd (upd (upd F 2 (nI sz)) 9 (nI u.2.2.2.2.1)) 10 (nI dp)) 11 (nI u.2.2.2.2.2.1)) R Z (updA B 10 u.2.2.2.2.2.2) J u.2.2.1 u.1)) (fun u => u.1) (fun (u : va_W × (Nat × PK × (Nat → Nat → Nat) × Nat × Nat × (Nat → Int32))) => (2 * (u.2.2.2.2.1 - at9) - 5)) (fun (u : va_W × (Nat × PK × (Nat → Nat → Nat) × Nat × Nat × (Nat → Int32))) => (11 * (2 * (u.2.2.2.2.1 - at9) - 5))) (fun (u : va_W × (Nat → Int32) × (Nat → Value) × (Nat → Nat → Int32)) => ThQ G h0 a (upd (upd (upd (upd F 2 (nI sz)) 9 (nI at9)) 10 (nI dp)) 11 (nI sg)) R Z B J u) (fun u => u.1) := by
  intro sz
  refine vx_ofW (cc := cX8_made) (maxL := 4) (ret := (some (.object "JinjaTongue$Node"))) (by decide) rfl ?_
  intro p e s m args below meth c s₁ B9 hml hnt hv
  obtain ⟨rfl, hsz, hP, hD0, hE, hX⟩ := hv
  have hx := B9.exec
  have hb := B9.bytes
  have hr := B9.returns
  have hts := atoms_spec (ws := Cond.code yX8_made cX8_made 4 (some (.object "JinjaTongue$Node")) :: pw) B9.pre
  have hq : ∀ w ∈ pw, w.before _ s = true := fun w h => hts w (List.mem_cons_of_mem _ h)
  have hown : s.vm.findClass RX8 = some m.cls := findClass_of_methodNamed B9.named
  have hlocks := B9.notSynchronized
  subst hsz
  have hD := hD0.self (sz := s.heap.size)
  have hA : ∀ q : Nat, s.heap.size ≤ q → va_A w s.heap.size q := fun q h => Or.inr h
  generalize va_A w s.heap.size = A at hD hE hA ⊢
  have hS : va_S A s.heap s.heap [] := va_S.rf
  have hl := lv_entry ([.ref (a 3)]) (n := 4) (Nat.le_of_ble_eq_true rfl)
  rw [lg_entry_eq]
  generalize (lg_sl ([.ref (a 3)]) ++ List.replicate (4 - (lg_sl ([.ref (a 3)])).length) Slot.unset).toArray = ls at hl ⊢
  have hl : lv_has ls 4 [(0, .ref (a 3))] := hl
  have hns0 : NwS K K g g := NwS.nil hwn
  refine lv_aload_n hx hb dX8_made_0 rfl (lv_at hl 0 rfl) ?_
  refine lv_bipush (v := 17) hx hb dX8_made_1 (by decide) ?_
  have hO : OKW G h0 a (upd (upd (upd (upd (upd (upd F 2 (nI sz)) 9 (nI at9)) 10 (nI dp)) 11 (nI sg)) 2 (nI sz)) 9 (nI at9)) R Z B J K.1 (fun q99 x99 => x99 = rep G a K q99) w := hO.to rfl
  obtain ⟨_, qr4, hqr5⟩ := hO.2.1 23 _ (sg_23 G h0 a _ _ _ _ _)
  refine pn_V0 (G := G) (As := [.int 17]) (rest := []) hx hb hml hown hq hE hX pX0_al hP hD hS hA hl.1 (P_take l G h0 a (upd (upd (upd (upd F 2 (nI sz)) 9 (nI at9)) 10 (nI dp)) 11 (nI sg)) R Z B J K.1 (fun q99 x99 => x99 = rep G a K q99) w 17 at9 sz (by omega) (by omega) (by decide) hO hl0) (gV pw_793 pw_794 pw_795 pw_796 pw_781) hV_X8_take qr4 5 hqr5 rfl rfl rfl (Nat.le_of_ble_eq_true rfl) dX8_made_3 ⟨(by show 0 + 1 ≤ (2 * (sz - at9) + 19); omega), (by show 0 + 6 ≤ (11 * (2 * (sz - at9) + 19)); omega)⟩ ⟨(by show 7 + 1 ≤ (40 * n + 14); omega), (by show 8 + (2 + 11) + 122 ≤ (1300 * n + 440); omega)⟩ (fun v3 u1 H locs hw2 hP hD hS => ?_) (fun ux ce9 q9 H9 locs9 hux hP9 hD9 hS9 hce hcv hcl => pb_out ux (ThQ.up (Thx.same (Thx.same Thx.rfl rfl) rfl) RhX.rfl hux) hnt hlocks hce hcv hcl hP9 hD9 hS9 (by show 0 + 1 ≤ (2 * (sz - at9) + 19); omega) (by show 0 + 6 ≤ (11 * (2 * (sz - at9) + 19)); omega))
  obtain ⟨w, _⟩ := u1
  obtain ⟨hw2, h6, hO⟩ := hw2
  have h6 : at9 + 1 ≤ sz := h6
  obtain rfl : v3 = some (.int (nI at9)) := hw2
  have hO : OKP G h0 a (upd (upd (upd (upd F 2 (nI sz)) 9 (nI (at9 + 1))) 10 (nI dp)) 11 (nI sg)) R Z B J K w := hO.to rfl
  refine W.widen (k := 0) (n := 0) (by show 0 + 0 ≤ 0; omega) (by show 0 + 0 ≤ 0; omega) ?_
  refine W.eq (g2 := F0 m 6 ls [.int (nI at9)]) rfl ?_
  refine lv_istore_n (lv' := [(1, .int (nI at9)), (0, .ref (a 3))]) hx hb dX8_made_6 rfl hl (by decide) rfl (fun ls hl => ?_)
  refine lv_aload_n hx hb dX8_made_7 rfl (lv_at hl 1 rfl) ?_
  refine lv_iconst (v := 0) hx hb dX8_made_8 (by decide) ?_
  have hO : OKW G h0 a (upd (upd (upd (upd (upd (upd (upd F 2 (nI sz)) 9 (nI at9)) 10 (nI dp)) 11 (nI sg)) 9 (nI (at9 + 1))) 2 (nI sz)) 9 (nI (at9 + 1))) R Z B J K.1 (fun q99 x99 => x99 = rep G a K q99) w := hO.to rfl
  obtain ⟨_, qr10, hqr11⟩ := hO.2.1 23 _ (sg_23 G h0 a _ _ _ _ _)
  refine pn_V0 (G := G) (As := [.int 0]) (rest := []) hx hb hml hown hq hE hX pX0_al hP hD hS hA hl.1 (P_takeType l G h0 a (upd (upd (upd (upd (upd F 2 (nI sz)) 9 (nI at9)) 10 (nI dp)) 11 (nI sg)) 9 (nI (at9 + 1))) R Z B J K.1 (fun q99 x99 => x99 = rep G a K q99) w 0 (at9 + 1) sz (by omega) (by omega) hO hl0) (gV pw_825 pw_826 pw_827 pw_796 pw_821) hV_X8_takeType qr10 5 hqr11 rfl rfl rfl (Nat.le_of_ble_eq_true rfl) dX8_made_9 ⟨(by show 0 + 1 ≤ (2 * (sz - at9) + 19); omega), (by show 0 + 6 ≤ (11 * (2 * (sz - at9) + 19)); omega)⟩ ⟨(by show 7 + 1 ≤ (40 * n + 14); omega), (by show 8 + (4 + 11) + 122 ≤ (1300 * n + 440); omega)⟩ (fun v9 u7 H locs hw8 hP hD hS => ?_) (fun ux ce9 q9 H9 locs9 hux hP9 hD9 hS9 hce hcv hcl => pb_out ux (ThQ.up (Thx.same (Thx.same (Thx.f Thx.rfl (by omega)) rfl) rfl) RhX.rfl hux) hnt hlocks hce hcv hcl hP9 hD9 hS9 (by show 0 + 1 ≤ (2 * (sz - at9) + 19); omega) (by show 0 + 6 ≤ (11 * (2 * (sz - at9) + 19)); omega))
  obtain ⟨w, at12, f13⟩ := u7
  obtain ⟨hw8, h14, hO⟩ := hw8
  have h14 : (at9 + 1) + 1 ≤ at12 ∧ at12 ≤ sz := h14
  obtain rfl : v9 = some (.int (nI (at9 + 1))) := hw8
  have hO : OKP G h0 a (upd (upd (upd (upd F 2 (nI sz)) 9 (nI at12)) 10 (nI dp)) 11 (nI sg)) R Z (updA B 10 f13) J K w := hO.to rfl
  refine W.widen (k := 0) (n := 0) (by show 0 + 0 ≤ 0; omega) (by show 0 + 0 ≤ 0; omega) ?_
  refine W.eq (g2 := F0 m 12 ls [.int (nI (at9 + 1))]) rfl ?_
  refine lv_istore_n (lv' := [(2, .int (nI (at9 + 1))), (1, .int (nI at9)), (0, .ref (a 3))]) hx hb dX8_made_12 rfl hl (by decide) rfl (fun ls hl => ?_)
  refine lv_aload_n hx hb dX8_made_13 rfl (lv_at hl 2 rfl) ?_
  refine c_get (v := .ref (a 1)) (C := RX8) (Tc := TX8) (N := 5) (ci := 5) hx hb hq pin_wsX80 hown hE hP hO 23 (sg_23 G h0 a _ _ _ _ _) rfl 0 (by decide) (hq _ pw_774) (fun _ h9 => h9) rfl dX8_made_14 ?_
  refine lv_iload_n hx hb dX8_made_17 rfl (lv_at hl 0 rfl) ?_
  have hO : OKW G h0 a (upd (upd (upd (upd (upd F 2 (nI sz)) 9 (nI at12)) 10 (nI dp)) 11 (nI sg)) 2 (nI sz)) R Z (updA B 10 f13) J K.1 (fun q99 x99 => x99 = rep G a K q99) w := hO.to rfl
  obtain ⟨_, qr18, hqr19⟩ := hO.2.1 2 _ (sg_2 G h0 a _ _ _ _ _)
  refine pc_V0 (G := G) (As := [.int (nI (at9 + 1))]) (rest := []) hx hb hml hown hq hE hX pX0_al hP hD hS hA hl.1 (K_kindAt l G h0 a (upd (upd (upd (upd F 2 (nI sz)) 9 (nI at12)) 10 (nI dp)) 11 (nI sg)) R Z (updA B 10 f13) J K.1 (fun q99 x99 => x99 = rep G a K q99) w (nI (at9 + 1)) sz (by omega) hO) (gV pw_777 pw_193 pw_194 pw_59 pw_126) hV_X10_kindAt qr18 7 hqr19 rfl rfl rfl (Nat.le_of_ble_eq_true rfl) dX8_made_18 ⟨(by show 0 + 0 ≤ (2 * (sz - at9) + 19); omega), (by show 0 + 0 ≤ (11 * (2 * (sz - at9) + 19)); omega)⟩ ⟨(by show 2 + 1 ≤ (40 * n + 14); omega), (by show 8 + (2 + 11) + 60 ≤ (1300 * n + 440); omega)⟩ (fun v17 u15 H locs hw16 hP hD hS => ?_)
  obtain ⟨w, r20⟩ := u15
  obtain ⟨hw16, h21, hO⟩ := hw16
  have h21 : r20 = 67 ∨ ∃ t : Nat, (nI (at9 + 1)) = nI t ∧ t < sz := h21
  obtain rfl : v17 = some (.int r20) := hw16
  have hO : OKP G h0 a (upd (upd (upd (upd F 2 (nI sz)) 9 (nI at12)) 10 (nI dp)) 11 (nI sg)) R Z (updA B 10 f13) J K w := hO.to rfl
  refine W.widen (k := 0) (n := 0) (Nat.le_of_ble_eq_true rfl) (Nat.le_of_ble_eq_true rfl) ?_
  refine W.eq (g2 := F0 m 21 ls [.int r20]) rfl ?_
  refine lv_bipush (v := 65) hx hb dX8_made_21 (by decide) ?_
  refine lv_icmp_ne (tgt := 69) hx hb dX8_made_23 (by decide) (fun c22 => ?_) (fun c22 => ?_)
  · refine p_new (s9 := 1) (C := RX7) (T := TX7) (N := 11) (ci := 13) (fs := [.int 0, .int 0, .int 0, .int 0, .int 0, .int 0, .null, .null, .null, .null, .null]) hx hb hq pin_wsX70 tyX7 tyX7_ok hown (hq _ pw_870) (hq _ pw_871) (hq _ pw_872) hE hP hD hS hA hO rfl nw_X7 (by decide) (fun q => by rw [rep_1 (show (kN K q 1 0).1 q = 1 from if_pos rfl)]; unfold fsNode kN; simp only [if_true]; rfl) (by show 0 + 1 ≤ (2 * (sz - at9) + 19); omega) (by show 0 + 11 ≤ (11 * (2 * (sz - at9) + 19)); omega) dX8_made_69 (fun q23 H w hq24 hP hD hS hO => ?_)
    have hf25 : (kN K q23 1 0).1 q23 = 1 := if_pos rfl
    refine W.widen (k := 1) (n := 11) (by show 0 + 1 ≤ 1; omega) (by show 0 + 11 ≤ 11; omega) ?_
    refine lv_dup hx hb dX8_made_72 rfl ?_
    refine lv_bipush (v := 9) hx hb dX8_made_73 (by decide) ?_
    refine lv_iload_n hx hb dX8_made_75 rfl (lv_at hl 0 rfl) ?_
    refine lv_iload_n hx hb dX8_made_76 rfl (lv_at hl 1 rfl) ?_
    have hO : OKP G h0 a (upd (upd (upd (upd F 2 (nI sz)) 9 (nI at12)) 10 (nI dp)) 11 (nI sg)) R Z (updA B 10 f13) J (kN K q23 1 0) w := hO.to rfl
    obtain ⟨qr29, hqr30⟩ := p_recv hO (by rw [hf25]; decide) (rep_1 hf25)
    refine pc_I0 (G := G) (As := [.int 9, .int (nI (at9 + 1)), .int (nI at9)]) (rest := [.ref q23]) hx hb hml hown hq hE hX pX0_al hP hD hS hA hl.1 (N_init l G h0 a (upd (upd (upd (upd F 2 (nI sz)) 9 (nI at12)) 10 (nI dp)) 11 (nI sg)) R Z (updA B 10 f13) J (kN K q23 1 0) w q23 9 (nI (at9 + 1)) (nI at9) (by omega) hO) pw_874 pw_875 pw_872 pw_765 rfl hS_X7_init rfl (Nat.le_of_ble_eq_true rfl) dX8_made_77 ⟨(by show 1 + 0 ≤ (2 * (sz - at9) + 19); omega), (by show 11 + 0 ≤ (11 * (2 * (sz - at9) + 19)); omega)⟩ ⟨(by show 2 + 1 ≤ (40 * n + 14); omega), (by show 8 + (4 + 11) + 60 ≤ (1300 * n + 440); omega)⟩ (fun v28 u26 H locs hw27 hP hD hS => ?_)
    obtain ⟨w, _⟩ := u26
    obtain ⟨hw27, hO⟩ := hw27
    obtain rfl : v28 = none := hw27
    have hf31 : (kI (kI (kI (kN K q23 1 0) 0 q23 9) 1 q23 (nI (at9 + 1))) 2 q23 (nI at9)).1 q23 = 1 := hf25
    have hO : OKP G h0 a (upd (upd (upd (upd F 2 (nI sz)) 9 (nI at12)) 10 (nI dp)) 11 (nI sg)) R Z (updA B 10 f13) J (kI (kI (kI (kN K q23 1 0) 0 q23 9) 1 q23 (nI (at9 + 1))) 2 q23 (nI at9)) w := hO.to rfl
    refine W.widen (k := 1) (n := 11) (by show 1 + 0 ≤ 1; omega) (by show 11 + 0 ≤ 11; omega) ?_
    refine W.eq (g2 := F0 m 80 ls [.ref q23]) rfl ?_
    change OKP G h0 a (upd (upd (upd (upd F 2 (nI sz)) 9 (nI at12)) 10 (nI dp)) 11 (nI sg)) R Z (updA B 10 f13) J (mkN K q23 9 (nI (at9 + 1)) (nI at9)) w at hO
    obtain ⟨K32, hK33⟩ : ∃ z : PK, z = (mkN K q23 9 (nI (at9 + 1)) (nI at9)) := ⟨_, rfl⟩
    rw [← hK33] at hO
    have hf34 : K32.1 q23 = 1 := by rw [hK33]; exact mkN_T
    have hf35 : K32.2.1 0 q23 = 9 := by rw [hK33]; exact mkN_0
    have hf36 : K32.2.1 2 q23 = (nI at9) := by rw [hK33]; exact mkN_2
    have hf37 : K32.2.2.1 0 q23 = none := by rw [hK33]; exact mkN_C
    have hf38 : K32.2.2.1 1 q23 = none := by rw [hK33]; exact mkN_C
    have hf39 : K32.2.2.1 2 q23 = none := by rw [hK33]; exact mkN_C
    have hf40 : K32.2.2.1 3 q23 = none := by rw [hK33]; exact mkN_C
    have hf41 : K32.2.2.1 4 q23 = none := by rw [hK33]; exact mkN_C
    have hns42 : NwS K K32 g (gset g q23 0 0 0) := by rw [hK33]; exact NwS.node hns0 hq24
    have hq43 : K.1 q23 = 0 := old_T hns0.2.1 hq24
    have hg44 : (gset g q23 0 0 0) 0 q23 = 0 := gset_0
    have hno45 : NoO K32 (gset g q23 0 0 0) q23 := by rw [hK33]; exact NoO.new hns0.1 hq24
    refine lv_astore_n (lv' := [(3, .ref q23), (2, .int (nI (at9 + 1))), (1, .int (nI at9)), (0, .ref (a 3))]) hx hb dX8_made_80 rfl hl (by decide) rfl (fun ls hl => ?_)
    refine lv_aload_n hx hb dX8_made_81 rfl (lv_at hl 0 rfl) ?_
    refine lv_aload_n hx hb dX8_made_82 rfl (lv_at hl 3 rfl) ?_
    refine lv_bipush (v := 36) hx hb dX8_made_83 (by decide) ?_
    refine lv_bipush (v := 37) hx hb dX8_made_85 (by decide) ?_
    have hO : OKP G h0 a (upd (upd (upd (upd (upd (upd (upd (upd (upd F 2 (nI sz)) 9 (nI at9)) 10 (nI dp)) 11 (nI sg)) 9 (nI at12)) 2 (nI sz)) 9 (nI at12)) 10 (nI dp)) 11 (nI sg)) R Z (updA B 10 f13) J K32 w := hO.to rfl
    obtain ⟨_, qr49, hqr50⟩ := hO.2.1 23 _ (sg_23 G h0 a _ _ _ _ _)
    refine pn_V0 (G := G) (As := [.int 36, .int 37]) (rest := [.ref q23]) hx hb hml hown hq hE hX pX0_al hP hD hS hA hl.1 (P_bracketed l G h0 a (upd (upd (upd (upd (upd F 2 (nI sz)) 9 (nI at9)) 10 (nI dp)) 11 (nI sg)) 9 (nI at12)) R Z (updA B 10 f13) J K32 w 36 37 n at12 sz dp sg 0 (gset g q23 0 0 0) (by omega) (by omega) (by omega) (by omega) hns42.1 (fun o9 h9 => absurd h9 (by omega)) (by decide) (by decide) ihe hO hl0) (gV pw_954 pw_955 pw_956 pw_796 pw_922) hV_X8_bracketed qr49 5 hqr50 rfl rfl rfl (Nat.le_of_ble_eq_true rfl) dX8_made_87 ⟨(by show 1 + (2 * (sz - at12) + 18) ≤ (2 * (sz - at9) + 19); omega), (by show 11 + (11 * (2 * (sz - at12) + 18)) ≤ (11 * (2 * (sz - at9) + 19)); omega)⟩ ⟨(by show (40 * n + 10) + 1 ≤ (40 * n + 14); omega), (by show 8 + (4 + 11) + (1300 * n + 330) ≤ (1300 * n + 440); omega)⟩ (fun v48 u46 H locs hw47 hP hD hS => ?_) (fun ux ce9 q9 H9 locs9 hux hP9 hD9 hS9 hce hcv hcl => pb_out ux (ThQ.up (Thx.same (Thx.same (Thx.same (Thx.same (Thx.b (Thx.f Thx.rfl (by omega)) (by omega) (by decide)) rfl) rfl) rfl) rfl) RhX.rfl hux) hnt hlocks hce hcv hcl hP9 hD9 hS9 (by show 1 + (2 * (sz - at12) + 18) ≤ (2 * (sz - at9) + 19); omega) (by show 11 + (11 * (2 * (sz - at12) + 18)) ≤ (11 * (2 * (sz - at9) + 19)); omega))
    obtain ⟨w, r51, K52, g53, at54, sg55, f56⟩ := u46
    obtain ⟨hw47, h57, h58, h59, h60, hO⟩ := hw47
    have h57 : NwR K32 K52 (gset g q23 0 0 0) g53 r51 0 (at12 + 1) (5 * (20 - (dp + 1)) + 6 + (sg55 - sg)) := h57
    have h58 : at12 + 3 ≤ at54 ∧ at54 ≤ sz := h58
    have h59 : sg ≤ sg55 ∧ sg55 ≤ 60 := h59
    have h60 : dp + 1 ≤ 20 := h60
    obtain rfl : v48 = some (.ref r51) := hw47
    have hf61 : K52.1 q23 = 1 := (((h57).2.1.1 q23 (by rw [hf34]; decide)).1).trans hf34
    have hf62 : K52.2.1 0 q23 = 9 := (((h57).2.1.1 q23 (by rw [hf34]; decide)).2.1 0).trans hf35
    have hf63 : K52.2.1 2 q23 = (nI at9) := (((h57).2.1.1 q23 (by rw [hf34]; decide)).2.1 2).trans hf36
    have hf64 : K52.2.2.1 0 q23 = none := (((h57).2.1.1 q23 (by rw [hf34]; decide)).2.2.1 0).trans hf37
    have hf65 : K52.2.2.1 1 q23 = none := (((h57).2.1.1 q23 (by rw [hf34]; decide)).2.2.1 1).trans hf38
    have hf66 : K52.2.2.1 2 q23 = none := (((h57).2.1.1 q23 (by rw [hf34]; decide)).2.2.1 2).trans hf39
    have hf67 : K52.2.2.1 3 q23 = none := (((h57).2.1.1 q23 (by rw [hf34]; decide)).2.2.1 3).trans hf40
    have hf68 : K52.2.2.1 4 q23 = none := (((h57).2.1.1 q23 (by rw [hf34]; decide)).2.2.1 4).trans hf41
    have hO : OKP G h0 a (upd (upd (upd (upd F 2 (nI sz)) 9 (nI at54)) 10 (nI dp)) 11 (nI sg55)) R Z (updA B 10 f56) J K52 w := hO.to rfl
    refine W.widen (k := (1 + (2 * (at54 - at12) - 5))) (n := (11 + (11 * (2 * (at54 - at12) - 5)))) (by show 1 + (2 * (at54 - at12) - 5) ≤ (1 + (2 * (at54 - at12) - 5)); omega) (by show 11 + (11 * (2 * (at54 - at12) - 5)) ≤ (11 + (11 * (2 * (at54 - at12) - 5))); omega) ?_
    refine W.eq (g2 := F0 m 90 ls [.ref r51, .ref q23]) rfl ?_
    have hns69 : NwS K K52 g g53 := NwS.call hns42 h57 (fun o9 h9 => absurd h9 (by omega))
    have hf70 : K52.1 r51 = 1 := h57.2.2.1.2.1
    have hg71 : g53 0 q23 = 0 := (h57.2.1.2 q23 (by rw [hf34]; decide) 0).trans hg44
    have hno72 : NoO K52 g53 q23 := NoO.call hno45 h57 hf34 (by omega)
    refine p_put (v := .ref r51) (ty := (.object "JinjaTongue$Node")) (C := RX7) (Tc := TX7) (N := 11) (ci := 13) (K' := (kC K52 0 q23 (some r51))) hx hb hq pin_wsX70 tyX7 tyX7_ok nmX7 hown hE hP hD hS hO (by rw [hf61]; decide) (rep_1 hf61) rfl 6 (by decide) (hq _ pw_938) (fun _ h9 => h9) rfl (by decide +kernel) rfl rfl (Nat.le_of_ble_eq_true rfl) rfl (by rw [rep_1 (show (kC K52 0 q23 (some r51)).1 q23 = 1 from hf61), pc_0] <;> rfl) (fun p9 hp9 => rep_kC hp9) dX8_made_90 (fun H locs w hP hD hS hO => ?_)
    obtain ⟨K73, hK74⟩ : ∃ z : PK, z = (kC K52 0 q23 (some r51)) := ⟨_, rfl⟩
    rw [← hK74] at hO
    have hf75 : K73.1 q23 = 1 := (by rw [hK74]; exact hf61)
    have hf76 : K73.2.1 0 q23 = 9 := (by rw [hK74]; exact hf62)
    have hf77 : K73.2.1 2 q23 = (nI at9) := (by rw [hK74]; exact hf63)
    have hf78 : K73.2.2.1 1 q23 = none := (by rw [hK74]; exact (kC_of (by decide)).trans hf65)
    have hf79 : K73.2.2.1 2 q23 = none := (by rw [hK74]; exact (kC_of (by decide)).trans hf66)
    have hf80 : K73.2.2.1 3 q23 = none := (by rw [hK74]; exact (kC_of (by decide)).trans hf67)
    have hf81 : K73.2.2.1 4 q23 = none := (by rw [hK74]; exact (kC_of (by decide)).trans hf68)
    have hf82 : K73.1 r51 = 1 := (by rw [hK74]; exact hf70)
    have hf83 : K73.2.2.1 0 q23 = some r51 := by rw [hK74]; exact kC_eq
    have hns84 : NwS K K73 g g53 := by rw [hK74]; exact NwS.put hns69 hq43 hg71
    have hno85 : NoO K73 g53 q23 := by rw [hK74]; exact hno72
    refine lv_aload_n hx hb dX8_made_93 rfl (lv_at hl 0 rfl) ?_
    refine W_size (fun hz1 hz2 => ?_)
    refine vx_ret ?_
    have hlr := h57.2.2.1
    have hlr1 := hlr.2.2.1
    have hlr2 := hlr.2.2.2.1
    have hkid : ∀ f9 y9 : Nat, f9 ≤ 3 → K73.2.2.1 f9 q23 = some y9 → K73.1 y9 = 1 ∧ 1 ≤ g53 0 y9 ∧ g53 0 y9 < (5 * (20 - dp) + 2 + (sg55 - sg)) := by
      intro f9 y9 hf9 hy9
      rcases (show f9 = 0 ∨ f9 = 1 ∨ f9 = 2 ∨ f9 = 3 by omega) with rfl | rfl | rfl | rfl
      · rw [hf83] at hy9; cases hy9; exact ⟨hf82, hlr1, by omega⟩
      · rw [hf78] at hy9; cases hy9
      · rw [hf79] at hy9; cases hy9
      · rw [hf80] at hy9; cases hy9
    have hdn := NwS.done1 (q := q23) (L := (5 * (20 - dp) + 2 + (sg55 - sg))) (O := O) (k := at9) hns84 hq43 hf75 hg71 (by omega) (by omega) (by rw [hf76]; exact ⟨fun _ => (by show ¬ K73.2.2.1 0 q23 = none; rw [hf83]; intro z; cases z), fun z => absurd z (by decide), fun z => absurd z (by decide), fun z => absurd z (by decide), fun z => absurd z (by decide)⟩) (fun f9 z => by rw [hf76] at z; rcases z with ⟨z, _⟩ | ⟨z | z | z, _⟩ <;> exact absurd z (by decide)) hkid hf81 hno85 (fun f9 x9 _ _ => Kch.no (by rw [hf76]; decide)) how
    have hz86 : NwR K K73 g (gset g53 q23 (5 * (20 - dp) + 2 + (sg55 - sg)) O at9) q23 O at9 ((5 * (20 - dp) + 2 + (sg55 - sg))) := hdn
    have hz87 : at9 + 4 ≤ at54 ∧ at54 ≤ sz := (by omega)
    have hz88 : sg ≤ sg55 ∧ sg55 ≤ 60 := (by omega)
    have hO : OKP G h0 a (upd (upd (upd (upd F 2 (nI sz)) 9 (nI at54)) 10 (nI dp)) 11 (nI sg55)) R Z (updA B 10 f56) J K73 w := hO.to rfl
    refine W.widen (k := (2 * (sz - at9) + 19)) (n := (11 * (2 * (sz - at9) + 19))) (by omega) (by omega) ?_
    have hzz1 : H.size ≤ s.heap.size + ((2 * (at54 - at9) - 5)) := (by have z : (1 + (2 * (at54 - at12) - 5)) ≤ (2 * (at54 - at9) - 5) := (by omega); omega)
    have hzz2 : hSl H ≤ hSl s.heap + ((11 * (2 * (at54 - at9) - 5))) := (by have z : (11 + (11 * (2 * (at54 - at12) - 5))) ≤ (11 * (2 * (at54 - at9) - 5)) := (by omega); omega)
    exact W.aret (v := .ref q23) hx hb hr (Or.inl ⟨_, rfl⟩) (Or.inr ⟨_, rfl⟩) (fun t99 ht99 hW99 => ⟨⟨_, (w, (q23, K73, (gset g53 q23 (5 * (20 - dp) + 2 + (sg55 - sg)) O at9), at54, sg55, f56)), rfl, ⟨rfl, hz86, hz87, hz88, hO⟩, by rw [ht99]; exact hP, hD, by rw [ht99]; exact hzz1, by rw [ht99]; exact hzz2⟩, hS.F ht99⟩) hS.2.2 dX8_made_94
  · refine lv_aload_n hx hb dX8_made_26 rfl (lv_at hl 2 rfl) ?_
    refine lv_bipush (v := 34) hx hb dX8_made_27 (by decide) ?_
    have hO : OKW G h0 a (upd (upd (upd (upd (upd (upd F 2 (nI sz)) 9 (nI at12)) 10 (nI dp)) 11 (nI sg)) 2 (nI sz)) 9 (nI at12)) R Z (updA B 10 f13) J K.1 (fun q99 x99 => x99 = rep G a K q99) w := hO.to rfl
    obtain ⟨_, qr92, hqr93⟩ := hO.2.1 23 _ (sg_23 G h0 a _ _ _ _ _)
    refine pc_V0 (G := G) (As := [.int 34]) (rest := []) hx hb hml hown hq hE hX pX0_al hP hD hS hA hl.1 (P_sees l G h0 a (upd (upd (upd (upd F 2 (nI sz)) 9 (nI at12)) 10 (nI dp)) 11 (nI sg)) R Z (updA B 10 f13) J K.1 (fun q99 x99 => x99 = rep G a K q99) w 34 at12 sz (by omega) (by omega) hO) (gV pw_803 pw_804 pw_805 pw_796 pw_775) hV_X8_sees qr92 5 hqr93 rfl rfl rfl (Nat.le_of_ble_eq_true rfl) dX8_made_29 ⟨(by show 0 + 0 ≤ (2 * (sz - at9) + 19); omega), (by show 0 + 0 ≤ (11 * (2 * (sz - at9) + 19)); omega)⟩ ⟨(by show 3 + 1 ≤ (40 * n + 14); omega), (by show 8 + (2 + 11) + 81 ≤ (1300 * n + 440); omega)⟩ (fun v91 u89 H locs hw90 hP hD hS => ?_)
    obtain ⟨w, r94⟩ := u89
    obtain ⟨hw90, h95, hO⟩ := hw90
    have h95 : r94 ≤ 1 := h95
    obtain rfl : v91 = some (.int (nI r94)) := hw90
    have hO : OKP G h0 a (upd (upd (upd (upd F 2 (nI sz)) 9 (nI at12)) 10 (nI dp)) 11 (nI sg)) R Z (updA B 10 f13) J K w := hO.to rfl
    refine W.widen (k := 0) (n := 0) (Nat.le_of_ble_eq_true rfl) (Nat.le_of_ble_eq_true rfl) ?_
    refine W.eq (g2 := F0 m 32 ls [.int (nI r94)]) rfl ?_
    refine lv_if_eq (tgt := 69) hx hb dX8_made_32 (by decide) (fun c96 => ?_) (fun c96 => ?_)
    · have n97 : r94 = 0 := (nI_eq (a := r94) (b := 0) (by omega) (by omega)).mp c96
      refine p_new (s9 := 1) (C := RX7) (T := TX7) (N := 11) (ci := 13) (fs := [.int 0, .int 0, .int 0, .int 0, .int 0, .int 0, .null, .null, .null, .null, .null]) hx hb hq pin_wsX70 tyX7 tyX7_ok hown (hq _ pw_870) (hq _ pw_871) (hq _ pw_872) hE hP hD hS hA hO rfl nw_X7 (by decide) (fun q => by rw [rep_1 (show (kN K q 1 0).1 q = 1 from if_pos rfl)]; unfold fsNode kN; simp only [if_true]; rfl) (by show 0 + 1 ≤ (2 * (sz - at9) + 19); omega) (by show 0 + 11 ≤ (11 * (2 * (sz - at9) + 19)); omega) dX8_made_69 (fun q98 H w hq99 hP hD hS hO => ?_)
      have hf100 : (kN K q98 1 0).1 q98 = 1 := if_pos rfl
      refine W.widen (k := 1) (n := 11) (by show 0 + 1 ≤ 1; omega) (by show 0 + 11 ≤ 11; omega) ?_
      refine lv_dup hx hb dX8_made_72 rfl ?_
      refine lv_bipush (v := 9) hx hb dX8_made_73 (by decide) ?_
      refine lv_iload_n hx hb dX8_made_75 rfl (lv_at hl 0 rfl) ?_
      refine lv_iload_n hx hb dX8_made_76 rfl (lv_at hl 1 rfl) ?_
      have hO : OKP G h0 a (upd (upd (upd (upd F 2 (nI sz)) 9 (nI at12)) 10 (nI dp)) 11 (nI sg)) R Z (updA B 10 f13) J (kN K q98 1 0) w := hO.to rfl
      obtain ⟨qr104, hqr105⟩ := p_recv hO (by rw [hf100]; decide) (rep_1 hf100)
      refine pc_I0 (G := G) (As := [.int 9, .int (nI (at9 + 1)), .int (nI at9)]) (rest := [.ref q98]) hx hb hml hown hq hE hX pX0_al hP hD hS hA hl.1 (N_init l G h0 a (upd (upd (upd (upd F 2 (nI sz)) 9 (nI at12)) 10 (nI dp)) 11 (nI sg)) R Z (updA B 10 f13) J (kN K q98 1 0) w q98 9 (nI (at9 + 1)) (nI at9) (by omega) hO) pw_874 pw_875 pw_872 pw_765 rfl hS_X7_init rfl (Nat.le_of_ble_eq_true rfl) dX8_made_77 ⟨(by show 1 + 0 ≤ (2 * (sz - at9) + 19); omega), (by show 11 + 0 ≤ (11 * (2 * (sz - at9) + 19)); omega)⟩ ⟨(by show 2 + 1 ≤ (40 * n + 14); omega), (by show 8 + (4 + 11) + 60 ≤ (1300 * n + 440); omega)⟩ (fun v103 u101 H locs hw102 hP hD hS => ?_)
      obtain ⟨w, _⟩ := u101
      obtain ⟨hw102, hO⟩ := hw102
      obtain rfl : v103 = none := hw102
      have hf106 : (kI (kI (kI (kN K q98 1 0) 0 q98 9) 1 q98 (nI (at9 + 1))) 2 q98 (nI at9)).1 q98 = 1 := hf100
      have hO : OKP G h0 a (upd (upd (upd (upd F 2 (nI sz)) 9 (nI at12)) 10 (nI dp)) 11 (nI sg)) R Z (updA B 10 f13) J (kI (kI (kI (kN K q98 1 0) 0 q98 9) 1 q98 (nI (at9 + 1))) 2 q98 (nI at9)) w := hO.to rfl
      refine W.widen (k := 1) (n := 11) (by show 1 + 0 ≤ 1; omega) (by show 11 + 0 ≤ 11; omega) ?_
      refine W.eq (g2 := F0 m 80 ls [.ref q98]) rfl ?_
      change OKP G h0 a (upd (upd (upd (upd F 2 (nI sz)) 9 (nI at12)) 10 (nI dp)) 11 (nI sg)) R Z (updA B 10 f13) J (mkN K q98 9 (nI (at9 + 1)) (nI at9)) w at hO
      obtain ⟨K107, hK108⟩ : ∃ z : PK, z = (mkN K q98 9 (nI (at9 + 1)) (nI at9)) := ⟨_, rfl⟩
      rw [← hK108] at hO
      have hf109 : K107.1 q98 = 1 := by rw [hK108]; exact mkN_T
      have hf110 : K107.2.1 0 q98 = 9 := by rw [hK108]; exact mkN_0
      have hf111 : K107.2.1 2 q98 = (nI at9) := by rw [hK108]; exact mkN_2
      have hf112 : K107.2.2.1 0 q98 = none := by rw [hK108]; exact mkN_C
      have hf113 : K107.2.2.1 1 q98 = none := by rw [hK108]; exact mkN_C
      have hf114 : K107.2.2.1 2 q98 = none := by rw [hK108]; exact mkN_C
      have hf115 : K107.2.2.1 3 q98 = none := by rw [hK108]; exact mkN_C
      have hf116 : K107.2.2.1 4 q98 = none := by rw [hK108]; exact mkN_C
      have hns117 : NwS K K107 g (gset g q98 0 0 0) := by rw [hK108]; exact NwS.node hns0 hq99
      have hq118 : K.1 q98 = 0 := old_T hns0.2.1 hq99
      have hg119 : (gset g q98 0 0 0) 0 q98 = 0 := gset_0
      have hno120 : NoO K107 (gset g q98 0 0 0) q98 := by rw [hK108]; exact NoO.new hns0.1 hq99
      refine lv_astore_n (lv' := [(3, .ref q98), (2, .int (nI (at9 + 1))), (1, .int (nI at9)), (0, .ref (a 3))]) hx hb dX8_made_80 rfl hl (by decide) rfl (fun ls hl => ?_)
      refine lv_aload_n hx hb dX8_made_81 rfl (lv_at hl 0 rfl) ?_
      refine lv_aload_n hx hb dX8_made_82 rfl (lv_at hl 3 rfl) ?_
      refine lv_bipush (v := 36) hx hb dX8_made_83 (by decide) ?_
      refine lv_bipush (v := 37) hx hb dX8_made_85 (by decide) ?_
      have hO : OKP G h0 a (upd (upd (upd (upd (upd (upd (upd (upd (upd F 2 (nI sz)) 9 (nI at9)) 10 (nI dp)) 11 (nI sg)) 9 (nI at12)) 2 (nI sz)) 9 (nI at12)) 10 (nI dp)) 11 (nI sg)) R Z (updA B 10 f13) J K107 w := hO.to rfl
      obtain ⟨_, qr124, hqr125⟩ := hO.2.1 23 _ (sg_23 G h0 a _ _ _ _ _)
      refine pn_V0 (G := G) (As := [.int 36, .int 37]) (rest := [.ref q98]) hx hb hml hown hq hE hX pX0_al hP hD hS hA hl.1 (P_bracketed l G h0 a (upd (upd (upd (upd (upd F 2 (nI sz)) 9 (nI at9)) 10 (nI dp)) 11 (nI sg)) 9 (nI at12)) R Z (updA B 10 f13) J K107 w 36 37 n at12 sz dp sg 0 (gset g q98 0 0 0) (by omega) (by omega) (by omega) (by omega) hns117.1 (fun o9 h9 => absurd h9 (by omega)) (by decide) (by decide) ihe hO hl0) (gV pw_954 pw_955 pw_956 pw_796 pw_922) hV_X8_bracketed qr124 5 hqr125 rfl rfl rfl (Nat.le_of_ble_eq_true rfl) dX8_made_87 ⟨(by show 1 + (2 * (sz - at12) + 18) ≤ (2 * (sz - at9) + 19); omega), (by show 11 + (11 * (2 * (sz - at12) + 18)) ≤ (11 * (2 * (sz - at9) + 19)); omega)⟩ ⟨(by show (40 * n + 10) + 1 ≤ (40 * n + 14); omega), (by show 8 + (4 + 11) + (1300 * n + 330) ≤ (1300 * n + 440); omega)⟩ (fun v123 u121 H locs hw122 hP hD hS => ?_) (fun ux ce9 q9 H9 locs9 hux hP9 hD9 hS9 hce hcv hcl => pb_out ux (ThQ.up (Thx.same (Thx.same (Thx.same (Thx.same (Thx.b (Thx.f Thx.rfl (by omega)) (by omega) (by decide)) rfl) rfl) rfl) rfl) RhX.rfl hux) hnt hlocks hce hcv hcl hP9 hD9 hS9 (by show 1 + (2 * (sz - at12) + 18) ≤ (2 * (sz - at9) + 19); omega) (by show 11 + (11 * (2 * (sz - at12) + 18)) ≤ (11 * (2 * (sz - at9) + 19)); omega))
      obtain ⟨w, r126, K127, g128, at129, sg130, f131⟩ := u121
      obtain ⟨hw122, h132, h133, h134, h135, hO⟩ := hw122
      have h132 : NwR K107 K127 (gset g q98 0 0 0) g128 r126 0 (at12 + 1) (5 * (20 - (dp + 1)) + 6 + (sg130 - sg)) := h132
      have h133 : at12 + 3 ≤ at129 ∧ at129 ≤ sz := h133
      have h134 : sg ≤ sg130 ∧ sg130 ≤ 60 := h134
      have h135 : dp + 1 ≤ 20 := h135
      obtain rfl : v123 = some (.ref r126) := hw122
      have hf136 : K127.1 q98 = 1 := (((h132).2.1.1 q98 (by rw [hf109]; decide)).1).trans hf109
      have hf137 : K127.2.1 0 q98 = 9 := (((h132).2.1.1 q98 (by rw [hf109]; decide)).2.1 0).trans hf110
      have hf138 : K127.2.1 2 q98 = (nI at9) := (((h132).2.1.1 q98 (by rw [hf109]; decide)).2.1 2).trans hf111
      have hf139 : K127.2.2.1 0 q98 = none := (((h132).2.1.1 q98 (by rw [hf109]; decide)).2.2.1 0).trans hf112
      have hf140 : K127.2.2.1 1 q98 = none := (((h132).2.1.1 q98 (by rw [hf109]; decide)).2.2.1 1).trans hf113
      have hf141 : K127.2.2.1 2 q98 = none := (((h132).2.1.1 q98 (by rw [hf109]; decide)).2.2.1 2).trans hf114
      have hf142 : K127.2.2.1 3 q98 = none := (((h132).2.1.1 q98 (by rw [hf109]; decide)).2.2.1 3).trans hf115
      have hf143 : K127.2.2.1 4 q98 = none := (((h132).2.1.1 q98 (by rw [hf109]; decide)).2.2.1 4).trans hf116
      have hO : OKP G h0 a (upd (upd (upd (upd F 2 (nI sz)) 9 (nI at129)) 10 (nI dp)) 11 (nI sg130)) R Z (updA B 10 f131) J K127 w := hO.to rfl
      refine W.widen (k := (1 + (2 * (at129 - at12) - 5))) (n := (11 + (11 * (2 * (at129 - at12) - 5)))) (by show 1 + (2 * (at129 - at12) - 5) ≤ (1 + (2 * (at129 - at12) - 5)); omega) (by show 11 + (11 * (2 * (at129 - at12) - 5)) ≤ (11 + (11 * (2 * (at129 - at12) - 5))); omega) ?_
      refine W.eq (g2 := F0 m 90 ls [.ref r126, .ref q98]) rfl ?_
      have hns144 : NwS K K127 g g128 := NwS.call hns117 h132 (fun o9 h9 => absurd h9 (by omega))
      have hf145 : K127.1 r126 = 1 := h132.2.2.1.2.1
      have hg146 : g128 0 q98 = 0 := (h132.2.1.2 q98 (by rw [hf109]; decide) 0).trans hg119
      have hno147 : NoO K127 g128 q98 := NoO.call hno120 h132 hf109 (by omega)
      refine p_put (v := .ref r126) (ty := (.object "JinjaTongue$Node")) (C := RX7) (Tc := TX7) (N := 11) (ci := 13) (K' := (kC K127 0 q98 (some r126))) hx hb hq pin_wsX70 tyX7 tyX7_ok nmX7 hown hE hP hD hS hO (by rw [hf136]; decide) (rep_1 hf136) rfl 6 (by decide) (hq _ pw_938) (fun _ h9 => h9) rfl (by decide +kernel) rfl rfl (Nat.le_of_ble_eq_true rfl) rfl (by rw [rep_1 (show (kC K127 0 q98 (some r126)).1 q98 = 1 from hf136), pc_0] <;> rfl) (fun p9 hp9 => rep_kC hp9) dX8_made_90 (fun H locs w hP hD hS hO => ?_)
      obtain ⟨K148, hK149⟩ : ∃ z : PK, z = (kC K127 0 q98 (some r126)) := ⟨_, rfl⟩
      rw [← hK149] at hO
      have hf150 : K148.1 q98 = 1 := (by rw [hK149]; exact hf136)
      have hf151 : K148.2.1 0 q98 = 9 := (by rw [hK149]; exact hf137)
      have hf152 : K148.2.1 2 q98 = (nI at9) := (by rw [hK149]; exact hf138)
      have hf153 : K148.2.2.1 1 q98 = none := (by rw [hK149]; exact (kC_of (by decide)).trans hf140)
      have hf154 : K148.2.2.1 2 q98 = none := (by rw [hK149]; exact (kC_of (by decide)).trans hf141)
      have hf155 : K148.2.2.1 3 q98 = none := (by rw [hK149]; exact (kC_of (by decide)).trans hf142)
      have hf156 : K148.2.2.1 4 q98 = none := (by rw [hK149]; exact (kC_of (by decide)).trans hf143)
      have hf157 : K148.1 r126 = 1 := (by rw [hK149]; exact hf145)
      have hf158 : K148.2.2.1 0 q98 = some r126 := by rw [hK149]; exact kC_eq
      have hns159 : NwS K K148 g g128 := by rw [hK149]; exact NwS.put hns144 hq118 hg146
      have hno160 : NoO K148 g128 q98 := by rw [hK149]; exact hno147
      refine lv_aload_n hx hb dX8_made_93 rfl (lv_at hl 0 rfl) ?_
      refine W_size (fun hz1 hz2 => ?_)
      refine vx_ret ?_
      have hlr := h132.2.2.1
      have hlr1 := hlr.2.2.1
      have hlr2 := hlr.2.2.2.1
      have hkid : ∀ f9 y9 : Nat, f9 ≤ 3 → K148.2.2.1 f9 q98 = some y9 → K148.1 y9 = 1 ∧ 1 ≤ g128 0 y9 ∧ g128 0 y9 < (5 * (20 - dp) + 2 + (sg130 - sg)) := by
        intro f9 y9 hf9 hy9
        rcases (show f9 = 0 ∨ f9 = 1 ∨ f9 = 2 ∨ f9 = 3 by omega) with rfl | rfl | rfl | rfl
        · rw [hf158] at hy9; cases hy9; exact ⟨hf157, hlr1, by omega⟩
        · rw [hf153] at hy9; cases hy9
        · rw [hf154] at hy9; cases hy9
        · rw [hf155] at hy9; cases hy9
      have hdn := NwS.done1 (q := q98) (L := (5 * (20 - dp) + 2 + (sg130 - sg))) (O := O) (k := at9) hns159 hq118 hf150 hg146 (by omega) (by omega) (by rw [hf151]; exact ⟨fun _ => (by show ¬ K148.2.2.1 0 q98 = none; rw [hf158]; intro z; cases z), fun z => absurd z (by decide), fun z => absurd z (by decide), fun z => absurd z (by decide), fun z => absurd z (by decide)⟩) (fun f9 z => by rw [hf151] at z; rcases z with ⟨z, _⟩ | ⟨z | z | z, _⟩ <;> exact absurd z (by decide)) hkid hf156 hno160 (fun f9 x9 _ _ => Kch.no (by rw [hf151]; decide)) how
      have hz161 : NwR K K148 g (gset g128 q98 (5 * (20 - dp) + 2 + (sg130 - sg)) O at9) q98 O at9 ((5 * (20 - dp) + 2 + (sg130 - sg))) := hdn
      have hz162 : at9 + 4 ≤ at129 ∧ at129 ≤ sz := (by omega)
      have hz163 : sg ≤ sg130 ∧ sg130 ≤ 60 := (by omega)
      have hO : OKP G h0 a (upd (upd (upd (upd F 2 (nI sz)) 9 (nI at129)) 10 (nI dp)) 11 (nI sg130)) R Z (updA B 10 f131) J K148 w := hO.to rfl
      refine W.widen (k := (2 * (sz - at9) + 19)) (n := (11 * (2 * (sz - at9) + 19))) (by omega) (by omega) ?_
      have hzz1 : H.size ≤ s.heap.size + ((2 * (at129 - at9) - 5)) := (by have z : (1 + (2 * (at129 - at12) - 5)) ≤ (2 * (at129 - at9) - 5) := (by omega); omega)
      have hzz2 : hSl H ≤ hSl s.heap + ((11 * (2 * (at129 - at9) - 5))) := (by have z : (11 + (11 * (2 * (at129 - at12) - 5))) ≤ (11 * (2 * (at129 - at9) - 5)) := (by omega); omega)
      exact W.aret (v := .ref q98) hx hb hr (Or.inl ⟨_, rfl⟩) (Or.inr ⟨_, rfl⟩) (fun t99 ht99 hW99 => ⟨⟨_, (w, (q98, K148, (gset g128 q98 (5 * (20 - dp) + 2 + (sg130 - sg)) O at9), at129, sg130, f131)), rfl, ⟨rfl, hz161, hz162, hz163, hO⟩, by rw [ht99]; exact hP, hD, by rw [ht99]; exact hzz1, by rw [ht99]; exact hzz2⟩, hS.F ht99⟩) hS.2.2 dX8_made_94
    · have n164 : ¬ (r94 = 0) := fun h9 => c96 ((nI_eq (a := r94) (b := 0) (by omega) (by omega)).mpr h9)
      refine lv_aload_n hx hb dX8_made_35 rfl (lv_at hl 2 rfl) ?_
      refine c_get (v := .ref (a 1)) (C := RX8) (Tc := TX8) (N := 5) (ci := 5) hx hb hq pin_wsX80 hown hE hP hO 23 (sg_23 G h0 a _ _ _ _ _) rfl 0 (by decide) (hq _ pw_774) (fun _ h9 => h9) rfl dX8_made_36 ?_
      refine lv_iload_n hx hb dX8_made_39 rfl (lv_at hl 0 rfl) ?_
      refine lv_iconst (v := 2) hx hb dX8_made_40 (by decide) ?_
      have hO : OKW G h0 a (upd (upd (upd (upd (upd F 2 (nI sz)) 9 (nI at12)) 10 (nI dp)) 11 (nI sg)) 2 (nI sz)) R Z (updA B 10 f13) J K.1 (fun q99 x99 => x99 = rep G a K q99) w := hO.to rfl
      obtain ⟨_, qr168, hqr169⟩ := hO.2.1 2 _ (sg_2 G h0 a _ _ _ _ _)
      refine pc_V0 (G := G) (As := [.int (nI (at9 + 1)), .int 2]) (rest := []) hx hb hml hown hq hE hX pX0_al hP hD hS hA hl.1 (K_giveRole l G h0 a (upd (upd (upd (upd F 2 (nI sz)) 9 (nI at12)) 10 (nI dp)) 11 (nI sg)) R Z (updA B 10 f13) J K.1 (fun q99 x99 => x99 = rep G a K q99) w (nI (at9 + 1)) 2 sz (by omega) hO) (gV pw_822 pw_823 pw_824 pw_59 pw_819) hV_X10_giveRole qr168 7 hqr169 rfl rfl rfl (Nat.le_of_ble_eq_true rfl) dX8_made_41 ⟨(by show 0 + 0 ≤ (2 * (sz - at9) + 19); omega), (by show 0 + 0 ≤ (11 * (2 * (sz - at9) + 19)); omega)⟩ ⟨(by show 2 + 1 ≤ (40 * n + 14); omega), (by show 8 + (3 + 11) + 60 ≤ (1300 * n + 440); omega)⟩ (fun v167 u165 H locs hw166 hP hD hS => ?_)
      obtain ⟨w, f170⟩ := u165
      obtain ⟨hw166, hO⟩ := hw166
      obtain rfl : v167 = none := hw166
      have hO : OKP G h0 a (upd (upd (upd (upd F 2 (nI sz)) 9 (nI at12)) 10 (nI dp)) 11 (nI sg)) R Z (updA B 10 f170) J K w := hO.to rfl
      refine W.widen (k := 0) (n := 0) (Nat.le_of_ble_eq_true rfl) (Nat.le_of_ble_eq_true rfl) ?_
      refine W.eq (g2 := F0 m 44 ls []) rfl ?_
      refine lv_aload_n hx hb dX8_made_44 rfl (lv_at hl 2 rfl) ?_
      refine lv_bipush (v := 34) hx hb dX8_made_45 (by decide) ?_
      have hO : OKW G h0 a (upd (upd (upd (upd (upd (upd (upd (upd F 2 (nI sz)) 9 (nI at9)) 10 (nI dp)) 11 (nI sg)) 9 (nI at12)) 2 (nI sz)) 9 (nI at12)) 10 (nI dp)) R Z (updA B 10 f170) J K.1 (fun q99 x99 => x99 = rep G a K q99) w := hO.to rfl
      obtain ⟨_, qr174, hqr175⟩ := hO.2.1 23 _ (sg_23 G h0 a _ _ _ _ _)
      refine pn_V0 (G := G) (As := [.int 34]) (rest := []) hx hb hml hown hq hE hX pX0_al hP hD hS hA hl.1 (P_openBracket l G h0 a (upd (upd (upd (upd (upd F 2 (nI sz)) 9 (nI at9)) 10 (nI dp)) 11 (nI sg)) 9 (nI at12)) R Z (updA B 10 f170) J K.1 (fun q99 x99 => x99 = rep G a K q99) w 34 dp at12 sz (by omega) (by omega) (by decide) (by omega) hO hl0) (gV pw_913 pw_914 pw_915 pw_796 pw_900) hV_X8_openBracket qr174 5 hqr175 rfl rfl rfl (Nat.le_of_ble_eq_true rfl) dX8_made_47 ⟨(by show 0 + 1 ≤ (2 * (sz - at9) + 19); omega), (by show 0 + 6 ≤ (11 * (2 * (sz - at9) + 19)); omega)⟩ ⟨(by show 7 + 1 ≤ (40 * n + 14); omega), (by show 8 + (2 + 11) + 122 ≤ (1300 * n + 440); omega)⟩ (fun v173 u171 H locs hw172 hP hD hS => ?_) (fun ux ce9 q9 H9 locs9 hux hP9 hD9 hS9 hce hcv hcl => pb_out ux (ThQ.up (Thx.same (Thx.same (Thx.same (Thx.b (Thx.f Thx.rfl (by omega)) (by omega) (by decide)) rfl) rfl) rfl) RhX.rfl hux) hnt hlocks hce hcv hcl hP9 hD9 hS9 (by show 0 + 1 ≤ (2 * (sz - at9) + 19); omega) (by show 0 + 6 ≤ (11 * (2 * (sz - at9) + 19)); omega))
      obtain ⟨w, _⟩ := u171
      obtain ⟨hw172, h176, hO⟩ := hw172
      have h176 : at12 + 1 ≤ sz ∧ dp + 1 ≤ 20 := h176
      obtain rfl : v173 = none := hw172
      have hO : OKP G h0 a (upd (upd (upd (upd F 2 (nI sz)) 9 (nI (at12 + 1))) 10 (nI (dp + 1))) 11 (nI sg)) R Z (updA B 10 f170) J K w := hO.to rfl
      refine W.widen (k := 0) (n := 0) (by show 0 + 0 ≤ 0; omega) (by show 0 + 0 ≤ 0; omega) ?_
      refine W.eq (g2 := F0 m 50 ls []) rfl ?_
      refine lv_aload_n hx hb dX8_made_50 rfl (lv_at hl 2 rfl) ?_
      refine lv_bipush (v := 35) hx hb dX8_made_51 (by decide) ?_
      have hO : OKW G h0 a (upd (upd (upd (upd (upd (upd (upd (upd (upd F 2 (nI sz)) 9 (nI at9)) 10 (nI dp)) 11 (nI sg)) 9 (nI (at12 + 1))) 10 (nI (dp + 1))) 2 (nI sz)) 9 (nI (at12 + 1))) 10 (nI (dp + 1))) R Z (updA B 10 f170) J K.1 (fun q99 x99 => x99 = rep G a K q99) w := hO.to rfl
      obtain ⟨_, qr180, hqr181⟩ := hO.2.1 23 _ (sg_23 G h0 a _ _ _ _ _)
      refine pn_V0 (G := G) (As := [.int 35]) (rest := []) hx hb hml hown hq hE hX pX0_al hP hD hS hA hl.1 (P_closeBracket l G h0 a (upd (upd (upd (upd (upd (upd F 2 (nI sz)) 9 (nI at9)) 10 (nI dp)) 11 (nI sg)) 9 (nI (at12 + 1))) 10 (nI (dp + 1))) R Z (updA B 10 f170) J K.1 (fun q99 x99 => x99 = rep G a K q99) w 35 (dp + 1) (at12 + 1) sz (by omega) (by omega) (by decide) (by omega) hO hl0) (gV pw_919 pw_920 pw_921 pw_796 pw_902) hV_X8_closeBracket qr180 5 hqr181 rfl rfl rfl (Nat.le_of_ble_eq_true rfl) dX8_made_53 ⟨(by show 0 + 1 ≤ (2 * (sz - at9) + 19); omega), (by show 0 + 6 ≤ (11 * (2 * (sz - at9) + 19)); omega)⟩ ⟨(by show 7 + 1 ≤ (40 * n + 14); omega), (by show 8 + (2 + 11) + 122 ≤ (1300 * n + 440); omega)⟩ (fun v179 u177 H locs hw178 hP hD hS => ?_) (fun ux ce9 q9 H9 locs9 hux hP9 hD9 hS9 hce hcv hcl => pb_out ux (ThQ.up (Thx.same (Thx.same (Thx.same (Thx.b (Thx.f (Thx.f Thx.rfl (by omega)) (by omega)) (by omega) (by decide)) rfl) rfl) rfl) RhX.rfl hux) hnt hlocks hce hcv hcl hP9 hD9 hS9 (by show 0 + 1 ≤ (2 * (sz - at9) + 19); omega) (by show 0 + 6 ≤ (11 * (2 * (sz - at9) + 19)); omega))
      obtain ⟨w, _⟩ := u177
      obtain ⟨hw178, h182, hO⟩ := hw178
      have h182 : (at12 + 1) + 1 ≤ sz := h182
      obtain rfl : v179 = some (.int (nI (at12 + 1))) := hw178
      have hO : OKP G h0 a (upd (upd (upd (upd F 2 (nI sz)) 9 (nI ((at12 + 1) + 1))) 10 (nI ((dp + 1) - 1))) 11 (nI sg)) R Z (updA B 10 f170) J K w := hO.to rfl
      refine W.widen (k := 0) (n := 0) (by show 0 + 0 ≤ 0; omega) (by show 0 + 0 ≤ 0; omega) ?_
      refine W.eq (g2 := F0 m 56 ls [.int (nI (at12 + 1))]) rfl ?_
      refine lv_pop hx hb dX8_made_56 rfl ?_
      refine p_new (s9 := 1) (C := RX7) (T := TX7) (N := 11) (ci := 13) (fs := [.int 0, .int 0, .int 0, .int 0, .int 0, .int 0, .null, .null, .null, .null, .null]) hx hb hq pin_wsX70 tyX7 tyX7_ok hown (hq _ pw_870) (hq _ pw_871) (hq _ pw_872) hE hP hD hS hA hO rfl nw_X7 (by decide) (fun q => by rw [rep_1 (show (kN K q 1 0).1 q = 1 from if_pos rfl)]; unfold fsNode kN; simp only [if_true]; rfl) (by show 0 + 1 ≤ (2 * (sz - at9) + 19); omega) (by show 0 + 11 ≤ (11 * (2 * (sz - at9) + 19)); omega) dX8_made_57 (fun q183 H w hq184 hP hD hS hO => ?_)
      have hf185 : (kN K q183 1 0).1 q183 = 1 := if_pos rfl
      refine W.widen (k := 1) (n := 11) (by show 0 + 1 ≤ 1; omega) (by show 0 + 11 ≤ 11; omega) ?_
      refine lv_dup hx hb dX8_made_60 rfl ?_
      refine lv_bipush (v := 8) hx hb dX8_made_61 (by decide) ?_
      refine lv_iload_n hx hb dX8_made_63 rfl (lv_at hl 0 rfl) ?_
      refine lv_iload_n hx hb dX8_made_64 rfl (lv_at hl 1 rfl) ?_
      have hO : OKP G h0 a (upd (upd (upd (upd F 2 (nI sz)) 9 (nI ((at12 + 1) + 1))) 10 (nI ((dp + 1) - 1))) 11 (nI sg)) R Z (updA B 10 f170) J (kN K q183 1 0) w := hO.to rfl
      obtain ⟨qr189, hqr190⟩ := p_recv hO (by rw [hf185]; decide) (rep_1 hf185)
      refine pc_I0 (G := G) (As := [.int 8, .int (nI (at9 + 1)), .int (nI at9)]) (rest := [.ref q183]) hx hb hml hown hq hE hX pX0_al hP hD hS hA hl.1 (N_init l G h0 a (upd (upd (upd (upd F 2 (nI sz)) 9 (nI ((at12 + 1) + 1))) 10 (nI ((dp + 1) - 1))) 11 (nI sg)) R Z (updA B 10 f170) J (kN K q183 1 0) w q183 8 (nI (at9 + 1)) (nI at9) (by omega) hO) pw_874 pw_875 pw_872 pw_765 rfl hS_X7_init rfl (Nat.le_of_ble_eq_true rfl) dX8_made_65 ⟨(by show 1 + 0 ≤ (2 * (sz - at9) + 19); omega), (by show 11 + 0 ≤ (11 * (2 * (sz - at9) + 19)); omega)⟩ ⟨(by show 2 + 1 ≤ (40 * n + 14); omega), (by show 8 + (4 + 11) + 60 ≤ (1300 * n + 440); omega)⟩ (fun v188 u186 H locs hw187 hP hD hS => ?_)
      obtain ⟨w, _⟩ := u186
      obtain ⟨hw187, hO⟩ := hw187
      obtain rfl : v188 = none := hw187
      have hf191 : (kI (kI (kI (kN K q183 1 0) 0 q183 8) 1 q183 (nI (at9 + 1))) 2 q183 (nI at9)).1 q183 = 1 := hf185
      have hO : OKP G h0 a (upd (upd (upd (upd F 2 (nI sz)) 9 (nI ((at12 + 1) + 1))) 10 (nI ((dp + 1) - 1))) 11 (nI sg)) R Z (updA B 10 f170) J (kI (kI (kI (kN K q183 1 0) 0 q183 8) 1 q183 (nI (at9 + 1))) 2 q183 (nI at9)) w := hO.to rfl
      refine W.widen (k := 1) (n := 11) (by show 1 + 0 ≤ 1; omega) (by show 11 + 0 ≤ 11; omega) ?_
      refine W.eq (g2 := F0 m 68 ls [.ref q183]) rfl ?_
      change OKP G h0 a (upd (upd (upd (upd F 2 (nI sz)) 9 (nI ((at12 + 1) + 1))) 10 (nI ((dp + 1) - 1))) 11 (nI sg)) R Z (updA B 10 f170) J (mkN K q183 8 (nI (at9 + 1)) (nI at9)) w at hO
      obtain ⟨K192, hK193⟩ : ∃ z : PK, z = (mkN K q183 8 (nI (at9 + 1)) (nI at9)) := ⟨_, rfl⟩
      rw [← hK193] at hO
      have hf194 : K192.1 q183 = 1 := by rw [hK193]; exact mkN_T
      have hf195 : K192.2.1 0 q183 = 8 := by rw [hK193]; exact mkN_0
      have hf196 : K192.2.1 2 q183 = (nI at9) := by rw [hK193]; exact mkN_2
      have hf197 : K192.2.2.1 0 q183 = none := by rw [hK193]; exact mkN_C
      have hf198 : K192.2.2.1 1 q183 = none := by rw [hK193]; exact mkN_C
      have hf199 : K192.2.2.1 2 q183 = none := by rw [hK193]; exact mkN_C
      have hf200 : K192.2.2.1 3 q183 = none := by rw [hK193]; exact mkN_C
      have hf201 : K192.2.2.1 4 q183 = none := by rw [hK193]; exact mkN_C
      have hns202 : NwS K K192 g (gset g q183 0 0 0) := by rw [hK193]; exact NwS.node hns0 hq184
      have hq203 : K.1 q183 = 0 := old_T hns0.2.1 hq184
      have hg204 : (gset g q183 0 0 0) 0 q183 = 0 := gset_0
      have hno205 : NoO K192 (gset g q183 0 0 0) q183 := by rw [hK193]; exact NoO.new hns0.1 hq184
      refine W_size (fun hz1 hz2 => ?_)
      refine vx_ret ?_
      have hkid : ∀ f9 y9 : Nat, f9 ≤ 3 → K192.2.2.1 f9 q183 = some y9 → K192.1 y9 = 1 ∧ 1 ≤ (gset g q183 0 0 0) 0 y9 ∧ (gset g q183 0 0 0) 0 y9 < (5 * (20 - dp) + 2 + (sg - sg)) := by
        intro f9 y9 hf9 hy9
        rcases (show f9 = 0 ∨ f9 = 1 ∨ f9 = 2 ∨ f9 = 3 by omega) with rfl | rfl | rfl | rfl
        · rw [hf197] at hy9; cases hy9
        · rw [hf198] at hy9; cases hy9
        · rw [hf199] at hy9; cases hy9
        · rw [hf200] at hy9; cases hy9
      have hdn := NwS.done1 (q := q183) (L := (5 * (20 - dp) + 2 + (sg - sg))) (O := O) (k := at9) hns202 hq203 hf194 hg204 (by omega) (by omega) (by rw [hf195]; exact ⟨fun z => absurd z (by decide), fun z => absurd z (by decide), fun z => absurd z (by decide), fun z => absurd z (by decide), fun z => absurd z (by decide)⟩) (fun f9 z => by rw [hf195] at z; rcases z with ⟨z, _⟩ | ⟨z | z | z, _⟩ <;> exact absurd z (by decide)) hkid hf201 hno205 (fun f9 x9 _ _ => Kch.no (by rw [hf195]; decide)) how
      have hz206 : NwR K K192 g (gset (gset g q183 0 0 0) q183 (5 * (20 - dp) + 2 + (sg - sg)) O at9) q183 O at9 ((5 * (20 - dp) + 2 + (sg - sg))) := hdn
      have hz207 : at9 + 4 ≤ ((at12 + 1) + 1) ∧ ((at12 + 1) + 1) ≤ sz := (by omega)
      have hz208 : sg ≤ sg ∧ sg ≤ 60 := (by omega)
      have hO : OKP G h0 a (upd (upd (upd (upd F 2 (nI sz)) 9 (nI ((at12 + 1) + 1))) 10 (nI dp)) 11 (nI sg)) R Z (updA B 10 f170) J K192 w := hO.to rfl
      refine W.widen (k := (2 * (sz - at9) + 19)) (n := (11 * (2 * (sz - at9) + 19))) (by omega) (by omega) ?_
      have hzz1 : H.size ≤ s.heap.size + ((2 * (((at12 + 1) + 1) - at9) - 5)) := (by have z : 1 ≤ (2 * (((at12 + 1) + 1) - at9) - 5) := (by omega); omega)
      have hzz2 : hSl H ≤ hSl s.heap + ((11 * (2 * (((at12 + 1) + 1) - at9) - 5))) := (by have z : 11 ≤ (11 * (2 * (((at12 + 1) + 1) - at9) - 5)) := (by omega); omega)
      exact W.aret (v := .ref q183) hx hb hr (Or.inl ⟨_, rfl⟩) (Or.inr ⟨_, rfl⟩) (fun t99 ht99 hW99 => ⟨⟨_, (w, (q183, K192, (gset (gset g q183 0 0 0) q183 (5 * (20 - dp) + 2 + (sg - sg)) O at9), ((at12 + 1) + 1), sg, f170)), rfl, ⟨rfl, hz206, hz207, hz208, hO⟩, by rw [ht99]; exact hP, hD, by rw [ht99]; exact hzz1, by rw [ht99]; exact hzz2⟩, hS.F ht99⟩) hS.2.2 dX8_made_68
